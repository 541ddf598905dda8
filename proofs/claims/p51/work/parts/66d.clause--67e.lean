section
/-! clauses -/
theorem at1 {h : Hp_} (I : Iv h) (a : pa h ≤ 179) : Iv (h_im h 1 33 ((h_i h 1 33) + 1)) ∧ Fr [1033] h (h_im h 1 33 ((h_i h 1 33) + 1)) ∧ pa (h_im h 1 33 ((h_i h 1 33) + 1)) = pa h + 1 := by
  have a0 : 0 ≤ (h_i h 1 33).toInt := (pa_in I).1
  have a1 : (h_i h 1 33).toInt ≤ 179 := a
  have o1 : (1 : Int32).toInt = 1 := rfl
  have e33 : (h_i h 1 33 + 1).toInt = (h_i h 1 33).toInt + 1 := by rw [tx_add (by rw [o1]; omega) (by rw [o1]; omega), o1]
  refine ⟨i33 I ⟨by rw [e33]; show (0 : Int) ≤ _; omega, by rw [e33]; show _ ≤ (180 : Int); omega⟩, (Fr.rf _ _).im (by decide +kernel), ?_⟩
  show (h_i (h_im h 1 33 _) 1 33).toInt = _
  rw [im_at]; exact e33
def Ak (s : Nat) (h h' : Hp_) : Prop := Iv h' ∧ Fr wzp h h' ∧ pd h' = pd h ∧ (∀ k, k < sN h → h_i h' 226 k = h_i h 226 k) ∧ ps h ≤ ps h' ∧ (h_i h' 1 34 = -1 → pa h' ≤ pz h ∧ pa h + 2 ≤ pa h' ∧ ps h' ≤ ps h + 2 * (pa h' - pa h) - 1 ∧ ∃ m K : Nat, K ≤ 160 ∧ PR s (h_i h' 226) (sN h) m K ∧ h_i h' 226 m = 2 ∧ sN h' = m + 1)
theorem c_ask (s d : Nat) {h h7 : Hp_} (I : Iv h) (q : Pq h) (P : Pe s h h7) : Cv (m_X12_ask (d + 1) 0 0) [.ref 1] h7 (fun h' => Ak s h h') := by
  have ro := P.room I q
  have z1 : pz h ≤ 160 := (pz_in I).2
  have d0 : 0 ≤ pd h := (dp_in7 I).1
  have a0 : 0 ≤ pa h := (pa_in I).1
  have n0 := sN_i I
  have PP := P
  obtain ⟨p1, p2, p3, p4, p5, p6, p7, p8⟩ := PP
  obtain ⟨q1, q2, q3, q4⟩ := q
  have z7 := zf p2 (by decide +kernel)
  have no : ∀ h5 : Hp_, Iv h5 → Fr [1033, 1034] h7 h5 → pa h5 ≤ 179 → ¬ h_i h5 1 34 = -1 → Cv (m_X12_say (d + 0) 0 0) [.ref 1, .int 2] (h_im h5 1 33 ((h_i h5 1 33) + 1)) (fun h9 => Wf h9 ∧ Ak s h h9) := by
    intro h5 i5 f5 a5 w5
    obtain ⟨k1, k2, k3⟩ := at1 i5 a5
    generalize h_im h5 1 33 ((h_i h5 1 33) + 1) = h6 at k1 k2 k3 ⊢
    have g5 := f36 f5 (by decide +kernel)
    have g6 := f36 k2 (by decide +kernel)
    have e5 := f35 f5 (by decide +kernel)
    have e6 := f35 k2 (by decide +kernel)
    refine Cv.mono (c_say d k1 2 (by show ps h6 ≤ 558; omega)) (fun h9 S => ⟨S.1.1, ?_⟩)
    obtain ⟨s1, s2, s3, s4, s5⟩ := Sa.q (h := h6) (x := 2) (h' := h9) S
    have n6 := sN_i k1
    refine ⟨S.1, (p2.tr (f5.more (by decide +kernel))).tr ((k2.more (by decide +kernel)).tr (S.2.1.more (by decide +kernel))), by omega, fun k hk => ?_, by omega, fun w => ?_⟩
    · rw [S.2.2.2.2 k (by show k ≠ sN h6; omega), fr_i k2 (a := 226) (by decide +kernel), fr_i f5 (a := 226) (by decide +kernel)]
      exact p5 k hk
    · rw [s2, f34 k2 (by decide +kernel)] at w
      exact absurd w w5
  refine t_X12_ask d h7 p1.1 _ ⟨fun w => ?_, fun w => ?_⟩
  · have t := (p8 w).1
    exact no h7 p1 (Fr.rf _ _) (by omega) w
  · obtain ⟨t1, t2, t3, _⟩ := p7 w
    refine Ci.mono (c_look d p1) (fun r h5 L => ⟨L.1.1, fun er => ?_, fun _ => ?_⟩)
    · have l5 : pa h5 < pz h := by
        rcases L.fwd z7 with u | u
        · rw [er] at u; exact absurd u (by decide)
        · exact u
      have P5 := P.lk I L
      have w5 : h_i h5 1 34 = -1 := by rw [f34 L.2.1 (by decide +kernel)]; exact w
      obtain ⟨c1, c2, c3, c4, c5, c6, c7, _⟩ := P5
      obtain ⟨b1, b2, b3, K, b4, b5⟩ := c7 w5
      obtain ⟨k1, k2, k3⟩ := at1 c1 (by omega)
      generalize h_im h5 1 33 ((h_i h5 1 33) + 1) = h6 at k1 k2 k3 ⊢
      have g6 := f36 k2 (by decide +kernel)
      have e6 := f35 k2 (by decide +kernel)
      refine Cv.mono (c_say d k1 2 (by show ps h6 ≤ 558; omega)) (fun h9 S => ⟨S.1.1, ?_⟩)
      obtain ⟨s1, s2, s3, s4, s5⟩ := Sa.q (h := h6) (x := 2) (h' := h9) S
      have n5 := sN_i c1
      have n6 := sN_i k1
      have n9 := sN_i S.1
      have m6 : sN h6 = sN h5 := by omega
      have cc : ∀ k, k < sN h5 → h_i h9 226 k = h_i h5 226 k := fun k hk => by rw [S.2.2.2.2 k (by show k ≠ sN h6; omega), fr_i k2 (a := 226) (by decide +kernel)]
      refine ⟨S.1, (c2.tr (k2.more (by decide +kernel))).tr (S.2.1.more (by decide +kernel)), by omega, fun k hk => ?_, by omega, fun _ => ⟨by omega, by omega, by omega, sN h5, K, by omega, PR.same (fun k _ b => cc k b) b5, ?_, by omega⟩⟩
      · rw [cc k (by omega)]; exact c5 k hk
      · rw [← m6]; exact S.2.2.2.1
    · refine Cv.mono (c_bad d L.1) (fun h6 k => ⟨k.1.1, ?_⟩)
      obtain ⟨k1, k2, k3⟩ := k
      have e6 := f33 k2 (by decide +kernel)
      have l4 := L.2.2.2.1
      exact no h6 k1 ((L.2.1.more (by decide +kernel)).tr (k2.more (by decide +kernel))) (by omega) k3
def Ck (s : Nat) (cd : Nat → Int32) (i j : Nat) : Prop := ∃ m n, (∃ g, prun s cd g i 0 m 1) ∧ cd m = 2 ∧ (∃ g, prun s cd g (m + 1) 0 n 1) ∧ cd n = 3 ∧ j = n + 1
def Pc (s : Nat) (h h' : Hp_) : Prop := Iv h' ∧ Fr wzp h h' ∧ pd h' = pd h ∧ (∀ k, k < sN h → h_i h' 226 k = h_i h 226 k) ∧ (h_i h' 1 34 = -1 → pa h' ≤ pz h ∧ pa h < pa h' ∧ ps h ≤ ps h' ∧ ps h' ≤ ps h + 2 * (pa h' - pa h) + 4 ∧ Ck s (h_i h' 226) (sN h) (sN h'))
theorem r_sum8 (s : Nat) (hs : s = 1 ∨ s = 2) : Rd s 0 (fun d h K => Cv (m_X12_sum (d + 80 + 53) 0 0) [.ref 1] h K) := by
  intro d h I q a b
  have t := r_sum s hs d h I q a b
  dsimp only at t
  rw [show d + 133 = d + 80 + 53 by omega] at t
  exact t
/-- the rest of a clause behind its condition: ?, a sum -/
theorem cl_rest (s : Nat) (hs : s = 1 ∨ s = 2) (d : Nat) {h h7 : Hp_} (I : Iv h) (q : Pq h) (q0 : ps h ≤ 3 * pa h) (e0 : pd h = 0) (es : h_i h 1 37 = Int32.ofNat s) (P : Pe s h h7) {K : Hp_ → Prop} (up : ∀ h', Pc s h h' → K h') :
    Cv (m_X12_ask (d + 80 + 1) 0 0) [.ref 1] h7 (fun h10 => Wf h10 ∧ ((¬ (h_i h10 1 34) = (-1) → K h10) ∧ ((h_i h10 1 34) = (-1) → Cv (m_X12_sum (d + 80 + 53) 0 0) [.ref 1] h10 (fun h14 => Wf h14 ∧ (Cv (m_X12_say (d + 80 + 0) 0 0) [.ref 1, .int 3] h14 (fun h17 => Wf h17 ∧ (K h17))))))) := by
  have z1 : pz h ≤ 160 := (pz_in I).2
  have n0 := sN_i I
  have a0 : 0 ≤ pa h := (pa_in I).1
  refine Cv.mono (c_ask s (d + 80) I q P) (fun h10 A => ?_)
  obtain ⟨a1, a2, a3, a4, a6, a5⟩ := A
  refine ⟨a1.1, fun w => up _ ⟨a1, a2, a3, a4, fun y => absurd y w⟩, fun w => ?_⟩
  obtain ⟨b1, b2, b3, m, K1, b4, b5, b6, b7⟩ := a5 w
  have z10 := zf a2 (by decide +kernel)
  have s10 : h_i h10 1 37 = Int32.ofNat s := by rw [(a2.2 1 37 (by decide +kernel)).1]; exact es
  have q10 : Pq h10 := ⟨w, by omega, by omega, by omega⟩
  refine Cv.mono (r_sum8 s hs d h10 a1 q10 (by omega) s10) (fun h14 Q => ⟨Q.1.1, ?_⟩)
  refine Cv.mono (c_say (d + 80) Q.1 3 (Q.room a1 q10)) (fun h17 S => ⟨S.1.1, up _ ?_⟩)
  obtain ⟨u1, u2, u3, u4, u5⟩ := Sa.q (h := h14) (x := 3) (h' := h17) S
  obtain ⟨c1, c2, c3, c4, c5, c6, c7, c8⟩ := Q
  have n10 := sN_i a1
  have n14 := sN_i c1
  have n17 := sN_i S.1
  have m17 : sN h17 = sN h14 + 1 := by omega
  have cc : ∀ k, k < sN h14 → h_i h17 226 k = h_i h14 226 k := fun k hk => S.2.2.2.2 k (by show k ≠ sN h14; omega)
  refine ⟨S.1, (a2.tr c2).tr (S.2.1.more (by decide +kernel)), by omega, fun k hk => ?_, fun w17 => ?_⟩
  · rw [cc k (by omega), c5 k (by omega)]; exact a4 k hk
  · rw [u2] at w17
    obtain ⟨t1, t2, t3, K2, t4, t5⟩ := c7 w17
    refine ⟨by omega, by omega, by omega, by omega, m, sN h14, ?_, ?_, ?_, ?_, m17⟩
    · exact PR.ex (PR.same (fun k _ b => by rw [cc k (by omega), c5 k (by omega)]) b5) (by omega)
    · rw [cc m (by omega), c5 m (by omega)]; exact b6
    · rw [← b7]; exact PR.ex (PR.same (fun k _ b => cc k b) t5) (by omega)
    · exact S.2.2.2.1
/-- what an act lets: a letter -/
theorem cl_ans (s d : Nat) {h h3 h7 : Hp_} {r : Int32} (I : Iv h) (q0 : ps h ≤ 3 * pa h) (A : Ak s h h3) (w : h_i h3 1 34 = -1) (L : Lk h3 r h7) (l : pa h7 < pz h) {K : Hp_ → Prop} (up : ∀ h', Pc s h h' → K h') :
    Cv (m_X12_say (d + 0) 0 0) [.ref 1, .int 0] (h_im h7 1 33 ((h_i h7 1 33) + 1)) (fun h71 => Wf h71 ∧ ∀ c : Int32, Cv (m_X12_say (d + 0) 0 0) [.ref 1, .int c] h71 (fun h77 => Wf h77 ∧ (Cv (m_X12_say (d + 0) 0 0) [.ref 1, .int 3] h77 (fun h80 => Wf h80 ∧ (K h80))))) := by
  have z1 : pz h ≤ 160 := (pz_in I).2
  have n0 := sN_i I
  have a0 : 0 ≤ pa h := (pa_in I).1
  obtain ⟨a1, a2, a3, a4, a6, a5⟩ := A
  obtain ⟨b1, b2, b3, m, K1, b4, b5, b6, b7⟩ := a5 w
  have z3 := zf a2 (by decide +kernel)
  obtain ⟨k1, k2, k3⟩ := nx1 a1 L (by omega)
  have l3 := L.2.2.1
  generalize h_im h7 1 33 ((h_i h7 1 33) + 1) = h2 at k1 k2 k3 ⊢
  have g2 := f36 k2 (by decide +kernel)
  have e2 := f35 k2 (by decide +kernel)
  have Y0 : Sy h3 [] h2 := (Sy.rf a1).mv k1 (k2.more (by decide +kernel))
  refine Cv.mono (c_say d k1 0 (by show ps h2 ≤ 558; omega)) (fun h71 S => ⟨S.1.1, fun c => ?_⟩)
  obtain ⟨s1, s2, s3, s4, s5⟩ := Sa.q (h := h2) (x := 0) (h' := h71) S
  refine Cv.mono (c_say d S.1 c (by show ps h71 ≤ 558; omega)) (fun h77 T => ⟨T.1.1, ?_⟩)
  obtain ⟨t1, t2, t3, t4, t5⟩ := Sa.q (h := h71) (x := c) (h' := h77) T
  refine Cv.mono (c_say d T.1 3 (by show ps h77 ≤ 558; omega)) (fun h80 U => ⟨U.1.1, up _ ?_⟩)
  obtain ⟨u1, u2, u3, u4, u5⟩ := Sa.q (h := h77) (x := 3) (h' := h80) U
  have Y : Sy h3 [0, c, 3] h80 := ((Y0.say a1 S).say a1 T).say a1 U
  obtain ⟨y1, y2, y3, y4, y5⟩ := Y
  have y4' : ps h80 = ps h3 + 3 := y4
  have n3 := sN_i a1
  have n80 := sN_i y1
  have x0 := y5 0 0 rfl
  have x2 := y5 2 3 rfl
  refine ⟨y1, a2.tr y2, by omega, fun k hk => ?_, fun _ => ⟨by omega, by omega, by omega, by omega, m, sN h3 + 2, ?_, ?_, ?_, x2, by omega⟩⟩
  · rw [y3 k (by omega)]; exact a4 k hk
  · exact PR.ex (PR.same (fun k _ b => y3 k (by omega)) b5) (by omega)
  · rw [y3 m (by omega)]; exact b6
  · rw [← b7]; exact PR.ex (PR.num x0) (by decide)
/-- a plain sum: put behind 0 1 2 -/
theorem cl_shift (s d : Nat) {h h0 : Hp_} (I : Iv h) (q0 : ps h ≤ 3 * pa h) (P : Pe s h h0) (w : h_i h0 1 34 = -1) (x3 : Int32) (e3 : x3 = h_i h 1 36) {K : Hp_ → Prop} (up : ∀ h', Pc s h h' → K h') :
    ∀ (n : Nat) (h2 : Hp_) (x4 : Int32), x4.toInt = (sN h : Int) + n - 1 → Iv h2 → Fr [226999] h0 h2 → sN h + n ≤ sN h0 → (∀ j, j < sN h + n → h_i h2 226 j = h_i h0 226 j) → (∀ j, sN h + n ≤ j → j < sN h0 → h_i h2 226 (j + 3) = h_i h0 226 j) →
    AW (m_X12_clause (d + 58) 0 0) 0 0 179 [(0, .ref 1), (3, .int x3), (4, .int x4)] [] h2 (kV K) := by
  have z1 : pz h ≤ 160 := (pz_in I).2
  have n0 := sN_i I
  have a0 : 0 ≤ pa h := (pa_in I).1
  obtain ⟨p1, p2, p3, p4, p5, p6, p7, p8⟩ := P
  obtain ⟨t1, t2, t3, K1, t4, t5⟩ := p7 w
  have nh0 := sN_i p1
  have i3 : x3.toInt = (sN h : Int) := by rw [e3]; exact n0.symm
  have j3 : x3.toNatClampNeg = sN h := by rw [e3]
  have o1 : (1 : Int32).toInt = 1 := rfl
  have o2 : (2 : Int32).toInt = 2 := rfl
  have o3 : (3 : Int32).toInt = 3 := rfl
  have om : (-1 : Int32).toInt = -1 := rfl
  intro n
  induction n with
  | zero =>
    intro h2 x4 e4 I2 F2 l2 c1 c2
    have e1' : (x3 + 1).toInt = x3.toInt + 1 := by rw [tx_add (by rw [o1]; omega) (by rw [o1]; omega), o1]
    have e2' : (x3 + 2).toInt = x3.toInt + 2 := by rw [tx_add (by rw [o2]; omega) (by rw [o2]; omega), o2]
    have k1 : (x3 + 1).toNatClampNeg = sN h + 1 := by have := n_nat (x := x3 + 1) (by omega); omega
    have k2 : (x3 + 2).toNatClampNeg = sN h + 2 := by have := n_nat (x := x3 + 2) (by omega); omega
    refine t_X12_clause_179 d h2 I2.1 x3 x4 _ ⟨fun _ => ⟨dp_in (lo := 0) (hi := 559) ⟨by show (0 : Int) ≤ _; omega, by show _ ≤ (559 : Int); omega⟩ (by decide) (by decide), dp_in (lo := 0) (hi := 559) ⟨by show (0 : Int) ≤ _; omega, by show _ ≤ (559 : Int); omega⟩ (by decide) (by decide), dp_in (lo := 0) (hi := 559) ⟨by show (0 : Int) ≤ _; omega, by show _ ≤ (559 : Int); omega⟩ (by decide) (by decide), ?_⟩, fun z => absurd (q_lt.mpr (by omega)) z⟩
    rw [j3, k1, k2]
    have g2 : ps h2 = ps h0 := f36 F2 (by decide +kernel)
    have es : (h_i h2 1 36 + 3).toInt = ps h2 + 3 := by
      have g : (h_i h2 1 36).toInt = ps h0 := g2
      show _ = (h_i h2 1 36).toInt + 3
      rw [tx_add (by rw [o3]; omega) (by rw [o3]; omega), o3]
    have I3 : Iv (h_im (h_im (h_im (h_im h2 226 (sN h) 0) 226 (sN h + 1) 1) 226 (sN h + 2) 2) 1 36 ((h_i h2 1 36) + 3)) := i36 (i226 (i226 (i226 I2 _ _) _ _) _ _) ⟨by rw [es]; show (0 : Int) ≤ _; omega, by rw [es]; show _ ≤ (559 : Int); omega⟩
    have F3 : Fr wzp h0 (h_im (h_im (h_im (h_im h2 226 (sN h) 0) 226 (sN h + 1) 1) 226 (sN h + 2) 2) 1 36 ((h_i h2 1 36) + 3)) := ((((F2.more (by decide +kernel)).im (inw_row (by decide +kernel) _)).im (inw_row (by decide +kernel) _)).im (inw_row (by decide +kernel) _)).im (by decide +kernel)
    have s3 : ps (h_im (h_im (h_im (h_im h2 226 (sN h) 0) 226 (sN h + 1) 1) 226 (sN h + 2) 2) 1 36 ((h_i h2 1 36) + 3)) = ps h2 + 3 := by
      show (h_i (h_im _ 1 36 _) 1 36).toInt = _
      rw [im_at]; exact es
    have c3 : ∀ k, h_i (h_im (h_im (h_im (h_im h2 226 (sN h) 0) 226 (sN h + 1) 1) 226 (sN h + 2) 2) 1 36 ((h_i h2 1 36) + 3)) 226 k = if k = sN h + 2 then 2 else if k = sN h + 1 then 1 else if k = sN h then 0 else h_i h2 226 k := by
      intro k
      rw [im_ne (by decide), h_i_im, h_i_im, h_i_im]
      by_cases y2 : k = sN h + 2
      · rw [if_pos ⟨rfl, y2⟩, if_pos y2]
      · rw [if_neg (fun z => y2 z.2), if_neg y2]
        by_cases y1 : k = sN h + 1
        · rw [if_pos ⟨rfl, y1⟩, if_pos y1]
        · rw [if_neg (fun z => y1 z.2), if_neg y1]
          by_cases y0 : k = sN h
          · rw [if_pos ⟨rfl, y0⟩, if_pos y0]
          · rw [if_neg (fun z => y0 z.2), if_neg y0]
    have a3 : pa (h_im (h_im (h_im (h_im h2 226 (sN h) 0) 226 (sN h + 1) 1) 226 (sN h + 2) 2) 1 36 ((h_i h2 1 36) + 3)) = pa h0 := by
      show (h_i (h_im _ 1 36 _) 1 33).toInt = _
      rw [f_ne (by decide), im_ne (by decide), im_ne (by decide), im_ne (by decide)]
      exact f33 F2 (by decide +kernel)
    have d3 : pd (h_im (h_im (h_im (h_im h2 226 (sN h) 0) 226 (sN h + 1) 1) 226 (sN h + 2) 2) 1 36 ((h_i h2 1 36) + 3)) = pd h0 := by
      show (h_i (h_im _ 1 36 _) 1 35).toInt = _
      rw [f_ne (by decide), im_ne (by decide), im_ne (by decide), im_ne (by decide)]
      exact f35 F2 (by decide +kernel)
    generalize h_im (h_im (h_im (h_im h2 226 (sN h) 0) 226 (sN h + 1) 1) 226 (sN h + 2) 2) 1 36 ((h_i h2 1 36) + 3) = h3 at I3 F3 s3 c3 a3 d3 ⊢
    refine Cv.mono (c_say d I3 3 (by show ps h3 ≤ 558; omega)) (fun h9 S => ⟨S.1.1, up _ ?_⟩)
    obtain ⟨u1, u2, u3, u4, u5⟩ := Sa.q (h := h3) (x := 3) (h' := h9) S
    have nh3 := sN_i I3
    have nh9 := sN_i S.1
    have m3 : sN h3 = sN h0 + 3 := by omega
    have cc : ∀ k, k < sN h0 + 3 → h_i h9 226 k = if k = sN h + 2 then 2 else if k = sN h + 1 then 1 else if k = sN h then 0 else h_i h2 226 k := fun k hk => by rw [S.2.2.2.2 k (by show k ≠ sN h3; omega)]; exact c3 k
    refine ⟨S.1, (p2.tr F3).tr (S.2.1.more (by decide +kernel)), by omega, fun k hk => ?_, fun _ => ⟨by omega, by omega, by omega, by omega, sN h + 2, sN h0 + 3, ?_, ?_, ?_, ?_, by omega⟩⟩
    · rw [cc k (by omega), if_neg (by omega), if_neg (by omega), if_neg (by omega), c1 k (by omega)]
      exact p5 k hk
    · exact PR.ex (PR.num (by rw [cc _ (by omega), if_neg (by omega), if_neg (by omega), if_pos rfl])) (by decide)
    · rw [cc _ (by omega), if_pos rfl]
    · refine PR.ex (k := K1) ?_ (by omega)
      rw [show sN h + 2 + 1 = sN h + 3 by omega]
      refine PR.sh (t := 3) (fun x a b => ?_) t5
      rw [cc _ (by omega), if_neg (by omega), if_neg (by omega), if_neg (by omega)]
      exact c2 x (by omega) b
    · rw [← m3]; exact S.2.2.2.1
  | succ n ih =>
    intro h2 x4 e4 I2 F2 l2 c1 c2
    have j4 : x4.toNatClampNeg = sN h + n := by have := n_nat (x := x4) (by omega); omega
    have e3' : (x4 + 3).toInt = x4.toInt + 3 := by rw [tx_add (by rw [o3]; omega) (by rw [o3]; omega), o3]
    have k3 : (x4 + 3).toNatClampNeg = sN h + n + 3 := by have := n_nat (x := x4 + 3) (by omega); omega
    refine t_X12_clause_179 d h2 I2.1 x3 x4 _ ⟨fun z => absurd (q_lt.mp z) (by omega), fun _ => ⟨dp_in (lo := 0) (hi := 559) ⟨by show (0 : Int) ≤ _; omega, by show _ ≤ (559 : Int); omega⟩ (by decide) (by decide), dp_in (lo := 0) (hi := 559) ⟨by show (0 : Int) ≤ _; omega, by show _ ≤ (559 : Int); omega⟩ (by decide) (by decide), ?_⟩⟩
    rw [j4, k3]
    have em : (x4 + (-1)).toInt = x4.toInt - 1 := by rw [tx_add (by rw [om]; omega) (by rw [om]; omega), om]; omega
    generalize x4 + (-1) = y at em ⊢
    refine ih _ y (by omega) (i226 I2 _ _) (F2.im (inw_row (by decide +kernel) _)) (by omega) (fun j hj => ?_) (fun j a b => ?_)
    · rw [h_i_im, if_neg (fun u => by have := u.2; omega)]; exact c1 j (by omega)
    · rw [h_i_im]
      by_cases y0 : j = sN h + n
      · rw [if_pos ⟨rfl, by omega⟩, y0]; exact c1 _ (by omega)
      · rw [if_neg (fun u => by have := u.2; omega)]; exact c2 j (by omega) b
theorem Pe.wr {s : Nat} {h h' : Hp_} (P : Pe s h h') (w : ¬ h_i h' 1 34 = -1) : Pc s h h' := ⟨P.1, P.2.1, P.2.2.1, P.2.2.2.2.1, fun y => absurd y w⟩
theorem c_clause (s : Nat) (hs : s = 1 ∨ s = 2) (d : Nat) {h : Hp_} (I : Iv h) (q : Pq h) (q0 : ps h ≤ 3 * pa h) (e0 : pd h = 0) (es : h_i h 1 37 = Int32.ofNat s) : Cv (m_X12_clause (d + 80 + 58) 0 0) [.ref 1] h (fun h' => Pc s h h') := by
  have z1 : pz h ≤ 160 := (pz_in I).2
  refine t_X12_clause (d + 80) h I.1 _ (Ci.mono (c_look (d + 80) I) (fun r h1 L => ?_))
  have l3 := L.2.2.1
  have l4 := L.2.2.2.1
  have zz := zf L.2.1 (by decide +kernel)
  have g1 := f36 L.2.1 (by decide +kernel)
  have d1 := f35 L.2.1 (by decide +kernel)
  have n0 := sN_i I
  have n1 := sN_i L.1
  have m1 : sN h1 = sN h := by omega
  have s1 : h_i h1 1 37 = Int32.ofNat s := by rw [(L.2.1.2 1 37 (by decide +kernel)).1]; exact es
  have q1 : Pq h1 := ⟨by rw [f34 L.2.1 (by decide +kernel)]; exact q.1, by have := q.2.1; omega, by omega, by omega⟩
  have q01 : ps h1 ≤ 3 * pa h1 := by omega
  have up : ∀ h', Pc s h1 h' → Pc s h h' := by
    intro h' P
    obtain ⟨p1, p2, p3, p4, p5⟩ := P
    refine ⟨p1, (L.2.1.more (by decide +kernel)).tr p2, by omega, fun k hk => ?_, fun w => ?_⟩
    · rw [p4 k (by omega)]; exact fr_i L.2.1 (by decide +kernel) k
    · obtain ⟨t1, t2, t3, t4, t5⟩ := p5 w
      exact ⟨by omega, by omega, by omega, by omega, by rw [← m1]; exact t5⟩
  have cond : Cv (m_X12_condition (d + 80 + 57) 0 0) [.ref 1, .int 0] h1 (fun h7 => Pe s h1 h7) := c_cond0 s 80 0 (r_unit s hs) d h1 L.1 q1 (by omega) s1
  refine ⟨L.1.1, fun _ => ⟨fun _ => ?_, fun _ => ⟨fun _ => ?_, fun _ => ?_⟩⟩, fun _ => ?_⟩
  · exact Cv.mono cond (fun h7 P => ⟨P.1.1, cl_rest s hs d L.1 q1 q01 (by omega) s1 P up⟩)
  · exact Cv.mono cond (fun h7 P => ⟨P.1.1, cl_rest s hs d L.1 q1 q01 (by omega) s1 P up⟩)
  · refine Cv.mono (r_sum8 s hs d h1 L.1 q1 (by omega) s1) (fun h6 P => ⟨P.1.1, fun w => ?_, fun w => up _ (P.wr w)⟩)
    refine Ci.mono (c_look (d + 80) P.1) (fun r2 h4 L4 => ⟨L4.1.1, ?_⟩)
    have P4 := P.lk L.1 L4
    have w4 : h_i h4 1 34 = -1 := by rw [f34 L4.2.1 (by decide +kernel)]; exact w
    refine Ci.mono (c_isSign (d + 80) h4 r2) (fun r5 h5 k => ?_)
    obtain ⟨e5, _⟩ := k
    subst e5
    refine ⟨L4.1.1, fun _ => ?_, fun _ => ?_⟩
    · exact Cv.mono (c_cond1 s 80 0 (r_unit s hs) (r_sum8 s hs) d L.1 q1 (by omega) s1 P4) (fun h7 P7 => ⟨P7.1.1, cl_rest s hs d L.1 q1 q01 (by omega) s1 P7 up⟩)
    · have n5 := sN_i P4.1
      have o1 : (1 : Int32).toInt = 1 := rfl
      have a0 : 0 ≤ pa h1 := (pa_in L.1).1
      obtain ⟨t1, t2, t3, _⟩ := P4.2.2.2.2.2.2.1 w4
      have p6 := P4.2.2.2.2.2.1
      have t3' : (h_i h5 1 36).toInt ≤ ps h1 + 2 * (pa h5 - pa h1) := t3
      have p6' : ps h1 ≤ (h_i h5 1 36).toInt := p6
      have n1' : 0 ≤ ps h1 := (ps_in L.1).1
      have ex : (h_i h5 1 36 - 1).toInt = (h_i h5 1 36).toInt - 1 := by rw [tx_sub (by rw [o1]; omega) (by rw [o1]; omega), o1]
      have ex' : (h_i h5 1 36 - 1).toInt = ps h5 - 1 := ex
      refine cl_shift s (d + 80) L.1 q01 P4 w4 _ rfl up (sN h5 - sN h1) h5 _ (by omega) P4.1 (Fr.rf _ _) (by omega) (fun _ _ => rfl) (fun j a b => absurd a (by omega))
  · refine Cv.mono cond (fun h7 P => ⟨P.1.1, ?_⟩)
    refine Cv.mono (c_ask s (d + 80) L.1 q1 P) (fun h3 A => ⟨A.1.1, fun w => ?_, fun w => ?_⟩)
    · refine Ci.mono (c_look (d + 80) A.1) (fun r2 h4 L4 => ?_)
      have z3 := zf A.2.1 (by decide +kernel)
      have fw : ∀ c : Int32, r2 = c → ¬ c = -1 → pa h4 < pz h1 := fun c ec nc => by
        rcases L4.fwd z3 with u | u
        · exact absurd (ec.symm.trans u) nc
        · exact u
      have go : pa h4 < pz h1 → Cv (m_X12_say (d + 80 + 0) 0 0) [.ref 1, .int 0] (h_im h4 1 33 ((h_i h4 1 33) + 1)) (fun h71 => Wf h71 ∧ ∀ c : Int32, Cv (m_X12_say (d + 80 + 0) 0 0) [.ref 1, .int c] h71 (fun h77 => Wf h77 ∧ (Cv (m_X12_say (d + 80 + 0) 0 0) [.ref 1, .int 3] h77 (fun h80 => Wf h80 ∧ (Pc s h h80))))) := fun l => cl_ans s (d + 80) L.1 q01 A w L4 l up
      have four : pa h4 < pz h1 → Cv (m_X12_say (d + 80 + 0) 0 0) [.ref 1, .int 0] (h_im h4 1 33 ((h_i h4 1 33) + 1)) (fun h71 => Wf h71 ∧ ((¬ r2 = 120 → (¬ r2 = 110 → (¬ r2 = 114 → Cv (m_X12_say (d + 80 + 0) 0 0) [.ref 1, .int 3] h71 (fun h77 => Wf h77 ∧ (Cv (m_X12_say (d + 80 + 0) 0 0) [.ref 1, .int 3] h77 (fun h80 => Wf h80 ∧ (Pc s h h80))))) ∧ (r2 = 114 → Cv (m_X12_say (d + 80 + 0) 0 0) [.ref 1, .int 2] h71 (fun h77 => Wf h77 ∧ (Cv (m_X12_say (d + 80 + 0) 0 0) [.ref 1, .int 3] h77 (fun h80 => Wf h80 ∧ (Pc s h h80)))))) ∧ (r2 = 110 → Cv (m_X12_say (d + 80 + 0) 0 0) [.ref 1, .int 1] h71 (fun h77 => Wf h77 ∧ (Cv (m_X12_say (d + 80 + 0) 0 0) [.ref 1, .int 3] h77 (fun h80 => Wf h80 ∧ (Pc s h h80)))))) ∧ (r2 = 120 → Cv (m_X12_say (d + 80 + 0) 0 0) [.ref 1, .int 0] h71 (fun h77 => Wf h77 ∧ (Cv (m_X12_say (d + 80 + 0) 0 0) [.ref 1, .int 3] h77 (fun h80 => Wf h80 ∧ (Pc s h h80))))))) := fun l => Cv.mono (go l) (fun h71 k => ⟨k.1, fun _ => ⟨fun _ => ⟨fun _ => k.2 3, fun _ => k.2 2⟩, fun _ => k.2 1⟩, fun _ => k.2 0⟩)
      refine ⟨L4.1.1, fun e => four (fw _ e (by decide)), fun _ => ⟨fun e => four (fw _ e (by decide)), fun _ => ⟨fun e => four (fw _ e (by decide)), fun _ => ⟨fun e => four (fw _ e (by decide)), fun _ => Cv.mono (c_bad (d + 80) L4.1) (fun h9 b => ⟨b.1.1, up _ ⟨b.1, (A.2.1.tr (L4.2.1.more (by decide +kernel))).tr (b.2.1.more (by decide +kernel)), ?_, ?_, fun y => absurd y b.2.2⟩⟩)⟩⟩⟩⟩
      · have b5 := f35 b.2.1 (by decide +kernel)
        have l5 := f35 L4.2.1 (by decide +kernel)
        have a5 := A.2.2.1
        omega
      · intro k hk
        rw [fr_i b.2.1 (a := 226) (by decide +kernel), fr_i L4.2.1 (a := 226) (by decide +kernel)]
        exact A.2.2.2.1 k hk
    · exact up _ ⟨A.1, A.2.1, A.2.2.1, A.2.2.2.1, fun y => absurd y w⟩
end
section
/-! fault of the reference -/
theorem pcl_sh {s : Nat} {cd cd' : Nat → Int32} {t : Nat} : ∀ {f i e : Nat}, (∀ x, i ≤ x → x < e → cd' (x + t) = cd x) → pcl s cd f i e → pcl s cd' f (i + t) (e + t)
  | 0, i, e, _, h => by
    have h : i = e := h
    subst h
    exact rfl
  | f + 1, i, e, c, h => by
    obtain ⟨j, k, ⟨g1, a⟩, b, ⟨g2, a'⟩, b', r⟩ := h
    have l1 := prun_le a
    have l2 := prun_le a'
    have l3 := pcl_le r
    refine ⟨j + t, k + t, ⟨g1, prun_sh (fun x u v => c x (by omega) (by omega)) a⟩, by rw [c j (by omega) (by omega)]; exact b, ⟨g2, ?_⟩, by rw [c k (by omega) (by omega)]; exact b', ?_⟩
    · rw [Nat.add_right_comm j t 1]
      exact prun_sh (fun x u v => c x (by omega) (by omega)) a'
    · rw [Nat.add_right_comm k t 1]
      exact pcl_sh (fun x u v => c x (by omega) v) r
theorem pcl_same {s : Nat} {cd cd' : Nat → Int32} {f i e : Nat} (c : ∀ x, i ≤ x → x < e → cd' x = cd x) (h : pcl s cd f i e) : pcl s cd' f i e := pcl_sh (t := 0) c h
theorem pcl_snoc {s : Nat} {cd : Nat → Int32} : ∀ {f i e e' : Nat}, pcl s cd f i e → Ck s cd e e' → pcl s cd (f + 1) i e'
  | 0, i, e, e', h, c => by
    have h : i = e := h
    subst h
    obtain ⟨m, n, a, b, c, d, x⟩ := c
    exact ⟨m, n, a, b, c, d, x.symm⟩
  | f + 1, i, e, e', h, c => by
    obtain ⟨j, k, a, b, a', b', r⟩ := h
    exact ⟨j, k, a, b, a', b', pcl_snoc r c⟩
def wzf : List Nat := [1033, 1034, 1035, 1036, 1037, 226999]
def Fa (x1 : Int32) (h : Hp_) (r : Int32) (h' : Hp_) : Prop := Iv h' ∧ Fr wzf h h' ∧ (r = -1 → (x1 = 0 → Qs 4 (h_i h' 226) 0 (sN h')) ∧ ∀ s : Nat, (s = 1 ∨ s = 2) → x1 = Int32.ofNat s → ∃ f, pcl s (h_i h' 226) f 0 (sN h'))
/-- between clauses -/
def Fl (s : Nat) (h0 h : Hp_) : Prop := Iv h ∧ Fr wzp h0 h ∧ pd h = 0 ∧ (h_i h 1 34 = -1 → pa h ≤ pz h0 ∧ ps h ≤ 3 * pa h + 3 ∧ ∃ f, pcl s (h_i h 226) f 0 (sN h))
theorem Fl.lk {s : Nat} {h0 h h1 : Hp_} {r : Int32} (G : Fl s h0 h) (L : Lk h r h1) : Fl s h0 h1 := by
  obtain ⟨g1, g2, g3, g4⟩ := G
  have l3 := L.2.2.1
  have l4 := L.2.2.2.1
  have e5 := f35 L.2.1 (by decide +kernel)
  have e6 := f36 L.2.1 (by decide +kernel)
  have zz := zf g2 (by decide +kernel)
  have n0 := sN_i g1
  have n1 := sN_i L.1
  refine ⟨L.1, g2.tr (L.2.1.more (by decide +kernel)), by omega, fun w => ?_⟩
  rw [f34 L.2.1 (by decide +kernel)] at w
  obtain ⟨t1, t2, f, t3⟩ := g4 w
  refine ⟨by omega, by omega, f, ?_⟩
  rw [show h_i h1 226 = h_i h 226 from funext (fun k => fr_i L.2.1 (by decide +kernel) k), show sN h1 = sN h by omega]
  exact t3
theorem fl_loop (s : Nat) (hs : s = 1 ∨ s = 2) (d : Nat) {h h0 : Hp_} (x1 : Int32) (e1 : x1 = Int32.ofNat s) (I0 : Iv h0) (F0 : Fr wzf h h0) (es : h_i h0 1 37 = Int32.ofNat s) :
    ∀ (n : Nat) (h2 : Hp_), Fl s h0 h2 → pz h0 - pa h2 ≤ n → AW (m_X12_fault (d + 80 + 59) 0 0) 0 0 52 [(0, .ref 1)] [] h2 (kI (fun r h' => Fa x1 h r h')) := by
  have z1 : pz h0 ≤ 160 := (pz_in I0).2
  have dn : ∀ h', Fl s h0 h' → Fa x1 h (h_i h' 1 34) h' := by
    intro h' G
    refine ⟨G.1, F0.tr (G.2.1.more (by decide +kernel)), fun w => ⟨fun e => ?_, fun t ht et => ?_⟩⟩
    · rw [e1] at e
      rcases hs with u | u <;> subst u <;> exact absurd e (by decide)
    · have tt : t = s := by
        rw [e1] at et
        rcases hs with u | u <;> subst u <;> rcases ht with v | v <;> subst v <;> first | rfl | exact absurd et (by decide)
      subst tt
      exact (G.2.2.2 w).2.2
  have bd : ∀ h1, Fl s h0 h1 → h_i h1 1 34 = -1 → Cv (m_X12_bad (d + 80 + 0) 0 0) [.ref 1] h1 (fun h9 => Wf h9 ∧ Fa x1 h (h_i h9 1 34) h9) := by
    intro h1 G w
    refine Cv.mono (c_bad (d + 80) G.1) (fun h9 b => ⟨b.1.1, b.1, F0.tr ((G.2.1.tr (b.2.1.more (by decide +kernel))).more (by decide +kernel)), fun y => absurd y b.2.2⟩)
  have ends : ∀ h1, Fl s h0 h1 → h_i h1 1 34 = -1 → Ci (m_X12_look (d + 80 + 0) 0 0) [.ref 1] h1 (fun r h5 => Wf h5 ∧ ((r = (-1) → Fa x1 h (h_i h5 1 34) h5) ∧ (¬ r = (-1) → Cv (m_X12_bad (d + 80 + 0) 0 0) [.ref 1] h5 (fun h9 => Wf h9 ∧ (Fa x1 h (h_i h9 1 34) h9))))) := by
    intro h1 G w
    refine Ci.mono (c_look (d + 80) G.1) (fun r h5 L => ⟨L.1.1, fun _ => dn _ (G.lk L), fun _ => bd _ (G.lk L) (by rw [f34 L.2.1 (by decide +kernel)]; exact w)⟩)
  intro n
  induction n with
  | zero =>
    intro h2 G m
    have zz := zf G.2.1 (by decide +kernel)
    refine t_X12_fault_52 (d + 80) h2 G.1.1 _ ⟨fun w => ⟨fun _ => dn _ G, fun y => absurd y w⟩, fun w => Ci.mono (c_look (d + 80) G.1) (fun r h5 L => ⟨L.1.1, fun _ => ⟨fun y => absurd (by rw [f34 L.2.1 (by decide +kernel)]; exact w) y, fun w5 => ends _ (G.lk L) w5⟩, fun er => ?_⟩)⟩
    have l3 := L.2.2.1
    rcases L.fwd zz with u | u
    · rw [er] at u; exact absurd u (by decide)
    · omega
  | succ n ih =>
    intro h2 G m
    have zz := zf G.2.1 (by decide +kernel)
    refine t_X12_fault_52 (d + 80) h2 G.1.1 _ ⟨fun w => ⟨fun _ => dn _ G, fun y => absurd y w⟩, fun w => Ci.mono (c_look (d + 80) G.1) (fun r h5 L => ⟨L.1.1, fun _ => ⟨fun y => absurd (by rw [f34 L.2.1 (by decide +kernel)]; exact w) y, fun w5 => ends _ (G.lk L) w5⟩, fun er => ?_⟩)⟩
    have G5 := G.lk L
    have w5 : h_i h5 1 34 = -1 := by rw [f34 L.2.1 (by decide +kernel)]; exact w
    have l3 := L.2.2.1
    have l5 : pa h5 < pz h0 := by
      rcases L.fwd zz with u | u
      · rw [er] at u; exact absurd u (by decide)
      · exact u
    obtain ⟨t1, t2, f, t3⟩ := G5.2.2.2 w5
    obtain ⟨k1, k2, k3⟩ := at1 L.1 (by omega)
    generalize h_im h5 1 33 ((h_i h5 1 33) + 1) = h6 at k1 k2 k3 ⊢
    have e5 := f35 k2 (by decide +kernel)
    have e6 := f36 k2 (by decide +kernel)
    have z6 := zf k2 (by decide +kernel)
    have z5 := zf G5.2.1 (by decide +kernel)
    have g3 := G5.2.2.1
    have n5 := sN_i G5.1
    have n6 := sN_i k1
    have m6 : sN h6 = sN h5 := by omega
    have F6 : Fr wzp h0 h6 := G5.2.1.tr (k2.more (by decide +kernel))
    refine Cv.mono (c_clause s hs d k1 ⟨by rw [f34 k2 (by decide +kernel)]; exact w5, by omega, by omega, by omega⟩ (by omega) (by omega) (by rw [(F6.2 1 37 (by decide +kernel)).1]; exact es)) (fun h9 P => ?_)
    obtain ⟨p1, p2, p3, p4, p5⟩ := P
    have c9 : ∀ k, k < sN h5 → h_i h9 226 k = h_i h5 226 k := fun k hk => by rw [p4 k (by omega)]; exact fr_i k2 (by decide +kernel) k
    refine ⟨p1.1, ?_⟩
    by_cases w9 : h_i h9 1 34 = -1
    · obtain ⟨u1, u2, u3, u4, u5⟩ := p5 w9
      refine ih h9 ⟨p1, F6.tr p2, by omega, fun _ => ⟨by omega, by omega, f + 1, ?_⟩⟩ (by omega)
      refine pcl_snoc (pcl_same (fun x _ b => c9 x b) t3) ?_
      rw [← m6]; exact u5
    · refine t_X12_fault_52 (d + 80) h9 p1.1 _ ⟨fun w => ⟨fun _ => ?_, fun y => absurd y w⟩, fun w => absurd w w9⟩
      exact dn _ ⟨p1, F6.tr p2, by omega, fun y => absurd y w9⟩
theorem c_fault (d : Nat) {h : Hp_} (I : Iv h) (x1 : Int32) : Ci (m_X12_fault (d + 80 + 59) 0 0) [.ref 1, .int x1] h (fun r h' => Fa x1 h r h') := by
  have z0 : 0 ≤ pz h := (pz_in I).1
  have z1 : pz h ≤ 160 := (pz_in I).2
  have b0 : rin (0 : Int32).toInt (0, 180) := ⟨by decide, by decide⟩
  have I0 : Iv (h_im (h_im (h_im (h_im (h_im h 1 37 x1) 1 33 0) 1 34 (-1)) 1 35 0) 1 36 0) := i36 (i35 (i34 (i33 (I.im (by rw [show tf 1 37 = rtop by decide +kernel]; exact rtop_in _) (by decide)) b0) _) ⟨by decide, by decide⟩) ⟨by decide, by decide⟩
  have F0 : Fr wzf h (h_im (h_im (h_im (h_im (h_im h 1 37 x1) 1 33 0) 1 34 (-1)) 1 35 0) 1 36 0) := (((((Fr.rf _ _).im (by decide +kernel)).im (by decide +kernel)).im (by decide +kernel)).im (by decide +kernel)).im (by decide +kernel)
  have e36 : h_i (h_im (h_im (h_im (h_im (h_im h 1 37 x1) 1 33 0) 1 34 (-1)) 1 35 0) 1 36 0) 1 36 = 0 := im_at
  have e35 : h_i (h_im (h_im (h_im (h_im (h_im h 1 37 x1) 1 33 0) 1 34 (-1)) 1 35 0) 1 36 0) 1 35 = 0 := by rw [f_ne (by decide), im_at]
  have e34 : h_i (h_im (h_im (h_im (h_im (h_im h 1 37 x1) 1 33 0) 1 34 (-1)) 1 35 0) 1 36 0) 1 34 = -1 := by rw [f_ne (by decide), f_ne (by decide), im_at]
  have e33 : h_i (h_im (h_im (h_im (h_im (h_im h 1 37 x1) 1 33 0) 1 34 (-1)) 1 35 0) 1 36 0) 1 33 = 0 := by rw [f_ne (by decide), f_ne (by decide), f_ne (by decide), im_at]
  have e37 : h_i (h_im (h_im (h_im (h_im (h_im h 1 37 x1) 1 33 0) 1 34 (-1)) 1 35 0) 1 36 0) 1 37 = x1 := by rw [f_ne (by decide), f_ne (by decide), f_ne (by decide), f_ne (by decide), im_at]
  refine t_X12_fault (d + 80) h I.1 x1 _ ⟨fun b => ?_, fun _ => ⟨I, Fr.rf _ _, fun y => absurd y (by decide)⟩⟩
  generalize h_im (h_im (h_im (h_im (h_im h 1 37 x1) 1 33 0) 1 34 (-1)) 1 35 0) 1 36 0 = h0 at I0 F0 e36 e35 e34 e33 e37 ⊢
  have zz := zf F0 (by decide +kernel)
  have a0 : pa h0 = 0 := by show (h_i h0 1 33).toInt = 0; rw [e33]; rfl
  have d0 : pd h0 = 0 := by show (h_i h0 1 35).toInt = 0; rw [e35]; rfl
  have s0 : ps h0 = 0 := by show (h_i h0 1 36).toInt = 0; rw [e36]; rfl
  have n0 := sN_i I0
  have nz : sN h0 = 0 := by omega
  refine ⟨fun n1 => ?_, fun e1 => ?_⟩
  · obtain ⟨s, hs, ex⟩ : ∃ s : Nat, (s = 1 ∨ s = 2) ∧ x1 = Int32.ofNat s := by
      have b1 : (0 : Int32).toInt ≤ x1.toInt := q_le.mp b.1
      have b2 : x1.toInt ≤ (2 : Int32).toInt := q_le.mp b.2
      have o0 : (0 : Int32).toInt = 0 := rfl
      have o1 : (1 : Int32).toInt = 1 := rfl
      have o2 : (2 : Int32).toInt = 2 := rfl
      have nn : ¬ x1.toInt = 0 := fun z => n1 (Int32.toInt_inj.mp (by rw [z, o0]))
      rcases Int.lt_or_le x1.toInt 2 with u | u
      · exact ⟨1, Or.inl rfl, Int32.toInt_inj.mp (by show _ = (1 : Int32).toInt; omega)⟩
      · exact ⟨2, Or.inr rfl, Int32.toInt_inj.mp (by show _ = (2 : Int32).toInt; omega)⟩
    refine Cv.mono (c_clause s hs d I0 ⟨e34, by omega, by omega, by omega⟩ (by omega) d0 (by rw [e37]; exact ex)) (fun h5 P => ?_)
    obtain ⟨p1, p2, p3, p4, p5⟩ := P
    have a5 : 0 ≤ pa h5 := (pa_in p1).1
    refine ⟨p1.1, fl_loop s hs d x1 ex I0 F0 (by rw [e37]; exact ex) 160 h5 ⟨p1, p2, by omega, fun w => ?_⟩ (by omega)⟩
    obtain ⟨u1, u2, u3, u4, u5⟩ := p5 w
    refine ⟨by omega, by omega, 1, ?_⟩
    rw [nz] at u5
    exact pcl_snoc (f := 0) (e := 0) rfl u5
  · refine Cv.mono (r_steps (d := d) I0 ⟨e34, by omega, by omega, by omega⟩ d0) (fun h8 P => ⟨P.1.1, fun w => ?_, fun w => ?_⟩)
    · exact ⟨P.1, F0.tr (P.2.1.more (by decide +kernel)), fun y => absurd y w⟩
    · obtain ⟨u1, u2, u3, u4⟩ := P.2.2.2.2.2.2.1 w
      rw [nz] at u4
      refine Ci.mono (c_look (d + 80) P.1) (fun r h5 L => ⟨L.1.1, fun _ => ?_, fun _ => ?_⟩)
      · have e6 := f36 L.2.1 (by decide +kernel)
        have n5 := sN_i L.1
        have n8 := sN_i P.1
        refine ⟨L.1, F0.tr ((P.2.1.tr (L.2.1.more (by decide +kernel))).more (by decide +kernel)), fun _ => ⟨fun _ => ?_, fun s hs ex => ?_⟩⟩
        · rw [show h_i h5 226 = h_i h8 226 from funext (fun k => fr_i L.2.1 (by decide +kernel) k), show sN h5 = sN h8 by omega]
          exact u4
        · rw [e1] at ex
          rcases hs with u | u <;> subst u <;> exact absurd ex (by decide)
      · refine Cv.mono (c_bad (d + 80) L.1) (fun h9 b => ⟨b.1.1, b.1, F0.tr (((P.2.1.tr (L.2.1.more (by decide +kernel))).tr (b.2.1.more (by decide +kernel))).more (by decide +kernel)), fun y => absurd y b.2.2⟩)
end
section
/-! texts of the reference kept -/
theorem Iv_codes {h h2 : Hp_} {t : Nat} {z : Int32} (I : Iv h) (he : ∀ a j, a ≠ 231 → h_i h2 a j = h_i h a j) (hs : h_sh h2 = h_sh h) (hr : h_r h2 = h_r h) (ht : t < 40) (hz : rin z.toInt (0, 560)) (out : ∀ j, (j < 560 * t ∨ 560 * t + 560 ≤ j) → h_i h2 231 j = h_i h 231 j) (pc : ∃ f, pcl (t / 20 + 1) (h_i h2 231) f (560 * t) (560 * t + z.toNatClampNeg)) : Iv (h_im h2 232 t z) := by
  obtain ⟨j1, j2, j3, j4⟩ := I.2.2.2.2.2
  refine ⟨⟨fun q hq => ?_, fun q hq => ?_⟩, fun a k => ?_, fun k => ?_, ?_, ?_, fun k hk => ?_, fun j hj hm => ?_, fun c N a b => ?_, fun t' ht' => ?_⟩
  · show h_sh h2 q.1 = _
    rw [hs]; exact I.1.1 q hq
  · show h_r h2 q.1 q.2.1 = _
    rw [hr]; exact I.1.2 q hq
  · rw [h_i_im]
    split
    · rename_i e
      rw [e.1, tfa_tf (show tfa 232 = some (0, 560) by decide +kernel)]; exact hz
    · by_cases n : a = 231
      · rw [n, tfa_tf (show tfa 231 = some rtop by decide +kernel)]; exact rtop_in _
      · rw [he a k n]; exact I.2.1 a k
  · show h_r h2 15 k = none ∨ ∃ c, h_r h2 15 k = some c ∧ (401 ≤ c ∧ c ≤ 412 ∧ h_sh h2 c = some (12, 17))
    rw [hr, hs]; exact I.2.2.1 k
  · show ∃ i, i < 4 ∧ h_r h2 11 4 = some (1000 + i)
    rw [hr]; exact I.2.2.2.1
  · obtain ⟨c, N, a, b, l, m⟩ := I.2.2.2.2.1
    exact ⟨c, N, by show h_r h2 0 15 = _; rw [hr]; exact a, by show h_sh h2 c = _; rw [hs]; exact b, l, by rw [im_ne (by decide), he 0 0 (by decide)]; exact m⟩
  · rw [im_ne (by decide), he 228 k (by decide)] at hk
    rw [im_ne (by decide), he 229 k (by decide)]
    exact j1 k hk
  · rw [im_ne (by decide), he 0 7 (by decide)] at hm
    show h_sh h2 _ = _
    rw [hs]; exact j2 j hj hm
  · have a : h_r h2 0 15 = some c := a
    have b : h_sh h2 c = some (3, N) := b
    rw [hr] at a
    rw [hs] at b
    show Gr (h_sh h2) N
    rw [hs]; exact j3 c N a b
  · rw [show h_i (h_im h2 232 t z) 231 = h_i h2 231 from funext (fun k => im_ne (by decide)), h_i_im]
    by_cases y : t' = t
    · subst y
      rw [if_pos ⟨rfl, rfl⟩]; exact pc
    · rw [if_neg (fun u => y u.2), he 232 t' (by decide)]
      obtain ⟨f, p⟩ := j4 t' ht'
      have sz := dp_rg I 232 t' (show tfa 232 = some (0, 560) by decide +kernel)
      have nz := n_nat sz.1
      have s1 : (h_i h 232 t').toInt ≤ 560 := sz.2
      exact ⟨f, pcl_same (fun x a b => out x (by omega)) p⟩
def wzt : List Nat := [1032, 1033, 1034, 1035, 1036, 1037, 226999, 231999, 232999, 233999, 234999, 235999]
theorem i32 {h : Hp_} (I : Iv h) {x : Int32} (b : rin x.toInt (0, 160)) : Iv (h_im h 1 32 x) := I.im (by rw [show tf 1 32 = (0, 160) by decide +kernel]; exact b) (by decide)
theorem i235 {h : Hp_} (I : Iv h) (k : Nat) {x : Int32} (b : rin x.toInt (0, 20)) : Iv (h_im h 235 k x) := I.im (by rw [tfa_tf (show tfa 235 = some (0, 20) by decide +kernel)]; exact b) (jw_jr (by decide) (by decide) _)
theorem tx_loop (d s m : Nat) (hs : s < 2) (lm : m < 20) {h h6 : Hp_} (x2 x3 : Int32) (I6 : Iv h6) (hm : h_i h6 235 s = Int32.ofNat m) (e3 : x3.toInt = ((20 * s + m : Nat) : Int)) (pc : ∃ f, pcl (s + 1) (h_i h6 226) f 0 (sN h6)) :
    ∀ (n k : Nat) (h2 : Hp_), k + n = sN h6 → (∀ a j, a ≠ 231 → h_i h2 a j = h_i h6 a j) → h_sh h2 = h_sh h6 → h_r h2 = h_r h6 → Fr wzt h h2 → (∀ j, j < k → h_i h2 231 (560 * (20 * s + m) + j) = h_i h6 226 j) → (∀ j, (j < 560 * (20 * s + m) ∨ 560 * (20 * s + m) + 560 ≤ j) → h_i h2 231 j = h_i h6 231 j) →
    AW (m_X12_text (d + 60) 0 0) 0 0 49 [(0, .ref 1), (1, .int (Int32.ofNat s)), (2, .int x2), (3, .int x3), (4, .int (Int32.ofNat k))] [] h2 (kI (fun _ h' => Iv h' ∧ Fr wzt h h')) := by
  have n6 := sN_i I6
  have p6 : ps h6 ≤ 559 := (ps_in I6).2
  have n3 := n_nat (x := x3) (by omega)
  have k3 : x3.toNatClampNeg = 20 * s + m := by omega
  have v3 : vp_in x3 40 := dp_in (lo := 0) (hi := 39) ⟨by show (0 : Int) ≤ _; omega, by show _ ≤ (39 : Int); omega⟩ (by decide) (by decide)
  have v1 : vp_in (Int32.ofNat s) 2 := on_in hs (by decide)
  have k1 : (Int32.ofNat s).toNatClampNeg = s := on_k (by omega)
  have t560 : (560 : Int32).toInt = 560 := rfl
  intro n
  induction n with
  | zero =>
    intro k h2 e he hsh hr F c1 c2
    have ek : (Int32.ofNat k).toInt = (k : Int) := on_j (by omega)
    have es : h_i h2 1 36 = h_i h6 1 36 := he 1 36 (by decide)
    have w2 : Wf h2 := ⟨fun q hq => by rw [hsh]; exact I6.1.1 q hq, fun q hq => by rw [hr]; exact I6.1.2 q hq⟩
    refine t_X12_text_49 d h2 w2 _ x2 x3 _ _ ⟨fun _ => ⟨v3, v3, v3, v1, v1, v1, ?_⟩, fun z => ?_⟩
    · rw [k3, k1, es, he 235 s (by decide), hm]
      have kk : k = sN h6 := by omega
      have I3 : Iv (h_im h2 232 (20 * s + m) (h_i h6 1 36)) := by
        refine Iv_codes I6 he hsh hr (by omega) ⟨by show (0 : Int) ≤ ps h6; omega, by show ps h6 ≤ (560 : Int); omega⟩ c2 ?_
        obtain ⟨f, p⟩ := pc
        have p2 := pcl_sh (t := 560 * (20 * s + m)) (cd' := h_i h2 231) (fun x _ b => by rw [Nat.add_comm]; exact c1 x (by omega)) p
        rw [Nat.zero_add, Nat.add_comm (sN h6)] at p2
        rw [show (20 * s + m) / 20 + 1 = s + 1 by omega]
        exact ⟨f, p2⟩
      have e20 : (Int32.ofNat m + 1).toInt = ((m + 1 : Nat) : Int) := by rw [on_s (by omega)]; exact on_j (by omega)
      refine ⟨i32 (i235 (i2xx 234 (by decide +kernel) (by decide) (by decide) (i2xx 233 (by decide +kernel) (by decide) (by decide) I3 _ _) _ _) _ ⟨by rw [e20]; show (0 : Int) ≤ _; omega, by rw [e20]; show _ ≤ (20 : Int); omega⟩) ⟨by decide, by decide⟩, ?_⟩
      exact ((((F.im (inw_row (by decide +kernel) _)).im (inw_row (by decide +kernel) _)).im (inw_row (by decide +kernel) _)).im (inw_row (by decide +kernel) _)).im (by decide +kernel)
    · rw [es] at z
      have z := q_nle z
      have z' : (Int32.ofNat k).toInt < ps h6 := z
      omega
  | succ n ih =>
    intro k h2 e he hsh hr F c1 c2
    have ek : (Int32.ofNat k).toInt = (k : Int) := on_j (by omega)
    have nk : (Int32.ofNat k).toNatClampNeg = k := on_k (by omega)
    have es : h_i h2 1 36 = h_i h6 1 36 := he 1 36 (by decide)
    have w2 : Wf h2 := ⟨fun q hq => by rw [hsh]; exact I6.1.1 q hq, fun q hq => by rw [hr]; exact I6.1.2 q hq⟩
    have m1 : (560 * x3).toInt = 560 * x3.toInt := by rw [tx_mul (by rw [t560]; omega) (by rw [t560]; omega), t560]
    have m2 : (560 * x3 + Int32.ofNat k).toInt = 560 * ((20 * s + m : Nat) : Int) + k := by rw [tx_add (by omega) (by omega), m1, ek, e3]
    have nm := n_nat (x := 560 * x3 + Int32.ofNat k) (by omega)
    have km : (560 * x3 + Int32.ofNat k).toNatClampNeg = 560 * (20 * s + m) + k := by omega
    refine t_X12_text_49 d h2 w2 _ x2 x3 _ _ ⟨fun z => ?_, fun _ => ⟨on_in (by omega) (by decide), dp_in (lo := 0) (hi := 22399) ⟨by show (0 : Int) ≤ _; omega, by show _ ≤ (22399 : Int); omega⟩ (by decide) (by decide), ?_⟩⟩
    · rw [es] at z
      have z := q_le.mp z
      have z' : ps h6 ≤ (Int32.ofNat k).toInt := z
      omega
    · rw [km, nk, on_s (by omega)]
      refine ih (k + 1) _ (by omega) (fun a j na => ?_) hsh hr (F.im (inw_row (by decide +kernel) _)) (fun j hj => ?_) (fun j hj => ?_)
      · rw [im_ne na]; exact he a j na
      · rw [h_i_im]
        by_cases y : j = k
        · rw [if_pos ⟨rfl, by omega⟩, y]; exact he 226 k (by decide)
        · rw [if_neg (fun u => by have := u.2; omega)]; exact c1 j (by omega)
      · rw [h_i_im, if_neg (fun u => by have := u.2; omega)]; exact c2 j hj
theorem c_text (d s : Nat) (hs : s < 2) {h : Hp_} (I : Iv h) (x2 : Int32) : Ci (m_X12_text (d + 80 + 60) 0 0) [.ref 1, .int (Int32.ofNat s), .int x2] h (fun _ h' => Iv h' ∧ Fr wzt h h') := by
  have v1 : vp_in (Int32.ofNat s) 2 := on_in hs (by decide)
  have k1 : (Int32.ofNat s).toNatClampNeg = s := on_k (by omega)
  refine t_X12_text (d + 80) h I.1 _ x2 _ ⟨fun _ => ⟨I, Fr.rf _ _⟩, fun _ => ⟨v1, fun _ => ⟨I, Fr.rf _ _⟩, fun ne => ?_⟩⟩
  refine Ci.mono (c_fault d I _) (fun r h6 k => ?_)
  obtain ⟨I6, F6, g⟩ := k
  refine ⟨I6.1, fun er => ⟨v1, ?_⟩, fun _ => ⟨I6, F6.more (by decide +kernel)⟩⟩
  rw [k1] at ne ⊢
  have e235 : h_i h6 235 s = h_i h 235 s := fr_i F6 (by decide +kernel) s
  have br := dp_rg I6 235 s (show tfa 235 = some (0, 20) by decide +kernel)
  have b0 : 0 ≤ (h_i h6 235 s).toInt := br.1
  have b1 : (h_i h6 235 s).toInt ≤ 20 := br.2
  have nb := n_nat b0
  have t20 : (20 : Int32).toInt = 20 := rfl
  have lt : (h_i h6 235 s).toInt < 20 := by
    rcases Int.lt_or_le (h_i h6 235 s).toInt 20 with u | u
    · exact u
    · exact absurd (Int32.toInt_inj.mp (by rw [← e235, t20]; omega)) ne
  have hm : h_i h6 235 s = Int32.ofNat (h_i h6 235 s).toNatClampNeg := Int32.toInt_inj.mp (by rw [on_j (by omega)]; exact nb.symm)
  have es : (Int32.ofNat s).toInt = (s : Int) := on_j (by omega)
  have m1 : (20 * Int32.ofNat s).toInt = 20 * (s : Int) := by rw [tx_mul (by rw [t20, es]; omega) (by rw [t20, es]; omega), t20, es]
  have e3 : (20 * Int32.ofNat s + h_i h6 235 s).toInt = ((20 * s + (h_i h6 235 s).toNatClampNeg : Nat) : Int) := by rw [tx_add (by omega) (by omega), m1]; omega
  have pc : ∃ f, pcl (s + 1) (h_i h6 226) f 0 (sN h6) := (g er).2 (s + 1) (by omega) (on_s (by omega))
  exact tx_loop (d + 80) s _ hs (by omega) x2 _ I6 hm e3 pc (sN h6) 0 h6 (by omega) (fun _ _ _ => rfl) rfl rfl (F6.more (by decide +kernel)) (fun j hj => absurd hj (by omega)) (fun _ _ => rfl)
theorem c_act (d : Nat) {h : Hp_} (I : Iv h) (x1 : Int32) : Ci (m_X12_act (d + 80 + 61) 0 0) [.ref 1, .int x1] h (fun _ h' => Iv h' ∧ Fr wzt h h') := t_X12_act (d + 80) h I.1 x1 _ (Ci.mono (c_text d 0 (by decide) I x1) (fun _ h' k => ⟨k.1.1, k⟩))
theorem c_payT (d : Nat) {h : Hp_} (I : Iv h) (x1 : Int32) : Ci (m_X12_pay (d + 80 + 61) 0 0) [.ref 1, .int x1] h (fun _ h' => Iv h' ∧ Fr wzt h h') := t_X12_pay (d + 80) h I.1 x1 _ (Ci.mono (c_text d 1 (by decide) I x1) (fun _ h' k => ⟨k.1.1, k⟩))
end
section
/-! beats of the reference: unfolded -/
theorem Iv_step {h : Hp_} {k : Nat} {x a : Int32} (I : Iv h) (bx : rin x.toInt (0, 3)) (ba : rin a.toInt (0, 1440)) (o : ¬ x = 1 → rin a.toInt (0, 15)) : Iv (h_im (h_im h 228 k x) 229 k a) := by
  obtain ⟨j1, j2, j3, j4⟩ := I.2.2.2.2.2
  have e : ∀ b j, b ≠ 228 → b ≠ 229 → h_i (h_im (h_im h 228 k x) 229 k a) b j = h_i h b j := fun b j n1 n2 => by rw [im_ne n2, im_ne n1]
  have e8 : ∀ j, h_i (h_im (h_im h 228 k x) 229 k a) 228 j = if j = k then x else h_i h 228 j := fun j => by
    rw [im_ne (by decide), h_i_im]
    by_cases y : j = k
    · rw [if_pos ⟨rfl, y⟩, if_pos y]
    · rw [if_neg (fun u => y u.2), if_neg y]
  have e9 : ∀ j, h_i (h_im (h_im h 228 k x) 229 k a) 229 j = if j = k then a else h_i h 229 j := fun j => by
    rw [h_i_im, im_ne (by decide)]
    by_cases y : j = k
    · rw [if_pos ⟨rfl, y⟩, if_pos y]
    · rw [if_neg (fun u => y u.2), if_neg y]
  refine ⟨I.1, fun b j => ?_, I.2.2.1, I.2.2.2.1, ?_, fun j hj => ?_, fun j hj hm => ?_, j3, fun t ht => ?_⟩
  · by_cases n1 : b = 228
    · subst n1
      rw [e8 j]
      by_cases y : j = k
      · rw [if_pos y, tfa_tf (show tfa 228 = some (0, 3) by decide +kernel)]; exact bx
      · rw [if_neg y]; exact I.2.1 228 j
    · by_cases n2 : b = 229
      · subst n2
        rw [e9 j]
        by_cases y : j = k
        · rw [if_pos y, tfa_tf (show tfa 229 = some (0, 1440) by decide +kernel)]; exact ba
        · rw [if_neg y]; exact I.2.1 229 j
      · rw [e b j n1 n2]; exact I.2.1 b j
  · obtain ⟨c, N, u, v, l, m⟩ := I.2.2.2.2.1
    exact ⟨c, N, u, v, l, by rw [e 0 0 (by decide) (by decide)]; exact m⟩
  · rw [e8 j] at hj
    rw [e9 j]
    by_cases y : j = k
    · rw [if_pos y] at hj ⊢
      exact o hj
    · rw [if_neg y] at hj ⊢
      exact j1 j hj
  · rw [e 0 7 (by decide) (by decide)] at hm
    exact j2 j hj hm
  · rw [show h_i (h_im (h_im h 228 k x) 229 k a) 231 = h_i h 231 from funext (fun k => e 231 k (by decide) (by decide)), e 232 t (by decide) (by decide)]
    exact j4 t ht
def wzu : List Nat := [1043, 1044, 228999, 229999, 230999]
def Uv (h0 h : Hp_) : Prop := Iv h ∧ Fr wzu h0 h ∧ ∀ k, k < 150 * (h_i h0 1 42).toNatClampNeg → h_i h 228 k = h_i h0 228 k
theorem Uv.n44 {h0 h : Hp_} (U : Uv h0 h) (x : Int32) : Uv h0 (h_im h 1 44 x) := ⟨U.1.im (by rw [show tf 1 44 = rtop by decide +kernel]; exact rtop_in _) (by decide), U.2.1.im (by decide +kernel), fun k hk => by rw [im_ne (by decide)]; exact U.2.2 k hk⟩
theorem Uv.st {h0 h : Hp_} {x3 a b n s0 : Int32} (U : Uv h0 h) (hB : (h_i h0 1 42).toInt ≤ 11) (ne : ¬ h_i h 1 43 = 150) (e0 : s0 = 150 * h_i h 1 42 + h_i h 1 43) (bx : rin x3.toInt (0, 3)) (ba : rin a.toInt (0, 1440)) (o : ¬ x3 = 1 → rin a.toInt (0, 15)) :
    vp_in s0 1800 ∧ Uv h0 (h_im (h_im (h_im (h_im (h_im h 228 s0.toNatClampNeg x3) 229 s0.toNatClampNeg a) 230 s0.toNatClampNeg b) 1 43 ((h_i h 1 43) + 1)) 1 44 n) := by
  obtain ⟨I, F, C⟩ := U
  have e42 : h_i h 1 42 = h_i h0 1 42 := (F.2 1 42 (by decide +kernel)).1
  have r42 := I.2.1 1 42
  rw [show tf 1 42 = (0, 12) by decide +kernel] at r42
  have b0 : 0 ≤ (h_i h 1 42).toInt := r42.1
  have b1 : (h_i h 1 42).toInt ≤ 11 := by rw [e42]; exact hB
  have r43 := I.2.1 1 43
  rw [show tf 1 43 = (0, 150) by decide +kernel] at r43
  have u0 : 0 ≤ (h_i h 1 43).toInt := r43.1
  have u1' : (h_i h 1 43).toInt ≤ 150 := r43.2
  have t150 : (150 : Int32).toInt = 150 := rfl
  have t1 : (1 : Int32).toInt = 1 := rfl
  have u1 : (h_i h 1 43).toInt ≤ 149 := by
    rcases Int.lt_or_le (h_i h 1 43).toInt 150 with z | z
    · omega
    · exact absurd (Int32.toInt_inj.mp (by rw [t150]; omega)) ne
  have m1 : (150 * h_i h 1 42).toInt = 150 * (h_i h 1 42).toInt := by rw [tx_mul (by rw [t150]; omega) (by rw [t150]; omega), t150]
  have m2 : s0.toInt = 150 * (h_i h 1 42).toInt + (h_i h 1 43).toInt := by rw [e0, tx_add (by omega) (by omega), m1]
  have ns := n_nat (x := s0) (by omega)
  have nB := n_nat (x := h_i h 1 42) b0
  have e43 : (h_i h 1 43 + 1).toInt = (h_i h 1 43).toInt + 1 := by rw [tx_add (by rw [t1]; omega) (by rw [t1]; omega), t1]
  refine ⟨dp_in (lo := 0) (hi := 1799) ⟨by show (0 : Int) ≤ _; omega, by show _ ≤ (1799 : Int); omega⟩ (by decide) (by decide), ?_, ?_, fun k hk => ?_⟩
  · exact (((i2xx 230 (by decide +kernel) (by decide) (by decide) (Iv_step I bx ba o) _ b).im (a := 1) (k := 43) (by rw [show tf 1 43 = (0, 150) by decide +kernel, e43]; exact ⟨by show (0 : Int) ≤ _; omega, by show _ ≤ (150 : Int); omega⟩) (by decide)).im (by rw [show tf 1 44 = rtop by decide +kernel]; exact rtop_in _) (by decide))
  · exact ((((F.im (inw_row (by decide +kernel) _)).im (inw_row (by decide +kernel) _)).im (inw_row (by decide +kernel) _)).im (by decide +kernel)).im (by decide +kernel)
  · rw [← e42] at hk
    rw [im_ne (by decide), im_ne (by decide), im_ne (by decide), im_ne (by decide), h_i_im, if_neg (fun u => by have := u.2; omega)]
    exact C k (by rw [← e42]; exact hk)
theorem on_2 {n : Nat} (h : n < 100000) : Int32.ofNat n + 2 = Int32.ofNat (n + 2) := by
  have t : (2 : Int32).toInt = 2 := rfl
  have a := on_j (n := n) (by omega)
  exact Int32.toInt_inj.mp (by rw [tx_add (by rw [t]; omega) (by rw [t]; omega), t, on_j (n := n + 2) (by omega)]; omega)
theorem on_3 {n : Nat} (h : n < 100000) : Int32.ofNat n + 3 = Int32.ofNat (n + 3) := by
  have t : (3 : Int32).toInt = 3 := rfl
  have a := on_j (n := n) (by omega)
  exact Int32.toInt_inj.mp (by rw [tx_add (by rw [t]; omega) (by rw [t]; omega), t, on_j (n := n + 3) (by omega)]; omega)
def Uk (h0 : Hp_) (j : Nat) : Int32 → Hp_ → Prop := fun r h' => Uv h0 h' ∧ (¬ r = 0 → h_i h' 1 44 = Int32.ofNat j)
theorem uf_loop (h0 : Hp_) (N : Nat) (hN : h_i h0 1 36 = Int32.ofNat N) (lN : N ≤ 559) (hB : (h_i h0 1 42).toInt ≤ 11) (g d : Nat)
    (B : ∀ g', g = g' + 1 → ∀ (f i j : Nat) (h : Hp_), sqS (stD (h_i h0 226) g') f i j → j ≤ N → (j = N ∨ h_i h0 226 j = 5) → Uv h0 h → Ci (m_X12_unfold (d + g + 0) 0 0) [.ref 1, .int (Int32.ofNat i), .int 1] h (Uk h0 j)) (j : Nat) (hj : j ≤ N) (ej : j = N ∨ h_i h0 226 j = 5) :
    ∀ (f i : Nat) (h : Hp_), sqS (stD (h_i h0 226) g) f i j → Uv h0 h → h_i h 1 44 = Int32.ofNat i → AW (m_X12_unfold (d + g + 1) 0 0) 0 0 5 [(0, .ref 1), (2, .int 1)] [] h (kI (Uk h0 j)) := by
  have oN := on_j (n := N) (by omega)
  intro f
  induction f with
  | zero =>
    intro i h q U en
    have q : i = j := q
    subst q
    have e36 : h_i h 1 36 = Int32.ofNat N := by rw [(U.2.1.2 1 36 (by decide +kernel)).1]; exact hN
    have e6 : ∀ k, h_i h 226 k = h_i h0 226 k := fun k => fr_i U.2.1 (by decide +kernel) k
    have oi := on_j (n := i) (by omega)
    have ki := on_k (n := i) (by omega)
    have fin : Uk h0 i 1 h := ⟨U, fun _ => en⟩
    refine t_X12_unfold_5 (d + g) h U.1.1 1 _ ⟨fun _ => fin, fun z => ?_⟩
    rw [e36, en] at z
    have z := q_nle z
    have c5 : h_i h0 226 i = 5 := by
      rcases ej with u | u
      · omega
      · exact u
    rw [en, ki, e6]
    exact ⟨on_in (by omega) (by decide), fun _ => fin, fun y => absurd c5 y⟩
  | succ f ih =>
    intro i h q U en
    obtain ⟨i2, st, q⟩ := q
    have l1 := stD_lt st
    have l2 := sqS_le (fun _ _ t => stD_lt t) q
    have e36 : h_i h 1 36 = Int32.ofNat N := by rw [(U.2.1.2 1 36 (by decide +kernel)).1]; exact hN
    have e6 : ∀ k, h_i h 226 k = h_i h0 226 k := fun k => fr_i U.2.1 (by decide +kernel) k
    have oi := on_j (n := i) (by omega)
    have ki := on_k (n := i) (by omega)
    have vi : vp_in (Int32.ofNat i) 560 := on_in (by omega) (by decide)
    refine t_X12_unfold_5 (d + g) h U.1.1 1 _ ⟨fun z => ?_, fun _ => ?_⟩
    · rw [e36, en] at z
      have z := q_le.mp z
      omega
    rw [en, ki, e6]
    have base : stB (h_i h0 226) i i2 → ¬ h_i h0 226 i = 5 ∧ ¬ h_i h0 226 i = 4 ∧ (¬ h_i h 1 43 = 150 → AW (m_X12_unfold (d + g + 1) 0 0) 0 0 158 [(0, .ref 1), (2, .int 1), (3, .int (h_i h0 226 i))] [.int ((150 * (h_i h 1 42)) + (h_i h 1 43))] h (kI (Uk h0 j))) := by
      intro s
      have n1 : Int32.ofNat i + 1 = Int32.ofNat (i + 1) := on_s (by omega)
      have v1 : i + 1 < 560 → vp_in (Int32.ofNat (i + 1)) 560 := fun l => on_in l (by decide)
      rcases s with ⟨a, b, c⟩ | ⟨a, b, c⟩ | ⟨a, b, b', c⟩ | ⟨a, c⟩
      · refine ⟨by rw [a]; decide, by rw [a]; decide, fun ne => ?_⟩
        rw [a]
        have ka := on_k (n := i + 1) (by omega)
        have S := U.st (x3 := 0) (a := h_i h 226 (i + 1)) (b := 0) (n := Int32.ofNat (i + 2)) hB ne rfl ⟨by decide, by decide⟩ (by rw [e6]; exact ⟨b.1, by have : (h_i h0 226 (i + 1)).toInt ≤ 15 := b.2; show _ ≤ (1440 : Int); omega⟩) (fun _ => by rw [e6]; exact b)
        generalize ((150 * (h_i h 1 42)) + (h_i h 1 43)) = s0 at S ⊢
        have v := S.1
        refine t_X12_unfold_158 (d + g) h U.1.1 1 0 s0 _ ⟨fun y => absurd y (by decide), fun _ => ⟨v, fun _ => ⟨?_, v, fun _ => ⟨v, fun _ => ⟨fun _ => ?_, fun y => absurd y (by decide)⟩, fun y => absurd y (by decide)⟩, fun y => absurd y (by decide)⟩, fun y => absurd y (by decide)⟩⟩
        · rw [en, n1]; exact v1 (by omega)
        · rw [en, n1, ka, on_2 (by omega)]
          exact ih (i + 2) _ (by rw [← c]; exact q) S.2 im_at
      · refine ⟨by rw [a]; decide, by rw [a]; decide, fun ne => ?_⟩
        rw [a]
        have ka := on_k (n := i + 1) (by omega)
        have S := U.st (x3 := 1) (a := h_i h 226 (i + 1)) (b := 0) (n := Int32.ofNat (i + 2)) hB ne rfl ⟨by decide, by decide⟩ (by rw [e6]; exact ⟨by have : 1 ≤ (h_i h0 226 (i + 1)).toInt := b.1; show (0 : Int) ≤ _; omega, by have : (h_i h0 226 (i + 1)).toInt ≤ 240 := b.2; show _ ≤ (1440 : Int); omega⟩) (fun y => absurd rfl y)
        generalize ((150 * (h_i h 1 42)) + (h_i h 1 43)) = s0 at S ⊢
        have v := S.1
        refine t_X12_unfold_158 (d + g) h U.1.1 1 1 s0 _ ⟨fun y => absurd y (by decide), fun _ => ⟨v, fun _ => ⟨?_, v, fun _ => ⟨v, fun _ => ⟨fun _ => ?_, fun y => absurd y (by decide)⟩, fun y => absurd y (by decide)⟩, fun y => absurd y (by decide)⟩, fun y => absurd y (by decide)⟩⟩
        · rw [en, n1]; exact v1 (by omega)
        · rw [en, n1, ka, on_2 (by omega)]
          exact ih (i + 2) _ (by rw [← c]; exact q) S.2 im_at
      · refine ⟨by rw [a]; decide, by rw [a]; decide, fun ne => ?_⟩
        rw [a]
        have ka := on_k (n := i + 1) (by omega)
        have kb := on_k (n := i + 2) (by omega)
        have S := U.st (x3 := 2) (a := h_i h 226 (i + 1)) (b := h_i h 226 (i + 2)) (n := Int32.ofNat (i + 3)) hB ne rfl ⟨by decide, by decide⟩ (by rw [e6]; exact ⟨b.1, by have : (h_i h0 226 (i + 1)).toInt ≤ 15 := b.2; show _ ≤ (1440 : Int); omega⟩) (fun _ => by rw [e6]; exact b)
        generalize ((150 * (h_i h 1 42)) + (h_i h 1 43)) = s0 at S ⊢
        have v := S.1
        refine t_X12_unfold_158 (d + g) h U.1.1 1 2 s0 _ ⟨fun y => absurd y (by decide), fun _ => ⟨v, fun _ => ⟨?_, v, fun y => absurd rfl y, fun _ => ⟨?_, v, fun _ => ⟨fun y => absurd rfl y, fun _ => ?_⟩, fun y => absurd y (by decide)⟩⟩, fun y => absurd y (by decide)⟩⟩
        · rw [en, n1]; exact v1 (by omega)
        · rw [en, on_2 (by omega)]; exact on_in (by omega) (by decide)
        · rw [en, n1, ka, on_2 (by omega), kb, on_3 (by omega)]
          exact ih (i + 3) _ (by rw [← c]; exact q) S.2 im_at
      · refine ⟨by rw [a]; decide, by rw [a]; decide, fun ne => ?_⟩
        rw [a]
        have S := U.st (x3 := 3) (a := 0) (b := 0) (n := Int32.ofNat (i + 1)) hB ne rfl ⟨by decide, by decide⟩ ⟨by decide, by decide⟩ (fun _ => ⟨by decide, by decide⟩)
        generalize ((150 * (h_i h 1 42)) + (h_i h 1 43)) = s0 at S ⊢
        have v := S.1
        refine t_X12_unfold_158 (d + g) h U.1.1 1 3 s0 _ ⟨fun y => absurd y (by decide), fun _ => ⟨v, fun y => absurd rfl y, fun _ => ⟨v, fun _ => ⟨v, fun y => absurd rfl y, fun _ => ?_⟩, fun y => absurd y (by decide)⟩⟩⟩
        rw [en, n1]
        exact ih (i + 1) _ (by rw [← c]; exact q) S.2 im_at
    have nb : ∀ s : stB (h_i h0 226) i i2, vp_in (Int32.ofNat i) 560 ∧ ((h_i h0 226 i = 5 → Uk h0 j 1 h) ∧ (¬ h_i h0 226 i = 5 → vp_in (Int32.ofNat i) 560 ∧ ((¬ h_i h0 226 i = 4 → (¬ (h_i h 1 43) = 150 → (¬ 12 = (h_i h 1 42) → AW (m_X12_unfold (d + g + 1) 0 0) 0 0 158 [(0, .ref 1), (2, .int 1), (3, .int (h_i h0 226 i))] [.int ((150 * (h_i h 1 42)) + (h_i h 1 43))] h (kI (Uk h0 j))) ∧ (12 = (h_i h 1 42) → AW (m_X12_unfold (d + g + 1) 0 0) 0 0 158 [(0, .ref 1), (2, .int 1), (3, .int (h_i h0 226 i))] [.int 0] h (kI (Uk h0 j)))) ∧ ((h_i h 1 43) = 150 → Uk h0 j 0 h)) ∧ (h_i h0 226 i = 4 → Ci (m_X12_unfold (d + g + 0) 0 0) [.ref 1, .int ((Int32.ofNat i) + 1), .int 1] h (fun r10 h8 => Wf h8 ∧ ((¬ r10 = 0 → vp_in ((h_i h8 1 44) + 1) 560 ∧ (AW (m_X12_unfold (d + g + 1) 0 0) 0 0 84 [(0, .ref 1), (2, .int 1), (4, .int ((Int32.ofNat i) + 1)), (5, .int (h_i h8 1 44)), (6, .int (h_i h8 226 (((h_i h8 1 44) + 1) : Int32).toNatClampNeg)), (7, .int 1)] [] h8 (kI (Uk h0 j)))) ∧ (r10 = 0 → Uk h0 j 0 h8))))))) := by
      intro s
      obtain ⟨b5, b4, b⟩ := base s
      refine ⟨vi, fun y => absurd y b5, fun _ => ⟨vi, fun _ => ⟨fun ne => ⟨fun _ => b ne, fun y => ?_⟩, fun _ => ⟨U, fun z => absurd rfl z⟩⟩, fun y => absurd y b4⟩⟩
      have e42 : h_i h 1 42 = h_i h0 1 42 := (U.2.1.2 1 42 (by decide +kernel)).1
      rw [← e42, ← y] at hB
      exact absurd hB (by decide)
    cases g with
    | zero => exact nb st
    | succ g =>
      rcases st with s | ⟨c4, f2, j2, w2, c5, tm, ei⟩
      · exact nb s
      · have l3 := sqS_le (fun _ _ t => stD_lt t) w2
        have n1 : Int32.ofNat i + 1 = Int32.ofNat (i + 1) := on_s (by omega)
        refine ⟨vi, fun y => absurd (c4.symm.trans y) (by decide), fun _ => ⟨vi, fun y => absurd c4 y, fun _ => ?_⟩⟩
        rw [n1]
        refine Ci.mono (B g rfl f2 (i + 1) j2 h w2 (by omega) (Or.inr c5) U) (fun r h8 k => ⟨k.1.1.1, fun nr => ?_, fun er => ⟨k.1, fun y => absurd rfl y⟩⟩)
        have e44 := k.2 nr
        have n2 : Int32.ofNat j2 + 1 = Int32.ofNat (j2 + 1) := on_s (by omega)
        have k2 := on_k (n := j2 + 1) (by omega)
        rw [e44, n2, k2, fr_i k.1.2.1 (a := 226) (by decide +kernel)]
        refine ⟨on_in (by omega) (by decide), ?_⟩
        have t0 : 1 ≤ (h_i h0 226 (j2 + 1)).toInt := tm.1
        have t1 : (h_i h0 226 (j2 + 1)).toInt ≤ 20 := tm.2
        generalize h_i h0 226 (j2 + 1) = x6 at t0 t1 ⊢
        have o1 : (1 : Int32).toInt = 1 := rfl
        have out : ∀ h9, Uv h0 h9 → AW (m_X12_unfold (d + (g + 1) + 1) 0 0) 0 0 5 [(0, .ref 1), (2, .int 1)] [] (h_im h9 1 44 (Int32.ofNat j2 + 2)) (kI (Uk h0 j)) := by
          intro h9 U9
          rw [on_2 (by omega)]
          exact ih (j2 + 2) _ (by rw [← ei]; exact q) (U9.n44 _) im_at
        have tl : ∀ (n : Nat) (x7 : Int32) (h9 : Hp_), Uv h0 h9 → 1 ≤ x7.toInt → x6.toInt - x7.toInt ≤ n → AW (m_X12_unfold (d + (g + 1) + 1) 0 0) 0 0 84 [(0, .ref 1), (2, .int 1), (4, .int (Int32.ofNat (i + 1))), (5, .int (Int32.ofNat j2)), (6, .int x6), (7, .int x7)] [] h9 (kI (Uk h0 j)) := by
          intro n
          induction n with
          | zero =>
            intro x7 h9 U9 a7 m
            refine t_X12_unfold_84 (d + (g + 1)) h9 U9.1.1 1 _ _ x6 x7 _ ⟨fun _ => out h9 U9, fun z => ?_⟩
            have z := q_nle z
            omega
          | succ n ih2 =>
            intro x7 h9 U9 a7 m
            refine t_X12_unfold_84 (d + (g + 1)) h9 U9.1.1 1 _ _ x6 x7 _ ⟨fun _ => out h9 U9, fun z => ?_⟩
            have z := q_nle z
            have e7 : (x7 + 1).toInt = x7.toInt + 1 := by rw [tx_add (by rw [o1]; omega) (by rw [o1]; omega), o1]
            refine Ci.mono (B g rfl f2 (i + 1) j2 h9 w2 (by omega) (Or.inr c5) U9) (fun r h10 k => ⟨k.1.1.1, fun _ => ih2 _ h10 k.1 (by omega) (by omega), fun _ => ⟨k.1, fun y => absurd rfl y⟩⟩)
        exact tl 20 1 h8 k.1 (by decide) (by rw [o1]; omega)
theorem c_unfold (h0 : Hp_) (N : Nat) (hN : h_i h0 1 36 = Int32.ofNat N) (lN : N ≤ 559) (hB : (h_i h0 1 42).toInt ≤ 11) : ∀ (g d f i j : Nat) (h : Hp_), sqS (stD (h_i h0 226) g) f i j → j ≤ N → (j = N ∨ h_i h0 226 j = 5) → Uv h0 h → Ci (m_X12_unfold (d + g + 1) 0 0) [.ref 1, .int (Int32.ofNat i), .int 1] h (Uk h0 j) := by
  intro g
  induction g with
  | zero =>
    intro d f i j h q hj ej U
    exact t_X12_unfold (d + 0) h U.1.1 _ 1 _ (uf_loop h0 N hN lN hB 0 d (fun g' e => absurd e (by omega)) j hj ej f i _ q (U.n44 _) im_at)
  | succ g ih =>
    intro d f i j h q hj ej U
    exact t_X12_unfold (d + (g + 1)) h U.1.1 _ 1 _ (uf_loop h0 N hN lN hB (g + 1) d (fun g' e f i j h q hj ej U => by
      have e : g = g' := by omega
      subst e
      exact ih d f i j h q hj ej U) j hj ej f i _ q (U.n44 _) im_at)
end
section
/-! beat of the reference -/
theorem mP_same {wh wh' : Nat → Int32} {b : Nat} : ∀ {f s : Nat}, (∀ x, 150 * b + s ≤ x → x < 150 * b + s + f → wh' x = wh x) → mP wh' b f s = mP wh b f s
  | 0, _, _ => rfl
  | f + 1, s, e => by
    show (if wh' (150 * b + s) = 2 then 1 else 0) + mP wh' b f (s + 1) = (if wh (150 * b + s) = 2 then 1 else 0) + mP wh b f (s + 1)
    rw [e (150 * b + s) (by omega) (by omega), mP_same (fun x u v => e x (by omega) (by omega))]
theorem J2_beat {h h' : Hp_} (I : Iv h) (er : ∀ a, mrow a = true → ∀ k, h_i h' a k = h_i h a k) (e7 : ∀ k, k < (h_i h 1 42).toNatClampNeg → h_i h' 227 k = h_i h 227 k) (e8 : ∀ k, k < 150 * (h_i h 1 42).toNatClampNeg → h_i h' 228 k = h_i h 228 k) (le : (h_i h 1 42).toInt ≤ (h_i h' 1 42).toInt) (em : h_i h' 1 7 = h_i h 1 7) (J : J2 h) : J2 h' := by
  intro c hc hm
  obtain ⟨j1, j2⟩ := J c hc (by rw [← em]; exact hm)
  have r8 := er 208 (by decide) c
  have r10 := er 210 (by decide) c
  have r12 := er 212 (by decide) c
  have r13 := er 213 (by decide) c
  have r16 := er 216 (by decide) c
  refine ⟨fun z => ?_, fun z => ?_⟩
  · rw [r8] at z
    rw [r10]; exact j1 z
  · rw [r8] at z
    obtain ⟨k1, k2, k3, k4, k5⟩ := j2 z
    have n42 := n_nat (x := h_i h 1 42) (by have := I.2.1 1 42; rw [show tf 1 42 = (0, 12) by decide +kernel] at this; exact this.1)
    have g12 := dp_rg I 212 c (show tfa 212 = some (0, 11) by decide +kernel)
    have n12 := n_nat (x := h_i h 212 c) g12.1
    have lb : nB h c < (h_i h 1 42).toNatClampNeg := by
      show (h_i h 212 c).toNatClampNeg < _
      omega
    have eB : nB h' c = nB h c := by show (h_i h' 212 c).toNatClampNeg = _; rw [r12]
    have eS : nS h' c = nS h c := by show (h_i h' 213 c).toNatClampNeg = _; rw [r13]
    have eZ : nZ h' c = nZ h c := by
      show (h_i h' 227 (nB h' c)).toNatClampNeg = _
      rw [eB, e7 _ lb]
    have gz := dp_rg I 227 (nB h c) (show tfa 227 = some (0, 150) by decide +kernel)
    have nz := n_nat (x := h_i h 227 (nB h c)) gz.1
    have z1 : (h_i h 227 (nB h c)).toInt ≤ 150 := gz.2
    have lz : nZ h c ≤ 150 := by show (h_i h 227 (nB h c)).toNatClampNeg ≤ 150; omega
    have m1 : mP (h_i h' 228) (nB h c) (nZ h c - (nS h c + 1)) (nS h c + 1) = mP (h_i h 228) (nB h c) (nZ h c - (nS h c + 1)) (nS h c + 1) := mP_same (fun x u v => e8 x (by omega))
    have m2 : mP (h_i h' 228) (nB h c) (nZ h c - nS h c) (nS h c) = mP (h_i h 228) (nB h c) (nZ h c - nS h c) (nS h c) := mP_same (fun x u v => e8 x (by omega))
    rw [eB, eS, eZ, r13, r12, r16, r10, m1, m2]
    exact ⟨k1, k2, by omega, k4, k5⟩
end
section
/-! answers that stay the same: what a text tells; ranks, states, causes, texts in force -/
theorem pst_no {s : Nat} {cd : Nat → Int32} {i n : Nat} {q : Nat × Nat} (c : cd i = 2 ∨ cd i = 3) (h : pst s cd i n = some q) : False := by
  obtain ⟨i', n'⟩ := q
  rcases pst_0 h with ⟨a, _⟩ | ⟨a, _⟩ | ⟨a, _⟩ | ⟨a, _⟩
  · rw [a] at c; exact absurd c (by decide)
  · rw [a] at c; exact absurd c (by decide)
  · rw [a] at c; exact absurd c (by decide)
  · exact c.elim a.2.2.2.1 a.2.2.2.2
theorem prun_det {s : Nat} {cd : Nat → Int32} : ∀ {g g' i n j j' m m' : Nat}, prun s cd g i n j m → prun s cd g' i n j' m' → (cd j = 2 ∨ cd j = 3) → (cd j' = 2 ∨ cd j' = 3) → g = g' ∧ j = j'
  | 0, 0, i, n, j, j', m, m', a, b, _, _ => ⟨rfl, a.1.symm.trans b.1⟩
  | 0, g' + 1, i, n, j, j', m, m', a, b, c, _ => by
    obtain ⟨i', n', p, _⟩ := b
    rw [← a.1] at c
    exact (pst_no c p).elim
  | g + 1, 0, i, n, j, j', m, m', a, b, _, c => by
    obtain ⟨i', n', p, _⟩ := a
    rw [← b.1] at c
    exact (pst_no c p).elim
  | g + 1, g' + 1, i, n, j, j', m, m', a, b, c, c' => by
    obtain ⟨i1, n1, p, a⟩ := a
    obtain ⟨i2, n2, q, b⟩ := b
    rw [p] at q
    have q := Option.some.inj q
    have e1 : i1 = i2 := congrArg Prod.fst q
    have e2 : n1 = n2 := congrArg Prod.snd q
    subst e1 e2
    have r := prun_det a b c c'
    exact ⟨by rw [r.1], r.2⟩
theorem tel_ex {s : Nat} {cd lt : Nat → Int32} : ∀ {f i e : Nat}, pcl s cd f i e → ∃ r, tel s cd lt f i e r
  | 0, _, _, _ => ⟨0, rfl⟩
  | f + 1, i, e, h => by
    obtain ⟨j, k, ⟨g1, p1⟩, c2, ⟨g2, p2⟩, c3, q⟩ := h
    by_cases z : wev cd lt g1 i 0 (fun _ => 0) = 0
    · obtain ⟨r, t⟩ := tel_ex (lt := lt) q
      exact ⟨r, j, k, g1, g2, p1, c2, p2, c3, Or.inr ⟨z, t⟩⟩
    · exact ⟨_, j, k, g1, g2, p1, c2, p2, c3, Or.inl ⟨z, rfl⟩⟩
theorem pcl_lt {s : Nat} {cd : Nat → Int32} {f i e : Nat} (h : pcl s cd (f + 1) i e) : i < e := by
  obtain ⟨j, k, ⟨g1, p1⟩, _, ⟨g2, p2⟩, _, q⟩ := h
  have l1 := prun_le p1
  have l2 := prun_le p2
  have l3 := pcl_le q
  omega
theorem tel_det {s : Nat} {cd lt lt' : Nat → Int32} (hl : ∀ c, okl s c = true → lt c.toNatClampNeg = lt' c.toNatClampNeg) : ∀ {f f' i e : Nat} {r r' : Int32}, pcl s cd f i e → pcl s cd f' i e → tel s cd lt f i e r → tel s cd lt' f' i e r' → r = r'
  | 0, 0, _, _, _, _, _, _, t, t' => by
    have t : _ = _ := t
    have t' : _ = _ := t'
    rw [t, t']
  | 0, f' + 1, i, e, _, _, a, b, _, _ => by
    have a : i = e := a
    have := pcl_lt b
    omega
  | f + 1, 0, i, e, _, _, a, b, _, _ => by
    have b : i = e := b
    have := pcl_lt a
    omega
  | f + 1, f' + 1, i, e, r, r', a, b, t, t' => by
    obtain ⟨j, k, ⟨g1, p1⟩, c2, ⟨g2, p2⟩, c3, q⟩ := a
    obtain ⟨j', k', ⟨g1', p1'⟩, c2', ⟨g2', p2'⟩, c3', q'⟩ := b
    obtain ⟨u, v, w1, w2, u1, u2, u3, u4, u5⟩ := t
    obtain ⟨u', v', w1', w2', u1', u2', u3', u4', u5'⟩ := t'
    obtain ⟨_, e1⟩ := prun_det p1 p1' (Or.inl c2) (Or.inl c2')
    obtain ⟨_, e2⟩ := prun_det p1 u1 (Or.inl c2) (Or.inl u2)
    obtain ⟨_, e3⟩ := prun_det p1 u1' (Or.inl c2) (Or.inl u2')
    subst e1 e2 e3
    obtain ⟨_, d1⟩ := prun_det p2 p2' (Or.inr c3) (Or.inr c3')
    obtain ⟨_, d2⟩ := prun_det p2 u3 (Or.inr c3) (Or.inr u4)
    obtain ⟨_, d3⟩ := prun_det p2 u3' (Or.inr c3) (Or.inr u4')
    subst d1 d2 d3
    obtain ⟨x1, _⟩ := prun_det u1 u1' (Or.inl c2) (Or.inl c2)
    obtain ⟨x2, _⟩ := prun_det u3 u3' (Or.inr c3) (Or.inr c3)
    subst x1 x2
    have y1 := wev_ind (lt := lt) (lt' := lt') hl _ _ _ (fun _ => 0) (fun _ => 0) u1 (fun _ _ => rfl)
    have y2 := wev_ind (lt := lt) (lt' := lt') hl _ _ _ (fun _ => 0) (fun _ => 0) u3 (fun _ _ => rfl)
    rcases u5 with ⟨z, t⟩ | ⟨z, t⟩
    · rcases u5' with ⟨z', t'⟩ | ⟨z', t'⟩
      · rw [t, t', y2]
      · rw [y1] at z; exact absurd z' z
    · rcases u5' with ⟨z', t'⟩ | ⟨z', t'⟩
      · rw [y1] at z; exact absurd z z'
      · exact tel_det hl q q' t t'
/-- all that payOf reads stays; what book writes may change -/
def wzE : List Nat := [1052, 1127, 236999, 237999, 293999, 294999, 295999, 296999, 297999]
def wzL : List Nat := [1052, 236999, 237999]
def Dp (r : Int32) (h2 : Hp_) : Int32 → Hp_ → Prop := fun r' h' => r' = r ∧ Iv h' ∧ Fr wzL h2 h'
theorem c_tell2 (d s : Nat) (hs : s < 2) {h : Hp_} (I : Iv h) (x2 : Int32) (b2 : rin x2.toInt (-1, 19)) : Ci (m_X12_tell (d + 4) 0 0) [.ref 1, .int (Int32.ofNat s), .int x2] h (fun r h' => Iv h' ∧ Fr wzw h h' ∧ ((x2 = -1 ∧ r = 0) ∨ (¬ x2 = -1 ∧ ∃ f, pcl (s + 1) (h_i h 231) f (560 * (20 * s + x2.toNatClampNeg)) (560 * (20 * s + x2.toNatClampNeg) + (h_i h 232 (20 * s + x2.toNatClampNeg)).toNatClampNeg) ∧ tel (s + 1) (h_i h 231) (h_i h 236) f (560 * (20 * s + x2.toNatClampNeg)) (560 * (20 * s + x2.toNatClampNeg) + (h_i h 232 (20 * s + x2.toNatClampNeg)).toNatClampNeg) r))) := by
  have c3 : -1 ≤ x2.toInt := b2.1
  have c4 : x2.toInt ≤ 19 := b2.2
  have t20 : (20 : Int32).toInt = 20 := rfl
  have t560 : (560 : Int32).toInt = 560 := rfl
  have tm : (-1 : Int32).toInt = -1 := rfl
  have es : (Int32.ofNat s).toInt = (s : Int) := on_j (by omega)
  refine t_X12_tell d h I.1 _ x2 _ ⟨fun z => ?_, fun z => ⟨I, Fr.rf _ _, Or.inl ⟨z, rfl⟩⟩⟩
  have c5 : 0 ≤ x2.toInt := by
    rcases Int.lt_or_le x2.toInt 0 with y | y
    · exact absurd (Int32.toInt_inj.mp (by rw [tm]; omega)) z
    · exact y
  have nx := n_nat c5
  have m1 : (20 * Int32.ofNat s).toInt = 20 * (s : Int) := by rw [tx_mul (by rw [t20, es]; omega) (by rw [t20, es]; omega), t20, es]
  have et : 20 * Int32.ofNat s + x2 = Int32.ofNat (20 * s + x2.toNatClampNeg) := by
    refine Int32.toInt_inj.mp ?_
    rw [on_j (by omega), tx_add (by omega) (by omega), m1]
    omega
  rw [et]
  have ht : 20 * s + x2.toNatClampNeg < 40 := by omega
  have hq : (20 * s + x2.toNatClampNeg) / 20 + 1 = s + 1 := by omega
  generalize 20 * s + x2.toNatClampNeg = t at ht hq ⊢
  have m3 : 560 * Int32.ofNat t = Int32.ofNat (560 * t) := by
    refine Int32.toInt_inj.mp ?_
    rw [tx_mul (by rw [t560, on_j (by omega)]; omega) (by rw [t560, on_j (by omega)]; omega), t560, on_j (by omega), on_j (by omega)]
    omega
  rw [m3]
  obtain ⟨f, hf⟩ := I.2.2.2.2.2.2.2.2 t ht
  rw [hq] at hf
  have sz : rin (h_i h 232 t).toInt (0, 560) := by
    have := I.2.1 232 t
    rwa [tfa_tf (show tfa 232 = some (0, 560) by decide +kernel)] at this
  have s1 : (h_i h 232 t).toInt ≤ 560 := sz.2
  have en : ((h_i h 232 t).toNatClampNeg : Int) = (h_i h 232 t).toInt := n_nat sz.1
  have W0 : Ws h (h_i h 231) (h_i h 236) (560 * t) (h_im h 1 52 (Int32.ofNat (560 * t))) :=
    ⟨I.im (by rw [show tf 1 52 = rtop by decide +kernel]; exact rtop_in _) (by decide), (Fr.rf _ _).im (by decide +kernel), funext (fun k => by rw [h_i_im, if_neg (fun z => absurd z.1 (by decide))]), funext (fun k => by rw [h_i_im, if_neg (fun z => absurd z.1 (by decide))]), by rw [h_i_im, if_pos ⟨rfl, rfl⟩]⟩
  refine AW.mono (tl_loop d (s + 1) t (560 * t + (h_i h 232 t).toNatClampNeg) h (h_i h 231) (h_i h 236) ht (by omega) f (560 * t) _ hf W0 rfl) (fun v h' q => ?_)
  obtain ⟨r, ev, I', F', T⟩ := q
  exact ⟨r, ev, I', F', Or.inr ⟨z, f, hf, T⟩⟩
/-- a text told: the same for the same letters -/
theorem d_tell (d s : Nat) (hs : s < 2) {h : Hp_} (I : Iv h) (x2 : Int32) (b2 : rin x2.toInt (-1, 19)) (lt : Nat → Int32) : ∃ r, ∀ h2, Iv h2 → Fr wzE h h2 → (∀ c, okl (s + 1) c = true → h_i h2 236 c.toNatClampNeg = lt c.toNatClampNeg) → Ci (m_X12_tell (d + 4) 0 0) [.ref 1, .int (Int32.ofNat s), .int x2] h2 (Dp r h2) := by
  by_cases z : x2 = -1
  · refine ⟨0, fun h2 I2 F hl => Ci.mono (c_tell2 d s hs I2 x2 b2) (fun r' h' k => ⟨?_, k.1, k.2.1.more (by decide +kernel)⟩)⟩
    rcases k.2.2 with u | u
    · exact u.2
    · exact absurd z u.1
  · have c3 : -1 ≤ x2.toInt := b2.1
    have c4 : x2.toInt ≤ 19 := b2.2
    have tm : (-1 : Int32).toInt = -1 := rfl
    have c5 : 0 ≤ x2.toInt := by
      rcases Int.lt_or_le x2.toInt 0 with y | y
      · exact absurd (Int32.toInt_inj.mp (by rw [tm]; omega)) z
      · exact y
    have nx := n_nat c5
    obtain ⟨f, hf⟩ := I.2.2.2.2.2.2.2.2 (20 * s + x2.toNatClampNeg) (by omega)
    rw [show (20 * s + x2.toNatClampNeg) / 20 + 1 = s + 1 by omega] at hf
    obtain ⟨r, hr⟩ := tel_ex (lt := lt) hf
    refine ⟨r, fun h2 I2 F hl => Ci.mono (c_tell2 d s hs I2 x2 b2) (fun r' h' k => ⟨?_, k.1, k.2.1.more (by decide +kernel)⟩)⟩
    rcases k.2.2 with u | ⟨_, f', hf', t'⟩
    · exact absurd u.1 z
    · rw [show h_i h2 231 = h_i h 231 from funext (fun k => fr_i F (by decide +kernel) k), fr_i F (a := 232) (by decide +kernel)] at hf' t'
      exact tel_det hl hf' hf t' hr
theorem d_rankOn (d : Nat) {h : Hp_} (I : Iv h) (x1 x2 x3 : Int32) (v1 : vp_in x1 12) : ∃ r, ∀ h2, Iv h2 → Fr wzE h h2 → Ci (m_X12_rankOn (d + 0) 0 0) [.ref 1, .int x1, .int x2, .int x3] h2 (fun r' h' => r' = r ∧ h' = h2) := by
  have c29 := I.2.1 1 29
  rw [show tf 1 29 = (0, 40) by decide +kernel] at c29
  have b0 : 0 ≤ (h_i h 1 29).toInt := c29.1
  have b1 : (h_i h 1 29).toInt ≤ 40 := c29.2
  have nc := n_nat b0
  have lp : ∀ (n k : Nat) (x4 x5 : Int32), k + n = (h_i h 1 29).toNatClampNeg → ∃ r, ∀ h2, Iv h2 → Fr wzE h h2 → AW (m_X12_rankOn (d + 0) 0 0) 0 0 14 [(0, .ref 1), (1, .int x1), (2, .int x2), (3, .int x3), (4, .int x4), (5, .int x5), (6, .int (Int32.ofNat k))] [] h2 (kI (fun r' h' => r' = r ∧ h' = h2)) := by
    intro n
    induction n with
    | zero =>
      intro k x4 x5 e
      have ok := on_j (n := k) (by omega)
      refine ⟨x4, fun h2 I2 F => t_X12_rankOn_14 d h2 I2.1 x1 x2 x3 x4 x5 _ _ ⟨fun _ => ⟨rfl, rfl⟩, fun z => ?_⟩⟩
      rw [(F.2 1 29 (by decide +kernel)).1] at z
      have z := q_nle z
      omega
    | succ n ih =>
      intro k x4 x5 e
      have ok := on_j (n := k) (by omega)
      have kk := on_k (n := k) (by omega)
      have v : vp_in (Int32.ofNat k) 40 := on_in (by omega) (by decide)
      by_cases P : h_i h 221 k = x1 ∧ ¬ x3 < h_i h 224 k ∧ ¬ x2 < h_i h 223 k ∧ ¬ h_i h 223 k < x5
      · obtain ⟨r, hr⟩ := ih (k + 1) (h_i h 222 k) (h_i h 223 k) (by omega)
        refine ⟨r, fun h2 I2 F => t_X12_rankOn_14 d h2 I2.1 x1 x2 x3 x4 x5 _ _ ⟨fun z => ?_, fun _ => ?_⟩⟩
        · rw [(F.2 1 29 (by decide +kernel)).1] at z
          have z := q_le.mp z
          omega
        · rw [kk, fr_i F (a := 221) (by decide +kernel) k, fr_i F (a := 222) (by decide +kernel) k, fr_i F (a := 223) (by decide +kernel) k, fr_i F (a := 224) (by decide +kernel) k, on_s (by omega)]
          exact ⟨v, fun y => absurd P.1 y, fun _ => ⟨v, fun y => absurd y P.2.1, fun _ => ⟨v, fun y => absurd y P.2.2.1, fun _ => ⟨v, fun y => absurd y P.2.2.2, fun _ => ⟨v, v, hr h2 I2 F⟩⟩⟩⟩⟩
      · obtain ⟨r, hr⟩ := ih (k + 1) x4 x5 (by omega)
        refine ⟨r, fun h2 I2 F => t_X12_rankOn_14 d h2 I2.1 x1 x2 x3 x4 x5 _ _ ⟨fun z => ?_, fun _ => ?_⟩⟩
        · rw [(F.2 1 29 (by decide +kernel)).1] at z
          have z := q_le.mp z
          omega
        · have go := hr h2 I2 F
          rw [kk, fr_i F (a := 221) (by decide +kernel) k, fr_i F (a := 222) (by decide +kernel) k, fr_i F (a := 223) (by decide +kernel) k, fr_i F (a := 224) (by decide +kernel) k, on_s (by omega)]
          exact ⟨v, fun _ => go, fun y1 => ⟨v, fun _ => go, fun y2 => ⟨v, fun _ => go, fun y3 => ⟨v, fun _ => go, fun y4 => absurd ⟨y1, y2, y3, y4⟩ P⟩⟩⟩⟩
  obtain ⟨r, hr⟩ := lp (h_i h 1 29).toNatClampNeg 0 (h_i h 204 x1.toNatClampNeg) (-1) (by omega)
  refine ⟨r, fun h2 I2 F => t_X12_rankOn d h2 I2.1 x1 x2 x3 _ ⟨v1, ?_⟩⟩
  rw [fr_i F (a := 204) (by decide +kernel) _]
  exact hr h2 I2 F
theorem d_stateOf (d : Nat) {h : Hp_} (x1 x2 : Int32) (v : vp_in x1 400) : ∃ r, ∀ h2, Iv h2 → Fr wzE h h2 → Ci (m_X12_stateOf (d + 0) 0 0) [.ref 1, .int x1, .int x2] h2 (fun r' h' => r' = r ∧ h' = h2) := by
  by_cases a : h_i h 241 x1.toNatClampNeg = -1 ∨ x2 < h_i h 241 x1.toNatClampNeg
  · by_cases b : h_i h 242 x1.toNatClampNeg = -1 ∨ x2 < h_i h 242 x1.toNatClampNeg
    · refine ⟨0, fun h2 I2 F => t_X12_stateOf d h2 I2.1 x1 x2 _ ?_⟩
      rw [fr_i F (a := 241) (by decide +kernel) _, fr_i F (a := 242) (by decide +kernel) _]
      exact ⟨v, fun _ => ⟨v, fun _ => ⟨rfl, rfl⟩, fun nb => ⟨v, fun _ => ⟨rfl, rfl⟩, fun nc => absurd (b.resolve_left nb) nc⟩⟩, fun na => ⟨v, fun _ => ⟨v, fun _ => ⟨rfl, rfl⟩, fun nb => ⟨v, fun _ => ⟨rfl, rfl⟩, fun nc => absurd (b.resolve_left nb) nc⟩⟩, fun nc => absurd (a.resolve_left na) nc⟩⟩
    · refine ⟨2, fun h2 I2 F => t_X12_stateOf d h2 I2.1 x1 x2 _ ?_⟩
      rw [fr_i F (a := 241) (by decide +kernel) _, fr_i F (a := 242) (by decide +kernel) _]
      exact ⟨v, fun _ => ⟨v, fun y => absurd (Or.inl y) b, fun _ => ⟨v, fun y => absurd (Or.inr y) b, fun _ => ⟨rfl, rfl⟩⟩⟩, fun na => ⟨v, fun _ => ⟨v, fun y => absurd (Or.inl y) b, fun _ => ⟨v, fun y => absurd (Or.inr y) b, fun _ => ⟨rfl, rfl⟩⟩⟩, fun nc => absurd (a.resolve_left na) nc⟩⟩
  · refine ⟨1, fun h2 I2 F => t_X12_stateOf d h2 I2.1 x1 x2 _ ?_⟩
    rw [fr_i F (a := 241) (by decide +kernel) _, fr_i F (a := 242) (by decide +kernel) _]
    exact ⟨v, fun y => absurd (Or.inl y) a, fun _ => ⟨v, fun y => absurd (Or.inr y) a, fun _ => ⟨rfl, rfl⟩⟩⟩
theorem d_causeOf (d : Nat) {h : Hp_} (I : Iv h) (x1 x2 : Int32) (v1 : vp_in x1 400) : ∃ r, ∀ h2, Iv h2 → Fr wzE h h2 → Ci (m_X12_causeOf (d + 0) 0 0) [.ref 1, .int x1, .int x2] h2 (fun r' h' => r' = r ∧ h' = h2) := by
  have c64 := I.2.1 1 64
  rw [show tf 1 64 = (0, 200) by decide +kernel] at c64
  have b0 : 0 ≤ (h_i h 1 64).toInt := c64.1
  have b1 : (h_i h 1 64).toInt ≤ 200 := c64.2
  have nc := n_nat b0
  have lp : ∀ (n k : Nat) (x3 : Int32), k + n = (h_i h 1 64).toNatClampNeg → ∃ r, ∀ h2, Iv h2 → Fr wzE h h2 → AW (m_X12_causeOf (d + 0) 0 0) 0 0 10 [(0, .ref 1), (1, .int x1), (2, .int x2), (3, .int x3), (4, .int (Int32.ofNat k))] [] h2 (kI (fun r' h' => r' = r ∧ h' = h2)) := by
    intro n
    induction n with
    | zero =>
      intro k x3 e
      have ok := on_j (n := k) (by omega)
      refine ⟨x3, fun h2 I2 F => t_X12_causeOf_10 d h2 I2.1 x1 x2 x3 _ _ ⟨fun _ => ⟨rfl, rfl⟩, fun z => ?_⟩⟩
      rw [(F.2 1 64 (by decide +kernel)).1] at z
      have z := q_nle z
      omega
    | succ n ih =>
      intro k x3 e
      have ok := on_j (n := k) (by omega)
      have kk := on_k (n := k) (by omega)
      have v : vp_in (Int32.ofNat k) 200 := on_in (by omega) (by decide)
      by_cases P : h_i h 245 k = x1 ∧ ¬ x2 < h_i h 247 k
      · obtain ⟨r, hr⟩ := ih (k + 1) (h_i h 246 k) (by omega)
        refine ⟨r, fun h2 I2 F => t_X12_causeOf_10 d h2 I2.1 x1 x2 x3 _ _ ⟨fun z => ?_, fun _ => ?_⟩⟩
        · rw [(F.2 1 64 (by decide +kernel)).1] at z
          have z := q_le.mp z
          omega
        · rw [kk, fr_i F (a := 245) (by decide +kernel) k, fr_i F (a := 246) (by decide +kernel) k, fr_i F (a := 247) (by decide +kernel) k, on_s (by omega)]
          exact ⟨v, fun y => absurd P.1 y, fun _ => ⟨v, fun y => absurd y P.2, fun _ => ⟨v, hr h2 I2 F⟩⟩⟩
      · obtain ⟨r, hr⟩ := ih (k + 1) x3 (by omega)
        refine ⟨r, fun h2 I2 F => t_X12_causeOf_10 d h2 I2.1 x1 x2 x3 _ _ ⟨fun z => ?_, fun _ => ?_⟩⟩
        · rw [(F.2 1 64 (by decide +kernel)).1] at z
          have z := q_le.mp z
          omega
        · have go := hr h2 I2 F
          rw [kk, fr_i F (a := 245) (by decide +kernel) k, fr_i F (a := 246) (by decide +kernel) k, fr_i F (a := 247) (by decide +kernel) k, on_s (by omega)]
          exact ⟨v, fun _ => go, fun y1 => ⟨v, fun _ => go, fun y2 => absurd ⟨y1, y2⟩ P⟩⟩
  obtain ⟨r, hr⟩ := lp (h_i h 1 64).toNatClampNeg 0 (h_i h 243 x1.toNatClampNeg) (by omega)
  refine ⟨r, fun h2 I2 F => t_X12_causeOf d h2 I2.1 x1 x2 _ ⟨v1, ?_⟩⟩
  rw [fr_i F (a := 243) (by decide +kernel) _]
  exact hr h2 I2 F
theorem ix20 {s k : Nat} (hs : s < 2) (hk : k < 20) : (20 * Int32.ofNat s + Int32.ofNat k).toNatClampNeg = 20 * s + k ∧ vp_in (20 * Int32.ofNat s + Int32.ofNat k) 40 := by
  have t20 : (20 : Int32).toInt = 20 := rfl
  have es := on_j (n := s) (by omega)
  have ek := on_j (n := k) (by omega)
  have m1 : (20 * Int32.ofNat s).toInt = 20 * (s : Int) := by rw [tx_mul (by rw [t20, es]; omega) (by rw [t20, es]; omega), t20, es]
  have m2 : (20 * Int32.ofNat s + Int32.ofNat k).toInt = 20 * (s : Int) + k := by rw [tx_add (by omega) (by omega), m1, ek]
  have nn := n_nat (x := 20 * Int32.ofNat s + Int32.ofNat k) (by omega)
  exact ⟨by omega, dp_in (lo := 0) (hi := 39) ⟨by show (0 : Int) ≤ _; omega, by show _ ≤ (39 : Int); omega⟩ (by decide) (by decide)⟩
theorem d_forceOf (d s : Nat) (hs : s < 2) {h : Hp_} (I : Iv h) (x2 x3 : Int32) : ∃ r : Int32, rin r.toInt (-1, 19) ∧ ∀ h2, Iv h2 → Fr wzE h h2 → Ci (m_X12_forceOf (d + 0) 0 0) [.ref 1, .int (Int32.ofNat s), .int x2, .int x3] h2 (fun r' h' => r' = r ∧ h' = h2) := by
  have b := dp_rg I 235 s (show tfa 235 = some (0, 20) by decide +kernel)
  have b0 : 0 ≤ (h_i h 235 s).toInt := b.1
  have b1 : (h_i h 235 s).toInt ≤ 20 := b.2
  have nc := n_nat b0
  have v1 : vp_in (Int32.ofNat s) 2 := on_in hs (by decide)
  have k1 : (Int32.ofNat s).toNatClampNeg = s := on_k (by omega)
  have lp : ∀ (n k : Nat) (x4 : Int32), (x4 = -1 ∨ ∃ m, m < 20 ∧ x4 = Int32.ofNat m) → k + n = (h_i h 235 s).toNatClampNeg → ∃ r : Int32, rin r.toInt (-1, 19) ∧ ∀ h2, Iv h2 → Fr wzE h h2 → AW (m_X12_forceOf (d + 0) 0 0) 0 0 6 [(0, .ref 1), (1, .int (Int32.ofNat s)), (2, .int x2), (3, .int x3), (4, .int x4), (5, .int (Int32.ofNat k))] [] h2 (kI (fun r' h' => r' = r ∧ h' = h2)) := by
    intro n
    induction n with
    | zero =>
      intro k x4 o e
      have ok := on_j (n := k) (by omega)
      refine ⟨x4, ?_, fun h2 I2 F => t_X12_forceOf_6 d h2 I2.1 _ x2 x3 x4 _ _ ⟨v1, fun _ => ⟨rfl, rfl⟩, fun z => ?_⟩⟩
      · rcases o with u | ⟨m, lm, u⟩
        · rw [u]; exact ⟨by decide, by decide⟩
        · rw [u, on_j (by omega)]; exact ⟨by show (-1 : Int) ≤ _; omega, by show _ ≤ (19 : Int); omega⟩
      · rw [k1, fr_i F (a := 235) (by decide +kernel) s] at z
        have z := q_nle z
        omega
    | succ n ih =>
      intro k x4 o e
      have ok := on_j (n := k) (by omega)
      obtain ⟨jx, vx⟩ := ix20 (s := s) (k := k) hs (by omega)
      have v4 : ¬ x4 = -1 → vp_in (20 * Int32.ofNat s + x4) 40 := fun y => by
        rcases o with u | ⟨m, lm, u⟩
        · exact absurd u y
        · rw [u]; exact (ix20 hs lm).2
      by_cases P : ¬ x3 < h_i h 234 (20 * s + k) ∧ ¬ x2 < h_i h 233 (20 * s + k) ∧ (x4 = -1 ∨ ¬ h_i h 233 (20 * s + k) < h_i h 233 (20 * Int32.ofNat s + x4).toNatClampNeg)
      · obtain ⟨r, hb, hr⟩ := ih (k + 1) (Int32.ofNat k) (Or.inr ⟨k, by omega, rfl⟩) (by omega)
        refine ⟨r, hb, fun h2 I2 F => t_X12_forceOf_6 d h2 I2.1 _ x2 x3 x4 _ _ ⟨v1, fun z => ?_, fun _ => ?_⟩⟩
        · rw [k1, fr_i F (a := 235) (by decide +kernel) s] at z
          have z := q_le.mp z
          omega
        · have go := hr h2 I2 F
          rw [jx, fr_i F (a := 234) (by decide +kernel) _, fr_i F (a := 233) (by decide +kernel) (20 * s + k), fr_i F (a := 233) (by decide +kernel) (20 * Int32.ofNat s + x4).toNatClampNeg, on_s (by omega)]
          exact ⟨vx, fun y => absurd y P.1, fun _ => ⟨vx, fun y => absurd y P.2.1, fun _ => ⟨fun _ => go, fun y => ⟨vx, v4 y, fun z => absurd z (P.2.2.resolve_left y), fun _ => go⟩⟩⟩⟩
      · obtain ⟨r, hb, hr⟩ := ih (k + 1) x4 o (by omega)
        refine ⟨r, hb, fun h2 I2 F => t_X12_forceOf_6 d h2 I2.1 _ x2 x3 x4 _ _ ⟨v1, fun z => ?_, fun _ => ?_⟩⟩
        · rw [k1, fr_i F (a := 235) (by decide +kernel) s] at z
          have z := q_le.mp z
          omega
        · have go := hr h2 I2 F
          rw [jx, fr_i F (a := 234) (by decide +kernel) _, fr_i F (a := 233) (by decide +kernel) (20 * s + k), fr_i F (a := 233) (by decide +kernel) (20 * Int32.ofNat s + x4).toNatClampNeg, on_s (by omega)]
          exact ⟨vx, fun _ => go, fun y1 => ⟨vx, fun _ => go, fun y2 => ⟨fun y => absurd ⟨y1, y2, Or.inl y⟩ P, fun y => ⟨vx, v4 y, fun _ => go, fun z => absurd ⟨y1, y2, Or.inr z⟩ P⟩⟩⟩⟩
  obtain ⟨r, hb, hr⟩ := lp (h_i h 235 s).toNatClampNeg 0 (-1) (Or.inl rfl) (by omega)
  exact ⟨r, hb, fun h2 I2 F => t_X12_forceOf d h2 _ x2 x3 _ (hr h2 I2 F)⟩
end
section
/-! lets and payOf: the same answer from every heap that has the same of what they read -/
def lNat (k : Nat) : Nat := [107, 119, 112, 104, 100, 99, 110, 101, 116].getD k 0
def ltN (v : Nat → Int32) : Nat → (Nat → Int32) → Nat → Int32
  | 0, e => e
  | k + 1, e => upp (ltN v k e) (lNat k) (v k)
theorem lt9 (v e e' : Nat → Int32) {c : Int32} (o : okl 1 c = true) : ltN v 9 e c.toNatClampNeg = ltN v 9 e' c.toNatClampNeg := by
  have o : ([99, 116, 107, 119, 112, 104, 100, 110, 101] : List Int32).any (fun x => decide (x = c)) = true := o
  obtain ⟨x, hx, ex⟩ := List.any_eq_true.mp o
  have ex := of_decide_eq_true ex
  subst ex
  simp only [List.mem_cons, List.not_mem_nil, or_false] at hx
  rcases hx with u | u | u | u | u | u | u | u | u <;> subst u
  · rw [show (99 : Int32).toNatClampNeg = 99 by simp]; rfl
  · rw [show (116 : Int32).toNatClampNeg = 116 by simp]; rfl
  · rw [show (107 : Int32).toNatClampNeg = 107 by simp]; rfl
  · rw [show (119 : Int32).toNatClampNeg = 119 by simp]; rfl
  · rw [show (112 : Int32).toNatClampNeg = 112 by simp]; rfl
  · rw [show (104 : Int32).toNatClampNeg = 104 by simp]; rfl
  · rw [show (100 : Int32).toNatClampNeg = 100 by simp]; rfl
  · rw [show (110 : Int32).toNatClampNeg = 110 by simp]; rfl
  · rw [show (101 : Int32).toNatClampNeg = 101 by simp]; rfl
theorem tl9 {k : Nat} (hk : k < 9) : ((tby 1).getD k 0).toNatClampNeg = lNat k ∧ vp_in ((tby 1).getD k 0) 128 := by
  have g : ∀ x : Int32, rin x.toInt (0, 127) → vp_in x 128 := fun x b => dp_in b (by decide) (by decide)
  match k, hk with
  | 0, _ => exact ⟨by show (107 : Int32).toNatClampNeg = 107; simp, g _ ⟨by decide, by decide⟩⟩
  | 1, _ => exact ⟨by show (119 : Int32).toNatClampNeg = 119; simp, g _ ⟨by decide, by decide⟩⟩
  | 2, _ => exact ⟨by show (112 : Int32).toNatClampNeg = 112; simp, g _ ⟨by decide, by decide⟩⟩
  | 3, _ => exact ⟨by show (104 : Int32).toNatClampNeg = 104; simp, g _ ⟨by decide, by decide⟩⟩
  | 4, _ => exact ⟨by show (100 : Int32).toNatClampNeg = 100; simp, g _ ⟨by decide, by decide⟩⟩
  | 5, _ => exact ⟨by show (99 : Int32).toNatClampNeg = 99; simp, g _ ⟨by decide, by decide⟩⟩
  | 6, _ => exact ⟨by show (110 : Int32).toNatClampNeg = 110; simp, g _ ⟨by decide, by decide⟩⟩
  | 7, _ => exact ⟨by show (101 : Int32).toNatClampNeg = 101; simp, g _ ⟨by decide, by decide⟩⟩
  | 8, _ => exact ⟨by show (116 : Int32).toNatClampNeg = 116; simp, g _ ⟨by decide, by decide⟩⟩
  | k + 9, h => exact absurd h (by omega)
theorem lr_is (h : Hp_) (k : Nat) (v : Int32) : h_i (h_im h 236 k v) 236 = upp (h_i h 236) k v := funext (fun j => by
  rw [h_i_im]
  unfold upp
  by_cases y : j = k
  · rw [if_pos ⟨rfl, y⟩, if_pos y]
  · rw [if_neg (fun u => y u.2), if_neg y])
theorem i236 {h : Hp_} (I : Iv h) (k : Nat) (x : Int32) : Iv (h_im h 236 k x) := tr_ 236 (by decide +kernel) I k x (by decide) (by decide)
theorem d_lets (d : Nat) {h : Hp_} (I : Iv h) (i : Nat) (hi : i < 300) (x2 : Int32) : ∃ r, ∀ h2, Iv h2 → Fr wzE h h2 → Ci (m_X12_lets (d + 6) 0 0) [.ref 1, .int (Int32.ofNat i), .int x2] h2 (Dp r h2) := by
  obtain ⟨f, fb, hf⟩ := d_forceOf d 0 (by decide) I (h_i h 257 i / 1440) x2
  obtain ⟨r, hr⟩ := d_tell d 0 (by decide) I f fb (ltN (fun k => h_i h 261 (9 * i + k)) 9 (fun _ => 0))
  have vi : vp_in (Int32.ofNat i) 300 := on_in hi (by decide)
  have ki : (Int32.ofNat i).toNatClampNeg = i := on_k (by omega)
  have oi := on_j (n := i) (by omega)
  have t9 : (9 : Int32).toInt = 9 := rfl
  refine ⟨r, fun h2 I2 F => t_X12_lets d h2 _ x2 _ ?_⟩
  have lp : ∀ (n k : Nat) (h3 : Hp_), k + n = 9 → Iv h3 → Fr wzL h2 h3 → h_i h3 236 = ltN (fun k => h_i h 261 (9 * i + k)) k (h_i h2 236) → AW (m_X12_lets (d + 6) 0 0) 0 0 2 [(0, .ref 1), (1, .int (Int32.ofNat i)), (2, .int x2), (3, .int (Int32.ofNat k))] [] h3 (kI (Dp r h2)) := by
    intro n
    induction n with
    | zero =>
      intro k h3 e I3 F3 L3
      have ok := on_j (n := k) (by omega)
      have F' : Fr wzE h h3 := F.tr (F3.more (by decide +kernel))
      refine t_X12_lets_2 d h3 I3.1 _ x2 _ _ ⟨fun _ => ⟨vi, ?_⟩, fun z => ?_⟩
      · rw [ki, fr_i F' (a := 257) (by decide +kernel) i]
        refine Ci.mono (hf h3 I3 F') (fun r4 h4 k4 => ?_)
        rw [k4.1, k4.2]
        refine ⟨I3.1, Ci.mono (hr h3 I3 F' (fun c o => ?_)) (fun r5 h5 k5 => ⟨k5.2.1.1, k5.1, k5.2.1, F3.tr k5.2.2⟩)⟩
        rw [L3, show k = 9 by omega]
        exact lt9 _ _ _ o
      · have z := q_nle z
        omega
    | succ n ih =>
      intro k h3 e I3 F3 L3
      have ok := on_j (n := k) (by omega)
      have F' : Fr wzE h h3 := F.tr (F3.more (by decide +kernel))
      obtain ⟨lk, lv⟩ := tl9 (k := k) (by omega)
      have m1 : (9 * Int32.ofNat i).toInt = 9 * (i : Int) := by rw [tx_mul (by rw [t9, oi]; omega) (by rw [t9, oi]; omega), t9, oi]
      have m2 : (9 * Int32.ofNat i + Int32.ofNat k).toInt = 9 * (i : Int) + k := by rw [tx_add (by omega) (by omega), m1, ok]
      have nn := n_nat (x := 9 * Int32.ofNat i + Int32.ofNat k) (by omega)
      have jn : (9 * Int32.ofNat i + Int32.ofNat k).toNatClampNeg = 9 * i + k := by omega
      refine t_X12_lets_2 d h3 I3.1 _ x2 _ _ ⟨fun z => ?_, fun _ => ?_⟩
      · have z := q_le.mp z
        omega
      · refine Ci.mono (c_letterFor (d + 1) k (by omega) h3) (fun r4 h4 k4 => ?_)
        rw [k4.1, k4.2]
        refine ⟨I3.1, dp_in (lo := 0) (hi := 2699) ⟨by show (0 : Int) ≤ _; omega, by show _ ≤ (2699 : Int); omega⟩ (by decide) (by decide), lv, ?_⟩
        rw [jn, lk, on_s (by omega), fr_i F' (a := 261) (by decide +kernel) _]
        refine ih (k + 1) _ (by omega) (i236 I3 _ _) (F3.im (inw_row (by decide +kernel) _)) ?_
        rw [lr_is, L3]
        rfl
  exact lp 9 0 h2 rfl I2 (Fr.rf _ _) rfl
def up6 (e : Nat → Int32) (c y m x t a : Int32) : Nat → Int32 := upp (upp (upp (upp (upp (upp e 99 c) 121 y) 109 m) 120 x) 116 t) 97 a
theorem lt6 (e e' : Nat → Int32) (r y m x t a : Int32) {c : Int32} (o : okl 2 c = true) : up6 e r y m x t a c.toNatClampNeg = up6 e' r y m x t a c.toNatClampNeg := by
  have o : ([99, 116, 121, 109, 120, 97] : List Int32).any (fun x => decide (x = c)) = true := o
  obtain ⟨z, hz, ez⟩ := List.any_eq_true.mp o
  have ez := of_decide_eq_true ez
  subst ez
  simp only [List.mem_cons, List.not_mem_nil, or_false] at hz
  rcases hz with u | u | u | u | u | u <;> subst u
  · rw [show (99 : Int32).toNatClampNeg = 99 by simp]; rfl
  · rw [show (116 : Int32).toNatClampNeg = 116 by simp]; rfl
  · rw [show (121 : Int32).toNatClampNeg = 121 by simp]; rfl
  · rw [show (109 : Int32).toNatClampNeg = 109 by simp]; rfl
  · rw [show (120 : Int32).toNatClampNeg = 120 by simp]; rfl
  · rw [show (97 : Int32).toNatClampNeg = 97 by simp]; rfl
theorem py_end (d : Nat) {h : Hp_} (I : Iv h) (c : Nat) (hc : c < 12) (x2 x3 x4 x5 x6 x7 : Int32) : ∃ r, ∀ h2, Iv h2 → Fr wzE h h2 → Ci (m_X12_rankOn (d + 0) 0 0) [.ref 1, .int (Int32.ofNat c), .int x2, .int x3] h2 (fun r26 h24 => Wf h24 ∧ (vp_in 99 128 ∧ (vp_in (Int32.ofNat c) 12 ∧ (vp_in 121 128 ∧ (vp_in 109 128 ∧ (vp_in 120 128 ∧ (vp_in 116 128 ∧ (vp_in 97 128 ∧ (Ci (m_X12_forceOf (d + 0) 0 0) [.ref 1, .int 1, .int x2, .int x3] (h_im (h_im (h_im (h_im (h_im (h_im h24 236 (99 : Int32).toNatClampNeg r26) 236 (121 : Int32).toNatClampNeg (h_i h24 205 (Int32.ofNat c).toNatClampNeg)) 236 (109 : Int32).toNatClampNeg x4) 236 (120 : Int32).toNatClampNeg x5) 236 (116 : Int32).toNatClampNeg x6) 236 (97 : Int32).toNatClampNeg x7) (fun r36 h34 => Wf h34 ∧ (Ci (m_X12_tell (d + 4) 0 0) [.ref 1, .int 1, .int r36] h34 (fun r39 h37 => Wf h37 ∧ (Dp r h2 (if 0 < (if r39 < 10000 then r39 else 10000) then (if r39 < 10000 then r39 else 10000) else 0) h37))))))))))))) := by
  have v1 : vp_in (Int32.ofNat c) 12 := on_in hc (by decide)
  have k1 : (Int32.ofNat c).toNatClampNeg = c := on_k (by omega)
  obtain ⟨rk, hrk⟩ := d_rankOn d I (Int32.ofNat c) x2 x3 v1
  obtain ⟨f, fb, hf⟩ := d_forceOf d 1 (by decide) I x2 x3
  obtain ⟨t, ht⟩ := d_tell d 1 (by decide) I f fb (up6 (fun _ => 0) rk (h_i h 205 c) x4 x5 x6 x7)
  have g : ∀ x : Int32, rin x.toInt (0, 127) → vp_in x 128 := fun x b => dp_in b (by decide) (by decide)
  refine ⟨if 0 < (if t < 10000 then t else 10000) then (if t < 10000 then t else 10000) else 0, fun h2 I2 F => Ci.mono (hrk h2 I2 F) (fun r' h' k => ?_)⟩
  rw [k.1, k.2]
  refine ⟨I2.1, g _ ⟨by decide, by decide⟩, v1, g _ ⟨by decide, by decide⟩, g _ ⟨by decide, by decide⟩, g _ ⟨by decide, by decide⟩, g _ ⟨by decide, by decide⟩, g _ ⟨by decide, by decide⟩, ?_⟩
  rw [show (99 : Int32).toNatClampNeg = 99 by simp, show (121 : Int32).toNatClampNeg = 121 by simp, show (109 : Int32).toNatClampNeg = 109 by simp, show (120 : Int32).toNatClampNeg = 120 by simp, show (116 : Int32).toNatClampNeg = 116 by simp, show (97 : Int32).toNatClampNeg = 97 by simp, k1, fr_i F (a := 205) (by decide +kernel) c]
  have I3 : Iv (h_im (h_im (h_im (h_im (h_im (h_im h2 236 99 rk) 236 121 (h_i h 205 c)) 236 109 x4) 236 120 x5) 236 116 x6) 236 97 x7) := i236 (i236 (i236 (i236 (i236 (i236 I2 _ _) _ _) _ _) _ _) _ _) _ _
  have F3 : Fr wzL h2 (h_im (h_im (h_im (h_im (h_im (h_im h2 236 99 rk) 236 121 (h_i h 205 c)) 236 109 x4) 236 120 x5) 236 116 x6) 236 97 x7) := ((((((Fr.rf _ _).im (inw_row (by decide +kernel) _)).im (inw_row (by decide +kernel) _)).im (inw_row (by decide +kernel) _)).im (inw_row (by decide +kernel) _)).im (inw_row (by decide +kernel) _)).im (inw_row (by decide +kernel) _)
  have L3 : h_i (h_im (h_im (h_im (h_im (h_im (h_im h2 236 99 rk) 236 121 (h_i h 205 c)) 236 109 x4) 236 120 x5) 236 116 x6) 236 97 x7) 236 = up6 (h_i h2 236) rk (h_i h 205 c) x4 x5 x6 x7 := by rw [lr_is, lr_is, lr_is, lr_is, lr_is, lr_is]; rfl
  generalize h_im (h_im (h_im (h_im (h_im (h_im h2 236 99 rk) 236 121 (h_i h 205 c)) 236 109 x4) 236 120 x5) 236 116 x6) 236 97 x7 = h3 at I3 F3 L3 ⊢
  have F' : Fr wzE h h3 := F.tr (F3.more (by decide +kernel))
  refine Ci.mono (hf h3 I3 F') (fun r4 h4 k4 => ?_)
  rw [k4.1, k4.2]
  refine ⟨I3.1, Ci.mono (ht h3 I3 F' (fun c o => ?_)) (fun r5 h5 k5 => ⟨k5.2.1.1, ?_, k5.2.1, F3.tr k5.2.2⟩)⟩
  · rw [L3]
    exact lt6 _ _ _ _ _ _ _ _ o
  · rw [k5.1]
theorem py_128 (d : Nat) {h : Hp_} (I : Iv h) (c : Nat) (hc : c < 12) (x2 x3 x4 x5 : Int32) : ∀ (n k : Nat) (x6 x7 : Int32), k + n = (h_i h 1 80).toNatClampNeg → ∃ r, ∀ h2, Iv h2 → Fr wzE h h2 → AW (m_X12_payOf (d + 7) 0 0) 0 0 128 [(0, .ref 1), (1, .int (Int32.ofNat c)), (2, .int x2), (3, .int x3), (4, .int x4), (5, .int x5), (6, .int x6), (7, .int x7), (8, .int (Int32.ofNat k))] [] h2 (kI (Dp r h2)) := by
  have c80 := I.2.1 1 80
  rw [show tf 1 80 = (0, 300) by decide +kernel] at c80
  have b0 : 0 ≤ (h_i h 1 80).toInt := c80.1
  have b1 : (h_i h 1 80).toInt ≤ 300 := c80.2
  have nc := n_nat b0
  intro n
  induction n with
  | zero =>
    intro k x6 x7 e
    have ok := on_j (n := k) (by omega)
    obtain ⟨r, hr⟩ := py_end d I c hc x2 x3 x4 x5 x6 x7
    refine ⟨r, fun h2 I2 F => t_X12_payOf_128 d h2 I2.1 _ x2 x3 x4 x5 x6 x7 _ _ ⟨fun _ => hr h2 I2 F, fun z => ?_⟩⟩
    rw [(F.2 1 80 (by decide +kernel)).1] at z
    have z := q_nle z
    omega
  | succ n ih =>
    intro k x6 x7 e
    have ok := on_j (n := k) (by omega)
    have kk := on_k (n := k) (by omega)
    have v : vp_in (Int32.ofNat k) 300 := on_in (by omega) (by decide)
    by_cases P : h_i h 255 k = Int32.ofNat c ∧ h_i h 257 k / 1440 = x2 ∧ h_i h 258 k = 3
    · obtain ⟨l, hl⟩ := d_lets d I k (by omega) x3
      by_cases l3 : l = 3
      · obtain ⟨r, hr⟩ := ih (k + 1) (x6 + 1) (x7 + 0) (by omega)
        refine ⟨r, fun h2 I2 F => t_X12_payOf_128 d h2 I2.1 _ x2 x3 x4 x5 x6 x7 _ _ ⟨fun z => ?_, fun _ => ?_⟩⟩
        · rw [(F.2 1 80 (by decide +kernel)).1] at z
          have z := q_le.mp z
          omega
        · rw [kk, fr_i F (a := 255) (by decide +kernel) k, fr_i F (a := 257) (by decide +kernel) k, fr_i F (a := 258) (by decide +kernel) k, on_s (by omega)]
          refine ⟨v, fun y => absurd P.1 y, fun _ => ⟨v, fun y => absurd P.2.1 y, fun _ => ⟨v, fun y => absurd P.2.2 y, fun _ => Ci.mono (hl h2 I2 F) (fun r4 h4 k4 => ⟨k4.2.1.1, fun y => absurd (k4.1.trans l3) y, fun _ => ?_⟩)⟩⟩⟩
          exact AW.mono (hr h4 k4.2.1 (F.tr (k4.2.2.more (by decide +kernel)))) (fun u h' q => by
            obtain ⟨r', ev, e1, i1, f1⟩ := q
            exact ⟨r', ev, e1, i1, k4.2.2.tr f1⟩)
      · obtain ⟨r, hr⟩ := ih (k + 1) (x6 + 0) (x7 + 1) (by omega)
        refine ⟨r, fun h2 I2 F => t_X12_payOf_128 d h2 I2.1 _ x2 x3 x4 x5 x6 x7 _ _ ⟨fun z => ?_, fun _ => ?_⟩⟩
        · rw [(F.2 1 80 (by decide +kernel)).1] at z
          have z := q_le.mp z
          omega
        · rw [kk, fr_i F (a := 255) (by decide +kernel) k, fr_i F (a := 257) (by decide +kernel) k, fr_i F (a := 258) (by decide +kernel) k, on_s (by omega)]
          refine ⟨v, fun y => absurd P.1 y, fun _ => ⟨v, fun y => absurd P.2.1 y, fun _ => ⟨v, fun y => absurd P.2.2 y, fun _ => Ci.mono (hl h2 I2 F) (fun r4 h4 k4 => ⟨k4.2.1.1, fun _ => ?_, fun y => absurd (k4.1.symm.trans y) l3⟩)⟩⟩⟩
          exact AW.mono (hr h4 k4.2.1 (F.tr (k4.2.2.more (by decide +kernel)))) (fun u h' q => by
            obtain ⟨r', ev, e1, i1, f1⟩ := q
            exact ⟨r', ev, e1, i1, k4.2.2.tr f1⟩)
    · obtain ⟨r, hr⟩ := ih (k + 1) x6 x7 (by omega)
      refine ⟨r, fun h2 I2 F => t_X12_payOf_128 d h2 I2.1 _ x2 x3 x4 x5 x6 x7 _ _ ⟨fun z => ?_, fun _ => ?_⟩⟩
      · rw [(F.2 1 80 (by decide +kernel)).1] at z
        have z := q_le.mp z
        omega
      · have go := hr h2 I2 F
        rw [kk, fr_i F (a := 255) (by decide +kernel) k, fr_i F (a := 257) (by decide +kernel) k, fr_i F (a := 258) (by decide +kernel) k, on_s (by omega)]
        exact ⟨v, fun _ => go, fun y1 => ⟨v, fun _ => go, fun y2 => ⟨v, fun _ => go, fun y3 => absurd ⟨y1, y2, y3⟩ P⟩⟩⟩
theorem d_payOf (d : Nat) {h : Hp_} (I : Iv h) (c : Nat) (hc : c < 12) (x2 x3 : Int32) : ∃ r, ∀ h2, Iv h2 → Fr wzE h h2 → Ci (m_X12_payOf (d + 7) 0 0) [.ref 1, .int (Int32.ofNat c), .int x2, .int x3] h2 (Dp r h2) := by
  have c63 := rows_in I
  have b0 : 0 ≤ (h_i h 1 63).toInt := c63.1
  have b1 : (h_i h 1 63).toInt ≤ 400 := c63.2
  have nc := n_nat b0
  have lp : ∀ (n k : Nat) (x4 x5 : Int32), k + n = (h_i h 1 63).toNatClampNeg → ∃ r, ∀ h2, Iv h2 → Fr wzE h h2 → AW (m_X12_payOf (d + 7) 0 0) 0 0 9 [(0, .ref 1), (1, .int (Int32.ofNat c)), (2, .int x2), (3, .int x3), (4, .int x4), (5, .int x5), (6, .int (Int32.ofNat k))] [] h2 (kI (Dp r h2)) := by
    intro n
    induction n with
    | zero =>
      intro k x4 x5 e
      have ok := on_j (n := k) (by omega)
      obtain ⟨r, hr⟩ := py_128 d I c hc x2 x3 x4 x5 (h_i h 1 80).toNatClampNeg 0 0 0 (by omega)
      refine ⟨r, fun h2 I2 F => t_X12_payOf_9 d h2 I2.1 _ x2 x3 x4 x5 _ _ ⟨fun _ => hr h2 I2 F, fun z => ?_⟩⟩
      rw [(F.2 1 63 (by decide +kernel)).1] at z
      have z := q_nle z
      omega
    | succ n ih =>
      intro k x4 x5 e
      have ok := on_j (n := k) (by omega)
      have kk := on_k (n := k) (by omega)
      have v : vp_in (Int32.ofNat k) 400 := on_in (by omega) (by decide)
      have st : ∀ h2, Iv h2 → Fr wzE h h2 → h_i h2 1 63 ≤ Int32.ofNat k → False := fun h2 I2 F z => by
        rw [(F.2 1 63 (by decide +kernel)).1] at z
        have z := q_le.mp z
        omega
      by_cases P : h_i h 238 k = Int32.ofNat c ∧ h_i h 240 k / 1440 = x2
      · obtain ⟨s, hs⟩ := d_stateOf d (h := h) (Int32.ofNat k) x3 v
        by_cases s2 : s = 2
        · obtain ⟨u, hu⟩ := d_causeOf d I (Int32.ofNat k) x3 v
          by_cases q : u = 1 ∨ ¬ u < 5
          · obtain ⟨r, hr⟩ := ih (k + 1) (x4 + 0) (x5 + 1) (by omega)
            refine ⟨r, fun h2 I2 F => t_X12_payOf_9 d h2 I2.1 _ x2 x3 x4 x5 _ _ ⟨fun z => (st h2 I2 F z).elim, fun _ => ?_⟩⟩
            have go := hr h2 I2 F
            rw [kk, fr_i F (a := 238) (by decide +kernel) k, fr_i F (a := 240) (by decide +kernel) k, on_s (by omega)]
            refine ⟨v, fun y => absurd P.1 y, fun _ => ⟨v, fun _ => Ci.mono (hs h2 I2 F) (fun r4 h4 k4 => ?_), fun y => absurd P.2 y⟩⟩
            rw [k4.1, k4.2]
            refine ⟨I2.1, fun y => absurd s2 y, fun _ => Ci.mono (hu h2 I2 F) (fun r5 h5 k5 => ?_)⟩
            rw [k5.1, k5.2]
            exact ⟨I2.1, fun _ => ⟨fun _ => go, fun y => ⟨fun w => absurd w (q.resolve_left y), fun _ => go⟩⟩, fun y => absurd (s2.symm.trans y) (by decide)⟩
          · obtain ⟨r, hr⟩ := ih (k + 1) (x4 + 0) (x5 + 0) (by omega)
            refine ⟨r, fun h2 I2 F => t_X12_payOf_9 d h2 I2.1 _ x2 x3 x4 x5 _ _ ⟨fun z => (st h2 I2 F z).elim, fun _ => ?_⟩⟩
            have go := hr h2 I2 F
            rw [kk, fr_i F (a := 238) (by decide +kernel) k, fr_i F (a := 240) (by decide +kernel) k, on_s (by omega)]
            refine ⟨v, fun y => absurd P.1 y, fun _ => ⟨v, fun _ => Ci.mono (hs h2 I2 F) (fun r4 h4 k4 => ?_), fun y => absurd P.2 y⟩⟩
            rw [k4.1, k4.2]
            refine ⟨I2.1, fun y => absurd s2 y, fun _ => Ci.mono (hu h2 I2 F) (fun r5 h5 k5 => ?_)⟩
            rw [k5.1, k5.2]
            exact ⟨I2.1, fun _ => ⟨fun y => absurd (Or.inl y) q, fun _ => ⟨fun _ => go, fun y => absurd (Or.inr y) q⟩⟩, fun y => absurd (s2.symm.trans y) (by decide)⟩
        · by_cases s1 : s = 1
          · obtain ⟨r, hr⟩ := ih (k + 1) (x4 + 1) (x5 + 0) (by omega)
            refine ⟨r, fun h2 I2 F => t_X12_payOf_9 d h2 I2.1 _ x2 x3 x4 x5 _ _ ⟨fun z => (st h2 I2 F z).elim, fun _ => ?_⟩⟩
            have go := hr h2 I2 F
            rw [kk, fr_i F (a := 238) (by decide +kernel) k, fr_i F (a := 240) (by decide +kernel) k, on_s (by omega)]
            refine ⟨v, fun y => absurd P.1 y, fun _ => ⟨v, fun _ => Ci.mono (hs h2 I2 F) (fun r4 h4 k4 => ?_), fun y => absurd P.2 y⟩⟩
            rw [k4.1, k4.2]
            exact ⟨I2.1, fun _ => ⟨fun y => absurd s1 y, fun _ => go⟩, fun y => absurd y s2⟩
          · obtain ⟨r, hr⟩ := ih (k + 1) (x4 + 0) (x5 + 0) (by omega)
            refine ⟨r, fun h2 I2 F => t_X12_payOf_9 d h2 I2.1 _ x2 x3 x4 x5 _ _ ⟨fun z => (st h2 I2 F z).elim, fun _ => ?_⟩⟩
            have go := hr h2 I2 F
            rw [kk, fr_i F (a := 238) (by decide +kernel) k, fr_i F (a := 240) (by decide +kernel) k, on_s (by omega)]
            refine ⟨v, fun y => absurd P.1 y, fun _ => ⟨v, fun _ => Ci.mono (hs h2 I2 F) (fun r4 h4 k4 => ?_), fun y => absurd P.2 y⟩⟩
            rw [k4.1, k4.2]
            exact ⟨I2.1, fun _ => ⟨fun _ => go, fun y => absurd y s1⟩, fun y => absurd y s2⟩
      · obtain ⟨r, hr⟩ := ih (k + 1) x4 x5 (by omega)
        refine ⟨r, fun h2 I2 F => t_X12_payOf_9 d h2 I2.1 _ x2 x3 x4 x5 _ _ ⟨fun z => (st h2 I2 F z).elim, fun _ => ?_⟩⟩
        have go := hr h2 I2 F
        rw [kk, fr_i F (a := 238) (by decide +kernel) k, fr_i F (a := 240) (by decide +kernel) k, on_s (by omega)]
        exact ⟨v, fun _ => go, fun y1 => ⟨v, fun y2 => absurd ⟨y1, y2⟩ P, fun _ => go⟩⟩
  obtain ⟨r, hr⟩ := lp (h_i h 1 63).toNatClampNeg 0 0 0 (by omega)
  exact ⟨r, fun h2 I2 F => t_X12_payOf d h2 _ x2 x3 _ (hr h2 I2 F)⟩
end
section
/-! book of the reference: twice the same pay, so that its lines have room -/
def bkR (P : Nat → Nat → Int32) (bk : Nat → Int32) (day : Nat) : Nat → Nat → Nat
  | 0, _ => 0
  | n + 1, c => (if P c day = bk (31 * c + day) then 0 else 1) + bkR P bk day n (c + 1)
def bkT (P : Nat → Nat → Int32) (bk : Nat → Int32) (M : Nat) : Nat → Nat → Nat
  | 0, _ => 0
  | n + 1, day => bkR P bk day M 0 + bkT P bk M n (day + 1)
theorem bkR_le {P : Nat → Nat → Int32} {bk : Nat → Int32} {day : Nat} : ∀ {n c : Nat}, bkR P bk day n c ≤ n
  | 0, _ => Nat.le_refl _
  | n + 1, c => by
    have := bkR_le (P := P) (bk := bk) (day := day) (n := n) (c := c + 1)
    show (if P c day = bk (31 * c + day) then 0 else 1) + bkR P bk day n (c + 1) ≤ n + 1
    split <;> omega
theorem bkT_le {P : Nat → Nat → Int32} {bk : Nat → Int32} {M : Nat} (hM : M ≤ 12) : ∀ {n day : Nat}, bkT P bk M n day ≤ 12 * n
  | 0, _ => Nat.le_refl _
  | n + 1, day => by
    have a := bkT_le (P := P) (bk := bk) hM (n := n) (day := day + 1)
    have b := bkR_le (P := P) (bk := bk) (day := day) (n := M) (c := 0)
    show bkR P bk day M 0 + bkT P bk M n (day + 1) ≤ 12 * (n + 1)
    omega
theorem ix31 {c day : Nat} (hc : c < 12) (hd : day < 31) : (31 * Int32.ofNat c + Int32.ofNat day).toNatClampNeg = 31 * c + day ∧ vp_in (31 * Int32.ofNat c + Int32.ofNat day) 372 := by
  have t31 : (31 : Int32).toInt = 31 := rfl
  have es := on_j (n := c) (by omega)
  have ek := on_j (n := day) (by omega)
  have m1 : (31 * Int32.ofNat c).toInt = 31 * (c : Int) := by rw [tx_mul (by rw [t31, es]; omega) (by rw [t31, es]; omega), t31, es]
  have m2 : (31 * Int32.ofNat c + Int32.ofNat day).toInt = 31 * (c : Int) + day := by rw [tx_add (by omega) (by omega), m1, ek]
  have nn := n_nat (x := 31 * Int32.ofNat c + Int32.ofNat day) (by omega)
  exact ⟨by omega, dp_in (lo := 0) (hi := 371) ⟨by show (0 : Int) ≤ _; omega, by show _ ≤ (371 : Int); omega⟩ (by decide) (by decide)⟩
/-- what is the same all through: the men, the days, the pay of each -/
def Bk (d : Nat) (h : Hp_) (M D : Nat) (P : Nat → Nat → Int32) : Prop := Iv h ∧ M ≤ 12 ∧ D ≤ 13 ∧ h_i h 1 7 = Int32.ofNat M ∧ h_i h 1 0 / 1440 = Int32.ofNat D ∧ ∀ c day, c < 12 → ∀ h2, Iv h2 → Fr wzE h h2 → Ci (m_X12_payOf (d + 7) 0 0) [.ref 1, .int (Int32.ofNat c), .int (Int32.ofNat day), .int (h_i h 1 0)] h2 (Dp (P c day) h2)
abbrev bK (h : Hp_) : Option Value → Hp_ → Prop := kI (fun _ h' => Iv h' ∧ Fr wzE h h')
/-- behind day and man the books are as they were -/
def Bo (h : Hp_) (day c : Nat) (h2 : Hp_) : Prop := Iv h2 ∧ Fr wzE h h2 ∧ ∀ c' day', c' < 12 → day' < 31 → (day < day' ∨ (day' = day ∧ c ≤ c')) → h_i h2 293 (31 * c' + day') = h_i h 293 (31 * c' + day')
theorem lines_in {h : Hp_} (I : Iv h) : rin (h_i h 1 127).toInt (0, 600) := by
  have := I.2.1 1 127
  rwa [show tf 1 127 = (0, 600) by decide +kernel] at this
theorem bk_100 (d : Nat) {h : Hp_} {M D : Nat} {P : Nat → Nat → Int32} (B : Bk d h M D P) (x1 : Int32) (day : Nat) (hd : day < D) (R : Nat)
    (O : ∀ h3, Bo h (day + 1) 0 h3 → (h_i h3 1 127).toInt + (R : Int) ≤ 600 → AW (m_X12_book (d + 8) 0 0) 0 0 86 [(0, .ref 1), (1, .int x1), (2, .int (Int32.ofNat (day + 1)))] [] h3 (bK h)) :
    ∀ (n c : Nat) (h2 : Hp_), c + n = M → Bo h day c h2 → (h_i h2 1 127).toInt + ((bkR P (h_i h 293) day n c + R : Nat) : Int) ≤ 600 → AW (m_X12_book (d + 8) 0 0) 0 0 100 [(0, .ref 1), (1, .int x1), (2, .int (Int32.ofNat day)), (3, .int (Int32.ofNat c))] [] h2 (bK h) := by
  obtain ⟨I, lM, lD, e7, eD, hP⟩ := B
  have oM := on_j (n := M) (by omega)
  have t1 : (1 : Int32).toInt = 1 := rfl
  intro n
  induction n with
  | zero =>
    intro c h2 e b m
    have oc := on_j (n := c) (by omega)
    refine t_X12_book_100 d h2 b.1.1 x1 _ _ _ ⟨fun _ => ?_, fun z => ?_⟩
    · rw [on_s (by omega)]
      refine O h2 ⟨b.1, b.2.1, fun c' day' h1 h2' o => b.2.2 c' day' h1 h2' ?_⟩ ?_
      · rcases o with u | u
        · exact Or.inl (by omega)
        · exact Or.inl (by omega)
      · have m' : (h_i h2 1 127).toInt + ((0 + R : Nat) : Int) ≤ 600 := m
        omega
    · rw [(b.2.1.2 1 7 (by decide +kernel)).1, e7] at z
      have z := q_nle z
      omega
  | succ n ih =>
    intro c h2 e b m
    have oc := on_j (n := c) (by omega)
    obtain ⟨jx, vx⟩ := ix31 (c := c) (day := day) (by omega) (by omega)
    have m' : (h_i h2 1 127).toInt + ((((if P c day = h_i h 293 (31 * c + day) then 0 else 1) + bkR P (h_i h 293) day n (c + 1)) + R : Nat) : Int) ≤ 600 := m
    refine t_X12_book_100 d h2 b.1.1 x1 _ _ _ ⟨fun z => ?_, fun _ => ?_⟩
    · rw [(b.2.1.2 1 7 (by decide +kernel)).1, e7] at z
      have z := q_le.mp z
      omega
    · rw [(b.2.1.2 1 0 (by decide +kernel)).1]
      refine Ci.mono (hP c day (by omega) h2 b.1 b.2.1) (fun r h3 k => ?_)
      obtain ⟨kr, I3, F3⟩ := k
      have F' : Fr wzE h h3 := b.2.1.tr (F3.more (by decide +kernel))
      have l3 : h_i h3 1 127 = h_i h2 1 127 := (F3.2 1 127 (by decide +kernel)).1
      have b3 : ∀ k, h_i h3 293 k = h_i h2 293 k := fun k => fr_i F3 (by decide +kernel) k
      have bc := b.2.2 c day (by omega) (by omega) (Or.inr ⟨rfl, Nat.le_refl _⟩)
      refine ⟨I3.1, vx, fun er => ?_, fun nr => ?_⟩
      · rw [jx, b3, bc, kr] at er
        rw [if_pos er] at m'
        rw [on_s (by omega)]
        refine ih (c + 1) h3 (by omega) ⟨I3, F', fun c' day' h1 h2' o => ?_⟩ (by rw [l3]; omega)
        rw [b3]
        refine b.2.2 c' day' h1 h2' ?_
        rcases o with u | u
        · exact Or.inl u
        · exact Or.inr ⟨u.1, by omega⟩
      · rw [jx, b3, bc, kr] at nr
        rw [if_neg nr] at m'
        have lr := lines_in I3
        have l0 : 0 ≤ (h_i h3 1 127).toInt := lr.1
        have l1 : (h_i h3 1 127).toInt ≤ 599 := by rw [l3]; omega
        have vl : vp_in (h_i h3 1 127) 600 := dp_in (lo := 0) (hi := 599) ⟨l0, by show _ ≤ (599 : Int); omega⟩ (by decide) (by decide)
        have ex : (h_i h3 1 127 + 1).toInt = (h_i h3 1 127).toInt + 1 := by rw [tx_add (by rw [t1]; omega) (by rw [t1]; omega), t1]
        refine ⟨vl, vl, vx, vl, vl, vx, ?_⟩
        rw [jx, on_s (by omega)]
        have l5 : (h_i h2 1 127).toInt = (h_i h3 1 127).toInt := by rw [l3]
        generalize (r - h_i h3 293 (31 * c + day)) = x9
        generalize (h_i h3 1 127).toNatClampNeg = kl
        have I4 : Iv (h_im (h_im (h_im (h_im (h_im (h_im h3 294 kl (Int32.ofNat c)) 295 kl (Int32.ofNat day)) 296 kl x9) 297 kl (h_i h3 1 0)) 1 127 ((h_i h3 1 127) + 1)) 293 (31 * c + day) r) := i2xx 293 (by decide +kernel) (by decide) (by decide) ((i2xx 297 (by decide +kernel) (by decide) (by decide) (i2xx 296 (by decide +kernel) (by decide) (by decide) (i2xx 295 (by decide +kernel) (by decide) (by decide) (i2xx 294 (by decide +kernel) (by decide) (by decide) I3 _ _) _ _) _ _) _ _).im (a := 1) (k := 127) (by rw [show tf 1 127 = (0, 600) by decide +kernel, ex]; exact ⟨by show (0 : Int) ≤ _; omega, by show _ ≤ (600 : Int); omega⟩) (by decide)) _ _
        refine ih (c + 1) _ (by omega) ⟨I4, (((((F'.im (inw_row (by decide +kernel) _)).im (inw_row (by decide +kernel) _)).im (inw_row (by decide +kernel) _)).im (inw_row (by decide +kernel) _)).im (by decide +kernel)).im (inw_row (by decide +kernel) _), fun c' day' h1 h2' o => ?_⟩ ?_
        · rw [h_i_im, if_neg (fun u => by
            have := u.2
            rcases o with v | v
            · omega
            · omega), im_ne (by decide), im_ne (by decide), im_ne (by decide), im_ne (by decide), im_ne (by decide), b3]
          refine b.2.2 c' day' h1 h2' ?_
          rcases o with u | u
          · exact Or.inl u
          · exact Or.inr ⟨u.1, by omega⟩
        · rw [im_ne (by decide), im_at, ex]
          omega
theorem bk_86 (d : Nat) {h : Hp_} {M D : Nat} {P : Nat → Nat → Int32} (B : Bk d h M D P) (x1 : Int32) :
    ∀ (n day : Nat) (h2 : Hp_), day + n = D → Bo h day 0 h2 → (h_i h2 1 127).toInt + (bkT P (h_i h 293) M n day : Int) ≤ 600 → AW (m_X12_book (d + 8) 0 0) 0 0 86 [(0, .ref 1), (1, .int x1), (2, .int (Int32.ofNat day))] [] h2 (bK h) := by
  have B' := B
  obtain ⟨I, lM, lD, e7, eD, hP⟩ := B'
  have oD := on_j (n := D) (by omega)
  intro n
  induction n with
  | zero =>
    intro day h2 e b m
    have od := on_j (n := day) (by omega)
    refine t_X12_book_86 d h2 b.1.1 x1 _ _ ⟨fun _ => ⟨b.1, b.2.1⟩, fun z => ?_⟩
    rw [(b.2.1.2 1 0 (by decide +kernel)).1, eD] at z
    have z := q_nle z
    omega
  | succ n ih =>
    intro day h2 e b m
    have od := on_j (n := day) (by omega)
    refine t_X12_book_86 d h2 b.1.1 x1 _ _ ⟨fun z => ?_, fun _ => ?_⟩
    · rw [(b.2.1.2 1 0 (by decide +kernel)).1, eD] at z
      have z := q_le.mp z
      omega
    · exact bk_100 d B x1 day (by omega) (bkT P (h_i h 293) M n (day + 1)) (fun h3 b3 m3 => ih (day + 1) h3 (by omega) b3 m3) M 0 h2 (by omega) b m
theorem bk_18 (d : Nat) {h : Hp_} {M D : Nat} {P : Nat → Nat → Int32} (B : Bk d h M D P) (T day : Nat) (hT : T ≤ 156) (hd : day < D) (R : Nat)
    (O : ∀ (x1 : Int32) (h3 : Hp_), Iv h3 → Fr wzL h h3 → 0 ≤ x1.toInt → x1.toInt + (R : Int) = T → AW (m_X12_book (d + 8) 0 0) 0 0 4 [(0, .ref 1), (1, .int x1), (2, .int (Int32.ofNat (day + 1)))] [] h3 (bK h)) :
    ∀ (n c : Nat) (x1 : Int32) (h2 : Hp_), c + n = M → Iv h2 → Fr wzL h h2 → 0 ≤ x1.toInt → x1.toInt + ((bkR P (h_i h 293) day n c + R : Nat) : Int) = T → AW (m_X12_book (d + 8) 0 0) 0 0 18 [(0, .ref 1), (1, .int x1), (2, .int (Int32.ofNat day)), (3, .int (Int32.ofNat c))] [] h2 (bK h) := by
  obtain ⟨I, lM, lD, e7, eD, hP⟩ := B
  have oM := on_j (n := M) (by omega)
  have t1 : (1 : Int32).toInt = 1 := rfl
  have t0 : (0 : Int32).toInt = 0 := rfl
  intro n
  induction n with
  | zero =>
    intro c x1 h2 e I2 F p m
    have oc := on_j (n := c) (by omega)
    refine t_X12_book_18 d h2 I2.1 x1 _ _ _ ⟨fun _ => ?_, fun z => ?_⟩
    · rw [on_s (by omega)]
      have m' : x1.toInt + ((0 + R : Nat) : Int) = T := m
      exact O x1 h2 I2 F p (by omega)
    · rw [(F.2 1 7 (by decide +kernel)).1, e7] at z
      have z := q_nle z
      omega
  | succ n ih =>
    intro c x1 h2 e I2 F p m
    have oc := on_j (n := c) (by omega)
    obtain ⟨jx, vx⟩ := ix31 (c := c) (day := day) (by omega) (by omega)
    have m' : x1.toInt + ((((if P c day = h_i h 293 (31 * c + day) then 0 else 1) + bkR P (h_i h 293) day n (c + 1)) + R : Nat) : Int) = T := m
    refine t_X12_book_18 d h2 I2.1 x1 _ _ _ ⟨fun z => ?_, fun _ => ?_⟩
    · rw [(F.2 1 7 (by decide +kernel)).1, e7] at z
      have z := q_le.mp z
      omega
    · rw [(F.2 1 0 (by decide +kernel)).1]
      refine Ci.mono (hP c day (by omega) h2 I2 (F.more (by decide +kernel))) (fun r h3 k => ?_)
      obtain ⟨kr, I3, F3⟩ := k
      have F' : Fr wzL h h3 := F.tr F3
      have b3 : h_i h3 293 (31 * c + day) = h_i h 293 (31 * c + day) := fr_i F' (by decide +kernel) _
      refine ⟨I3.1, vx, fun er => ?_, fun nr => ?_⟩
      · rw [jx, b3, kr] at er
        rw [if_pos er] at m'
        have ea : (x1 + 0).toInt = x1.toInt := by rw [tx_add (by rw [t0]; omega) (by rw [t0]; omega), t0]; omega
        rw [on_s (by omega)]
        exact ih (c + 1) _ h3 (by omega) I3 F' (by omega) (by rw [ea]; omega)
      · rw [jx, b3, kr] at nr
        rw [if_neg nr] at m'
        have ea : (x1 + 1).toInt = x1.toInt + 1 := by rw [tx_add (by rw [t1]; omega) (by rw [t1]; omega), t1]
        rw [on_s (by omega)]
        exact ih (c + 1) _ h3 (by omega) I3 F' (by omega) (by rw [ea]; omega)
theorem bk_4 (d : Nat) {h : Hp_} {M D : Nat} {P : Nat → Nat → Int32} (B : Bk d h M D P) :
    ∀ (n day : Nat) (x1 : Int32) (h2 : Hp_), day + n = D → Iv h2 → Fr wzL h h2 → 0 ≤ x1.toInt → x1.toInt + (bkT P (h_i h 293) M n day : Int) = (bkT P (h_i h 293) M D 0 : Int) → AW (m_X12_book (d + 8) 0 0) 0 0 4 [(0, .ref 1), (1, .int x1), (2, .int (Int32.ofNat day))] [] h2 (bK h) := by
  have B' := B
  obtain ⟨I, lM, lD, e7, eD, hP⟩ := B'
  have oD := on_j (n := D) (by omega)
  have tl := bkT_le (P := P) (bk := h_i h 293) lM (n := D) (day := 0)
  intro n
  induction n with
  | zero =>
    intro day x1 h2 e I2 F p m
    have od := on_j (n := day) (by omega)
    have m' : x1.toInt + ((0 : Nat) : Int) = (bkT P (h_i h 293) M D 0 : Int) := m
    have F' : Fr wzE h h2 := F.more (by decide +kernel)
    have l2 : h_i h2 1 127 = h_i h 1 127 := (F.2 1 127 (by decide +kernel)).1
    refine t_X12_book_4 d h2 I2.1 x1 _ _ ⟨fun _ => ⟨fun le => ?_, fun _ => ⟨I2, F'⟩⟩, fun z => ?_⟩
    · have le := q_le.mp le
      have lr := lines_in I2
      have l0 : 0 ≤ (h_i h2 1 127).toInt := lr.1
      have l1 : (h_i h2 1 127).toInt ≤ 600 := lr.2
      have ea : (h_i h2 1 127 + x1).toInt = (h_i h2 1 127).toInt + x1.toInt := tx_add (by omega) (by omega)
      have t6 : (600 : Int32).toInt = 600 := rfl
      rw [ea, t6] at le
      exact bk_86 d B x1 D 0 h2 (by omega) ⟨I2, F', fun c' day' _ _ _ => fr_i F (by decide +kernel) _⟩ (by omega)
    · rw [(F.2 1 0 (by decide +kernel)).1, eD] at z
      have z := q_nle z
      omega
  | succ n ih =>
    intro day x1 h2 e I2 F p m
    have od := on_j (n := day) (by omega)
    refine t_X12_book_4 d h2 I2.1 x1 _ _ ⟨fun z => ?_, fun _ => ?_⟩
    · rw [(F.2 1 0 (by decide +kernel)).1, eD] at z
      have z := q_le.mp z
      omega
    · exact bk_18 d B (bkT P (h_i h 293) M D 0) day (by omega) (by omega) (bkT P (h_i h 293) M n (day + 1)) (fun x1' h3 I3 F3 p3 m3 => ih (day + 1) x1' h3 (by omega) I3 F3 p3 m3) M 0 x1 h2 (by omega) I2 F p m
theorem c_book (d : Nat) {h : Hp_} (I : Iv h) : Ci (m_X12_book (d + 8) 0 0) [.ref 1] h (fun _ h' => Iv h' ∧ Fr wzE h h') := by
  have mr := men_in I
  have m0 : 0 ≤ (h_i h 1 7).toInt := mr.1
  have m1 : (h_i h 1 7).toInt ≤ 12 := mr.2
  have nm := n_nat m0
  have nr := I.2.1 1 0
  rw [show tf 1 0 = (0, 20000) by decide +kernel] at nr
  have n0 : 0 ≤ (h_i h 1 0).toInt := nr.1
  have n1 : (h_i h 1 0).toInt ≤ 20000 := nr.2
  have t14 : (1440 : Int32).toInt = 1440 := rfl
  have dv : (h_i h 1 0 / 1440).toInt = (h_i h 1 0).toInt / 1440 := by rw [ti_div n0 (by rw [t14]; decide), t14]
  have d0 : 0 ≤ (h_i h 1 0 / 1440).toInt := by rw [dv]; omega
  have d1 : (h_i h 1 0 / 1440).toInt ≤ 13 := by rw [dv]; omega
  have nd := n_nat d0
  obtain ⟨P, hP⟩ : ∃ P : Nat → Nat → Int32, ∀ c day, c < 12 → ∀ h2, Iv h2 → Fr wzE h h2 → Ci (m_X12_payOf (d + 7) 0 0) [.ref 1, .int (Int32.ofNat c), .int (Int32.ofNat day), .int (h_i h 1 0)] h2 (Dp (P c day) h2) := by
    have q : ∀ c day, ∃ r, c < 12 → ∀ h2, Iv h2 → Fr wzE h h2 → Ci (m_X12_payOf (d + 7) 0 0) [.ref 1, .int (Int32.ofNat c), .int (Int32.ofNat day), .int (h_i h 1 0)] h2 (Dp r h2) := by
      intro c day
      by_cases hc : c < 12
      · obtain ⟨r, hr⟩ := d_payOf d I c hc (Int32.ofNat day) (h_i h 1 0)
        exact ⟨r, fun _ => hr⟩
      · exact ⟨0, fun y => absurd y hc⟩
    exact ⟨fun c day => Classical.choose (q c day), fun c day => Classical.choose_spec (q c day)⟩
  have B : Bk d h (h_i h 1 7).toNatClampNeg (h_i h 1 0 / 1440).toNatClampNeg P := ⟨I, by omega, by omega, (of_nat32 m0).symm, (of_nat32 d0).symm, hP⟩
  exact t_X12_book d h _ (bk_4 d B (h_i h 1 0 / 1440).toNatClampNeg 0 0 h (by omega) I (Fr.rf _ _) (by decide) (by rw [show (0 : Int32).toInt = 0 from rfl]; omega))
end
section
/-! p1: words for the walks on a fresh object -/
section PB
variable {M : Mc_} {kc ks pc : Nat} {lv : List (Nat × Value)} {st : List Value} {h : Hp_} {K : Option Value → Hp_ → Prop}
end PB
theorem Wf_rm {h : Hp_} {a k : Nat} {x : Option Nat} (w : Wf h) (hf : rfL.all (fun q => !(q.1 == a && q.2.1 == k)) = true) : Wf (h_rm h a k x) := by
  refine ⟨w.1, fun q hq => ?_⟩
  rw [h_r_rm, if_neg]
  · exact w.2 q hq
  · intro z
    have h1 := List.all_eq_true.mp hf q hq
    rw [z.1, z.2] at h1
    simp at h1
theorem i32_lt {x y : Int32} (h : x < y) : x.toInt < y.toInt := Int32.lt_iff_toInt_lt.mp h
theorem i32_le {x y : Int32} (h : x ≤ y) : x.toInt ≤ y.toInt := Int32.le_iff_toInt_le.mp h
theorem i32_nlt {x y : Int32} (h : ¬ x < y) : y.toInt ≤ x.toInt := Int32.le_iff_toInt_le.mp (Int32.not_lt.mp h)
theorem i32_nle {x y : Int32} (h : ¬ x ≤ y) : y.toInt < x.toInt := Int32.lt_iff_toInt_lt.mp (Int32.not_le.mp h)
theorem i32_ne {x y : Int32} (h : ¬ x = y) : x.toInt ≠ y.toInt := fun z => h (Int32.toInt_inj.mp z)
theorem vin_of {x lo hi : Int32} {n : Nat} (h : lo ≤ x ∧ x ≤ hi) (h0 : (0 : Int) ≤ lo.toInt) (h1 : hi.toInt < (n : Int)) : vp_in x n := by
  unfold vp_in
  have a1 := i32_le h.1
  have a2 := i32_le h.2
  rintro (z | z)
  · have := i32_lt z
    rw [show (0 : Int32).toInt = 0 from by decide] at this
    omega
  · unfold Int32.toNatClampNeg at z
    omega
theorem vin_lt {x : Int32} {n : Nat} (h : vp_in x n) : x.toNatClampNeg < n := by
  unfold vp_in at h
  omega
theorem rr1 {y' y : MethodName} {cc' cc : ByteArray} {nL' nL : Nat} {ret' ret : Option FieldType} {d h' H mc ms mc' ms' kc ks : Nat} (h1 : h' + 1 ≤ H) (h2 : nL' ≤ 81) (h3 : kc + mc' ≤ mc) (h4 : ks + ms' ≤ ms) : rr_ (fun _ _ _ => True, y', cc', nL', ret', { frames := d + h', cells := mc', slots := ms', locals := 100 * (d + h') }) (fun _ _ _ => True, y, cc, nL, ret, { frames := d + H, cells := mc, slots := ms, locals := 100 * (d + H) }) kc ks :=
  ⟨⟨(show d + h' + 1 ≤ d + H by omega), (show 8 + (nL' + 11) + 100 * (d + h') ≤ 100 * (d + H) by omega)⟩, h3, h4⟩
/-- the first i places of a row are told anew -/
def fl_ (f g : Nat → Int32) (i : Nat) : Nat → Int32 := fun k => if k < i then f k else g k
theorem fl_0 (f g : Nat → Int32) : fl_ f g 0 = g := by funext k; unfold fl_; rw [if_neg (by omega)]
theorem iw_id (h : Hp_) (a : Nat) : h_iw h a (h_i h a) = h := by
  unfold h_iw
  have e : va_up h.2.1 a (h_i h a) = h.2.1 := by
    funext b
    by_cases z : b = a
    · subst z; rw [va_up_at]; rfl
    · rw [va_up_off _ _ z]
  rw [e]
theorem iw_0 (h : Hp_) (a : Nat) (f : Nat → Int32) : h_iw h a (fl_ f (h_i h a) 0) = h := by rw [fl_0, iw_id]
theorem iw_iw (h : Hp_) (a : Nat) (f g : Nat → Int32) : h_iw (h_iw h a f) a g = h_iw h a g := by
  unfold h_iw
  have e : va_up (va_up h.2.1 a f) a g = va_up h.2.1 a g := by
    funext b
    by_cases z : b = a
    · subst z; rw [va_up_at, va_up_at]
    · rw [va_up_off _ _ z, va_up_off _ _ z, va_up_off _ _ z]
  rw [e]
theorem iw_st (h : Hp_) (a i : Nat) (f g : Nat → Int32) : h_im (h_iw h a (fl_ f g i)) a i (f i) = h_iw h a (fl_ f g (i + 1)) := by
  rw [h_im_iw, iw_iw]
  congr 1
  funext k
  rw [h_i_iw, if_pos rfl]
  show (if k = i then f i else fl_ f g i k) = fl_ f g (i + 1) k
  unfold fl_
  by_cases z : k = i
  · subst z; rw [if_pos rfl, if_pos (by omega)]
  · rw [if_neg z]
    by_cases y : k < i
    · rw [if_pos y, if_pos (by omega)]
    · rw [if_neg y, if_neg (by omega)]
/-- a counter of a loop, as an int -/
theorem on_nat {i : Nat} (h : i < 2147483648) : (Int32.ofNat i).toNatClampNeg = i := by
  unfold Int32.toNatClampNeg
  rw [Int32.toInt_ofNat_of_lt h]
  omega
theorem on_int {i : Nat} (h : i < 2147483648) : (Int32.ofNat i).toInt = (i : Int) := Int32.toInt_ofNat_of_lt h
theorem on_suc (i : Nat) : Int32.ofNat i + 1 = Int32.ofNat (i + 1) := (Int32.ofNat_add i 1).symm
theorem on_inp {i n : Nat} (h : i < n) (hn : n < 2147483648) : vp_in (Int32.ofNat i) n := by
  unfold vp_in
  rintro (z | z)
  · have z1 := i32_lt z
    rw [on_int (by omega), show (0 : Int32).toInt = 0 from by decide] at z1
    omega
  · rw [on_nat (by omega)] at z
    omega
theorem on_le {i j : Nat} (hi : i < 2147483648) (hj : j < 2147483648) : Int32.ofNat i ≤ Int32.ofNat j ↔ i ≤ j := by
  rw [Int32.le_iff_toInt_le, on_int hi, on_int hj]
  omega
theorem on_lt {i j : Nat} (hi : i < 2147483648) (hj : j < 2147483648) : Int32.ofNat i < Int32.ofNat j ↔ i < j := by
  rw [Int32.lt_iff_toInt_lt, on_int hi, on_int hj]
  omega
theorem nn_step {h : Hp_} {k hi t n c s : Nat} {r : Option Nat} (hn : ∀ a, k ≤ a → a < hi → h_sh h a = none) : ∀ a, k + 1 ≤ a → a < hi → h_sh (h_rm (h_nw h k t n) c s r) a = none := fun a h1 h2 => by
  rw [h_sh_rm, h_sh_nw, if_neg (by omega)]
  exact hn a (by omega) h2
theorem ss_step {h : Hp_} {k t n c c' s : Nat} {r : Option Nat} {x : Option (Nat × Nat)} (hs : h_sh h c = x) (hk : c ≠ k) : h_sh (h_rm (h_nw h k t n) c' s r) c = x := by
  rw [h_sh_rm, h_sh_nw, if_neg hk]
  exact hs
theorem s_J7_fill (d : Nat) (h : Hp_) (a n : Nat) (v : Int32) (hs : h_sh h a = some (0, n)) (hn : n < 2147483648) : Cv (m_J7_fill_53178 (d + 0) 0 0) [.ref a, .int v] h (fun h' => h' = h_iw h a (fl_ (fun _ => v) (h_i h a) n)) := by
  refine Ct.of (fun _ _ _ => trivial) rfl (Nat.le_of_ble_eq_true rfl) ?_
  show AW (m_J7_fill_53178 (d + 0) 0 0) 0 0 0 [(0, .ref a), (1, .int v)] [] h (kV _)
  refine aw_iconst (v := 0) d_J7_fill_53178_0 ic_0 ?_
  refine aw_istore_n (i := 2) rfl [(0, .ref a), (1, .int v), (2, .int 0)] d_J7_fill_53178_1 (Nat.le_of_ble_eq_true rfl) rfl rfl ?_
  refine aw_aload_n (i := 0) rfl d_J7_fill_53178_2 0 rfl ?_
  refine aw_alen (v := Int32.ofNat n) hs (Nat.le_of_ble_eq_true rfl) rfl d_J7_fill_53178_3 ?_
  refine aw_istore_n (i := 3) rfl [(0, .ref a), (1, .int v), (2, .int 0), (3, .int (Int32.ofNat n))] d_J7_fill_53178_4 (Nat.le_of_ble_eq_true rfl) rfl rfl ?_
  have key : ∀ r i : Nat, r + i = n → AW (m_J7_fill_53178 (d + 0) 0 0) 0 0 5 [(0, .ref a), (1, .int v), (2, .int (Int32.ofNat i)), (3, .int (Int32.ofNat n))] [] (h_iw h a (fl_ (fun _ => v) (h_i h a) i)) (kV (fun h' => h' = h_iw h a (fl_ (fun _ => v) (h_i h a) n))) := by
    intro r
    induction r with
    | zero =>
      intro i hi
      have e : i = n := by omega
      subst e
      refine aw_iload_n (i := 2) rfl d_J7_fill_53178_5 2 rfl ?_
      refine aw_iload_n (i := 3) rfl d_J7_fill_53178_6 3 rfl ?_
      refine aw_icmp_ge (tgt := 20) d_J7_fill_53178_7 rfl (fun _ => ?_) (fun c => absurd (Int32.le_refl _) c)
      exact aw_vret rfl d_J7_fill_53178_20 ⟨Nat.le_refl _, Nat.le_refl _⟩ ⟨rfl, rfl⟩
    | succ r ih =>
      intro i hi
      refine aw_iload_n (i := 2) rfl d_J7_fill_53178_5 2 rfl ?_
      refine aw_iload_n (i := 3) rfl d_J7_fill_53178_6 3 rfl ?_
      refine aw_icmp_ge (tgt := 20) d_J7_fill_53178_7 rfl (fun c => absurd ((on_le hn (by omega)).mp c) (by omega)) (fun _ => ?_)
      refine aw_aload_n (i := 0) rfl d_J7_fill_53178_10 0 rfl ?_
      refine aw_iload_n (i := 2) rfl d_J7_fill_53178_11 2 rfl ?_
      refine aw_iload_n (i := 1) rfl d_J7_fill_53178_12 1 rfl ?_
      refine aw_iast hs (on_inp (by omega) hn) d_J7_fill_53178_13 ?_
      refine aw_iinc (v := Int32.ofNat (i + 1)) [(0, .ref a), (1, .int v), (2, .int (Int32.ofNat (i + 1))), (3, .int (Int32.ofNat n))] d_J7_fill_53178_14 2 rfl (on_suc i) (Nat.le_of_ble_eq_true rfl) rfl rfl ?_
      refine aw_goto (tgt := 5) d_J7_fill_53178_17 rfl ?_
      rw [on_nat (by omega), iw_st h a i (fun _ => v) (h_i h a)]
      exact ih (i + 1) (by omega)
  have k := key n 0 (by omega)
  rw [iw_0] at k
  exact k
theorem vin_c {x : Int32} {n : Nat} (h : ¬ (x < 0 ∨ n ≤ x.toNatClampNeg)) : vp_in x n := h
end
section
theorem rr_im {h : Hp_} {a k c s : Nat} {x : Int32} {y : Option Nat} (hr : h_r h c s = y) : h_r (h_im h a k x) c s = y := hr
theorem rr_step {h : Hp_} {k t n c s c' s' : Nat} {r y : Option Nat} (hr : h_r h c' s' = y) (h1 : c' ≠ k) (h2 : s' ≠ s) : h_r (h_rm (h_nw h k t n) c s r) c' s' = y := by
  rw [h_r_rm, if_neg (fun z => h2 z.2), h_r_nw, if_neg h1]
  exact hr
theorem rr_of {h : Hp_} {k t n c s b c' : Nat} {x : Option (Nat × Nat)} (_ : h_sh (h_rm (h_nw h k t n) c s (some b)) c' = x) : h_r (h_rm (h_nw h k t n) c s (some b)) c s = some b := by rw [h_r_rm, if_pos ⟨rfl, rfl⟩]
theorem sh_of {h : Hp_} {k t n c s b c' : Nat} {x : Option (Nat × Nat)} (_ : h_sh (h_rm (h_nw h k t n) c s (some b)) c' = x) : h_sh (h_rm (h_nw h k t n) c s (some b)) k = some (t, n) := by rw [h_sh_rm, h_sh_nw, if_pos rfl]
theorem ss_im {h : Hp_} {a k c : Nat} {x : Int32} {y : Option (Nat × Nat)} (hs : h_sh h c = y) : h_sh (h_im h a k x) c = y := hs
theorem nn_im {h : Hp_} {b k lo hi : Nat} {x : Int32} (hn : ∀ a, lo ≤ a → a < hi → h_sh h a = none) : ∀ a, lo ≤ a → a < hi → h_sh (h_im h b k x) a = none := hn
theorem ss_n {h : Hp_} {k t n c : Nat} {x : Option (Nat × Nat)} (hs : h_sh h c = x) (hk : c ≠ k) : h_sh (h_nw h k t n) c = x := by
  rw [h_sh_nw, if_neg hk]
  exact hs
def wk_ : Nat → Int32 := fun k => if k / 16 = k % 16 then 0 else 1000000
theorem wk_dec : ∀ i, i < 256 → ((Int32.ofNat i / 16 = Int32.ofNat i - Int32.ofNat i / 16 * 16) ↔ i / 16 = i % 16) := by decide +kernel
theorem lp_X9 (d mc ms kc ks : Nat) (h : Hp_) (K : Option Value → Hp_ → Prop) (hs : h_sh h 10 = some (19, 2)) (hr : h_r h 10 0 = some 30) (ha : h_sh h 30 = some (0, 256)) (k : AW (m_X9_init (d + 1) mc ms) kc ks 53 [(0, .ref 10)] [] (h_iw h 30 (fl_ wk_ (h_i h 30) 256)) K) : AW (m_X9_init (d + 1) mc ms) kc ks 15 [(0, .ref 10), (1, .int 0)] [] h K := by
  have key : ∀ r i : Nat, r + i = 256 → AW (m_X9_init (d + 1) mc ms) kc ks 15 [(0, .ref 10), (1, .int (Int32.ofNat i))] [] (h_iw h 30 (fl_ wk_ (h_i h 30) i)) K := by
    intro r
    induction r with
    | zero =>
      intro i hi
      have e : i = 256 := by omega
      subst e
      refine aw_iload_n (i := 1) rfl d_X9_init_15 1 rfl ?_
      refine aw_aload_n (i := 0) rfl d_X9_init_16 0 rfl ?_
      refine aw_getr (k0 := 0) (b := 30) kc_9 hs (Nat.le_of_ble_eq_true rfl) tw_42 d_X9_init_17 rfl hr ?_
      refine aw_alen (v := 256) ha (by decide) (by decide) d_X9_init_20 ?_
      refine aw_icmp_ge (tgt := 53) d_X9_init_21 rfl (fun _ => ?_) (fun c => absurd c (by decide))
      exact aw_lvp [0] [(0, .ref 10)] rfl k
    | succ r ih =>
      intro i hi
      refine aw_iload_n (i := 1) rfl d_X9_init_15 1 rfl ?_
      refine aw_aload_n (i := 0) rfl d_X9_init_16 0 rfl ?_
      refine aw_getr (k0 := 0) (b := 30) kc_9 hs (Nat.le_of_ble_eq_true rfl) tw_42 d_X9_init_17 rfl hr ?_
      refine aw_alen (v := Int32.ofNat 256) ha (by decide) rfl d_X9_init_20 ?_
      refine aw_icmp_ge (tgt := 53) d_X9_init_21 rfl (fun c => absurd ((on_le (by decide) (by omega)).mp c) (by omega)) (fun _ => ?_)
      refine aw_aload_n (i := 0) rfl d_X9_init_24 0 rfl ?_
      refine aw_getr (k0 := 0) (b := 30) kc_9 hs (Nat.le_of_ble_eq_true rfl) tw_42 d_X9_init_25 rfl hr ?_
      refine aw_iload_n (i := 1) rfl d_X9_init_28 1 rfl ?_
      refine aw_iload_n (i := 1) rfl d_X9_init_29 1 rfl ?_
      refine aw_bipush (v := 16) d_X9_init_30 ib_16 ?_
      refine aw_idiv d_X9_init_32 (by decide) ?_
      refine aw_iload_n (i := 1) rfl d_X9_init_33 1 rfl ?_
      refine aw_bipush (v := 16) d_X9_init_34 ib_16 ?_
      refine aw_irem d_X9_init_36 (by decide) ?_
      have fin : ∀ x : Int32, x = wk_ i → AW (m_X9_init (d + 1) mc ms) kc ks 46 [(0, .ref 10), (1, .int (Int32.ofNat i))] [.int x, .int (Int32.ofNat i), .ref 30] (h_iw h 30 (fl_ wk_ (h_i h 30) i)) K := by
        intro x hx
        subst hx
        refine aw_iast ha (on_inp (by omega) (by decide)) d_X9_init_46 ?_
        refine aw_iinc (v := Int32.ofNat (i + 1)) [(0, .ref 10), (1, .int (Int32.ofNat (i + 1)))] d_X9_init_47 1 rfl (on_suc i) (Nat.le_of_ble_eq_true rfl) rfl rfl ?_
        refine aw_goto (tgt := 15) d_X9_init_50 rfl ?_
        rw [on_nat (by omega), iw_st h 30 i wk_ (h_i h 30)]
        exact ih (i + 1) (by omega)
      refine aw_icmp_ne (tgt := 44) d_X9_init_37 rfl (fun c => ?_) (fun c => ?_)
      · refine aw_ldc (v := 1000000) d_X9_init_44 tw_41 ?_
        exact fin _ (by unfold wk_; rw [if_neg (fun z => c ((wk_dec i (by omega)).mpr z))])
      · refine aw_iconst (v := 0) d_X9_init_40 ic_0 ?_
        refine aw_goto (tgt := 46) d_X9_init_41 rfl ?_
        exact fin _ (by unfold wk_; rw [if_pos ((wk_dec i (by omega)).mp c)])
  have k0 := key 256 0 (by omega)
  rw [iw_0] at k0
  exact k0

set_option maxRecDepth 100000 in
def CH_10 (h : Hp_) : Hp_ := h_iw (h_rm (h_nw h 30 0 256) 10 0 (some 30)) 30 (fl_ wk_ (h_i (h_rm (h_nw h 30 0 256) 10 0 (some 30)) 30) 256)
set_option maxRecDepth 100000 in
theorem k_X9_init_10 (d : Nat) (h : Hp_) (hs : h_sh h 10 = some (19, 2)) (hn : ∀ a, 30 ≤ a → a < 31 → h_sh h a = none) : Cv (m_X9_init (d + 1) 1 256) [.ref 10] h (fun h' => h' = CH_10 h) := by
  refine Ct.of (fun _ _ _ => trivial) rfl (Nat.le_of_ble_eq_true rfl) ?_
  show AW (m_X9_init (d + 1) 1 256) 0 0 0 [(0, .ref 10)] [] h (kV _)
  refine aw_aload_n (i := 0) rfl d_X9_init_0 0 rfl ?_
  refine aw_objInit (rest := []) d_X9_init_1 tw_40 tw_33 tw_34 (show 1 ≤ d + 1 by omega) (show 0 + 12 ≤ 100 * (d + 1) by omega) ?_
  refine aw_aload_n (i := 0) rfl d_X9_init_4 0 rfl ?_
  refine aw_sipush (v := 256) d_X9_init_5 is_256 ?_
  refine aw_newa (t := 0) (atype := .int) 30 256 (by decide) rfl tw_51 (hn 30 (by decide) (by decide)) (by decide) xs0 (by decide) (by decide) (by decide) (Nat.le_of_ble_eq_true rfl) (Nat.le_of_ble_eq_true rfl) d_X9_init_8 ?_
  refine aw_putrF (k0 := 0) kc_9 (ss_n hs (by decide)) (Nat.le_of_ble_eq_true rfl) tw_42 d_X9_init_10 rfl rfl rfl rfl ?_
  have hs1 := ss_step (k := 30) (t := 0) (n := 256) (c' := 10) (s := 0) (r := some 30) hs (by decide)
  have hn2 := nn_step (k := 30) (t := 0) (n := 256) (c := 10) (s := 0) (r := some 30) hn
  refine aw_iconst (v := 0) d_X9_init_13 ic_0 ?_
  refine aw_istore_n (i := 1) rfl [(0, .ref 10), (1, .int 0)] d_X9_init_14 (Nat.le_of_ble_eq_true rfl) rfl rfl ?_
  refine lp_X9 d _ _ _ _ _ _ hs1 rfl rfl ?_
  exact aw_vret rfl d_X9_init_53 ⟨Nat.le_of_ble_eq_true rfl, Nat.le_of_ble_eq_true rfl⟩ ⟨rfl, rfl⟩
set_option maxRecDepth 100000 in
def CH_11 (h : Hp_) : Hp_ := h_rm (h_nw (h_rm (h_nw (h_rm (h_rm (h_nw h 31 0 160) 11 0 (some 31)) 11 4 (some 1000)) 32 0 150) 11 5 (some 32)) 33 0 164) 11 8 (some 33)
set_option maxRecDepth 100000 in
theorem k_X8_init_11 (d : Nat) (h : Hp_) (hs : h_sh h 11 = some (18, 10)) (hn : ∀ a, 31 ≤ a → a < 34 → h_sh h a = none) : Cv (m_X8_init (d + 1) 3 474) [.ref 11] h (fun h' => h' = CH_11 h) := by
  refine Ct.of (fun _ _ _ => trivial) rfl (Nat.le_of_ble_eq_true rfl) ?_
  show AW (m_X8_init (d + 1) 3 474) 0 0 0 [(0, .ref 11)] [] h (kV _)
  refine aw_aload_n (i := 0) rfl d_X8_init_0 0 rfl ?_
  refine aw_objInit (rest := []) d_X8_init_1 tw_57 tw_33 tw_34 (show 1 ≤ d + 1 by omega) (show 0 + 12 ≤ 100 * (d + 1) by omega) ?_
  refine aw_aload_n (i := 0) rfl d_X8_init_4 0 rfl ?_
  refine aw_sipush (v := 160) d_X8_init_5 is_160 ?_
  refine aw_newa (t := 0) (atype := .int) 31 160 (by decide) rfl tw_51 (hn 31 (by decide) (by decide)) (by decide) xs0 (by decide) (by decide) (by decide) (Nat.le_of_ble_eq_true rfl) (Nat.le_of_ble_eq_true rfl) d_X8_init_8 ?_
  refine aw_putrF (k0 := 0) kc_8 (ss_n hs (by decide)) (Nat.le_of_ble_eq_true rfl) tw_59 d_X8_init_10 rfl rfl rfl rfl ?_
  have hs1 := ss_step (k := 31) (t := 0) (n := 160) (c' := 11) (s := 0) (r := some 31) hs (by decide)
  have hn2 := nn_step (k := 31) (t := 0) (n := 160) (c := 11) (s := 0) (r := some 31) hn
  refine aw_aload_n (i := 0) rfl d_X8_init_13 0 rfl ?_
  refine aw_ldcT (row := 0) (n := 0) (q := 1000) d_X8_init_14 rfl rfl ?_
  refine aw_putr (k0 := 4) kc_8 hs1 (Nat.le_of_ble_eq_true rfl) tw_64 d_X8_init_16 rfl rfl ?_
  have hs3 : h_sh (h_rm (h_rm (h_nw h 31 0 160) 11 0 (some 31)) 11 4 (some 1000)) 11 = some (18, 10) := hs1
  have hn4 : ∀ a, 32 ≤ a → a < 34 → h_sh (h_rm (h_rm (h_nw h 31 0 160) 11 0 (some 31)) 11 4 (some 1000)) a = none := hn2
  refine aw_aload_n (i := 0) rfl d_X8_init_19 0 rfl ?_
  refine aw_sipush (v := 150) d_X8_init_20 is_150 ?_
  refine aw_newa (t := 0) (atype := .int) 32 150 (by decide) rfl tw_51 (hn4 32 (by decide) (by decide)) (by decide) xs0 (by decide) (by decide) (by decide) (Nat.le_of_ble_eq_true rfl) (Nat.le_of_ble_eq_true rfl) d_X8_init_23 ?_
  refine aw_putrF (k0 := 5) kc_8 (ss_n hs3 (by decide)) (Nat.le_of_ble_eq_true rfl) tw_65 d_X8_init_25 rfl rfl rfl rfl ?_
  have hs5 := ss_step (k := 32) (t := 0) (n := 150) (c' := 11) (s := 5) (r := some 32) hs3 (by decide)
  have hn6 := nn_step (k := 32) (t := 0) (n := 150) (c := 11) (s := 5) (r := some 32) hn4
  refine aw_aload_n (i := 0) rfl d_X8_init_28 0 rfl ?_
  refine aw_sipush (v := 164) d_X8_init_29 is_164 ?_
  refine aw_newa (t := 0) (atype := .int) 33 164 (by decide) rfl tw_51 (hn6 33 (by decide) (by decide)) (by decide) xs0 (by decide) (by decide) (by decide) (Nat.le_of_ble_eq_true rfl) (Nat.le_of_ble_eq_true rfl) d_X8_init_32 ?_
  refine aw_putrF (k0 := 8) kc_8 (ss_n hs5 (by decide)) (Nat.le_of_ble_eq_true rfl) tw_71 d_X8_init_34 rfl rfl rfl rfl ?_
  have hs7 := ss_step (k := 33) (t := 0) (n := 164) (c' := 11) (s := 8) (r := some 33) hs5 (by decide)
  have hn8 := nn_step (k := 33) (t := 0) (n := 164) (c := 11) (s := 8) (r := some 33) hn6
  exact aw_vret rfl d_X8_init_37 ⟨Nat.le_of_ble_eq_true rfl, Nat.le_of_ble_eq_true rfl⟩ ⟨rfl, rfl⟩
set_option maxRecDepth 100000 in
def CH_12 (h : Hp_) : Hp_ := h_rm (h_nw (h_rm (h_nw (h_rm (h_nw h 34 0 1800) 12 0 (some 34)) 35 0 12) 12 1 (some 35)) 36 0 12) 12 2 (some 36)
set_option maxRecDepth 100000 in
theorem k_X0_init_12 (d : Nat) (h : Hp_) (hs : h_sh h 12 = some (10, 4)) (hn : ∀ a, 34 ≤ a → a < 37 → h_sh h a = none) : Cv (m_X0_init (d + 1) 3 1824) [.ref 12] h (fun h' => h' = CH_12 h) := by
  refine Ct.of (fun _ _ _ => trivial) rfl (Nat.le_of_ble_eq_true rfl) ?_
  show AW (m_X0_init (d + 1) 3 1824) 0 0 0 [(0, .ref 12)] [] h (kV _)
  refine aw_aload_n (i := 0) rfl d_X0_init_0 0 rfl ?_
  refine aw_objInit (rest := []) d_X0_init_1 tw_102 tw_33 tw_34 (show 1 ≤ d + 1 by omega) (show 0 + 12 ≤ 100 * (d + 1) by omega) ?_
  refine aw_aload_n (i := 0) rfl d_X0_init_4 0 rfl ?_
  refine aw_sipush (v := 1800) d_X0_init_5 is_1800 ?_
  refine aw_newa (t := 0) (atype := .int) 34 1800 (by decide) rfl tw_51 (hn 34 (by decide) (by decide)) (by decide) xs0 (by decide) (by decide) (by decide) (Nat.le_of_ble_eq_true rfl) (Nat.le_of_ble_eq_true rfl) d_X0_init_8 ?_
  refine aw_putrF (k0 := 0) kc_0 (ss_n hs (by decide)) (Nat.le_of_ble_eq_true rfl) tw_103 d_X0_init_10 rfl rfl rfl rfl ?_
  have hs1 := ss_step (k := 34) (t := 0) (n := 1800) (c' := 12) (s := 0) (r := some 34) hs (by decide)
  have hn2 := nn_step (k := 34) (t := 0) (n := 1800) (c := 12) (s := 0) (r := some 34) hn
  refine aw_aload_n (i := 0) rfl d_X0_init_13 0 rfl ?_
  refine aw_bipush (v := 12) d_X0_init_14 ib_12 ?_
  refine aw_newa (t := 0) (atype := .int) 35 12 (by decide) rfl tw_51 (hn2 35 (by decide) (by decide)) (by decide) xs0 (by decide) (by decide) (by decide) (Nat.le_of_ble_eq_true rfl) (Nat.le_of_ble_eq_true rfl) d_X0_init_16 ?_
  refine aw_putrF (k0 := 1) kc_0 (ss_n hs1 (by decide)) (Nat.le_of_ble_eq_true rfl) tw_104 d_X0_init_18 rfl rfl rfl rfl ?_
  have hs3 := ss_step (k := 35) (t := 0) (n := 12) (c' := 12) (s := 1) (r := some 35) hs1 (by decide)
  have hn4 := nn_step (k := 35) (t := 0) (n := 12) (c := 12) (s := 1) (r := some 35) hn2
  refine aw_aload_n (i := 0) rfl d_X0_init_21 0 rfl ?_
  refine aw_bipush (v := 12) d_X0_init_22 ib_12 ?_
  refine aw_newa (t := 0) (atype := .int) 36 12 (by decide) rfl tw_51 (hn4 36 (by decide) (by decide)) (by decide) xs0 (by decide) (by decide) (by decide) (Nat.le_of_ble_eq_true rfl) (Nat.le_of_ble_eq_true rfl) d_X0_init_24 ?_
  refine aw_putrF (k0 := 2) kc_0 (ss_n hs3 (by decide)) (Nat.le_of_ble_eq_true rfl) tw_105 d_X0_init_26 rfl rfl rfl rfl ?_
  have hs5 := ss_step (k := 36) (t := 0) (n := 12) (c' := 12) (s := 2) (r := some 36) hs3 (by decide)
  have hn6 := nn_step (k := 36) (t := 0) (n := 12) (c := 12) (s := 2) (r := some 36) hn4
  exact aw_vret rfl d_X0_init_29 ⟨Nat.le_of_ble_eq_true rfl, Nat.le_of_ble_eq_true rfl⟩ ⟨rfl, rfl⟩
set_option maxRecDepth 100000 in
def CH_13 (h : Hp_) : Hp_ := h_rm (h_nw (h_rm (h_nw (h_rm (h_nw (h_rm (h_nw (h_rm (h_nw h 37 0 20) 13 0 (some 37)) 38 0 20) 13 1 (some 38)) 39 0 20) 13 2 (some 39)) 40 0 3280) 13 3 (some 40)) 41 0 164) 13 4 (some 41)
set_option maxRecDepth 100000 in
theorem k_X10_init_13 (d : Nat) (h : Hp_) (hs : h_sh h 13 = some (20, 6)) (hn : ∀ a, 37 ≤ a → a < 42 → h_sh h a = none) : Cv (m_X10_init (d + 1) 5 3504) [.ref 13] h (fun h' => h' = CH_13 h) := by
  refine Ct.of (fun _ _ _ => trivial) rfl (Nat.le_of_ble_eq_true rfl) ?_
  show AW (m_X10_init (d + 1) 5 3504) 0 0 0 [(0, .ref 13)] [] h (kV _)
  refine aw_aload_n (i := 0) rfl d_X10_init_0 0 rfl ?_
  refine aw_objInit (rest := []) d_X10_init_1 tw_123 tw_33 tw_34 (show 1 ≤ d + 1 by omega) (show 0 + 12 ≤ 100 * (d + 1) by omega) ?_
  refine aw_aload_n (i := 0) rfl d_X10_init_4 0 rfl ?_
  refine aw_bipush (v := 20) d_X10_init_5 ib_20 ?_
  refine aw_newa (t := 0) (atype := .int) 37 20 (by decide) rfl tw_51 (hn 37 (by decide) (by decide)) (by decide) xs0 (by decide) (by decide) (by decide) (Nat.le_of_ble_eq_true rfl) (Nat.le_of_ble_eq_true rfl) d_X10_init_7 ?_
  refine aw_putrF (k0 := 0) kc_10 (ss_n hs (by decide)) (Nat.le_of_ble_eq_true rfl) tw_124 d_X10_init_9 rfl rfl rfl rfl ?_
  have hs1 := ss_step (k := 37) (t := 0) (n := 20) (c' := 13) (s := 0) (r := some 37) hs (by decide)
  have hn2 := nn_step (k := 37) (t := 0) (n := 20) (c := 13) (s := 0) (r := some 37) hn
  refine aw_aload_n (i := 0) rfl d_X10_init_12 0 rfl ?_
  refine aw_bipush (v := 20) d_X10_init_13 ib_20 ?_
  refine aw_newa (t := 0) (atype := .int) 38 20 (by decide) rfl tw_51 (hn2 38 (by decide) (by decide)) (by decide) xs0 (by decide) (by decide) (by decide) (Nat.le_of_ble_eq_true rfl) (Nat.le_of_ble_eq_true rfl) d_X10_init_15 ?_
  refine aw_putrF (k0 := 1) kc_10 (ss_n hs1 (by decide)) (Nat.le_of_ble_eq_true rfl) tw_125 d_X10_init_17 rfl rfl rfl rfl ?_
  have hs3 := ss_step (k := 38) (t := 0) (n := 20) (c' := 13) (s := 1) (r := some 38) hs1 (by decide)
  have hn4 := nn_step (k := 38) (t := 0) (n := 20) (c := 13) (s := 1) (r := some 38) hn2
  refine aw_aload_n (i := 0) rfl d_X10_init_20 0 rfl ?_
  refine aw_bipush (v := 20) d_X10_init_21 ib_20 ?_
  refine aw_newa (t := 0) (atype := .int) 39 20 (by decide) rfl tw_51 (hn4 39 (by decide) (by decide)) (by decide) xs0 (by decide) (by decide) (by decide) (Nat.le_of_ble_eq_true rfl) (Nat.le_of_ble_eq_true rfl) d_X10_init_23 ?_
  refine aw_putrF (k0 := 2) kc_10 (ss_n hs3 (by decide)) (Nat.le_of_ble_eq_true rfl) tw_126 d_X10_init_25 rfl rfl rfl rfl ?_
  have hs5 := ss_step (k := 39) (t := 0) (n := 20) (c' := 13) (s := 2) (r := some 39) hs3 (by decide)
  have hn6 := nn_step (k := 39) (t := 0) (n := 20) (c := 13) (s := 2) (r := some 39) hn4
  refine aw_aload_n (i := 0) rfl d_X10_init_28 0 rfl ?_
  refine aw_sipush (v := 3280) d_X10_init_29 is_3280 ?_
  refine aw_newa (t := 0) (atype := .int) 40 3280 (by decide) rfl tw_51 (hn6 40 (by decide) (by decide)) (by decide) xs0 (by decide) (by decide) (by decide) (Nat.le_of_ble_eq_true rfl) (Nat.le_of_ble_eq_true rfl) d_X10_init_32 ?_
  refine aw_putrF (k0 := 3) kc_10 (ss_n hs5 (by decide)) (Nat.le_of_ble_eq_true rfl) tw_127 d_X10_init_34 rfl rfl rfl rfl ?_
  have hs7 := ss_step (k := 40) (t := 0) (n := 3280) (c' := 13) (s := 3) (r := some 40) hs5 (by decide)
  have hn8 := nn_step (k := 40) (t := 0) (n := 3280) (c := 13) (s := 3) (r := some 40) hn6
  refine aw_aload_n (i := 0) rfl d_X10_init_37 0 rfl ?_
  refine aw_sipush (v := 164) d_X10_init_38 is_164 ?_
  refine aw_newa (t := 0) (atype := .int) 41 164 (by decide) rfl tw_51 (hn8 41 (by decide) (by decide)) (by decide) xs0 (by decide) (by decide) (by decide) (Nat.le_of_ble_eq_true rfl) (Nat.le_of_ble_eq_true rfl) d_X10_init_41 ?_
  refine aw_putrF (k0 := 4) kc_10 (ss_n hs7 (by decide)) (Nat.le_of_ble_eq_true rfl) tw_128 d_X10_init_43 rfl rfl rfl rfl ?_
  have hs9 := ss_step (k := 41) (t := 0) (n := 164) (c' := 13) (s := 4) (r := some 41) hs7 (by decide)
  have hn10 := nn_step (k := 41) (t := 0) (n := 164) (c := 13) (s := 4) (r := some 41) hn8
  exact aw_vret rfl d_X10_init_46 ⟨Nat.le_of_ble_eq_true rfl, Nat.le_of_ble_eq_true rfl⟩ ⟨rfl, rfl⟩
set_option maxRecDepth 100000 in
def CH_14 (h : Hp_) : Hp_ := h_rm (h_nw (h_rm (h_nw (h_rm (h_nw (h_rm (h_nw (h_rm (h_nw h 42 0 20) 14 0 (some 42)) 43 0 20) 14 1 (some 43)) 44 0 20) 14 2 (some 44)) 45 0 3280) 14 3 (some 45)) 46 0 164) 14 4 (some 46)
set_option maxRecDepth 100000 in
theorem k_X10_init_14 (d : Nat) (h : Hp_) (hs : h_sh h 14 = some (20, 6)) (hn : ∀ a, 42 ≤ a → a < 47 → h_sh h a = none) : Cv (m_X10_init (d + 1) 5 3504) [.ref 14] h (fun h' => h' = CH_14 h) := by
  refine Ct.of (fun _ _ _ => trivial) rfl (Nat.le_of_ble_eq_true rfl) ?_
  show AW (m_X10_init (d + 1) 5 3504) 0 0 0 [(0, .ref 14)] [] h (kV _)
  refine aw_aload_n (i := 0) rfl d_X10_init_0 0 rfl ?_
  refine aw_objInit (rest := []) d_X10_init_1 tw_123 tw_33 tw_34 (show 1 ≤ d + 1 by omega) (show 0 + 12 ≤ 100 * (d + 1) by omega) ?_
  refine aw_aload_n (i := 0) rfl d_X10_init_4 0 rfl ?_
  refine aw_bipush (v := 20) d_X10_init_5 ib_20 ?_
  refine aw_newa (t := 0) (atype := .int) 42 20 (by decide) rfl tw_51 (hn 42 (by decide) (by decide)) (by decide) xs0 (by decide) (by decide) (by decide) (Nat.le_of_ble_eq_true rfl) (Nat.le_of_ble_eq_true rfl) d_X10_init_7 ?_
  refine aw_putrF (k0 := 0) kc_10 (ss_n hs (by decide)) (Nat.le_of_ble_eq_true rfl) tw_124 d_X10_init_9 rfl rfl rfl rfl ?_
  have hs1 := ss_step (k := 42) (t := 0) (n := 20) (c' := 14) (s := 0) (r := some 42) hs (by decide)
  have hn2 := nn_step (k := 42) (t := 0) (n := 20) (c := 14) (s := 0) (r := some 42) hn
  refine aw_aload_n (i := 0) rfl d_X10_init_12 0 rfl ?_
  refine aw_bipush (v := 20) d_X10_init_13 ib_20 ?_
  refine aw_newa (t := 0) (atype := .int) 43 20 (by decide) rfl tw_51 (hn2 43 (by decide) (by decide)) (by decide) xs0 (by decide) (by decide) (by decide) (Nat.le_of_ble_eq_true rfl) (Nat.le_of_ble_eq_true rfl) d_X10_init_15 ?_
  refine aw_putrF (k0 := 1) kc_10 (ss_n hs1 (by decide)) (Nat.le_of_ble_eq_true rfl) tw_125 d_X10_init_17 rfl rfl rfl rfl ?_
  have hs3 := ss_step (k := 43) (t := 0) (n := 20) (c' := 14) (s := 1) (r := some 43) hs1 (by decide)
  have hn4 := nn_step (k := 43) (t := 0) (n := 20) (c := 14) (s := 1) (r := some 43) hn2
  refine aw_aload_n (i := 0) rfl d_X10_init_20 0 rfl ?_
  refine aw_bipush (v := 20) d_X10_init_21 ib_20 ?_
  refine aw_newa (t := 0) (atype := .int) 44 20 (by decide) rfl tw_51 (hn4 44 (by decide) (by decide)) (by decide) xs0 (by decide) (by decide) (by decide) (Nat.le_of_ble_eq_true rfl) (Nat.le_of_ble_eq_true rfl) d_X10_init_23 ?_
  refine aw_putrF (k0 := 2) kc_10 (ss_n hs3 (by decide)) (Nat.le_of_ble_eq_true rfl) tw_126 d_X10_init_25 rfl rfl rfl rfl ?_
  have hs5 := ss_step (k := 44) (t := 0) (n := 20) (c' := 14) (s := 2) (r := some 44) hs3 (by decide)
  have hn6 := nn_step (k := 44) (t := 0) (n := 20) (c := 14) (s := 2) (r := some 44) hn4
  refine aw_aload_n (i := 0) rfl d_X10_init_28 0 rfl ?_
  refine aw_sipush (v := 3280) d_X10_init_29 is_3280 ?_
  refine aw_newa (t := 0) (atype := .int) 45 3280 (by decide) rfl tw_51 (hn6 45 (by decide) (by decide)) (by decide) xs0 (by decide) (by decide) (by decide) (Nat.le_of_ble_eq_true rfl) (Nat.le_of_ble_eq_true rfl) d_X10_init_32 ?_
  refine aw_putrF (k0 := 3) kc_10 (ss_n hs5 (by decide)) (Nat.le_of_ble_eq_true rfl) tw_127 d_X10_init_34 rfl rfl rfl rfl ?_
  have hs7 := ss_step (k := 45) (t := 0) (n := 3280) (c' := 14) (s := 3) (r := some 45) hs5 (by decide)
  have hn8 := nn_step (k := 45) (t := 0) (n := 3280) (c := 14) (s := 3) (r := some 45) hn6
  refine aw_aload_n (i := 0) rfl d_X10_init_37 0 rfl ?_
  refine aw_sipush (v := 164) d_X10_init_38 is_164 ?_
  refine aw_newa (t := 0) (atype := .int) 46 164 (by decide) rfl tw_51 (hn8 46 (by decide) (by decide)) (by decide) xs0 (by decide) (by decide) (by decide) (Nat.le_of_ble_eq_true rfl) (Nat.le_of_ble_eq_true rfl) d_X10_init_41 ?_
  refine aw_putrF (k0 := 4) kc_10 (ss_n hs7 (by decide)) (Nat.le_of_ble_eq_true rfl) tw_128 d_X10_init_43 rfl rfl rfl rfl ?_
  have hs9 := ss_step (k := 46) (t := 0) (n := 164) (c' := 14) (s := 4) (r := some 46) hs7 (by decide)
  have hn10 := nn_step (k := 46) (t := 0) (n := 164) (c := 14) (s := 4) (r := some 46) hn8
  exact aw_vret rfl d_X10_init_46 ⟨Nat.le_of_ble_eq_true rfl, Nat.le_of_ble_eq_true rfl⟩ ⟨rfl, rfl⟩
set_option maxRecDepth 100000 in
def CH_16 (h : Hp_) : Hp_ := h_rm (h_nw (h_rm (h_nw (h_rm (h_nw (h_rm (h_nw (h_rm (h_nw (h_rm (h_nw (h_rm (h_nw (h_rm (h_nw (h_rm (h_nw (h_rm (h_nw h 47 0 400) 16 0 (some 47)) 48 0 400) 16 1 (some 48)) 49 0 400) 16 2 (some 49)) 50 0 400) 16 3 (some 50)) 51 0 400) 16 4 (some 51)) 52 0 400) 16 5 (some 52)) 53 0 400) 16 6 (some 53)) 54 0 200) 16 8 (some 54)) 55 0 200) 16 9 (some 55)) 56 0 200) 16 10 (some 56)
set_option maxRecDepth 100000 in
theorem k_X7_init_16 (d : Nat) (h : Hp_) (hs : h_sh h 16 = some (17, 12)) (hn : ∀ a, 47 ≤ a → a < 57 → h_sh h a = none) : Cv (m_X7_init (d + 1) 10 3400) [.ref 16] h (fun h' => h' = CH_16 h) := by
  refine Ct.of (fun _ _ _ => trivial) rfl (Nat.le_of_ble_eq_true rfl) ?_
  show AW (m_X7_init (d + 1) 10 3400) 0 0 0 [(0, .ref 16)] [] h (kV _)
  refine aw_aload_n (i := 0) rfl d_X7_init_0 0 rfl ?_
  refine aw_objInit (rest := []) d_X7_init_1 tw_151 tw_33 tw_34 (show 1 ≤ d + 1 by omega) (show 0 + 12 ≤ 100 * (d + 1) by omega) ?_
  refine aw_aload_n (i := 0) rfl d_X7_init_4 0 rfl ?_
  refine aw_sipush (v := 400) d_X7_init_5 is_400 ?_
  refine aw_newa (t := 0) (atype := .int) 47 400 (by decide) rfl tw_51 (hn 47 (by decide) (by decide)) (by decide) xs0 (by decide) (by decide) (by decide) (Nat.le_of_ble_eq_true rfl) (Nat.le_of_ble_eq_true rfl) d_X7_init_8 ?_
  refine aw_putrF (k0 := 0) kc_7 (ss_n hs (by decide)) (Nat.le_of_ble_eq_true rfl) tw_152 d_X7_init_10 rfl rfl rfl rfl ?_
  have hs1 := ss_step (k := 47) (t := 0) (n := 400) (c' := 16) (s := 0) (r := some 47) hs (by decide)
  have hn2 := nn_step (k := 47) (t := 0) (n := 400) (c := 16) (s := 0) (r := some 47) hn
  refine aw_aload_n (i := 0) rfl d_X7_init_13 0 rfl ?_
  refine aw_sipush (v := 400) d_X7_init_14 is_400 ?_
  refine aw_newa (t := 0) (atype := .int) 48 400 (by decide) rfl tw_51 (hn2 48 (by decide) (by decide)) (by decide) xs0 (by decide) (by decide) (by decide) (Nat.le_of_ble_eq_true rfl) (Nat.le_of_ble_eq_true rfl) d_X7_init_17 ?_
  refine aw_putrF (k0 := 1) kc_7 (ss_n hs1 (by decide)) (Nat.le_of_ble_eq_true rfl) tw_153 d_X7_init_19 rfl rfl rfl rfl ?_
  have hs3 := ss_step (k := 48) (t := 0) (n := 400) (c' := 16) (s := 1) (r := some 48) hs1 (by decide)
  have hn4 := nn_step (k := 48) (t := 0) (n := 400) (c := 16) (s := 1) (r := some 48) hn2
  refine aw_aload_n (i := 0) rfl d_X7_init_22 0 rfl ?_
  refine aw_sipush (v := 400) d_X7_init_23 is_400 ?_
  refine aw_newa (t := 0) (atype := .int) 49 400 (by decide) rfl tw_51 (hn4 49 (by decide) (by decide)) (by decide) xs0 (by decide) (by decide) (by decide) (Nat.le_of_ble_eq_true rfl) (Nat.le_of_ble_eq_true rfl) d_X7_init_26 ?_
  refine aw_putrF (k0 := 2) kc_7 (ss_n hs3 (by decide)) (Nat.le_of_ble_eq_true rfl) tw_154 d_X7_init_28 rfl rfl rfl rfl ?_
  have hs5 := ss_step (k := 49) (t := 0) (n := 400) (c' := 16) (s := 2) (r := some 49) hs3 (by decide)
  have hn6 := nn_step (k := 49) (t := 0) (n := 400) (c := 16) (s := 2) (r := some 49) hn4
  refine aw_aload_n (i := 0) rfl d_X7_init_31 0 rfl ?_
  refine aw_sipush (v := 400) d_X7_init_32 is_400 ?_
  refine aw_newa (t := 0) (atype := .int) 50 400 (by decide) rfl tw_51 (hn6 50 (by decide) (by decide)) (by decide) xs0 (by decide) (by decide) (by decide) (Nat.le_of_ble_eq_true rfl) (Nat.le_of_ble_eq_true rfl) d_X7_init_35 ?_
  refine aw_putrF (k0 := 3) kc_7 (ss_n hs5 (by decide)) (Nat.le_of_ble_eq_true rfl) tw_155 d_X7_init_37 rfl rfl rfl rfl ?_
  have hs7 := ss_step (k := 50) (t := 0) (n := 400) (c' := 16) (s := 3) (r := some 50) hs5 (by decide)
  have hn8 := nn_step (k := 50) (t := 0) (n := 400) (c := 16) (s := 3) (r := some 50) hn6
  refine aw_aload_n (i := 0) rfl d_X7_init_40 0 rfl ?_
  refine aw_sipush (v := 400) d_X7_init_41 is_400 ?_
  refine aw_newa (t := 0) (atype := .int) 51 400 (by decide) rfl tw_51 (hn8 51 (by decide) (by decide)) (by decide) xs0 (by decide) (by decide) (by decide) (Nat.le_of_ble_eq_true rfl) (Nat.le_of_ble_eq_true rfl) d_X7_init_44 ?_
  refine aw_putrF (k0 := 4) kc_7 (ss_n hs7 (by decide)) (Nat.le_of_ble_eq_true rfl) tw_156 d_X7_init_46 rfl rfl rfl rfl ?_
  have hs9 := ss_step (k := 51) (t := 0) (n := 400) (c' := 16) (s := 4) (r := some 51) hs7 (by decide)
  have hn10 := nn_step (k := 51) (t := 0) (n := 400) (c := 16) (s := 4) (r := some 51) hn8
  refine aw_aload_n (i := 0) rfl d_X7_init_49 0 rfl ?_
  refine aw_sipush (v := 400) d_X7_init_50 is_400 ?_
  refine aw_newa (t := 0) (atype := .int) 52 400 (by decide) rfl tw_51 (hn10 52 (by decide) (by decide)) (by decide) xs0 (by decide) (by decide) (by decide) (Nat.le_of_ble_eq_true rfl) (Nat.le_of_ble_eq_true rfl) d_X7_init_53 ?_
  refine aw_putrF (k0 := 5) kc_7 (ss_n hs9 (by decide)) (Nat.le_of_ble_eq_true rfl) tw_157 d_X7_init_55 rfl rfl rfl rfl ?_
  have hs11 := ss_step (k := 52) (t := 0) (n := 400) (c' := 16) (s := 5) (r := some 52) hs9 (by decide)
  have hn12 := nn_step (k := 52) (t := 0) (n := 400) (c := 16) (s := 5) (r := some 52) hn10
  refine aw_aload_n (i := 0) rfl d_X7_init_58 0 rfl ?_
  refine aw_sipush (v := 400) d_X7_init_59 is_400 ?_
  refine aw_newa (t := 0) (atype := .int) 53 400 (by decide) rfl tw_51 (hn12 53 (by decide) (by decide)) (by decide) xs0 (by decide) (by decide) (by decide) (Nat.le_of_ble_eq_true rfl) (Nat.le_of_ble_eq_true rfl) d_X7_init_62 ?_
  refine aw_putrF (k0 := 6) kc_7 (ss_n hs11 (by decide)) (Nat.le_of_ble_eq_true rfl) tw_158 d_X7_init_64 rfl rfl rfl rfl ?_
  have hs13 := ss_step (k := 53) (t := 0) (n := 400) (c' := 16) (s := 6) (r := some 53) hs11 (by decide)
  have hn14 := nn_step (k := 53) (t := 0) (n := 400) (c := 16) (s := 6) (r := some 53) hn12
  refine aw_aload_n (i := 0) rfl d_X7_init_67 0 rfl ?_
  refine aw_sipush (v := 200) d_X7_init_68 is_200 ?_
  refine aw_newa (t := 0) (atype := .int) 54 200 (by decide) rfl tw_51 (hn14 54 (by decide) (by decide)) (by decide) xs0 (by decide) (by decide) (by decide) (Nat.le_of_ble_eq_true rfl) (Nat.le_of_ble_eq_true rfl) d_X7_init_71 ?_
  refine aw_putrF (k0 := 8) kc_7 (ss_n hs13 (by decide)) (Nat.le_of_ble_eq_true rfl) tw_161 d_X7_init_73 rfl rfl rfl rfl ?_
  have hs15 := ss_step (k := 54) (t := 0) (n := 200) (c' := 16) (s := 8) (r := some 54) hs13 (by decide)
  have hn16 := nn_step (k := 54) (t := 0) (n := 200) (c := 16) (s := 8) (r := some 54) hn14
  refine aw_aload_n (i := 0) rfl d_X7_init_76 0 rfl ?_
  refine aw_sipush (v := 200) d_X7_init_77 is_200 ?_
  refine aw_newa (t := 0) (atype := .int) 55 200 (by decide) rfl tw_51 (hn16 55 (by decide) (by decide)) (by decide) xs0 (by decide) (by decide) (by decide) (Nat.le_of_ble_eq_true rfl) (Nat.le_of_ble_eq_true rfl) d_X7_init_80 ?_
  refine aw_putrF (k0 := 9) kc_7 (ss_n hs15 (by decide)) (Nat.le_of_ble_eq_true rfl) tw_162 d_X7_init_82 rfl rfl rfl rfl ?_
  have hs17 := ss_step (k := 55) (t := 0) (n := 200) (c' := 16) (s := 9) (r := some 55) hs15 (by decide)
  have hn18 := nn_step (k := 55) (t := 0) (n := 200) (c := 16) (s := 9) (r := some 55) hn16
  refine aw_aload_n (i := 0) rfl d_X7_init_85 0 rfl ?_
  refine aw_sipush (v := 200) d_X7_init_86 is_200 ?_
  refine aw_newa (t := 0) (atype := .int) 56 200 (by decide) rfl tw_51 (hn18 56 (by decide) (by decide)) (by decide) xs0 (by decide) (by decide) (by decide) (Nat.le_of_ble_eq_true rfl) (Nat.le_of_ble_eq_true rfl) d_X7_init_89 ?_
  refine aw_putrF (k0 := 10) kc_7 (ss_n hs17 (by decide)) (Nat.le_of_ble_eq_true rfl) tw_163 d_X7_init_91 rfl rfl rfl rfl ?_
  have hs19 := ss_step (k := 56) (t := 0) (n := 200) (c' := 16) (s := 10) (r := some 56) hs17 (by decide)
  have hn20 := nn_step (k := 56) (t := 0) (n := 200) (c := 16) (s := 10) (r := some 56) hn18
  exact aw_vret rfl d_X7_init_94 ⟨Nat.le_of_ble_eq_true rfl, Nat.le_of_ble_eq_true rfl⟩ ⟨rfl, rfl⟩
set_option maxRecDepth 100000 in
def CH_17 (h : Hp_) : Hp_ := h_rm (h_nw (h_rm (h_nw (h_rm (h_nw (h_rm (h_nw (h_rm (h_nw (h_rm (h_nw (h_rm (h_nw (h_rm (h_nw (h_rm (h_nw (h_rm (h_nw (h_rm (h_nw (h_rm (h_nw (h_rm (h_nw (h_rm (h_nw h 57 0 80) 17 0 (some 57)) 58 0 80) 17 1 (some 58)) 59 0 80) 17 2 (some 59)) 60 0 80) 17 3 (some 60)) 61 0 80) 17 4 (some 61)) 62 0 80) 17 5 (some 62)) 63 1 80) 17 6 (some 63)) 64 0 300) 17 9 (some 64)) 65 0 300) 17 10 (some 65)) 66 0 300) 17 11 (some 66)) 67 0 300) 17 12 (some 67)) 68 0 300) 17 13 (some 68)) 69 0 300) 17 14 (some 69)) 70 0 2700) 17 15 (some 70)
set_option maxRecDepth 100000 in
theorem k_X4_init_17 (d : Nat) (h : Hp_) (hs : h_sh h 17 = some (14, 17)) (hn : ∀ a, 57 ≤ a → a < 71 → h_sh h a = none) : Cv (m_X4_init (d + 1) 14 5060) [.ref 17] h (fun h' => h' = CH_17 h) := by
  refine Ct.of (fun _ _ _ => trivial) rfl (Nat.le_of_ble_eq_true rfl) ?_
  show AW (m_X4_init (d + 1) 14 5060) 0 0 0 [(0, .ref 17)] [] h (kV _)
  refine aw_aload_n (i := 0) rfl d_X4_init_0 0 rfl ?_
  refine aw_objInit (rest := []) d_X4_init_1 tw_195 tw_33 tw_34 (show 1 ≤ d + 1 by omega) (show 0 + 12 ≤ 100 * (d + 1) by omega) ?_
  refine aw_aload_n (i := 0) rfl d_X4_init_4 0 rfl ?_
  refine aw_bipush (v := 80) d_X4_init_5 ib_80 ?_
  refine aw_newa (t := 0) (atype := .int) 57 80 (by decide) rfl tw_51 (hn 57 (by decide) (by decide)) (by decide) xs0 (by decide) (by decide) (by decide) (Nat.le_of_ble_eq_true rfl) (Nat.le_of_ble_eq_true rfl) d_X4_init_7 ?_
  refine aw_putrF (k0 := 0) kc_4 (ss_n hs (by decide)) (Nat.le_of_ble_eq_true rfl) tw_196 d_X4_init_9 rfl rfl rfl rfl ?_
  have hs1 := ss_step (k := 57) (t := 0) (n := 80) (c' := 17) (s := 0) (r := some 57) hs (by decide)
  have hn2 := nn_step (k := 57) (t := 0) (n := 80) (c := 17) (s := 0) (r := some 57) hn
  refine aw_aload_n (i := 0) rfl d_X4_init_12 0 rfl ?_
  refine aw_bipush (v := 80) d_X4_init_13 ib_80 ?_
  refine aw_newa (t := 0) (atype := .int) 58 80 (by decide) rfl tw_51 (hn2 58 (by decide) (by decide)) (by decide) xs0 (by decide) (by decide) (by decide) (Nat.le_of_ble_eq_true rfl) (Nat.le_of_ble_eq_true rfl) d_X4_init_15 ?_
  refine aw_putrF (k0 := 1) kc_4 (ss_n hs1 (by decide)) (Nat.le_of_ble_eq_true rfl) tw_197 d_X4_init_17 rfl rfl rfl rfl ?_
  have hs3 := ss_step (k := 58) (t := 0) (n := 80) (c' := 17) (s := 1) (r := some 58) hs1 (by decide)
  have hn4 := nn_step (k := 58) (t := 0) (n := 80) (c := 17) (s := 1) (r := some 58) hn2
  refine aw_aload_n (i := 0) rfl d_X4_init_20 0 rfl ?_
  refine aw_bipush (v := 80) d_X4_init_21 ib_80 ?_
  refine aw_newa (t := 0) (atype := .int) 59 80 (by decide) rfl tw_51 (hn4 59 (by decide) (by decide)) (by decide) xs0 (by decide) (by decide) (by decide) (Nat.le_of_ble_eq_true rfl) (Nat.le_of_ble_eq_true rfl) d_X4_init_23 ?_
  refine aw_putrF (k0 := 2) kc_4 (ss_n hs3 (by decide)) (Nat.le_of_ble_eq_true rfl) tw_198 d_X4_init_25 rfl rfl rfl rfl ?_
  have hs5 := ss_step (k := 59) (t := 0) (n := 80) (c' := 17) (s := 2) (r := some 59) hs3 (by decide)
  have hn6 := nn_step (k := 59) (t := 0) (n := 80) (c := 17) (s := 2) (r := some 59) hn4
  refine aw_aload_n (i := 0) rfl d_X4_init_28 0 rfl ?_
  refine aw_bipush (v := 80) d_X4_init_29 ib_80 ?_
  refine aw_newa (t := 0) (atype := .int) 60 80 (by decide) rfl tw_51 (hn6 60 (by decide) (by decide)) (by decide) xs0 (by decide) (by decide) (by decide) (Nat.le_of_ble_eq_true rfl) (Nat.le_of_ble_eq_true rfl) d_X4_init_31 ?_
  refine aw_putrF (k0 := 3) kc_4 (ss_n hs5 (by decide)) (Nat.le_of_ble_eq_true rfl) tw_199 d_X4_init_33 rfl rfl rfl rfl ?_
  have hs7 := ss_step (k := 60) (t := 0) (n := 80) (c' := 17) (s := 3) (r := some 60) hs5 (by decide)
  have hn8 := nn_step (k := 60) (t := 0) (n := 80) (c := 17) (s := 3) (r := some 60) hn6
  refine aw_aload_n (i := 0) rfl d_X4_init_36 0 rfl ?_
  refine aw_bipush (v := 80) d_X4_init_37 ib_80 ?_
  refine aw_newa (t := 0) (atype := .int) 61 80 (by decide) rfl tw_51 (hn8 61 (by decide) (by decide)) (by decide) xs0 (by decide) (by decide) (by decide) (Nat.le_of_ble_eq_true rfl) (Nat.le_of_ble_eq_true rfl) d_X4_init_39 ?_
  refine aw_putrF (k0 := 4) kc_4 (ss_n hs7 (by decide)) (Nat.le_of_ble_eq_true rfl) tw_200 d_X4_init_41 rfl rfl rfl rfl ?_
  have hs9 := ss_step (k := 61) (t := 0) (n := 80) (c' := 17) (s := 4) (r := some 61) hs7 (by decide)
  have hn10 := nn_step (k := 61) (t := 0) (n := 80) (c := 17) (s := 4) (r := some 61) hn8
  refine aw_aload_n (i := 0) rfl d_X4_init_44 0 rfl ?_
  refine aw_bipush (v := 80) d_X4_init_45 ib_80 ?_
  refine aw_newa (t := 0) (atype := .int) 62 80 (by decide) rfl tw_51 (hn10 62 (by decide) (by decide)) (by decide) xs0 (by decide) (by decide) (by decide) (Nat.le_of_ble_eq_true rfl) (Nat.le_of_ble_eq_true rfl) d_X4_init_47 ?_
  refine aw_putrF (k0 := 5) kc_4 (ss_n hs9 (by decide)) (Nat.le_of_ble_eq_true rfl) tw_201 d_X4_init_49 rfl rfl rfl rfl ?_
  have hs11 := ss_step (k := 62) (t := 0) (n := 80) (c' := 17) (s := 5) (r := some 62) hs9 (by decide)
  have hn12 := nn_step (k := 62) (t := 0) (n := 80) (c := 17) (s := 5) (r := some 62) hn10
  refine aw_aload_n (i := 0) rfl d_X4_init_52 0 rfl ?_
  refine aw_bipush (v := 80) d_X4_init_53 ib_80 ?_
  refine aw_newa (t := 1) (atype := .boolean) 63 80 (by decide) rfl tw_252 (hn12 63 (by decide) (by decide)) (by decide) xs0 (by decide) (by decide) (by decide) (Nat.le_of_ble_eq_true rfl) (Nat.le_of_ble_eq_true rfl) d_X4_init_55 ?_
  refine aw_putrF (k0 := 6) kc_4 (ss_n hs11 (by decide)) (Nat.le_of_ble_eq_true rfl) tw_202 d_X4_init_57 rfl rfl rfl rfl ?_
  have hs13 := ss_step (k := 63) (t := 1) (n := 80) (c' := 17) (s := 6) (r := some 63) hs11 (by decide)
  have hn14 := nn_step (k := 63) (t := 1) (n := 80) (c := 17) (s := 6) (r := some 63) hn12
  refine aw_aload_n (i := 0) rfl d_X4_init_60 0 rfl ?_
  refine aw_sipush (v := 300) d_X4_init_61 is_300 ?_
  refine aw_newa (t := 0) (atype := .int) 64 300 (by decide) rfl tw_51 (hn14 64 (by decide) (by decide)) (by decide) xs0 (by decide) (by decide) (by decide) (Nat.le_of_ble_eq_true rfl) (Nat.le_of_ble_eq_true rfl) d_X4_init_64 ?_
  refine aw_putrF (k0 := 9) kc_4 (ss_n hs13 (by decide)) (Nat.le_of_ble_eq_true rfl) tw_207 d_X4_init_66 rfl rfl rfl rfl ?_
  have hs15 := ss_step (k := 64) (t := 0) (n := 300) (c' := 17) (s := 9) (r := some 64) hs13 (by decide)
  have hn16 := nn_step (k := 64) (t := 0) (n := 300) (c := 17) (s := 9) (r := some 64) hn14
  refine aw_aload_n (i := 0) rfl d_X4_init_69 0 rfl ?_
  refine aw_sipush (v := 300) d_X4_init_70 is_300 ?_
  refine aw_newa (t := 0) (atype := .int) 65 300 (by decide) rfl tw_51 (hn16 65 (by decide) (by decide)) (by decide) xs0 (by decide) (by decide) (by decide) (Nat.le_of_ble_eq_true rfl) (Nat.le_of_ble_eq_true rfl) d_X4_init_73 ?_
  refine aw_putrF (k0 := 10) kc_4 (ss_n hs15 (by decide)) (Nat.le_of_ble_eq_true rfl) tw_208 d_X4_init_75 rfl rfl rfl rfl ?_
  have hs17 := ss_step (k := 65) (t := 0) (n := 300) (c' := 17) (s := 10) (r := some 65) hs15 (by decide)
  have hn18 := nn_step (k := 65) (t := 0) (n := 300) (c := 17) (s := 10) (r := some 65) hn16
  refine aw_aload_n (i := 0) rfl d_X4_init_78 0 rfl ?_
  refine aw_sipush (v := 300) d_X4_init_79 is_300 ?_
  refine aw_newa (t := 0) (atype := .int) 66 300 (by decide) rfl tw_51 (hn18 66 (by decide) (by decide)) (by decide) xs0 (by decide) (by decide) (by decide) (Nat.le_of_ble_eq_true rfl) (Nat.le_of_ble_eq_true rfl) d_X4_init_82 ?_
  refine aw_putrF (k0 := 11) kc_4 (ss_n hs17 (by decide)) (Nat.le_of_ble_eq_true rfl) tw_209 d_X4_init_84 rfl rfl rfl rfl ?_
  have hs19 := ss_step (k := 66) (t := 0) (n := 300) (c' := 17) (s := 11) (r := some 66) hs17 (by decide)
  have hn20 := nn_step (k := 66) (t := 0) (n := 300) (c := 17) (s := 11) (r := some 66) hn18
  refine aw_aload_n (i := 0) rfl d_X4_init_87 0 rfl ?_
  refine aw_sipush (v := 300) d_X4_init_88 is_300 ?_
  refine aw_newa (t := 0) (atype := .int) 67 300 (by decide) rfl tw_51 (hn20 67 (by decide) (by decide)) (by decide) xs0 (by decide) (by decide) (by decide) (Nat.le_of_ble_eq_true rfl) (Nat.le_of_ble_eq_true rfl) d_X4_init_91 ?_
  refine aw_putrF (k0 := 12) kc_4 (ss_n hs19 (by decide)) (Nat.le_of_ble_eq_true rfl) tw_210 d_X4_init_93 rfl rfl rfl rfl ?_
  have hs21 := ss_step (k := 67) (t := 0) (n := 300) (c' := 17) (s := 12) (r := some 67) hs19 (by decide)
  have hn22 := nn_step (k := 67) (t := 0) (n := 300) (c := 17) (s := 12) (r := some 67) hn20
  refine aw_aload_n (i := 0) rfl d_X4_init_96 0 rfl ?_
  refine aw_sipush (v := 300) d_X4_init_97 is_300 ?_
  refine aw_newa (t := 0) (atype := .int) 68 300 (by decide) rfl tw_51 (hn22 68 (by decide) (by decide)) (by decide) xs0 (by decide) (by decide) (by decide) (Nat.le_of_ble_eq_true rfl) (Nat.le_of_ble_eq_true rfl) d_X4_init_100 ?_
  refine aw_putrF (k0 := 13) kc_4 (ss_n hs21 (by decide)) (Nat.le_of_ble_eq_true rfl) tw_211 d_X4_init_102 rfl rfl rfl rfl ?_
  have hs23 := ss_step (k := 68) (t := 0) (n := 300) (c' := 17) (s := 13) (r := some 68) hs21 (by decide)
  have hn24 := nn_step (k := 68) (t := 0) (n := 300) (c := 17) (s := 13) (r := some 68) hn22
  refine aw_aload_n (i := 0) rfl d_X4_init_105 0 rfl ?_
  refine aw_sipush (v := 300) d_X4_init_106 is_300 ?_
  refine aw_newa (t := 0) (atype := .int) 69 300 (by decide) rfl tw_51 (hn24 69 (by decide) (by decide)) (by decide) xs0 (by decide) (by decide) (by decide) (Nat.le_of_ble_eq_true rfl) (Nat.le_of_ble_eq_true rfl) d_X4_init_109 ?_
  refine aw_putrF (k0 := 14) kc_4 (ss_n hs23 (by decide)) (Nat.le_of_ble_eq_true rfl) tw_212 d_X4_init_111 rfl rfl rfl rfl ?_
  have hs25 := ss_step (k := 69) (t := 0) (n := 300) (c' := 17) (s := 14) (r := some 69) hs23 (by decide)
  have hn26 := nn_step (k := 69) (t := 0) (n := 300) (c := 17) (s := 14) (r := some 69) hn24
  refine aw_aload_n (i := 0) rfl d_X4_init_114 0 rfl ?_
  refine aw_sipush (v := 2700) d_X4_init_115 is_2700 ?_
  refine aw_newa (t := 0) (atype := .int) 70 2700 (by decide) rfl tw_51 (hn26 70 (by decide) (by decide)) (by decide) xs0 (by decide) (by decide) (by decide) (Nat.le_of_ble_eq_true rfl) (Nat.le_of_ble_eq_true rfl) d_X4_init_118 ?_
  refine aw_putrF (k0 := 15) kc_4 (ss_n hs25 (by decide)) (Nat.le_of_ble_eq_true rfl) tw_213 d_X4_init_120 rfl rfl rfl rfl ?_
  have hs27 := ss_step (k := 70) (t := 0) (n := 2700) (c' := 17) (s := 15) (r := some 70) hs25 (by decide)
  have hn28 := nn_step (k := 70) (t := 0) (n := 2700) (c := 17) (s := 15) (r := some 70) hn26
  exact aw_vret rfl d_X4_init_123 ⟨Nat.le_of_ble_eq_true rfl, Nat.le_of_ble_eq_true rfl⟩ ⟨rfl, rfl⟩
set_option maxRecDepth 100000 in
def CH_18 (h : Hp_) : Hp_ := h_iw (h_iw (h_rm (h_nw (h_rm (h_nw (h_rm (h_nw (h_rm (h_nw (h_rm (h_nw (h_rm (h_nw (h_rm (h_nw (h_rm (h_nw (h_rm (h_nw (h_rm (h_nw (h_rm (h_nw (h_rm (h_nw (h_rm (h_nw (h_rm (h_nw h 71 0 30) 18 0 (some 71)) 72 0 30) 18 1 (some 72)) 73 0 30) 18 2 (some 73)) 74 0 10) 18 4 (some 74)) 75 0 8) 18 5 (some 75)) 76 0 200) 18 6 (some 76)) 77 0 200) 18 7 (some 77)) 78 0 16) 18 9 (some 78)) 79 0 180) 18 10 (some 79)) 80 0 180) 18 11 (some 80)) 81 0 180) 18 12 (some 81)) 82 0 8) 18 13 (some 82)) 83 0 8) 18 14 (some 83)) 84 0 30) 18 15 (some 84)) 75 (fl_ (fun _ => 1) (h_i (h_rm (h_nw (h_rm (h_nw (h_rm (h_nw (h_rm (h_nw (h_rm (h_nw (h_rm (h_nw (h_rm (h_nw (h_rm (h_nw (h_rm (h_nw (h_rm (h_nw (h_rm (h_nw (h_rm (h_nw (h_rm (h_nw (h_rm (h_nw h 71 0 30) 18 0 (some 71)) 72 0 30) 18 1 (some 72)) 73 0 30) 18 2 (some 73)) 74 0 10) 18 4 (some 74)) 75 0 8) 18 5 (some 75)) 76 0 200) 18 6 (some 76)) 77 0 200) 18 7 (some 77)) 78 0 16) 18 9 (some 78)) 79 0 180) 18 10 (some 79)) 80 0 180) 18 11 (some 80)) 81 0 180) 18 12 (some 81)) 82 0 8) 18 13 (some 82)) 83 0 8) 18 14 (some 83)) 84 0 30) 18 15 (some 84)) 75) 8)) 78 (fl_ (fun _ => (-1)) (h_i (h_iw (h_rm (h_nw (h_rm (h_nw (h_rm (h_nw (h_rm (h_nw (h_rm (h_nw (h_rm (h_nw (h_rm (h_nw (h_rm (h_nw (h_rm (h_nw (h_rm (h_nw (h_rm (h_nw (h_rm (h_nw (h_rm (h_nw (h_rm (h_nw h 71 0 30) 18 0 (some 71)) 72 0 30) 18 1 (some 72)) 73 0 30) 18 2 (some 73)) 74 0 10) 18 4 (some 74)) 75 0 8) 18 5 (some 75)) 76 0 200) 18 6 (some 76)) 77 0 200) 18 7 (some 77)) 78 0 16) 18 9 (some 78)) 79 0 180) 18 10 (some 79)) 80 0 180) 18 11 (some 80)) 81 0 180) 18 12 (some 81)) 82 0 8) 18 13 (some 82)) 83 0 8) 18 14 (some 83)) 84 0 30) 18 15 (some 84)) 75 (fl_ (fun _ => 1) (h_i (h_rm (h_nw (h_rm (h_nw (h_rm (h_nw (h_rm (h_nw (h_rm (h_nw (h_rm (h_nw (h_rm (h_nw (h_rm (h_nw (h_rm (h_nw (h_rm (h_nw (h_rm (h_nw (h_rm (h_nw (h_rm (h_nw (h_rm (h_nw h 71 0 30) 18 0 (some 71)) 72 0 30) 18 1 (some 72)) 73 0 30) 18 2 (some 73)) 74 0 10) 18 4 (some 74)) 75 0 8) 18 5 (some 75)) 76 0 200) 18 6 (some 76)) 77 0 200) 18 7 (some 77)) 78 0 16) 18 9 (some 78)) 79 0 180) 18 10 (some 79)) 80 0 180) 18 11 (some 80)) 81 0 180) 18 12 (some 81)) 82 0 8) 18 13 (some 82)) 83 0 8) 18 14 (some 83)) 84 0 30) 18 15 (some 84)) 75) 8)) 78) 16)
set_option maxRecDepth 100000 in
theorem k_X1_init_18 (d : Nat) (h : Hp_) (hs : h_sh h 18 = some (11, 16)) (hn : ∀ a, 71 ≤ a → a < 85 → h_sh h a = none) : Cv (m_X1_init (d + 1) 14 1110) [.ref 18] h (fun h' => h' = CH_18 h) := by
  refine Ct.of (fun _ _ _ => trivial) rfl (Nat.le_of_ble_eq_true rfl) ?_
  show AW (m_X1_init (d + 1) 14 1110) 0 0 0 [(0, .ref 18)] [] h (kV _)
  refine aw_aload_n (i := 0) rfl d_X1_init_0 0 rfl ?_
  refine aw_objInit (rest := []) d_X1_init_1 tw_258 tw_33 tw_34 (show 1 ≤ d + 1 by omega) (show 0 + 12 ≤ 100 * (d + 1) by omega) ?_
  refine aw_aload_n (i := 0) rfl d_X1_init_4 0 rfl ?_
  refine aw_bipush (v := 30) d_X1_init_5 ib_30 ?_
  refine aw_newa (t := 0) (atype := .int) 71 30 (by decide) rfl tw_51 (hn 71 (by decide) (by decide)) (by decide) xs0 (by decide) (by decide) (by decide) (Nat.le_of_ble_eq_true rfl) (Nat.le_of_ble_eq_true rfl) d_X1_init_7 ?_
  refine aw_putrF (k0 := 0) kc_1 (ss_n hs (by decide)) (Nat.le_of_ble_eq_true rfl) tw_262 d_X1_init_9 rfl rfl rfl rfl ?_
  have hs1 := ss_step (k := 71) (t := 0) (n := 30) (c' := 18) (s := 0) (r := some 71) hs (by decide)
  have hn2 := nn_step (k := 71) (t := 0) (n := 30) (c := 18) (s := 0) (r := some 71) hn
  refine aw_aload_n (i := 0) rfl d_X1_init_12 0 rfl ?_
  refine aw_bipush (v := 30) d_X1_init_13 ib_30 ?_
  refine aw_newa (t := 0) (atype := .int) 72 30 (by decide) rfl tw_51 (hn2 72 (by decide) (by decide)) (by decide) xs0 (by decide) (by decide) (by decide) (Nat.le_of_ble_eq_true rfl) (Nat.le_of_ble_eq_true rfl) d_X1_init_15 ?_
  refine aw_putrF (k0 := 1) kc_1 (ss_n hs1 (by decide)) (Nat.le_of_ble_eq_true rfl) tw_263 d_X1_init_17 rfl rfl rfl rfl ?_
  have hs3 := ss_step (k := 72) (t := 0) (n := 30) (c' := 18) (s := 1) (r := some 72) hs1 (by decide)
  have hn4 := nn_step (k := 72) (t := 0) (n := 30) (c := 18) (s := 1) (r := some 72) hn2
  refine aw_aload_n (i := 0) rfl d_X1_init_20 0 rfl ?_
  refine aw_bipush (v := 30) d_X1_init_21 ib_30 ?_
  refine aw_newa (t := 0) (atype := .int) 73 30 (by decide) rfl tw_51 (hn4 73 (by decide) (by decide)) (by decide) xs0 (by decide) (by decide) (by decide) (Nat.le_of_ble_eq_true rfl) (Nat.le_of_ble_eq_true rfl) d_X1_init_23 ?_
  refine aw_putrF (k0 := 2) kc_1 (ss_n hs3 (by decide)) (Nat.le_of_ble_eq_true rfl) tw_264 d_X1_init_25 rfl rfl rfl rfl ?_
  have hs5 := ss_step (k := 73) (t := 0) (n := 30) (c' := 18) (s := 2) (r := some 73) hs3 (by decide)
  have hn6 := nn_step (k := 73) (t := 0) (n := 30) (c := 18) (s := 2) (r := some 73) hn4
  refine aw_aload_n (i := 0) rfl d_X1_init_28 0 rfl ?_
  refine aw_bipush (v := 10) d_X1_init_29 ib_10 ?_
  refine aw_newa (t := 0) (atype := .int) 74 10 (by decide) rfl tw_51 (hn6 74 (by decide) (by decide)) (by decide) xs0 (by decide) (by decide) (by decide) (Nat.le_of_ble_eq_true rfl) (Nat.le_of_ble_eq_true rfl) d_X1_init_31 ?_
  refine aw_putrF (k0 := 4) kc_1 (ss_n hs5 (by decide)) (Nat.le_of_ble_eq_true rfl) tw_267 d_X1_init_33 rfl rfl rfl rfl ?_
  have hs7 := ss_step (k := 74) (t := 0) (n := 10) (c' := 18) (s := 4) (r := some 74) hs5 (by decide)
  have hn8 := nn_step (k := 74) (t := 0) (n := 10) (c := 18) (s := 4) (r := some 74) hn6
  refine aw_aload_n (i := 0) rfl d_X1_init_36 0 rfl ?_
  refine aw_bipush (v := 8) d_X1_init_37 ib_8 ?_
  refine aw_newa (t := 0) (atype := .int) 75 8 (by decide) rfl tw_51 (hn8 75 (by decide) (by decide)) (by decide) xs0 (by decide) (by decide) (by decide) (Nat.le_of_ble_eq_true rfl) (Nat.le_of_ble_eq_true rfl) d_X1_init_39 ?_
  refine aw_putrF (k0 := 5) kc_1 (ss_n hs7 (by decide)) (Nat.le_of_ble_eq_true rfl) tw_269 d_X1_init_41 rfl rfl rfl rfl ?_
  have hs9 := ss_step (k := 75) (t := 0) (n := 8) (c' := 18) (s := 5) (r := some 75) hs7 (by decide)
  have hn10 := nn_step (k := 75) (t := 0) (n := 8) (c := 18) (s := 5) (r := some 75) hn8
  refine aw_aload_n (i := 0) rfl d_X1_init_44 0 rfl ?_
  refine aw_sipush (v := 200) d_X1_init_45 is_200 ?_
  refine aw_newa (t := 0) (atype := .int) 76 200 (by decide) rfl tw_51 (hn10 76 (by decide) (by decide)) (by decide) xs0 (by decide) (by decide) (by decide) (Nat.le_of_ble_eq_true rfl) (Nat.le_of_ble_eq_true rfl) d_X1_init_48 ?_
  refine aw_putrF (k0 := 6) kc_1 (ss_n hs9 (by decide)) (Nat.le_of_ble_eq_true rfl) tw_271 d_X1_init_50 rfl rfl rfl rfl ?_
  have hs11 := ss_step (k := 76) (t := 0) (n := 200) (c' := 18) (s := 6) (r := some 76) hs9 (by decide)
  have hn12 := nn_step (k := 76) (t := 0) (n := 200) (c := 18) (s := 6) (r := some 76) hn10
  refine aw_aload_n (i := 0) rfl d_X1_init_53 0 rfl ?_
  refine aw_sipush (v := 200) d_X1_init_54 is_200 ?_
  refine aw_newa (t := 0) (atype := .int) 77 200 (by decide) rfl tw_51 (hn12 77 (by decide) (by decide)) (by decide) xs0 (by decide) (by decide) (by decide) (Nat.le_of_ble_eq_true rfl) (Nat.le_of_ble_eq_true rfl) d_X1_init_57 ?_
  refine aw_putrF (k0 := 7) kc_1 (ss_n hs11 (by decide)) (Nat.le_of_ble_eq_true rfl) tw_272 d_X1_init_59 rfl rfl rfl rfl ?_
  have hs13 := ss_step (k := 77) (t := 0) (n := 200) (c' := 18) (s := 7) (r := some 77) hs11 (by decide)
  have hn14 := nn_step (k := 77) (t := 0) (n := 200) (c := 18) (s := 7) (r := some 77) hn12
  refine aw_aload_n (i := 0) rfl d_X1_init_62 0 rfl ?_
  refine aw_bipush (v := 16) d_X1_init_63 ib_16 ?_
  refine aw_newa (t := 0) (atype := .int) 78 16 (by decide) rfl tw_51 (hn14 78 (by decide) (by decide)) (by decide) xs0 (by decide) (by decide) (by decide) (Nat.le_of_ble_eq_true rfl) (Nat.le_of_ble_eq_true rfl) d_X1_init_65 ?_
  refine aw_putrF (k0 := 9) kc_1 (ss_n hs13 (by decide)) (Nat.le_of_ble_eq_true rfl) tw_275 d_X1_init_67 rfl rfl rfl rfl ?_
  have hs15 := ss_step (k := 78) (t := 0) (n := 16) (c' := 18) (s := 9) (r := some 78) hs13 (by decide)
  have hn16 := nn_step (k := 78) (t := 0) (n := 16) (c := 18) (s := 9) (r := some 78) hn14
  refine aw_aload_n (i := 0) rfl d_X1_init_70 0 rfl ?_
  refine aw_sipush (v := 180) d_X1_init_71 is_180 ?_
  refine aw_newa (t := 0) (atype := .int) 79 180 (by decide) rfl tw_51 (hn16 79 (by decide) (by decide)) (by decide) xs0 (by decide) (by decide) (by decide) (Nat.le_of_ble_eq_true rfl) (Nat.le_of_ble_eq_true rfl) d_X1_init_74 ?_
  refine aw_putrF (k0 := 10) kc_1 (ss_n hs15 (by decide)) (Nat.le_of_ble_eq_true rfl) tw_276 d_X1_init_76 rfl rfl rfl rfl ?_
  have hs17 := ss_step (k := 79) (t := 0) (n := 180) (c' := 18) (s := 10) (r := some 79) hs15 (by decide)
  have hn18 := nn_step (k := 79) (t := 0) (n := 180) (c := 18) (s := 10) (r := some 79) hn16
  refine aw_aload_n (i := 0) rfl d_X1_init_79 0 rfl ?_
  refine aw_sipush (v := 180) d_X1_init_80 is_180 ?_
  refine aw_newa (t := 0) (atype := .int) 80 180 (by decide) rfl tw_51 (hn18 80 (by decide) (by decide)) (by decide) xs0 (by decide) (by decide) (by decide) (Nat.le_of_ble_eq_true rfl) (Nat.le_of_ble_eq_true rfl) d_X1_init_83 ?_
  refine aw_putrF (k0 := 11) kc_1 (ss_n hs17 (by decide)) (Nat.le_of_ble_eq_true rfl) tw_277 d_X1_init_85 rfl rfl rfl rfl ?_
  have hs19 := ss_step (k := 80) (t := 0) (n := 180) (c' := 18) (s := 11) (r := some 80) hs17 (by decide)
  have hn20 := nn_step (k := 80) (t := 0) (n := 180) (c := 18) (s := 11) (r := some 80) hn18
  refine aw_aload_n (i := 0) rfl d_X1_init_88 0 rfl ?_
  refine aw_sipush (v := 180) d_X1_init_89 is_180 ?_
  refine aw_newa (t := 0) (atype := .int) 81 180 (by decide) rfl tw_51 (hn20 81 (by decide) (by decide)) (by decide) xs0 (by decide) (by decide) (by decide) (Nat.le_of_ble_eq_true rfl) (Nat.le_of_ble_eq_true rfl) d_X1_init_92 ?_
  refine aw_putrF (k0 := 12) kc_1 (ss_n hs19 (by decide)) (Nat.le_of_ble_eq_true rfl) tw_278 d_X1_init_94 rfl rfl rfl rfl ?_
  have hs21 := ss_step (k := 81) (t := 0) (n := 180) (c' := 18) (s := 12) (r := some 81) hs19 (by decide)
  have hn22 := nn_step (k := 81) (t := 0) (n := 180) (c := 18) (s := 12) (r := some 81) hn20
  refine aw_aload_n (i := 0) rfl d_X1_init_97 0 rfl ?_
  refine aw_bipush (v := 8) d_X1_init_98 ib_8 ?_
  refine aw_newa (t := 0) (atype := .int) 82 8 (by decide) rfl tw_51 (hn22 82 (by decide) (by decide)) (by decide) xs0 (by decide) (by decide) (by decide) (Nat.le_of_ble_eq_true rfl) (Nat.le_of_ble_eq_true rfl) d_X1_init_100 ?_
  refine aw_putrF (k0 := 13) kc_1 (ss_n hs21 (by decide)) (Nat.le_of_ble_eq_true rfl) tw_279 d_X1_init_102 rfl rfl rfl rfl ?_
  have hs23 := ss_step (k := 82) (t := 0) (n := 8) (c' := 18) (s := 13) (r := some 82) hs21 (by decide)
  have hn24 := nn_step (k := 82) (t := 0) (n := 8) (c := 18) (s := 13) (r := some 82) hn22
  refine aw_aload_n (i := 0) rfl d_X1_init_105 0 rfl ?_
  refine aw_bipush (v := 8) d_X1_init_106 ib_8 ?_
  refine aw_newa (t := 0) (atype := .int) 83 8 (by decide) rfl tw_51 (hn24 83 (by decide) (by decide)) (by decide) xs0 (by decide) (by decide) (by decide) (Nat.le_of_ble_eq_true rfl) (Nat.le_of_ble_eq_true rfl) d_X1_init_108 ?_
  refine aw_putrF (k0 := 14) kc_1 (ss_n hs23 (by decide)) (Nat.le_of_ble_eq_true rfl) tw_280 d_X1_init_110 rfl rfl rfl rfl ?_
  have hs25 := ss_step (k := 83) (t := 0) (n := 8) (c' := 18) (s := 14) (r := some 83) hs23 (by decide)
  have hn26 := nn_step (k := 83) (t := 0) (n := 8) (c := 18) (s := 14) (r := some 83) hn24
  refine aw_aload_n (i := 0) rfl d_X1_init_113 0 rfl ?_
  refine aw_bipush (v := 30) d_X1_init_114 ib_30 ?_
  refine aw_newa (t := 0) (atype := .int) 84 30 (by decide) rfl tw_51 (hn26 84 (by decide) (by decide)) (by decide) xs0 (by decide) (by decide) (by decide) (Nat.le_of_ble_eq_true rfl) (Nat.le_of_ble_eq_true rfl) d_X1_init_116 ?_
  refine aw_putrF (k0 := 15) kc_1 (ss_n hs25 (by decide)) (Nat.le_of_ble_eq_true rfl) tw_281 d_X1_init_118 rfl rfl rfl rfl ?_
  have hs27 := ss_step (k := 84) (t := 0) (n := 30) (c' := 18) (s := 15) (r := some 84) hs25 (by decide)
  have hn28 := nn_step (k := 84) (t := 0) (n := 30) (c := 18) (s := 15) (r := some 84) hn26
  refine aw_aload_n (i := 0) rfl d_X1_init_121 0 rfl ?_
  refine aw_getr (k0 := 5) (b := 75) kc_1 hs27 (Nat.le_of_ble_eq_true rfl) tw_269 d_X1_init_122 rfl rfl ?_
  refine aw_iconst (v := 1) d_X1_init_125 ic_1 ?_
  refine aw_Sv [.ref 75, .int 1] [] d_X1_init_126 (cS_J7_fill_53178 (d + 0) 0 0) tw_259 rfl (rr1 (by decide) (by decide) (Nat.le_of_ble_eq_true rfl) (Nat.le_of_ble_eq_true rfl)) (by decide) xs0 (s_J7_fill d _ 75 8 1 rfl (by decide)) (fun h9 kk => ?_)
  subst kk
  refine aw_aload_n (i := 0) rfl d_X1_init_129 0 rfl ?_
  refine aw_getr (k0 := 9) (b := 78) kc_1 hs27 (Nat.le_of_ble_eq_true rfl) tw_275 d_X1_init_130 rfl rfl ?_
  refine aw_iconst (v := (-1)) d_X1_init_133 ic_m1 ?_
  refine aw_Sv [.ref 78, .int (-1)] [] d_X1_init_134 (cS_J7_fill_53178 (d + 0) 0 0) tw_259 rfl (rr1 (by decide) (by decide) (Nat.le_of_ble_eq_true rfl) (Nat.le_of_ble_eq_true rfl)) (by decide) xs0 (s_J7_fill d _ 78 16 (-1) rfl (by decide)) (fun h9 kk => ?_)
  subst kk
  exact aw_vret rfl d_X1_init_137 ⟨Nat.le_of_ble_eq_true rfl, Nat.le_of_ble_eq_true rfl⟩ ⟨rfl, rfl⟩
set_option maxRecDepth 100000 in
def CH_19 (h : Hp_) : Hp_ := h_rm (h_nw (h_rm (h_nw (h_rm (h_nw (h_rm (h_nw (h_rm (h_nw (h_im (h_im (h_rm (h_nw (h_rm (h_nw h 85 0 8) 19 0 (some 85)) 86 0 8) 19 1 (some 86)) 19 4 3) 19 5 1) 87 0 64) 19 6 (some 87)) 88 0 2304) 19 7 (some 88)) 89 1 2304) 19 8 (some 89)) 90 0 8) 19 9 (some 90)) 91 0 8) 19 10 (some 91)
set_option maxRecDepth 100000 in
theorem k_X3_init_19 (d : Nat) (h : Hp_) (hs : h_sh h 19 = some (13, 11)) (hn : ∀ a, 85 ≤ a → a < 92 → h_sh h a = none) : Cv (m_X3_init (d + 1) 7 4704) [.ref 19] h (fun h' => h' = CH_19 h) := by
  refine Ct.of (fun _ _ _ => trivial) rfl (Nat.le_of_ble_eq_true rfl) ?_
  show AW (m_X3_init (d + 1) 7 4704) 0 0 0 [(0, .ref 19)] [] h (kV _)
  refine aw_aload_n (i := 0) rfl d_X3_init_0 0 rfl ?_
  refine aw_objInit (rest := []) d_X3_init_1 tw_320 tw_33 tw_34 (show 1 ≤ d + 1 by omega) (show 0 + 12 ≤ 100 * (d + 1) by omega) ?_
  refine aw_aload_n (i := 0) rfl d_X3_init_4 0 rfl ?_
  refine aw_bipush (v := 8) d_X3_init_5 ib_8 ?_
  refine aw_newa (t := 0) (atype := .int) 85 8 (by decide) rfl tw_51 (hn 85 (by decide) (by decide)) (by decide) xs0 (by decide) (by decide) (by decide) (Nat.le_of_ble_eq_true rfl) (Nat.le_of_ble_eq_true rfl) d_X3_init_7 ?_
  refine aw_putrF (k0 := 0) kc_3 (ss_n hs (by decide)) (Nat.le_of_ble_eq_true rfl) tw_321 d_X3_init_9 rfl rfl rfl rfl ?_
  have hs1 := ss_step (k := 85) (t := 0) (n := 8) (c' := 19) (s := 0) (r := some 85) hs (by decide)
  have hn2 := nn_step (k := 85) (t := 0) (n := 8) (c := 19) (s := 0) (r := some 85) hn
  refine aw_aload_n (i := 0) rfl d_X3_init_12 0 rfl ?_
  refine aw_bipush (v := 8) d_X3_init_13 ib_8 ?_
  refine aw_newa (t := 0) (atype := .int) 86 8 (by decide) rfl tw_51 (hn2 86 (by decide) (by decide)) (by decide) xs0 (by decide) (by decide) (by decide) (Nat.le_of_ble_eq_true rfl) (Nat.le_of_ble_eq_true rfl) d_X3_init_15 ?_
  refine aw_putrF (k0 := 1) kc_3 (ss_n hs1 (by decide)) (Nat.le_of_ble_eq_true rfl) tw_322 d_X3_init_17 rfl rfl rfl rfl ?_
  have hs3 := ss_step (k := 86) (t := 0) (n := 8) (c' := 19) (s := 1) (r := some 86) hs1 (by decide)
  have hn4 := nn_step (k := 86) (t := 0) (n := 8) (c := 19) (s := 1) (r := some 86) hn2
  refine aw_aload_n (i := 0) rfl d_X3_init_20 0 rfl ?_
  refine aw_iconst (v := 3) d_X3_init_21 ic_3 ?_
  refine aw_puti (k0 := 4) kc_3 hs3 (Nat.le_of_ble_eq_true rfl) tw_327 d_X3_init_22 rfl rfl nf_i ?_
  have hs5 := ss_im (a := 19) (k := 4) (x := 3) hs3
  have hn6 := nn_im (b := 19) (k := 4) (x := 3) hn4
  refine aw_aload_n (i := 0) rfl d_X3_init_25 0 rfl ?_
  refine aw_iconst (v := 1) d_X3_init_26 ic_1 ?_
  refine aw_puti (k0 := 5) kc_3 hs5 (Nat.le_of_ble_eq_true rfl) tw_328 d_X3_init_27 rfl rfl ⟨rfl, rfl⟩ ?_
  have hs7 := ss_im (a := 19) (k := 5) (x := 1) hs5
  have hn8 := nn_im (b := 19) (k := 5) (x := 1) hn6
  refine aw_aload_n (i := 0) rfl d_X3_init_30 0 rfl ?_
  refine aw_bipush (v := 64) d_X3_init_31 ib_64 ?_
  refine aw_newa (t := 0) (atype := .int) 87 64 (by decide) rfl tw_51 (hn8 87 (by decide) (by decide)) (by decide) xs0 (by decide) (by decide) (by decide) (Nat.le_of_ble_eq_true rfl) (Nat.le_of_ble_eq_true rfl) d_X3_init_33 ?_
  refine aw_putrF (k0 := 6) kc_3 (ss_n hs7 (by decide)) (Nat.le_of_ble_eq_true rfl) tw_329 d_X3_init_35 rfl rfl rfl rfl ?_
  have hs9 := ss_step (k := 87) (t := 0) (n := 64) (c' := 19) (s := 6) (r := some 87) hs7 (by decide)
  have hn10 := nn_step (k := 87) (t := 0) (n := 64) (c := 19) (s := 6) (r := some 87) hn8
  refine aw_aload_n (i := 0) rfl d_X3_init_38 0 rfl ?_
  refine aw_sipush (v := 2304) d_X3_init_39 is_2304 ?_
  refine aw_newa (t := 0) (atype := .int) 88 2304 (by decide) rfl tw_51 (hn10 88 (by decide) (by decide)) (by decide) xs0 (by decide) (by decide) (by decide) (Nat.le_of_ble_eq_true rfl) (Nat.le_of_ble_eq_true rfl) d_X3_init_42 ?_
  refine aw_putrF (k0 := 7) kc_3 (ss_n hs9 (by decide)) (Nat.le_of_ble_eq_true rfl) tw_330 d_X3_init_44 rfl rfl rfl rfl ?_
  have hs11 := ss_step (k := 88) (t := 0) (n := 2304) (c' := 19) (s := 7) (r := some 88) hs9 (by decide)
  have hn12 := nn_step (k := 88) (t := 0) (n := 2304) (c := 19) (s := 7) (r := some 88) hn10
  refine aw_aload_n (i := 0) rfl d_X3_init_47 0 rfl ?_
  refine aw_sipush (v := 2304) d_X3_init_48 is_2304 ?_
  refine aw_newa (t := 1) (atype := .boolean) 89 2304 (by decide) rfl tw_252 (hn12 89 (by decide) (by decide)) (by decide) xs0 (by decide) (by decide) (by decide) (Nat.le_of_ble_eq_true rfl) (Nat.le_of_ble_eq_true rfl) d_X3_init_51 ?_
  refine aw_putrF (k0 := 8) kc_3 (ss_n hs11 (by decide)) (Nat.le_of_ble_eq_true rfl) tw_331 d_X3_init_53 rfl rfl rfl rfl ?_
  have hs13 := ss_step (k := 89) (t := 1) (n := 2304) (c' := 19) (s := 8) (r := some 89) hs11 (by decide)
  have hn14 := nn_step (k := 89) (t := 1) (n := 2304) (c := 19) (s := 8) (r := some 89) hn12
  refine aw_aload_n (i := 0) rfl d_X3_init_56 0 rfl ?_
  refine aw_bipush (v := 8) d_X3_init_57 ib_8 ?_
  refine aw_newa (t := 0) (atype := .int) 90 8 (by decide) rfl tw_51 (hn14 90 (by decide) (by decide)) (by decide) xs0 (by decide) (by decide) (by decide) (Nat.le_of_ble_eq_true rfl) (Nat.le_of_ble_eq_true rfl) d_X3_init_59 ?_
  refine aw_putrF (k0 := 9) kc_3 (ss_n hs13 (by decide)) (Nat.le_of_ble_eq_true rfl) tw_332 d_X3_init_61 rfl rfl rfl rfl ?_
  have hs15 := ss_step (k := 90) (t := 0) (n := 8) (c' := 19) (s := 9) (r := some 90) hs13 (by decide)
  have hn16 := nn_step (k := 90) (t := 0) (n := 8) (c := 19) (s := 9) (r := some 90) hn14
  refine aw_aload_n (i := 0) rfl d_X3_init_64 0 rfl ?_
  refine aw_bipush (v := 8) d_X3_init_65 ib_8 ?_
  refine aw_newa (t := 0) (atype := .int) 91 8 (by decide) rfl tw_51 (hn16 91 (by decide) (by decide)) (by decide) xs0 (by decide) (by decide) (by decide) (Nat.le_of_ble_eq_true rfl) (Nat.le_of_ble_eq_true rfl) d_X3_init_67 ?_
  refine aw_putrF (k0 := 10) kc_3 (ss_n hs15 (by decide)) (Nat.le_of_ble_eq_true rfl) tw_333 d_X3_init_69 rfl rfl rfl rfl ?_
  have hs17 := ss_step (k := 91) (t := 0) (n := 8) (c' := 19) (s := 10) (r := some 91) hs15 (by decide)
  have hn18 := nn_step (k := 91) (t := 0) (n := 8) (c := 19) (s := 10) (r := some 91) hn16
  exact aw_vret rfl d_X3_init_72 ⟨Nat.le_of_ble_eq_true rfl, Nat.le_of_ble_eq_true rfl⟩ ⟨rfl, rfl⟩
set_option maxRecDepth 100000 in
def CH_20 (h : Hp_) : Hp_ := h_rm (h_nw (h_rm (h_nw (h_rm (h_nw (h_rm (h_nw (h_rm (h_nw (h_rm (h_nw (h_rm (h_nw (h_rm (h_nw (h_rm (h_nw (h_rm (h_nw (h_rm (h_nw (h_rm (h_nw h 92 0 8) 20 0 (some 92)) 93 0 8) 20 1 (some 93)) 94 0 8) 20 2 (some 94)) 95 3 5) 20 4 (some 95)) 96 0 5) 20 5 (some 96)) 97 0 5) 20 6 (some 97)) 98 0 4) 20 13 (some 98)) 99 0 4) 20 14 (some 99)) 100 0 4) 20 15 (some 100)) 101 0 48) 20 17 (some 101)) 102 0 3328) 20 18 (some 102)) 103 0 12) 20 19 (some 103)
set_option maxRecDepth 100000 in
theorem k_X6_init_20 (d : Nat) (h : Hp_) (hs : h_sh h 20 = some (16, 20)) (hn : ∀ a, 92 ≤ a → a < 104 → h_sh h a = none) : Cv (m_X6_init (d + 1) 12 3439) [.ref 20] h (fun h' => h' = CH_20 h) := by
  refine Ct.of (fun _ _ _ => trivial) rfl (Nat.le_of_ble_eq_true rfl) ?_
  show AW (m_X6_init (d + 1) 12 3439) 0 0 0 [(0, .ref 20)] [] h (kV _)
  refine aw_aload_n (i := 0) rfl d_X6_init_0 0 rfl ?_
  refine aw_objInit (rest := []) d_X6_init_1 tw_362 tw_33 tw_34 (show 1 ≤ d + 1 by omega) (show 0 + 12 ≤ 100 * (d + 1) by omega) ?_
  refine aw_aload_n (i := 0) rfl d_X6_init_4 0 rfl ?_
  refine aw_bipush (v := 8) d_X6_init_5 ib_8 ?_
  refine aw_newa (t := 0) (atype := .int) 92 8 (by decide) rfl tw_51 (hn 92 (by decide) (by decide)) (by decide) xs0 (by decide) (by decide) (by decide) (Nat.le_of_ble_eq_true rfl) (Nat.le_of_ble_eq_true rfl) d_X6_init_7 ?_
  refine aw_putrF (k0 := 0) kc_6 (ss_n hs (by decide)) (Nat.le_of_ble_eq_true rfl) tw_363 d_X6_init_9 rfl rfl rfl rfl ?_
  have hs1 := ss_step (k := 92) (t := 0) (n := 8) (c' := 20) (s := 0) (r := some 92) hs (by decide)
  have hn2 := nn_step (k := 92) (t := 0) (n := 8) (c := 20) (s := 0) (r := some 92) hn
  refine aw_aload_n (i := 0) rfl d_X6_init_12 0 rfl ?_
  refine aw_bipush (v := 8) d_X6_init_13 ib_8 ?_
  refine aw_newa (t := 0) (atype := .int) 93 8 (by decide) rfl tw_51 (hn2 93 (by decide) (by decide)) (by decide) xs0 (by decide) (by decide) (by decide) (Nat.le_of_ble_eq_true rfl) (Nat.le_of_ble_eq_true rfl) d_X6_init_15 ?_
  refine aw_putrF (k0 := 1) kc_6 (ss_n hs1 (by decide)) (Nat.le_of_ble_eq_true rfl) tw_364 d_X6_init_17 rfl rfl rfl rfl ?_
  have hs3 := ss_step (k := 93) (t := 0) (n := 8) (c' := 20) (s := 1) (r := some 93) hs1 (by decide)
  have hn4 := nn_step (k := 93) (t := 0) (n := 8) (c := 20) (s := 1) (r := some 93) hn2
  refine aw_aload_n (i := 0) rfl d_X6_init_20 0 rfl ?_
  refine aw_bipush (v := 8) d_X6_init_21 ib_8 ?_
  refine aw_newa (t := 0) (atype := .int) 94 8 (by decide) rfl tw_51 (hn4 94 (by decide) (by decide)) (by decide) xs0 (by decide) (by decide) (by decide) (Nat.le_of_ble_eq_true rfl) (Nat.le_of_ble_eq_true rfl) d_X6_init_23 ?_
  refine aw_putrF (k0 := 2) kc_6 (ss_n hs3 (by decide)) (Nat.le_of_ble_eq_true rfl) tw_365 d_X6_init_25 rfl rfl rfl rfl ?_
  have hs5 := ss_step (k := 94) (t := 0) (n := 8) (c' := 20) (s := 2) (r := some 94) hs3 (by decide)
  have hn6 := nn_step (k := 94) (t := 0) (n := 8) (c := 20) (s := 2) (r := some 94) hn4
  refine aw_aload_n (i := 0) rfl d_X6_init_28 0 rfl ?_
  refine aw_iconst (v := 5) d_X6_init_29 ic_5 ?_
  refine aw_newa (t := 3) (atype := .long) 95 5 (by decide) rfl tw_426 (hn6 95 (by decide) (by decide)) (by decide) xs0 (by decide) (by decide) (by decide) (Nat.le_of_ble_eq_true rfl) (Nat.le_of_ble_eq_true rfl) d_X6_init_30 ?_
  refine aw_putrF (k0 := 4) kc_6 (ss_n hs5 (by decide)) (Nat.le_of_ble_eq_true rfl) tw_368 d_X6_init_32 rfl rfl rfl rfl ?_
  have hs7 := ss_step (k := 95) (t := 3) (n := 5) (c' := 20) (s := 4) (r := some 95) hs5 (by decide)
  have hn8 := nn_step (k := 95) (t := 3) (n := 5) (c := 20) (s := 4) (r := some 95) hn6
  refine aw_aload_n (i := 0) rfl d_X6_init_35 0 rfl ?_
  refine aw_iconst (v := 5) d_X6_init_36 ic_5 ?_
  refine aw_newa (t := 0) (atype := .int) 96 5 (by decide) rfl tw_51 (hn8 96 (by decide) (by decide)) (by decide) xs0 (by decide) (by decide) (by decide) (Nat.le_of_ble_eq_true rfl) (Nat.le_of_ble_eq_true rfl) d_X6_init_37 ?_
  refine aw_putrF (k0 := 5) kc_6 (ss_n hs7 (by decide)) (Nat.le_of_ble_eq_true rfl) tw_369 d_X6_init_39 rfl rfl rfl rfl ?_
  have hs9 := ss_step (k := 96) (t := 0) (n := 5) (c' := 20) (s := 5) (r := some 96) hs7 (by decide)
  have hn10 := nn_step (k := 96) (t := 0) (n := 5) (c := 20) (s := 5) (r := some 96) hn8
  refine aw_aload_n (i := 0) rfl d_X6_init_42 0 rfl ?_
  refine aw_iconst (v := 5) d_X6_init_43 ic_5 ?_
  refine aw_newa (t := 0) (atype := .int) 97 5 (by decide) rfl tw_51 (hn10 97 (by decide) (by decide)) (by decide) xs0 (by decide) (by decide) (by decide) (Nat.le_of_ble_eq_true rfl) (Nat.le_of_ble_eq_true rfl) d_X6_init_44 ?_
  refine aw_putrF (k0 := 6) kc_6 (ss_n hs9 (by decide)) (Nat.le_of_ble_eq_true rfl) tw_370 d_X6_init_46 rfl rfl rfl rfl ?_
  have hs11 := ss_step (k := 97) (t := 0) (n := 5) (c' := 20) (s := 6) (r := some 97) hs9 (by decide)
  have hn12 := nn_step (k := 97) (t := 0) (n := 5) (c := 20) (s := 6) (r := some 97) hn10
  refine aw_aload_n (i := 0) rfl d_X6_init_49 0 rfl ?_
  refine aw_iconst (v := 4) d_X6_init_50 ic_4 ?_
  refine aw_newa (t := 0) (atype := .int) 98 4 (by decide) rfl tw_51 (hn12 98 (by decide) (by decide)) (by decide) xs0 (by decide) (by decide) (by decide) (Nat.le_of_ble_eq_true rfl) (Nat.le_of_ble_eq_true rfl) d_X6_init_51 ?_
  refine aw_putrF (k0 := 13) kc_6 (ss_n hs11 (by decide)) (Nat.le_of_ble_eq_true rfl) tw_377 d_X6_init_53 rfl rfl rfl rfl ?_
  have hs13 := ss_step (k := 98) (t := 0) (n := 4) (c' := 20) (s := 13) (r := some 98) hs11 (by decide)
  have hn14 := nn_step (k := 98) (t := 0) (n := 4) (c := 20) (s := 13) (r := some 98) hn12
  refine aw_aload_n (i := 0) rfl d_X6_init_56 0 rfl ?_
  refine aw_iconst (v := 4) d_X6_init_57 ic_4 ?_
  refine aw_newa (t := 0) (atype := .int) 99 4 (by decide) rfl tw_51 (hn14 99 (by decide) (by decide)) (by decide) xs0 (by decide) (by decide) (by decide) (Nat.le_of_ble_eq_true rfl) (Nat.le_of_ble_eq_true rfl) d_X6_init_58 ?_
  refine aw_putrF (k0 := 14) kc_6 (ss_n hs13 (by decide)) (Nat.le_of_ble_eq_true rfl) tw_378 d_X6_init_60 rfl rfl rfl rfl ?_
  have hs15 := ss_step (k := 99) (t := 0) (n := 4) (c' := 20) (s := 14) (r := some 99) hs13 (by decide)
  have hn16 := nn_step (k := 99) (t := 0) (n := 4) (c := 20) (s := 14) (r := some 99) hn14
  refine aw_aload_n (i := 0) rfl d_X6_init_63 0 rfl ?_
  refine aw_iconst (v := 4) d_X6_init_64 ic_4 ?_
  refine aw_newa (t := 0) (atype := .int) 100 4 (by decide) rfl tw_51 (hn16 100 (by decide) (by decide)) (by decide) xs0 (by decide) (by decide) (by decide) (Nat.le_of_ble_eq_true rfl) (Nat.le_of_ble_eq_true rfl) d_X6_init_65 ?_
  refine aw_putrF (k0 := 15) kc_6 (ss_n hs15 (by decide)) (Nat.le_of_ble_eq_true rfl) tw_379 d_X6_init_67 rfl rfl rfl rfl ?_
  have hs17 := ss_step (k := 100) (t := 0) (n := 4) (c' := 20) (s := 15) (r := some 100) hs15 (by decide)
  have hn18 := nn_step (k := 100) (t := 0) (n := 4) (c := 20) (s := 15) (r := some 100) hn16
  refine aw_aload_n (i := 0) rfl d_X6_init_70 0 rfl ?_
  refine aw_bipush (v := 48) d_X6_init_71 ib_48 ?_
  refine aw_newa (t := 0) (atype := .int) 101 48 (by decide) rfl tw_51 (hn18 101 (by decide) (by decide)) (by decide) xs0 (by decide) (by decide) (by decide) (Nat.le_of_ble_eq_true rfl) (Nat.le_of_ble_eq_true rfl) d_X6_init_73 ?_
  refine aw_putrF (k0 := 17) kc_6 (ss_n hs17 (by decide)) (Nat.le_of_ble_eq_true rfl) tw_382 d_X6_init_75 rfl rfl rfl rfl ?_
  have hs19 := ss_step (k := 101) (t := 0) (n := 48) (c' := 20) (s := 17) (r := some 101) hs17 (by decide)
  have hn20 := nn_step (k := 101) (t := 0) (n := 48) (c := 20) (s := 17) (r := some 101) hn18
  refine aw_aload_n (i := 0) rfl d_X6_init_78 0 rfl ?_
  refine aw_sipush (v := 3328) d_X6_init_79 is_3328 ?_
  refine aw_newa (t := 0) (atype := .int) 102 3328 (by decide) rfl tw_51 (hn20 102 (by decide) (by decide)) (by decide) xs0 (by decide) (by decide) (by decide) (Nat.le_of_ble_eq_true rfl) (Nat.le_of_ble_eq_true rfl) d_X6_init_82 ?_
  refine aw_putrF (k0 := 18) kc_6 (ss_n hs19 (by decide)) (Nat.le_of_ble_eq_true rfl) tw_383 d_X6_init_84 rfl rfl rfl rfl ?_
  have hs21 := ss_step (k := 102) (t := 0) (n := 3328) (c' := 20) (s := 18) (r := some 102) hs19 (by decide)
  have hn22 := nn_step (k := 102) (t := 0) (n := 3328) (c := 20) (s := 18) (r := some 102) hn20
  refine aw_aload_n (i := 0) rfl d_X6_init_87 0 rfl ?_
  refine aw_bipush (v := 12) d_X6_init_88 ib_12 ?_
  refine aw_newa (t := 0) (atype := .int) 103 12 (by decide) rfl tw_51 (hn22 103 (by decide) (by decide)) (by decide) xs0 (by decide) (by decide) (by decide) (Nat.le_of_ble_eq_true rfl) (Nat.le_of_ble_eq_true rfl) d_X6_init_90 ?_
  refine aw_putrF (k0 := 19) kc_6 (ss_n hs21 (by decide)) (Nat.le_of_ble_eq_true rfl) tw_384 d_X6_init_92 rfl rfl rfl rfl ?_
  have hs23 := ss_step (k := 103) (t := 0) (n := 12) (c' := 20) (s := 19) (r := some 103) hs21 (by decide)
  have hn24 := nn_step (k := 103) (t := 0) (n := 12) (c := 20) (s := 19) (r := some 103) hn22
  exact aw_vret rfl d_X6_init_95 ⟨Nat.le_of_ble_eq_true rfl, Nat.le_of_ble_eq_true rfl⟩ ⟨rfl, rfl⟩
set_option maxRecDepth 100000 in
def CH_21 (h : Hp_) : Hp_ := h_iw (h_im (h_rm (h_nw (h_rm (h_nw (h_rm (h_nw (h_rm (h_nw (h_rm (h_nw (h_rm (h_nw (h_rm (h_nw (h_rm (h_nw (h_rm (h_nw (h_rm (h_nw (h_rm (h_nw (h_rm (h_nw h 104 0 40) 21 0 (some 104)) 105 0 40) 21 1 (some 105)) 106 0 40) 21 2 (some 106)) 107 0 40) 21 3 (some 107)) 108 0 6) 21 5 (some 108)) 109 0 168) 21 6 (some 109)) 110 0 168) 21 7 (some 110)) 111 0 600) 21 8 (some 111)) 112 0 600) 21 9 (some 112)) 113 0 600) 21 10 (some 113)) 114 0 600) 21 11 (some 114)) 115 0 48) 21 14 (some 115)) 21 15 3) 115 (fl_ (fun _ => (-1)) (h_i (h_im (h_rm (h_nw (h_rm (h_nw (h_rm (h_nw (h_rm (h_nw (h_rm (h_nw (h_rm (h_nw (h_rm (h_nw (h_rm (h_nw (h_rm (h_nw (h_rm (h_nw (h_rm (h_nw (h_rm (h_nw h 104 0 40) 21 0 (some 104)) 105 0 40) 21 1 (some 105)) 106 0 40) 21 2 (some 106)) 107 0 40) 21 3 (some 107)) 108 0 6) 21 5 (some 108)) 109 0 168) 21 6 (some 109)) 110 0 168) 21 7 (some 110)) 111 0 600) 21 8 (some 111)) 112 0 600) 21 9 (some 112)) 113 0 600) 21 10 (some 113)) 114 0 600) 21 11 (some 114)) 115 0 48) 21 14 (some 115)) 21 15 3) 115) 48)
set_option maxRecDepth 100000 in
theorem k_X5_init_21 (d : Nat) (h : Hp_) (hs : h_sh h 21 = some (15, 16)) (hn : ∀ a, 104 ≤ a → a < 116 → h_sh h a = none) : Cv (m_X5_init (d + 1) 12 2950) [.ref 21] h (fun h' => h' = CH_21 h) := by
  refine Ct.of (fun _ _ _ => trivial) rfl (Nat.le_of_ble_eq_true rfl) ?_
  show AW (m_X5_init (d + 1) 12 2950) 0 0 0 [(0, .ref 21)] [] h (kV _)
  refine aw_aload_n (i := 0) rfl d_X5_init_0 0 rfl ?_
  refine aw_objInit (rest := []) d_X5_init_1 tw_432 tw_33 tw_34 (show 1 ≤ d + 1 by omega) (show 0 + 12 ≤ 100 * (d + 1) by omega) ?_
  refine aw_aload_n (i := 0) rfl d_X5_init_4 0 rfl ?_
  refine aw_bipush (v := 40) d_X5_init_5 ib_40 ?_
  refine aw_newa (t := 0) (atype := .int) 104 40 (by decide) rfl tw_51 (hn 104 (by decide) (by decide)) (by decide) xs0 (by decide) (by decide) (by decide) (Nat.le_of_ble_eq_true rfl) (Nat.le_of_ble_eq_true rfl) d_X5_init_7 ?_
  refine aw_putrF (k0 := 0) kc_5 (ss_n hs (by decide)) (Nat.le_of_ble_eq_true rfl) tw_434 d_X5_init_9 rfl rfl rfl rfl ?_
  have hs1 := ss_step (k := 104) (t := 0) (n := 40) (c' := 21) (s := 0) (r := some 104) hs (by decide)
  have hn2 := nn_step (k := 104) (t := 0) (n := 40) (c := 21) (s := 0) (r := some 104) hn
  refine aw_aload_n (i := 0) rfl d_X5_init_12 0 rfl ?_
  refine aw_bipush (v := 40) d_X5_init_13 ib_40 ?_
  refine aw_newa (t := 0) (atype := .int) 105 40 (by decide) rfl tw_51 (hn2 105 (by decide) (by decide)) (by decide) xs0 (by decide) (by decide) (by decide) (Nat.le_of_ble_eq_true rfl) (Nat.le_of_ble_eq_true rfl) d_X5_init_15 ?_
  refine aw_putrF (k0 := 1) kc_5 (ss_n hs1 (by decide)) (Nat.le_of_ble_eq_true rfl) tw_435 d_X5_init_17 rfl rfl rfl rfl ?_
  have hs3 := ss_step (k := 105) (t := 0) (n := 40) (c' := 21) (s := 1) (r := some 105) hs1 (by decide)
  have hn4 := nn_step (k := 105) (t := 0) (n := 40) (c := 21) (s := 1) (r := some 105) hn2
  refine aw_aload_n (i := 0) rfl d_X5_init_20 0 rfl ?_
  refine aw_bipush (v := 40) d_X5_init_21 ib_40 ?_
  refine aw_newa (t := 0) (atype := .int) 106 40 (by decide) rfl tw_51 (hn4 106 (by decide) (by decide)) (by decide) xs0 (by decide) (by decide) (by decide) (Nat.le_of_ble_eq_true rfl) (Nat.le_of_ble_eq_true rfl) d_X5_init_23 ?_
  refine aw_putrF (k0 := 2) kc_5 (ss_n hs3 (by decide)) (Nat.le_of_ble_eq_true rfl) tw_436 d_X5_init_25 rfl rfl rfl rfl ?_
  have hs5 := ss_step (k := 106) (t := 0) (n := 40) (c' := 21) (s := 2) (r := some 106) hs3 (by decide)
  have hn6 := nn_step (k := 106) (t := 0) (n := 40) (c := 21) (s := 2) (r := some 106) hn4
  refine aw_aload_n (i := 0) rfl d_X5_init_28 0 rfl ?_
  refine aw_bipush (v := 40) d_X5_init_29 ib_40 ?_
  refine aw_newa (t := 0) (atype := .int) 107 40 (by decide) rfl tw_51 (hn6 107 (by decide) (by decide)) (by decide) xs0 (by decide) (by decide) (by decide) (Nat.le_of_ble_eq_true rfl) (Nat.le_of_ble_eq_true rfl) d_X5_init_31 ?_
  refine aw_putrF (k0 := 3) kc_5 (ss_n hs5 (by decide)) (Nat.le_of_ble_eq_true rfl) tw_437 d_X5_init_33 rfl rfl rfl rfl ?_
  have hs7 := ss_step (k := 107) (t := 0) (n := 40) (c' := 21) (s := 3) (r := some 107) hs5 (by decide)
  have hn8 := nn_step (k := 107) (t := 0) (n := 40) (c := 21) (s := 3) (r := some 107) hn6
  refine aw_aload_n (i := 0) rfl d_X5_init_36 0 rfl ?_
  refine aw_bipush (v := 6) d_X5_init_37 ib_6 ?_
  refine aw_newa (t := 0) (atype := .int) 108 6 (by decide) rfl tw_51 (hn8 108 (by decide) (by decide)) (by decide) xs0 (by decide) (by decide) (by decide) (Nat.le_of_ble_eq_true rfl) (Nat.le_of_ble_eq_true rfl) d_X5_init_39 ?_
  refine aw_putrF (k0 := 5) kc_5 (ss_n hs7 (by decide)) (Nat.le_of_ble_eq_true rfl) tw_439 d_X5_init_41 rfl rfl rfl rfl ?_
  have hs9 := ss_step (k := 108) (t := 0) (n := 6) (c' := 21) (s := 5) (r := some 108) hs7 (by decide)
  have hn10 := nn_step (k := 108) (t := 0) (n := 6) (c := 21) (s := 5) (r := some 108) hn8
  refine aw_aload_n (i := 0) rfl d_X5_init_44 0 rfl ?_
  refine aw_sipush (v := 168) d_X5_init_45 is_168 ?_
  refine aw_newa (t := 0) (atype := .int) 109 168 (by decide) rfl tw_51 (hn10 109 (by decide) (by decide)) (by decide) xs0 (by decide) (by decide) (by decide) (Nat.le_of_ble_eq_true rfl) (Nat.le_of_ble_eq_true rfl) d_X5_init_48 ?_
  refine aw_putrF (k0 := 6) kc_5 (ss_n hs9 (by decide)) (Nat.le_of_ble_eq_true rfl) tw_441 d_X5_init_50 rfl rfl rfl rfl ?_
  have hs11 := ss_step (k := 109) (t := 0) (n := 168) (c' := 21) (s := 6) (r := some 109) hs9 (by decide)
  have hn12 := nn_step (k := 109) (t := 0) (n := 168) (c := 21) (s := 6) (r := some 109) hn10
  refine aw_aload_n (i := 0) rfl d_X5_init_53 0 rfl ?_
  refine aw_sipush (v := 168) d_X5_init_54 is_168 ?_
  refine aw_newa (t := 0) (atype := .int) 110 168 (by decide) rfl tw_51 (hn12 110 (by decide) (by decide)) (by decide) xs0 (by decide) (by decide) (by decide) (Nat.le_of_ble_eq_true rfl) (Nat.le_of_ble_eq_true rfl) d_X5_init_57 ?_
  refine aw_putrF (k0 := 7) kc_5 (ss_n hs11 (by decide)) (Nat.le_of_ble_eq_true rfl) tw_442 d_X5_init_59 rfl rfl rfl rfl ?_
  have hs13 := ss_step (k := 110) (t := 0) (n := 168) (c' := 21) (s := 7) (r := some 110) hs11 (by decide)
  have hn14 := nn_step (k := 110) (t := 0) (n := 168) (c := 21) (s := 7) (r := some 110) hn12
  refine aw_aload_n (i := 0) rfl d_X5_init_62 0 rfl ?_
  refine aw_sipush (v := 600) d_X5_init_63 is_600 ?_
  refine aw_newa (t := 0) (atype := .int) 111 600 (by decide) rfl tw_51 (hn14 111 (by decide) (by decide)) (by decide) xs0 (by decide) (by decide) (by decide) (Nat.le_of_ble_eq_true rfl) (Nat.le_of_ble_eq_true rfl) d_X5_init_66 ?_
  refine aw_putrF (k0 := 8) kc_5 (ss_n hs13 (by decide)) (Nat.le_of_ble_eq_true rfl) tw_443 d_X5_init_68 rfl rfl rfl rfl ?_
  have hs15 := ss_step (k := 111) (t := 0) (n := 600) (c' := 21) (s := 8) (r := some 111) hs13 (by decide)
  have hn16 := nn_step (k := 111) (t := 0) (n := 600) (c := 21) (s := 8) (r := some 111) hn14
  refine aw_aload_n (i := 0) rfl d_X5_init_71 0 rfl ?_
  refine aw_sipush (v := 600) d_X5_init_72 is_600 ?_
  refine aw_newa (t := 0) (atype := .int) 112 600 (by decide) rfl tw_51 (hn16 112 (by decide) (by decide)) (by decide) xs0 (by decide) (by decide) (by decide) (Nat.le_of_ble_eq_true rfl) (Nat.le_of_ble_eq_true rfl) d_X5_init_75 ?_
  refine aw_putrF (k0 := 9) kc_5 (ss_n hs15 (by decide)) (Nat.le_of_ble_eq_true rfl) tw_444 d_X5_init_77 rfl rfl rfl rfl ?_
  have hs17 := ss_step (k := 112) (t := 0) (n := 600) (c' := 21) (s := 9) (r := some 112) hs15 (by decide)
  have hn18 := nn_step (k := 112) (t := 0) (n := 600) (c := 21) (s := 9) (r := some 112) hn16
  refine aw_aload_n (i := 0) rfl d_X5_init_80 0 rfl ?_
  refine aw_sipush (v := 600) d_X5_init_81 is_600 ?_
  refine aw_newa (t := 0) (atype := .int) 113 600 (by decide) rfl tw_51 (hn18 113 (by decide) (by decide)) (by decide) xs0 (by decide) (by decide) (by decide) (Nat.le_of_ble_eq_true rfl) (Nat.le_of_ble_eq_true rfl) d_X5_init_84 ?_
  refine aw_putrF (k0 := 10) kc_5 (ss_n hs17 (by decide)) (Nat.le_of_ble_eq_true rfl) tw_445 d_X5_init_86 rfl rfl rfl rfl ?_
  have hs19 := ss_step (k := 113) (t := 0) (n := 600) (c' := 21) (s := 10) (r := some 113) hs17 (by decide)
  have hn20 := nn_step (k := 113) (t := 0) (n := 600) (c := 21) (s := 10) (r := some 113) hn18
  refine aw_aload_n (i := 0) rfl d_X5_init_89 0 rfl ?_
  refine aw_sipush (v := 600) d_X5_init_90 is_600 ?_
  refine aw_newa (t := 0) (atype := .int) 114 600 (by decide) rfl tw_51 (hn20 114 (by decide) (by decide)) (by decide) xs0 (by decide) (by decide) (by decide) (Nat.le_of_ble_eq_true rfl) (Nat.le_of_ble_eq_true rfl) d_X5_init_93 ?_
  refine aw_putrF (k0 := 11) kc_5 (ss_n hs19 (by decide)) (Nat.le_of_ble_eq_true rfl) tw_446 d_X5_init_95 rfl rfl rfl rfl ?_
  have hs21 := ss_step (k := 114) (t := 0) (n := 600) (c' := 21) (s := 11) (r := some 114) hs19 (by decide)
  have hn22 := nn_step (k := 114) (t := 0) (n := 600) (c := 21) (s := 11) (r := some 114) hn20
  refine aw_aload_n (i := 0) rfl d_X5_init_98 0 rfl ?_
  refine aw_bipush (v := 48) d_X5_init_99 ib_48 ?_
  refine aw_newa (t := 0) (atype := .int) 115 48 (by decide) rfl tw_51 (hn22 115 (by decide) (by decide)) (by decide) xs0 (by decide) (by decide) (by decide) (Nat.le_of_ble_eq_true rfl) (Nat.le_of_ble_eq_true rfl) d_X5_init_101 ?_
  refine aw_putrF (k0 := 14) kc_5 (ss_n hs21 (by decide)) (Nat.le_of_ble_eq_true rfl) tw_451 d_X5_init_103 rfl rfl rfl rfl ?_
  have hs23 := ss_step (k := 115) (t := 0) (n := 48) (c' := 21) (s := 14) (r := some 115) hs21 (by decide)
  have hn24 := nn_step (k := 115) (t := 0) (n := 48) (c := 21) (s := 14) (r := some 115) hn22
  refine aw_aload_n (i := 0) rfl d_X5_init_106 0 rfl ?_
  refine aw_iconst (v := 3) d_X5_init_107 ic_3 ?_
  refine aw_puti (k0 := 15) kc_5 hs23 (Nat.le_of_ble_eq_true rfl) tw_452 d_X5_init_108 rfl rfl nf_i ?_
  have hs25 := ss_im (a := 21) (k := 15) (x := 3) hs23
  have hn26 := nn_im (b := 21) (k := 15) (x := 3) hn24
  refine aw_aload_n (i := 0) rfl d_X5_init_111 0 rfl ?_
  refine aw_getr (k0 := 14) (b := 115) kc_5 hs25 (Nat.le_of_ble_eq_true rfl) tw_451 d_X5_init_112 rfl rfl ?_
  refine aw_iconst (v := (-1)) d_X5_init_115 ic_m1 ?_
  refine aw_Sv [.ref 115, .int (-1)] [] d_X5_init_116 (cS_J7_fill_53178 (d + 0) 0 0) tw_433 rfl (rr1 (by decide) (by decide) (Nat.le_of_ble_eq_true rfl) (Nat.le_of_ble_eq_true rfl)) (by decide) xs0 (s_J7_fill d _ 115 48 (-1) rfl (by decide)) (fun h9 kk => ?_)
  subst kk
  exact aw_vret rfl d_X5_init_119 ⟨Nat.le_of_ble_eq_true rfl, Nat.le_of_ble_eq_true rfl⟩ ⟨rfl, rfl⟩
set_option maxRecDepth 100000 in
def CH_401 (h : Hp_) (x1 : Int32) (x2 : Int32) (x3 : Int32) (x4 : Int32) : Hp_ := h_im (h_im (h_im (h_im (h_im (h_im (h_im (h_im h 401 4 0) 401 5 (-1)) 401 6 (-1)) 401 7 (-1)) 401 0 x1) 401 1 x2) 401 2 x3) 401 3 x4
set_option maxRecDepth 100000 in
theorem k_X2_init_401 (d : Nat) (h : Hp_) (x1 : Int32) (x2 : Int32) (x3 : Int32) (x4 : Int32) (hs : h_sh h 401 = some (12, 17)) (hn : ∀ a, 0 ≤ a → a < 0 → h_sh h a = none) : Cv (m_X2_init (d + 1) 0 0) [.ref 401, .int x1, .int x2, .int x3, .int x4] h (fun h' => h' = CH_401 h x1 x2 x3 x4) := by
  refine Ct.of (fun _ _ _ => trivial) rfl (Nat.le_of_ble_eq_true rfl) ?_
  show AW (m_X2_init (d + 1) 0 0) 0 0 0 [(0, .ref 401), (1, .int x1), (2, .int x2), (3, .int x3), (4, .int x4)] [] h (kV _)
  refine aw_aload_n (i := 0) rfl d_X2_init_0 0 rfl ?_
  refine aw_objInit (rest := []) d_X2_init_1 tw_570 tw_33 tw_34 (show 1 ≤ d + 1 by omega) (show 0 + 12 ≤ 100 * (d + 1) by omega) ?_
  refine aw_aload_n (i := 0) rfl d_X2_init_4 0 rfl ?_
  refine aw_iconst (v := 0) d_X2_init_5 ic_0 ?_
  refine aw_puti (k0 := 4) kc_2 hs (Nat.le_of_ble_eq_true rfl) tw_580 d_X2_init_6 rfl rfl nf_i ?_
  have hs1 := ss_im (a := 401) (k := 4) (x := 0) hs
  have hn2 := nn_im (b := 401) (k := 4) (x := 0) hn
  refine aw_aload_n (i := 0) rfl d_X2_init_9 0 rfl ?_
  refine aw_iconst (v := (-1)) d_X2_init_10 ic_m1 ?_
  refine aw_puti (k0 := 5) kc_2 hs1 (Nat.le_of_ble_eq_true rfl) tw_582 d_X2_init_11 rfl rfl nf_i ?_
  have hs3 := ss_im (a := 401) (k := 5) (x := (-1)) hs1
  have hn4 := nn_im (b := 401) (k := 5) (x := (-1)) hn2
  refine aw_aload_n (i := 0) rfl d_X2_init_14 0 rfl ?_
  refine aw_iconst (v := (-1)) d_X2_init_15 ic_m1 ?_
  refine aw_puti (k0 := 6) kc_2 hs3 (Nat.le_of_ble_eq_true rfl) tw_584 d_X2_init_16 rfl rfl nf_i ?_
  have hs5 := ss_im (a := 401) (k := 6) (x := (-1)) hs3
  have hn6 := nn_im (b := 401) (k := 6) (x := (-1)) hn4
  refine aw_aload_n (i := 0) rfl d_X2_init_19 0 rfl ?_
  refine aw_iconst (v := (-1)) d_X2_init_20 ic_m1 ?_
  refine aw_puti (k0 := 7) kc_2 hs5 (Nat.le_of_ble_eq_true rfl) tw_586 d_X2_init_21 rfl rfl nf_i ?_
  have hs7 := ss_im (a := 401) (k := 7) (x := (-1)) hs5
  have hn8 := nn_im (b := 401) (k := 7) (x := (-1)) hn6
  refine aw_aload_n (i := 0) rfl d_X2_init_24 0 rfl ?_
  refine aw_iload_n (i := 1) rfl d_X2_init_25 1 rfl ?_
  refine aw_putiF (k0 := 0) kc_2 hs7 (Nat.le_of_ble_eq_true rfl) tw_571 d_X2_init_26 rfl rfl rfl rfl nf_i ?_
  have hs9 := ss_im (a := 401) (k := 0) (x := x1) hs7
  have hn10 := nn_im (b := 401) (k := 0) (x := x1) hn8
  refine aw_aload_n (i := 0) rfl d_X2_init_29 0 rfl ?_
  refine aw_iload_n (i := 2) rfl d_X2_init_30 2 rfl ?_
  refine aw_putiF (k0 := 1) kc_2 hs9 (Nat.le_of_ble_eq_true rfl) tw_574 d_X2_init_31 rfl rfl rfl rfl nf_i ?_
  have hs11 := ss_im (a := 401) (k := 1) (x := x2) hs9
  have hn12 := nn_im (b := 401) (k := 1) (x := x2) hn10
  refine aw_aload_n (i := 0) rfl d_X2_init_34 0 rfl ?_
  refine aw_iload_n (i := 3) rfl d_X2_init_35 3 rfl ?_
  refine aw_putiF (k0 := 2) kc_2 hs11 (Nat.le_of_ble_eq_true rfl) tw_576 d_X2_init_36 rfl rfl rfl rfl nf_i ?_
  have hs13 := ss_im (a := 401) (k := 2) (x := x3) hs11
  have hn14 := nn_im (b := 401) (k := 2) (x := x3) hn12
  refine aw_aload_n (i := 0) rfl d_X2_init_39 0 rfl ?_
  refine aw_iload d_X2_init_40 4 rfl ?_
  refine aw_putiF (k0 := 3) kc_2 hs13 (Nat.le_of_ble_eq_true rfl) tw_578 d_X2_init_42 rfl rfl rfl rfl nf_i ?_
  have hs15 := ss_im (a := 401) (k := 3) (x := x4) hs13
  have hn16 := nn_im (b := 401) (k := 3) (x := x4) hn14
  exact aw_vret rfl d_X2_init_45 ⟨Nat.le_of_ble_eq_true rfl, Nat.le_of_ble_eq_true rfl⟩ ⟨rfl, rfl⟩
end
section
noncomputable def CC_0 (h : Hp_) : Hp_ := h_rm (h_nw (h_rm (h_nw (h_rm (h_nw (h_rm (h_nw (h_rm (h_nw (h_rm (h_nw (h_rm (h_nw (h_rm (h_nw (h_rm (h_nw (h_rm (h_nw (h_rm (h_nw (h_rm (h_nw (h_rm (h_nw (h_rm (h_nw (h_rm (h_nw h 200 0 40) 1 2 (some 200)) 201 0 40) 1 3 (some 201)) 202 0 40) 1 4 (some 202)) 203 0 16) 1 5 (some 203)) 204 0 12) 1 8 (some 204)) 205 0 12) 1 9 (some 205)) 206 0 12) 1 10 (some 206)) 207 0 12) 1 11 (some 207)) 208 0 12) 1 12 (some 208)) 209 0 12) 1 13 (some 209)) 210 0 12) 1 14 (some 210)) 211 0 12) 1 15 (some 211)) 212 0 12) 1 16 (some 212)) 213 0 12) 1 17 (some 213)) 214 0 12) 1 18 (some 214)
theorem cf_0 (h : Hp_) (hs : h_sh h 1 = some (22, 131)) (hn : ∀ a, 200 ≤ a → a < 300 → h_sh h a = none) : h_sh (CC_0 h) 1 = some (22, 131) ∧ (∀ a, 215 ≤ a → a < 300 → h_sh (CC_0 h) a = none) := by
  have hs1 := ss_step (k := 200) (t := 0) (n := 40) (c' := 1) (s := 2) (r := some 200) hs (by decide)
  have hn2 := nn_step (k := 200) (t := 0) (n := 40) (c := 1) (s := 2) (r := some 200) hn
  have hs3 := ss_step (k := 201) (t := 0) (n := 40) (c' := 1) (s := 3) (r := some 201) hs1 (by decide)
  have hn4 := nn_step (k := 201) (t := 0) (n := 40) (c := 1) (s := 3) (r := some 201) hn2
  have hs5 := ss_step (k := 202) (t := 0) (n := 40) (c' := 1) (s := 4) (r := some 202) hs3 (by decide)
  have hn6 := nn_step (k := 202) (t := 0) (n := 40) (c := 1) (s := 4) (r := some 202) hn4
  have hs7 := ss_step (k := 203) (t := 0) (n := 16) (c' := 1) (s := 5) (r := some 203) hs5 (by decide)
  have hn8 := nn_step (k := 203) (t := 0) (n := 16) (c := 1) (s := 5) (r := some 203) hn6
  have hs9 := ss_step (k := 204) (t := 0) (n := 12) (c' := 1) (s := 8) (r := some 204) hs7 (by decide)
  have hn10 := nn_step (k := 204) (t := 0) (n := 12) (c := 1) (s := 8) (r := some 204) hn8
  have hs11 := ss_step (k := 205) (t := 0) (n := 12) (c' := 1) (s := 9) (r := some 205) hs9 (by decide)
  have hn12 := nn_step (k := 205) (t := 0) (n := 12) (c := 1) (s := 9) (r := some 205) hn10
  have hs13 := ss_step (k := 206) (t := 0) (n := 12) (c' := 1) (s := 10) (r := some 206) hs11 (by decide)
  have hn14 := nn_step (k := 206) (t := 0) (n := 12) (c := 1) (s := 10) (r := some 206) hn12
  have hs15 := ss_step (k := 207) (t := 0) (n := 12) (c' := 1) (s := 11) (r := some 207) hs13 (by decide)
  have hn16 := nn_step (k := 207) (t := 0) (n := 12) (c := 1) (s := 11) (r := some 207) hn14
  have hs17 := ss_step (k := 208) (t := 0) (n := 12) (c' := 1) (s := 12) (r := some 208) hs15 (by decide)
  have hn18 := nn_step (k := 208) (t := 0) (n := 12) (c := 1) (s := 12) (r := some 208) hn16
  have hs19 := ss_step (k := 209) (t := 0) (n := 12) (c' := 1) (s := 13) (r := some 209) hs17 (by decide)
  have hn20 := nn_step (k := 209) (t := 0) (n := 12) (c := 1) (s := 13) (r := some 209) hn18
  have hs21 := ss_step (k := 210) (t := 0) (n := 12) (c' := 1) (s := 14) (r := some 210) hs19 (by decide)
  have hn22 := nn_step (k := 210) (t := 0) (n := 12) (c := 1) (s := 14) (r := some 210) hn20
  have hs23 := ss_step (k := 211) (t := 0) (n := 12) (c' := 1) (s := 15) (r := some 211) hs21 (by decide)
  have hn24 := nn_step (k := 211) (t := 0) (n := 12) (c := 1) (s := 15) (r := some 211) hn22
  have hs25 := ss_step (k := 212) (t := 0) (n := 12) (c' := 1) (s := 16) (r := some 212) hs23 (by decide)
  have hn26 := nn_step (k := 212) (t := 0) (n := 12) (c := 1) (s := 16) (r := some 212) hn24
  have hs27 := ss_step (k := 213) (t := 0) (n := 12) (c' := 1) (s := 17) (r := some 213) hs25 (by decide)
  have hn28 := nn_step (k := 213) (t := 0) (n := 12) (c := 1) (s := 17) (r := some 213) hn26
  have hs29 := ss_step (k := 214) (t := 0) (n := 12) (c' := 1) (s := 18) (r := some 214) hs27 (by decide)
  have hn30 := nn_step (k := 214) (t := 0) (n := 12) (c := 1) (s := 18) (r := some 214) hn28
  exact ⟨hs29, hn30⟩
theorem ck_0 (d : Nat) (h : Hp_) (K : Option Value → Hp_ → Prop) (hs : h_sh h 1 = some (22, 131)) (hn : ∀ a, 200 ≤ a → a < 300 → h_sh h a = none) (k : AW (m_X12_init (d + 1) 100 288204) 15 268 124 [(0, .ref 1)] [] (CC_0 h) K) : AW (m_X12_init (d + 1) 100 288204) 0 0 4 [(0, .ref 1)] [] h K := by
  refine aw_aload_n (i := 0) rfl d_X12_init_4 0 rfl ?_
  refine aw_bipush (v := 40) d_X12_init_5 ib_40 ?_
  refine aw_newa (t := 0) (atype := .int) 200 40 (by decide) rfl tw_51 (hn 200 (by decide) (by decide)) (by decide) xs0 (by decide +kernel) (by decide +kernel) (by decide +kernel) (show 0 + 1 ≤ 100 from by decide +kernel) (show 0 + 40 ≤ 288204 from by decide +kernel) d_X12_init_7 ?_
  refine aw_putrF (k0 := 2) kc_12 (ss_n hs (by decide)) (Nat.le_of_ble_eq_true rfl) tw_1744 d_X12_init_9 rfl rfl rfl rfl ?_
  have hs1 := ss_step (k := 200) (t := 0) (n := 40) (c' := 1) (s := 2) (r := some 200) hs (by decide)
  have hn2 := nn_step (k := 200) (t := 0) (n := 40) (c := 1) (s := 2) (r := some 200) hn
  refine aw_aload_n (i := 0) rfl d_X12_init_12 0 rfl ?_
  refine aw_bipush (v := 40) d_X12_init_13 ib_40 ?_
  refine aw_newa (t := 0) (atype := .int) 201 40 (by decide) rfl tw_51 (hn2 201 (by decide) (by decide)) (by decide) xs0 (by decide +kernel) (by decide +kernel) (by decide +kernel) (show 1 + 1 ≤ 100 from by decide +kernel) (show 40 + 40 ≤ 288204 from by decide +kernel) d_X12_init_15 ?_
  refine aw_putrF (k0 := 3) kc_12 (ss_n hs1 (by decide)) (Nat.le_of_ble_eq_true rfl) tw_1745 d_X12_init_17 rfl rfl rfl rfl ?_
  have hs3 := ss_step (k := 201) (t := 0) (n := 40) (c' := 1) (s := 3) (r := some 201) hs1 (by decide)
  have hn4 := nn_step (k := 201) (t := 0) (n := 40) (c := 1) (s := 3) (r := some 201) hn2
  refine aw_aload_n (i := 0) rfl d_X12_init_20 0 rfl ?_
  refine aw_bipush (v := 40) d_X12_init_21 ib_40 ?_
  refine aw_newa (t := 0) (atype := .int) 202 40 (by decide) rfl tw_51 (hn4 202 (by decide) (by decide)) (by decide) xs0 (by decide +kernel) (by decide +kernel) (by decide +kernel) (show 2 + 1 ≤ 100 from by decide +kernel) (show 80 + 40 ≤ 288204 from by decide +kernel) d_X12_init_23 ?_
  refine aw_putrF (k0 := 4) kc_12 (ss_n hs3 (by decide)) (Nat.le_of_ble_eq_true rfl) tw_1746 d_X12_init_25 rfl rfl rfl rfl ?_
  have hs5 := ss_step (k := 202) (t := 0) (n := 40) (c' := 1) (s := 4) (r := some 202) hs3 (by decide)
  have hn6 := nn_step (k := 202) (t := 0) (n := 40) (c := 1) (s := 4) (r := some 202) hn4
  refine aw_aload_n (i := 0) rfl d_X12_init_28 0 rfl ?_
  refine aw_bipush (v := 16) d_X12_init_29 ib_16 ?_
  refine aw_newa (t := 0) (atype := .int) 203 16 (by decide) rfl tw_51 (hn6 203 (by decide) (by decide)) (by decide) xs0 (by decide +kernel) (by decide +kernel) (by decide +kernel) (show 3 + 1 ≤ 100 from by decide +kernel) (show 120 + 16 ≤ 288204 from by decide +kernel) d_X12_init_31 ?_
  refine aw_putrF (k0 := 5) kc_12 (ss_n hs5 (by decide)) (Nat.le_of_ble_eq_true rfl) tw_1747 d_X12_init_33 rfl rfl rfl rfl ?_
  have hs7 := ss_step (k := 203) (t := 0) (n := 16) (c' := 1) (s := 5) (r := some 203) hs5 (by decide)
  have hn8 := nn_step (k := 203) (t := 0) (n := 16) (c := 1) (s := 5) (r := some 203) hn6
  refine aw_aload_n (i := 0) rfl d_X12_init_36 0 rfl ?_
  refine aw_bipush (v := 12) d_X12_init_37 ib_12 ?_
  refine aw_newa (t := 0) (atype := .int) 204 12 (by decide) rfl tw_51 (hn8 204 (by decide) (by decide)) (by decide) xs0 (by decide +kernel) (by decide +kernel) (by decide +kernel) (show 4 + 1 ≤ 100 from by decide +kernel) (show 136 + 12 ≤ 288204 from by decide +kernel) d_X12_init_39 ?_
  refine aw_putrF (k0 := 8) kc_12 (ss_n hs7 (by decide)) (Nat.le_of_ble_eq_true rfl) tw_1750 d_X12_init_41 rfl rfl rfl rfl ?_
  have hs9 := ss_step (k := 204) (t := 0) (n := 12) (c' := 1) (s := 8) (r := some 204) hs7 (by decide)
  have hn10 := nn_step (k := 204) (t := 0) (n := 12) (c := 1) (s := 8) (r := some 204) hn8
  refine aw_aload_n (i := 0) rfl d_X12_init_44 0 rfl ?_
  refine aw_bipush (v := 12) d_X12_init_45 ib_12 ?_
  refine aw_newa (t := 0) (atype := .int) 205 12 (by decide) rfl tw_51 (hn10 205 (by decide) (by decide)) (by decide) xs0 (by decide +kernel) (by decide +kernel) (by decide +kernel) (show 5 + 1 ≤ 100 from by decide +kernel) (show 148 + 12 ≤ 288204 from by decide +kernel) d_X12_init_47 ?_
  refine aw_putrF (k0 := 9) kc_12 (ss_n hs9 (by decide)) (Nat.le_of_ble_eq_true rfl) tw_1751 d_X12_init_49 rfl rfl rfl rfl ?_
  have hs11 := ss_step (k := 205) (t := 0) (n := 12) (c' := 1) (s := 9) (r := some 205) hs9 (by decide)
  have hn12 := nn_step (k := 205) (t := 0) (n := 12) (c := 1) (s := 9) (r := some 205) hn10
  refine aw_aload_n (i := 0) rfl d_X12_init_52 0 rfl ?_
  refine aw_bipush (v := 12) d_X12_init_53 ib_12 ?_
  refine aw_newa (t := 0) (atype := .int) 206 12 (by decide) rfl tw_51 (hn12 206 (by decide) (by decide)) (by decide) xs0 (by decide +kernel) (by decide +kernel) (by decide +kernel) (show 6 + 1 ≤ 100 from by decide +kernel) (show 160 + 12 ≤ 288204 from by decide +kernel) d_X12_init_55 ?_
  refine aw_putrF (k0 := 10) kc_12 (ss_n hs11 (by decide)) (Nat.le_of_ble_eq_true rfl) tw_1752 d_X12_init_57 rfl rfl rfl rfl ?_
  have hs13 := ss_step (k := 206) (t := 0) (n := 12) (c' := 1) (s := 10) (r := some 206) hs11 (by decide)
  have hn14 := nn_step (k := 206) (t := 0) (n := 12) (c := 1) (s := 10) (r := some 206) hn12
  refine aw_aload_n (i := 0) rfl d_X12_init_60 0 rfl ?_
  refine aw_bipush (v := 12) d_X12_init_61 ib_12 ?_
  refine aw_newa (t := 0) (atype := .int) 207 12 (by decide) rfl tw_51 (hn14 207 (by decide) (by decide)) (by decide) xs0 (by decide +kernel) (by decide +kernel) (by decide +kernel) (show 7 + 1 ≤ 100 from by decide +kernel) (show 172 + 12 ≤ 288204 from by decide +kernel) d_X12_init_63 ?_
  refine aw_putrF (k0 := 11) kc_12 (ss_n hs13 (by decide)) (Nat.le_of_ble_eq_true rfl) tw_1753 d_X12_init_65 rfl rfl rfl rfl ?_
  have hs15 := ss_step (k := 207) (t := 0) (n := 12) (c' := 1) (s := 11) (r := some 207) hs13 (by decide)
  have hn16 := nn_step (k := 207) (t := 0) (n := 12) (c := 1) (s := 11) (r := some 207) hn14
  refine aw_aload_n (i := 0) rfl d_X12_init_68 0 rfl ?_
  refine aw_bipush (v := 12) d_X12_init_69 ib_12 ?_
  refine aw_newa (t := 0) (atype := .int) 208 12 (by decide) rfl tw_51 (hn16 208 (by decide) (by decide)) (by decide) xs0 (by decide +kernel) (by decide +kernel) (by decide +kernel) (show 8 + 1 ≤ 100 from by decide +kernel) (show 184 + 12 ≤ 288204 from by decide +kernel) d_X12_init_71 ?_
  refine aw_putrF (k0 := 12) kc_12 (ss_n hs15 (by decide)) (Nat.le_of_ble_eq_true rfl) tw_1754 d_X12_init_73 rfl rfl rfl rfl ?_
  have hs17 := ss_step (k := 208) (t := 0) (n := 12) (c' := 1) (s := 12) (r := some 208) hs15 (by decide)
  have hn18 := nn_step (k := 208) (t := 0) (n := 12) (c := 1) (s := 12) (r := some 208) hn16
  refine aw_aload_n (i := 0) rfl d_X12_init_76 0 rfl ?_
  refine aw_bipush (v := 12) d_X12_init_77 ib_12 ?_
  refine aw_newa (t := 0) (atype := .int) 209 12 (by decide) rfl tw_51 (hn18 209 (by decide) (by decide)) (by decide) xs0 (by decide +kernel) (by decide +kernel) (by decide +kernel) (show 9 + 1 ≤ 100 from by decide +kernel) (show 196 + 12 ≤ 288204 from by decide +kernel) d_X12_init_79 ?_
  refine aw_putrF (k0 := 13) kc_12 (ss_n hs17 (by decide)) (Nat.le_of_ble_eq_true rfl) tw_1755 d_X12_init_81 rfl rfl rfl rfl ?_
  have hs19 := ss_step (k := 209) (t := 0) (n := 12) (c' := 1) (s := 13) (r := some 209) hs17 (by decide)
  have hn20 := nn_step (k := 209) (t := 0) (n := 12) (c := 1) (s := 13) (r := some 209) hn18
  refine aw_aload_n (i := 0) rfl d_X12_init_84 0 rfl ?_
  refine aw_bipush (v := 12) d_X12_init_85 ib_12 ?_
  refine aw_newa (t := 0) (atype := .int) 210 12 (by decide) rfl tw_51 (hn20 210 (by decide) (by decide)) (by decide) xs0 (by decide +kernel) (by decide +kernel) (by decide +kernel) (show 10 + 1 ≤ 100 from by decide +kernel) (show 208 + 12 ≤ 288204 from by decide +kernel) d_X12_init_87 ?_
  refine aw_putrF (k0 := 14) kc_12 (ss_n hs19 (by decide)) (Nat.le_of_ble_eq_true rfl) tw_1756 d_X12_init_89 rfl rfl rfl rfl ?_
  have hs21 := ss_step (k := 210) (t := 0) (n := 12) (c' := 1) (s := 14) (r := some 210) hs19 (by decide)
  have hn22 := nn_step (k := 210) (t := 0) (n := 12) (c := 1) (s := 14) (r := some 210) hn20
  refine aw_aload_n (i := 0) rfl d_X12_init_92 0 rfl ?_
  refine aw_bipush (v := 12) d_X12_init_93 ib_12 ?_
  refine aw_newa (t := 0) (atype := .int) 211 12 (by decide) rfl tw_51 (hn22 211 (by decide) (by decide)) (by decide) xs0 (by decide +kernel) (by decide +kernel) (by decide +kernel) (show 11 + 1 ≤ 100 from by decide +kernel) (show 220 + 12 ≤ 288204 from by decide +kernel) d_X12_init_95 ?_
  refine aw_putrF (k0 := 15) kc_12 (ss_n hs21 (by decide)) (Nat.le_of_ble_eq_true rfl) tw_1757 d_X12_init_97 rfl rfl rfl rfl ?_
  have hs23 := ss_step (k := 211) (t := 0) (n := 12) (c' := 1) (s := 15) (r := some 211) hs21 (by decide)
  have hn24 := nn_step (k := 211) (t := 0) (n := 12) (c := 1) (s := 15) (r := some 211) hn22
  refine aw_aload_n (i := 0) rfl d_X12_init_100 0 rfl ?_
  refine aw_bipush (v := 12) d_X12_init_101 ib_12 ?_
  refine aw_newa (t := 0) (atype := .int) 212 12 (by decide) rfl tw_51 (hn24 212 (by decide) (by decide)) (by decide) xs0 (by decide +kernel) (by decide +kernel) (by decide +kernel) (show 12 + 1 ≤ 100 from by decide +kernel) (show 232 + 12 ≤ 288204 from by decide +kernel) d_X12_init_103 ?_
  refine aw_putrF (k0 := 16) kc_12 (ss_n hs23 (by decide)) (Nat.le_of_ble_eq_true rfl) tw_1758 d_X12_init_105 rfl rfl rfl rfl ?_
  have hs25 := ss_step (k := 212) (t := 0) (n := 12) (c' := 1) (s := 16) (r := some 212) hs23 (by decide)
  have hn26 := nn_step (k := 212) (t := 0) (n := 12) (c := 1) (s := 16) (r := some 212) hn24
  refine aw_aload_n (i := 0) rfl d_X12_init_108 0 rfl ?_
  refine aw_bipush (v := 12) d_X12_init_109 ib_12 ?_
  refine aw_newa (t := 0) (atype := .int) 213 12 (by decide) rfl tw_51 (hn26 213 (by decide) (by decide)) (by decide) xs0 (by decide +kernel) (by decide +kernel) (by decide +kernel) (show 13 + 1 ≤ 100 from by decide +kernel) (show 244 + 12 ≤ 288204 from by decide +kernel) d_X12_init_111 ?_
  refine aw_putrF (k0 := 17) kc_12 (ss_n hs25 (by decide)) (Nat.le_of_ble_eq_true rfl) tw_1759 d_X12_init_113 rfl rfl rfl rfl ?_
  have hs27 := ss_step (k := 213) (t := 0) (n := 12) (c' := 1) (s := 17) (r := some 213) hs25 (by decide)
  have hn28 := nn_step (k := 213) (t := 0) (n := 12) (c := 1) (s := 17) (r := some 213) hn26
  refine aw_aload_n (i := 0) rfl d_X12_init_116 0 rfl ?_
  refine aw_bipush (v := 12) d_X12_init_117 ib_12 ?_
  refine aw_newa (t := 0) (atype := .int) 214 12 (by decide) rfl tw_51 (hn28 214 (by decide) (by decide)) (by decide) xs0 (by decide +kernel) (by decide +kernel) (by decide +kernel) (show 14 + 1 ≤ 100 from by decide +kernel) (show 256 + 12 ≤ 288204 from by decide +kernel) d_X12_init_119 ?_
  refine aw_putrF (k0 := 18) kc_12 (ss_n hs27 (by decide)) (Nat.le_of_ble_eq_true rfl) tw_1760 d_X12_init_121 rfl rfl rfl rfl ?_
  have hs29 := ss_step (k := 214) (t := 0) (n := 12) (c' := 1) (s := 18) (r := some 214) hs27 (by decide)
  have hn30 := nn_step (k := 214) (t := 0) (n := 12) (c := 1) (s := 18) (r := some 214) hn28
  exact k
noncomputable def CC_1 (h : Hp_) : Hp_ := h_rm (h_nw (h_rm (h_nw (h_rm (h_nw (h_rm (h_nw (h_rm (h_nw (h_rm (h_nw (h_rm (h_nw (h_rm (h_nw (h_rm (h_nw (h_rm (h_nw (h_rm (h_nw (h_rm (h_nw (h_rm (h_nw (h_rm (h_nw (h_rm (h_nw h 215 0 12) 1 19 (some 215)) 216 0 12) 1 20 (some 216)) 217 0 12) 1 21 (some 217)) 218 0 12) 1 22 (some 218)) 219 0 12) 1 23 (some 219)) 220 2 240012) 1 24 (some 220)) 221 0 40) 1 25 (some 221)) 222 0 40) 1 26 (some 222)) 223 0 40) 1 27 (some 223)) 224 0 40) 1 28 (some 224)) 225 0 160) 1 30 (some 225)) 226 0 560) 1 31 (some 226)) 227 0 12) 1 38 (some 227)) 228 0 1800) 1 39 (some 228)) 229 0 1800) 1 40 (some 229)
theorem cf_1 (h : Hp_) (hs : h_sh h 1 = some (22, 131)) (hn : ∀ a, 215 ≤ a → a < 300 → h_sh h a = none) : h_sh (CC_1 h) 1 = some (22, 131) ∧ (∀ a, 230 ≤ a → a < 300 → h_sh (CC_1 h) a = none) := by
  have hs1 := ss_step (k := 215) (t := 0) (n := 12) (c' := 1) (s := 19) (r := some 215) hs (by decide)
  have hn2 := nn_step (k := 215) (t := 0) (n := 12) (c := 1) (s := 19) (r := some 215) hn
  have hs3 := ss_step (k := 216) (t := 0) (n := 12) (c' := 1) (s := 20) (r := some 216) hs1 (by decide)
  have hn4 := nn_step (k := 216) (t := 0) (n := 12) (c := 1) (s := 20) (r := some 216) hn2
  have hs5 := ss_step (k := 217) (t := 0) (n := 12) (c' := 1) (s := 21) (r := some 217) hs3 (by decide)
  have hn6 := nn_step (k := 217) (t := 0) (n := 12) (c := 1) (s := 21) (r := some 217) hn4
  have hs7 := ss_step (k := 218) (t := 0) (n := 12) (c' := 1) (s := 22) (r := some 218) hs5 (by decide)
  have hn8 := nn_step (k := 218) (t := 0) (n := 12) (c := 1) (s := 22) (r := some 218) hn6
  have hs9 := ss_step (k := 219) (t := 0) (n := 12) (c' := 1) (s := 23) (r := some 219) hs7 (by decide)
  have hn10 := nn_step (k := 219) (t := 0) (n := 12) (c := 1) (s := 23) (r := some 219) hn8
  have hs11 := ss_step (k := 220) (t := 2) (n := 240012) (c' := 1) (s := 24) (r := some 220) hs9 (by decide)
  have hn12 := nn_step (k := 220) (t := 2) (n := 240012) (c := 1) (s := 24) (r := some 220) hn10
  have hs13 := ss_step (k := 221) (t := 0) (n := 40) (c' := 1) (s := 25) (r := some 221) hs11 (by decide)
  have hn14 := nn_step (k := 221) (t := 0) (n := 40) (c := 1) (s := 25) (r := some 221) hn12
  have hs15 := ss_step (k := 222) (t := 0) (n := 40) (c' := 1) (s := 26) (r := some 222) hs13 (by decide)
  have hn16 := nn_step (k := 222) (t := 0) (n := 40) (c := 1) (s := 26) (r := some 222) hn14
  have hs17 := ss_step (k := 223) (t := 0) (n := 40) (c' := 1) (s := 27) (r := some 223) hs15 (by decide)
  have hn18 := nn_step (k := 223) (t := 0) (n := 40) (c := 1) (s := 27) (r := some 223) hn16
  have hs19 := ss_step (k := 224) (t := 0) (n := 40) (c' := 1) (s := 28) (r := some 224) hs17 (by decide)
  have hn20 := nn_step (k := 224) (t := 0) (n := 40) (c := 1) (s := 28) (r := some 224) hn18
  have hs21 := ss_step (k := 225) (t := 0) (n := 160) (c' := 1) (s := 30) (r := some 225) hs19 (by decide)
  have hn22 := nn_step (k := 225) (t := 0) (n := 160) (c := 1) (s := 30) (r := some 225) hn20
  have hs23 := ss_step (k := 226) (t := 0) (n := 560) (c' := 1) (s := 31) (r := some 226) hs21 (by decide)
  have hn24 := nn_step (k := 226) (t := 0) (n := 560) (c := 1) (s := 31) (r := some 226) hn22
  have hs25 := ss_step (k := 227) (t := 0) (n := 12) (c' := 1) (s := 38) (r := some 227) hs23 (by decide)
  have hn26 := nn_step (k := 227) (t := 0) (n := 12) (c := 1) (s := 38) (r := some 227) hn24
  have hs27 := ss_step (k := 228) (t := 0) (n := 1800) (c' := 1) (s := 39) (r := some 228) hs25 (by decide)
  have hn28 := nn_step (k := 228) (t := 0) (n := 1800) (c := 1) (s := 39) (r := some 228) hn26
  have hs29 := ss_step (k := 229) (t := 0) (n := 1800) (c' := 1) (s := 40) (r := some 229) hs27 (by decide)
  have hn30 := nn_step (k := 229) (t := 0) (n := 1800) (c := 1) (s := 40) (r := some 229) hn28
  exact ⟨hs29, hn30⟩
theorem ck_1 (d : Nat) (h : Hp_) (K : Option Value → Hp_ → Prop) (hs : h_sh h 1 = some (22, 131)) (hn : ∀ a, 215 ≤ a → a < 300 → h_sh h a = none) (k : AW (m_X12_init (d + 1) 100 288204) 30 244832 248 [(0, .ref 1)] [] (CC_1 h) K) : AW (m_X12_init (d + 1) 100 288204) 15 268 124 [(0, .ref 1)] [] h K := by
  refine aw_aload_n (i := 0) rfl d_X12_init_124 0 rfl ?_
  refine aw_bipush (v := 12) d_X12_init_125 ib_12 ?_
  refine aw_newa (t := 0) (atype := .int) 215 12 (by decide) rfl tw_51 (hn 215 (by decide) (by decide)) (by decide) xs0 (by decide +kernel) (by decide +kernel) (by decide +kernel) (show 15 + 1 ≤ 100 from by decide +kernel) (show 268 + 12 ≤ 288204 from by decide +kernel) d_X12_init_127 ?_
  refine aw_putrF (k0 := 19) kc_12 (ss_n hs (by decide)) (Nat.le_of_ble_eq_true rfl) tw_1761 d_X12_init_129 rfl rfl rfl rfl ?_
  have hs1 := ss_step (k := 215) (t := 0) (n := 12) (c' := 1) (s := 19) (r := some 215) hs (by decide)
  have hn2 := nn_step (k := 215) (t := 0) (n := 12) (c := 1) (s := 19) (r := some 215) hn
  refine aw_aload_n (i := 0) rfl d_X12_init_132 0 rfl ?_
  refine aw_bipush (v := 12) d_X12_init_133 ib_12 ?_
  refine aw_newa (t := 0) (atype := .int) 216 12 (by decide) rfl tw_51 (hn2 216 (by decide) (by decide)) (by decide) xs0 (by decide +kernel) (by decide +kernel) (by decide +kernel) (show 16 + 1 ≤ 100 from by decide +kernel) (show 280 + 12 ≤ 288204 from by decide +kernel) d_X12_init_135 ?_
  refine aw_putrF (k0 := 20) kc_12 (ss_n hs1 (by decide)) (Nat.le_of_ble_eq_true rfl) tw_1762 d_X12_init_137 rfl rfl rfl rfl ?_
  have hs3 := ss_step (k := 216) (t := 0) (n := 12) (c' := 1) (s := 20) (r := some 216) hs1 (by decide)
  have hn4 := nn_step (k := 216) (t := 0) (n := 12) (c := 1) (s := 20) (r := some 216) hn2
  refine aw_aload_n (i := 0) rfl d_X12_init_140 0 rfl ?_
  refine aw_bipush (v := 12) d_X12_init_141 ib_12 ?_
  refine aw_newa (t := 0) (atype := .int) 217 12 (by decide) rfl tw_51 (hn4 217 (by decide) (by decide)) (by decide) xs0 (by decide +kernel) (by decide +kernel) (by decide +kernel) (show 17 + 1 ≤ 100 from by decide +kernel) (show 292 + 12 ≤ 288204 from by decide +kernel) d_X12_init_143 ?_
  refine aw_putrF (k0 := 21) kc_12 (ss_n hs3 (by decide)) (Nat.le_of_ble_eq_true rfl) tw_1763 d_X12_init_145 rfl rfl rfl rfl ?_
  have hs5 := ss_step (k := 217) (t := 0) (n := 12) (c' := 1) (s := 21) (r := some 217) hs3 (by decide)
  have hn6 := nn_step (k := 217) (t := 0) (n := 12) (c := 1) (s := 21) (r := some 217) hn4
  refine aw_aload_n (i := 0) rfl d_X12_init_148 0 rfl ?_
  refine aw_bipush (v := 12) d_X12_init_149 ib_12 ?_
  refine aw_newa (t := 0) (atype := .int) 218 12 (by decide) rfl tw_51 (hn6 218 (by decide) (by decide)) (by decide) xs0 (by decide +kernel) (by decide +kernel) (by decide +kernel) (show 18 + 1 ≤ 100 from by decide +kernel) (show 304 + 12 ≤ 288204 from by decide +kernel) d_X12_init_151 ?_
  refine aw_putrF (k0 := 22) kc_12 (ss_n hs5 (by decide)) (Nat.le_of_ble_eq_true rfl) tw_1764 d_X12_init_153 rfl rfl rfl rfl ?_
  have hs7 := ss_step (k := 218) (t := 0) (n := 12) (c' := 1) (s := 22) (r := some 218) hs5 (by decide)
  have hn8 := nn_step (k := 218) (t := 0) (n := 12) (c := 1) (s := 22) (r := some 218) hn6
  refine aw_aload_n (i := 0) rfl d_X12_init_156 0 rfl ?_
  refine aw_bipush (v := 12) d_X12_init_157 ib_12 ?_
  refine aw_newa (t := 0) (atype := .int) 219 12 (by decide) rfl tw_51 (hn8 219 (by decide) (by decide)) (by decide) xs0 (by decide +kernel) (by decide +kernel) (by decide +kernel) (show 19 + 1 ≤ 100 from by decide +kernel) (show 316 + 12 ≤ 288204 from by decide +kernel) d_X12_init_159 ?_
  refine aw_putrF (k0 := 23) kc_12 (ss_n hs7 (by decide)) (Nat.le_of_ble_eq_true rfl) tw_1765 d_X12_init_161 rfl rfl rfl rfl ?_
  have hs9 := ss_step (k := 219) (t := 0) (n := 12) (c' := 1) (s := 23) (r := some 219) hs7 (by decide)
  have hn10 := nn_step (k := 219) (t := 0) (n := 12) (c := 1) (s := 23) (r := some 219) hn8
  refine aw_aload_n (i := 0) rfl d_X12_init_164 0 rfl ?_
  refine aw_ldc (v := 240012) d_X12_init_165 tw_1741 ?_
  refine aw_newa (t := 2) (atype := .byte) 220 240012 (by decide) rfl tw_96 (hn10 220 (by decide) (by decide)) (by decide) xs0 (by decide +kernel) (by decide +kernel) (by decide +kernel) (show 20 + 1 ≤ 100 from by decide +kernel) (show 328 + 240012 ≤ 288204 from by decide +kernel) d_X12_init_167 ?_
  refine aw_putrF (k0 := 24) kc_12 (ss_n hs9 (by decide)) (Nat.le_of_ble_eq_true rfl) tw_1766 d_X12_init_169 rfl rfl rfl rfl ?_
  have hs11 := ss_step (k := 220) (t := 2) (n := 240012) (c' := 1) (s := 24) (r := some 220) hs9 (by decide)
  have hn12 := nn_step (k := 220) (t := 2) (n := 240012) (c := 1) (s := 24) (r := some 220) hn10
  refine aw_aload_n (i := 0) rfl d_X12_init_172 0 rfl ?_
  refine aw_bipush (v := 40) d_X12_init_173 ib_40 ?_
  refine aw_newa (t := 0) (atype := .int) 221 40 (by decide) rfl tw_51 (hn12 221 (by decide) (by decide)) (by decide) xs0 (by decide +kernel) (by decide +kernel) (by decide +kernel) (show 21 + 1 ≤ 100 from by decide +kernel) (show 240340 + 40 ≤ 288204 from by decide +kernel) d_X12_init_175 ?_
  refine aw_putrF (k0 := 25) kc_12 (ss_n hs11 (by decide)) (Nat.le_of_ble_eq_true rfl) tw_1767 d_X12_init_177 rfl rfl rfl rfl ?_
  have hs13 := ss_step (k := 221) (t := 0) (n := 40) (c' := 1) (s := 25) (r := some 221) hs11 (by decide)
  have hn14 := nn_step (k := 221) (t := 0) (n := 40) (c := 1) (s := 25) (r := some 221) hn12
  refine aw_aload_n (i := 0) rfl d_X12_init_180 0 rfl ?_
  refine aw_bipush (v := 40) d_X12_init_181 ib_40 ?_
  refine aw_newa (t := 0) (atype := .int) 222 40 (by decide) rfl tw_51 (hn14 222 (by decide) (by decide)) (by decide) xs0 (by decide +kernel) (by decide +kernel) (by decide +kernel) (show 22 + 1 ≤ 100 from by decide +kernel) (show 240380 + 40 ≤ 288204 from by decide +kernel) d_X12_init_183 ?_
  refine aw_putrF (k0 := 26) kc_12 (ss_n hs13 (by decide)) (Nat.le_of_ble_eq_true rfl) tw_1768 d_X12_init_185 rfl rfl rfl rfl ?_
  have hs15 := ss_step (k := 222) (t := 0) (n := 40) (c' := 1) (s := 26) (r := some 222) hs13 (by decide)
  have hn16 := nn_step (k := 222) (t := 0) (n := 40) (c := 1) (s := 26) (r := some 222) hn14
  refine aw_aload_n (i := 0) rfl d_X12_init_188 0 rfl ?_
  refine aw_bipush (v := 40) d_X12_init_189 ib_40 ?_
  refine aw_newa (t := 0) (atype := .int) 223 40 (by decide) rfl tw_51 (hn16 223 (by decide) (by decide)) (by decide) xs0 (by decide +kernel) (by decide +kernel) (by decide +kernel) (show 23 + 1 ≤ 100 from by decide +kernel) (show 240420 + 40 ≤ 288204 from by decide +kernel) d_X12_init_191 ?_
  refine aw_putrF (k0 := 27) kc_12 (ss_n hs15 (by decide)) (Nat.le_of_ble_eq_true rfl) tw_1769 d_X12_init_193 rfl rfl rfl rfl ?_
  have hs17 := ss_step (k := 223) (t := 0) (n := 40) (c' := 1) (s := 27) (r := some 223) hs15 (by decide)
  have hn18 := nn_step (k := 223) (t := 0) (n := 40) (c := 1) (s := 27) (r := some 223) hn16
  refine aw_aload_n (i := 0) rfl d_X12_init_196 0 rfl ?_
  refine aw_bipush (v := 40) d_X12_init_197 ib_40 ?_
  refine aw_newa (t := 0) (atype := .int) 224 40 (by decide) rfl tw_51 (hn18 224 (by decide) (by decide)) (by decide) xs0 (by decide +kernel) (by decide +kernel) (by decide +kernel) (show 24 + 1 ≤ 100 from by decide +kernel) (show 240460 + 40 ≤ 288204 from by decide +kernel) d_X12_init_199 ?_
  refine aw_putrF (k0 := 28) kc_12 (ss_n hs17 (by decide)) (Nat.le_of_ble_eq_true rfl) tw_1770 d_X12_init_201 rfl rfl rfl rfl ?_
  have hs19 := ss_step (k := 224) (t := 0) (n := 40) (c' := 1) (s := 28) (r := some 224) hs17 (by decide)
  have hn20 := nn_step (k := 224) (t := 0) (n := 40) (c := 1) (s := 28) (r := some 224) hn18
  refine aw_aload_n (i := 0) rfl d_X12_init_204 0 rfl ?_
  refine aw_sipush (v := 160) d_X12_init_205 is_160 ?_
  refine aw_newa (t := 0) (atype := .int) 225 160 (by decide) rfl tw_51 (hn20 225 (by decide) (by decide)) (by decide) xs0 (by decide +kernel) (by decide +kernel) (by decide +kernel) (show 25 + 1 ≤ 100 from by decide +kernel) (show 240500 + 160 ≤ 288204 from by decide +kernel) d_X12_init_208 ?_
  refine aw_putrF (k0 := 30) kc_12 (ss_n hs19 (by decide)) (Nat.le_of_ble_eq_true rfl) tw_1772 d_X12_init_210 rfl rfl rfl rfl ?_
  have hs21 := ss_step (k := 225) (t := 0) (n := 160) (c' := 1) (s := 30) (r := some 225) hs19 (by decide)
  have hn22 := nn_step (k := 225) (t := 0) (n := 160) (c := 1) (s := 30) (r := some 225) hn20
  refine aw_aload_n (i := 0) rfl d_X12_init_213 0 rfl ?_
  refine aw_sipush (v := 560) d_X12_init_214 is_560 ?_
  refine aw_newa (t := 0) (atype := .int) 226 560 (by decide) rfl tw_51 (hn22 226 (by decide) (by decide)) (by decide) xs0 (by decide +kernel) (by decide +kernel) (by decide +kernel) (show 26 + 1 ≤ 100 from by decide +kernel) (show 240660 + 560 ≤ 288204 from by decide +kernel) d_X12_init_217 ?_
  refine aw_putrF (k0 := 31) kc_12 (ss_n hs21 (by decide)) (Nat.le_of_ble_eq_true rfl) tw_1773 d_X12_init_219 rfl rfl rfl rfl ?_
  have hs23 := ss_step (k := 226) (t := 0) (n := 560) (c' := 1) (s := 31) (r := some 226) hs21 (by decide)
  have hn24 := nn_step (k := 226) (t := 0) (n := 560) (c := 1) (s := 31) (r := some 226) hn22
  refine aw_aload_n (i := 0) rfl d_X12_init_222 0 rfl ?_
  refine aw_bipush (v := 12) d_X12_init_223 ib_12 ?_
  refine aw_newa (t := 0) (atype := .int) 227 12 (by decide) rfl tw_51 (hn24 227 (by decide) (by decide)) (by decide) xs0 (by decide +kernel) (by decide +kernel) (by decide +kernel) (show 27 + 1 ≤ 100 from by decide +kernel) (show 241220 + 12 ≤ 288204 from by decide +kernel) d_X12_init_225 ?_
  refine aw_putrF (k0 := 38) kc_12 (ss_n hs23 (by decide)) (Nat.le_of_ble_eq_true rfl) tw_1780 d_X12_init_227 rfl rfl rfl rfl ?_
  have hs25 := ss_step (k := 227) (t := 0) (n := 12) (c' := 1) (s := 38) (r := some 227) hs23 (by decide)
  have hn26 := nn_step (k := 227) (t := 0) (n := 12) (c := 1) (s := 38) (r := some 227) hn24
  refine aw_aload_n (i := 0) rfl d_X12_init_230 0 rfl ?_
  refine aw_sipush (v := 1800) d_X12_init_231 is_1800 ?_
  refine aw_newa (t := 0) (atype := .int) 228 1800 (by decide) rfl tw_51 (hn26 228 (by decide) (by decide)) (by decide) xs0 (by decide +kernel) (by decide +kernel) (by decide +kernel) (show 28 + 1 ≤ 100 from by decide +kernel) (show 241232 + 1800 ≤ 288204 from by decide +kernel) d_X12_init_234 ?_
  refine aw_putrF (k0 := 39) kc_12 (ss_n hs25 (by decide)) (Nat.le_of_ble_eq_true rfl) tw_1781 d_X12_init_236 rfl rfl rfl rfl ?_
  have hs27 := ss_step (k := 228) (t := 0) (n := 1800) (c' := 1) (s := 39) (r := some 228) hs25 (by decide)
  have hn28 := nn_step (k := 228) (t := 0) (n := 1800) (c := 1) (s := 39) (r := some 228) hn26
  refine aw_aload_n (i := 0) rfl d_X12_init_239 0 rfl ?_
  refine aw_sipush (v := 1800) d_X12_init_240 is_1800 ?_
  refine aw_newa (t := 0) (atype := .int) 229 1800 (by decide) rfl tw_51 (hn28 229 (by decide) (by decide)) (by decide) xs0 (by decide +kernel) (by decide +kernel) (by decide +kernel) (show 29 + 1 ≤ 100 from by decide +kernel) (show 243032 + 1800 ≤ 288204 from by decide +kernel) d_X12_init_243 ?_
  refine aw_putrF (k0 := 40) kc_12 (ss_n hs27 (by decide)) (Nat.le_of_ble_eq_true rfl) tw_1782 d_X12_init_245 rfl rfl rfl rfl ?_
  have hs29 := ss_step (k := 229) (t := 0) (n := 1800) (c' := 1) (s := 40) (r := some 229) hs27 (by decide)
  have hn30 := nn_step (k := 229) (t := 0) (n := 1800) (c := 1) (s := 40) (r := some 229) hn28
  exact k
noncomputable def CC_2 (h : Hp_) : Hp_ := h_rm (h_nw (h_rm (h_nw (h_rm (h_nw (h_rm (h_nw (h_rm (h_nw (h_rm (h_nw (h_rm (h_nw (h_rm (h_nw (h_rm (h_nw (h_rm (h_nw (h_rm (h_nw (h_rm (h_nw (h_rm (h_nw (h_rm (h_nw (h_rm (h_nw h 230 0 1800) 1 41 (some 230)) 231 0 22400) 1 45 (some 231)) 232 0 40) 1 46 (some 232)) 233 0 40) 1 47 (some 233)) 234 0 40) 1 48 (some 234)) 235 0 2) 1 49 (some 235)) 236 0 128) 1 50 (some 236)) 237 0 200) 1 51 (some 237)) 238 0 400) 1 53 (some 238)) 239 0 400) 1 54 (some 239)) 240 0 400) 1 55 (some 240)) 241 0 400) 1 56 (some 241)) 242 0 400) 1 57 (some 242)) 243 0 400) 1 58 (some 243)) 244 0 400) 1 59 (some 244)
theorem cf_2 (h : Hp_) (hs : h_sh h 1 = some (22, 131)) (hn : ∀ a, 230 ≤ a → a < 300 → h_sh h a = none) : h_sh (CC_2 h) 1 = some (22, 131) ∧ (∀ a, 245 ≤ a → a < 300 → h_sh (CC_2 h) a = none) := by
  have hs1 := ss_step (k := 230) (t := 0) (n := 1800) (c' := 1) (s := 41) (r := some 230) hs (by decide)
  have hn2 := nn_step (k := 230) (t := 0) (n := 1800) (c := 1) (s := 41) (r := some 230) hn
  have hs3 := ss_step (k := 231) (t := 0) (n := 22400) (c' := 1) (s := 45) (r := some 231) hs1 (by decide)
  have hn4 := nn_step (k := 231) (t := 0) (n := 22400) (c := 1) (s := 45) (r := some 231) hn2
  have hs5 := ss_step (k := 232) (t := 0) (n := 40) (c' := 1) (s := 46) (r := some 232) hs3 (by decide)
  have hn6 := nn_step (k := 232) (t := 0) (n := 40) (c := 1) (s := 46) (r := some 232) hn4
  have hs7 := ss_step (k := 233) (t := 0) (n := 40) (c' := 1) (s := 47) (r := some 233) hs5 (by decide)
  have hn8 := nn_step (k := 233) (t := 0) (n := 40) (c := 1) (s := 47) (r := some 233) hn6
  have hs9 := ss_step (k := 234) (t := 0) (n := 40) (c' := 1) (s := 48) (r := some 234) hs7 (by decide)
  have hn10 := nn_step (k := 234) (t := 0) (n := 40) (c := 1) (s := 48) (r := some 234) hn8
  have hs11 := ss_step (k := 235) (t := 0) (n := 2) (c' := 1) (s := 49) (r := some 235) hs9 (by decide)
  have hn12 := nn_step (k := 235) (t := 0) (n := 2) (c := 1) (s := 49) (r := some 235) hn10
  have hs13 := ss_step (k := 236) (t := 0) (n := 128) (c' := 1) (s := 50) (r := some 236) hs11 (by decide)
  have hn14 := nn_step (k := 236) (t := 0) (n := 128) (c := 1) (s := 50) (r := some 236) hn12
  have hs15 := ss_step (k := 237) (t := 0) (n := 200) (c' := 1) (s := 51) (r := some 237) hs13 (by decide)
  have hn16 := nn_step (k := 237) (t := 0) (n := 200) (c := 1) (s := 51) (r := some 237) hn14
  have hs17 := ss_step (k := 238) (t := 0) (n := 400) (c' := 1) (s := 53) (r := some 238) hs15 (by decide)
  have hn18 := nn_step (k := 238) (t := 0) (n := 400) (c := 1) (s := 53) (r := some 238) hn16
  have hs19 := ss_step (k := 239) (t := 0) (n := 400) (c' := 1) (s := 54) (r := some 239) hs17 (by decide)
  have hn20 := nn_step (k := 239) (t := 0) (n := 400) (c := 1) (s := 54) (r := some 239) hn18
  have hs21 := ss_step (k := 240) (t := 0) (n := 400) (c' := 1) (s := 55) (r := some 240) hs19 (by decide)
  have hn22 := nn_step (k := 240) (t := 0) (n := 400) (c := 1) (s := 55) (r := some 240) hn20
  have hs23 := ss_step (k := 241) (t := 0) (n := 400) (c' := 1) (s := 56) (r := some 241) hs21 (by decide)
  have hn24 := nn_step (k := 241) (t := 0) (n := 400) (c := 1) (s := 56) (r := some 241) hn22
  have hs25 := ss_step (k := 242) (t := 0) (n := 400) (c' := 1) (s := 57) (r := some 242) hs23 (by decide)
  have hn26 := nn_step (k := 242) (t := 0) (n := 400) (c := 1) (s := 57) (r := some 242) hn24
  have hs27 := ss_step (k := 243) (t := 0) (n := 400) (c' := 1) (s := 58) (r := some 243) hs25 (by decide)
  have hn28 := nn_step (k := 243) (t := 0) (n := 400) (c := 1) (s := 58) (r := some 243) hn26
  have hs29 := ss_step (k := 244) (t := 0) (n := 400) (c' := 1) (s := 59) (r := some 244) hs27 (by decide)
  have hn30 := nn_step (k := 244) (t := 0) (n := 400) (c := 1) (s := 59) (r := some 244) hn28
  exact ⟨hs29, hn30⟩
theorem ck_2 (d : Nat) (h : Hp_) (K : Option Value → Hp_ → Prop) (hs : h_sh h 1 = some (22, 131)) (hn : ∀ a, 230 ≤ a → a < 300 → h_sh h a = none) (k : AW (m_X12_init (d + 1) 100 288204) 45 272282 378 [(0, .ref 1)] [] (CC_2 h) K) : AW (m_X12_init (d + 1) 100 288204) 30 244832 248 [(0, .ref 1)] [] h K := by
  refine aw_aload_n (i := 0) rfl d_X12_init_248 0 rfl ?_
  refine aw_sipush (v := 1800) d_X12_init_249 is_1800 ?_
  refine aw_newa (t := 0) (atype := .int) 230 1800 (by decide) rfl tw_51 (hn 230 (by decide) (by decide)) (by decide) xs0 (by decide +kernel) (by decide +kernel) (by decide +kernel) (show 30 + 1 ≤ 100 from by decide +kernel) (show 244832 + 1800 ≤ 288204 from by decide +kernel) d_X12_init_252 ?_
  refine aw_putrF (k0 := 41) kc_12 (ss_n hs (by decide)) (Nat.le_of_ble_eq_true rfl) tw_1783 d_X12_init_254 rfl rfl rfl rfl ?_
  have hs1 := ss_step (k := 230) (t := 0) (n := 1800) (c' := 1) (s := 41) (r := some 230) hs (by decide)
  have hn2 := nn_step (k := 230) (t := 0) (n := 1800) (c := 1) (s := 41) (r := some 230) hn
  refine aw_aload_n (i := 0) rfl d_X12_init_257 0 rfl ?_
  refine aw_sipush (v := 22400) d_X12_init_258 is_22400 ?_
  refine aw_newa (t := 0) (atype := .int) 231 22400 (by decide) rfl tw_51 (hn2 231 (by decide) (by decide)) (by decide) xs0 (by decide +kernel) (by decide +kernel) (by decide +kernel) (show 31 + 1 ≤ 100 from by decide +kernel) (show 246632 + 22400 ≤ 288204 from by decide +kernel) d_X12_init_261 ?_
  refine aw_putrF (k0 := 45) kc_12 (ss_n hs1 (by decide)) (Nat.le_of_ble_eq_true rfl) tw_1787 d_X12_init_263 rfl rfl rfl rfl ?_
  have hs3 := ss_step (k := 231) (t := 0) (n := 22400) (c' := 1) (s := 45) (r := some 231) hs1 (by decide)
  have hn4 := nn_step (k := 231) (t := 0) (n := 22400) (c := 1) (s := 45) (r := some 231) hn2
  refine aw_aload_n (i := 0) rfl d_X12_init_266 0 rfl ?_
  refine aw_bipush (v := 40) d_X12_init_267 ib_40 ?_
  refine aw_newa (t := 0) (atype := .int) 232 40 (by decide) rfl tw_51 (hn4 232 (by decide) (by decide)) (by decide) xs0 (by decide +kernel) (by decide +kernel) (by decide +kernel) (show 32 + 1 ≤ 100 from by decide +kernel) (show 269032 + 40 ≤ 288204 from by decide +kernel) d_X12_init_269 ?_
  refine aw_putrF (k0 := 46) kc_12 (ss_n hs3 (by decide)) (Nat.le_of_ble_eq_true rfl) tw_1788 d_X12_init_271 rfl rfl rfl rfl ?_
  have hs5 := ss_step (k := 232) (t := 0) (n := 40) (c' := 1) (s := 46) (r := some 232) hs3 (by decide)
  have hn6 := nn_step (k := 232) (t := 0) (n := 40) (c := 1) (s := 46) (r := some 232) hn4
  refine aw_aload_n (i := 0) rfl d_X12_init_274 0 rfl ?_
  refine aw_bipush (v := 40) d_X12_init_275 ib_40 ?_
  refine aw_newa (t := 0) (atype := .int) 233 40 (by decide) rfl tw_51 (hn6 233 (by decide) (by decide)) (by decide) xs0 (by decide +kernel) (by decide +kernel) (by decide +kernel) (show 33 + 1 ≤ 100 from by decide +kernel) (show 269072 + 40 ≤ 288204 from by decide +kernel) d_X12_init_277 ?_
  refine aw_putrF (k0 := 47) kc_12 (ss_n hs5 (by decide)) (Nat.le_of_ble_eq_true rfl) tw_1789 d_X12_init_279 rfl rfl rfl rfl ?_
  have hs7 := ss_step (k := 233) (t := 0) (n := 40) (c' := 1) (s := 47) (r := some 233) hs5 (by decide)
  have hn8 := nn_step (k := 233) (t := 0) (n := 40) (c := 1) (s := 47) (r := some 233) hn6
  refine aw_aload_n (i := 0) rfl d_X12_init_282 0 rfl ?_
  refine aw_bipush (v := 40) d_X12_init_283 ib_40 ?_
  refine aw_newa (t := 0) (atype := .int) 234 40 (by decide) rfl tw_51 (hn8 234 (by decide) (by decide)) (by decide) xs0 (by decide +kernel) (by decide +kernel) (by decide +kernel) (show 34 + 1 ≤ 100 from by decide +kernel) (show 269112 + 40 ≤ 288204 from by decide +kernel) d_X12_init_285 ?_
  refine aw_putrF (k0 := 48) kc_12 (ss_n hs7 (by decide)) (Nat.le_of_ble_eq_true rfl) tw_1790 d_X12_init_287 rfl rfl rfl rfl ?_
  have hs9 := ss_step (k := 234) (t := 0) (n := 40) (c' := 1) (s := 48) (r := some 234) hs7 (by decide)
  have hn10 := nn_step (k := 234) (t := 0) (n := 40) (c := 1) (s := 48) (r := some 234) hn8
  refine aw_aload_n (i := 0) rfl d_X12_init_290 0 rfl ?_
  refine aw_iconst (v := 2) d_X12_init_291 ic_2 ?_
  refine aw_newa (t := 0) (atype := .int) 235 2 (by decide) rfl tw_51 (hn10 235 (by decide) (by decide)) (by decide) xs0 (by decide +kernel) (by decide +kernel) (by decide +kernel) (show 35 + 1 ≤ 100 from by decide +kernel) (show 269152 + 2 ≤ 288204 from by decide +kernel) d_X12_init_292 ?_
  refine aw_putrF (k0 := 49) kc_12 (ss_n hs9 (by decide)) (Nat.le_of_ble_eq_true rfl) tw_1791 d_X12_init_294 rfl rfl rfl rfl ?_
  have hs11 := ss_step (k := 235) (t := 0) (n := 2) (c' := 1) (s := 49) (r := some 235) hs9 (by decide)
  have hn12 := nn_step (k := 235) (t := 0) (n := 2) (c := 1) (s := 49) (r := some 235) hn10
  refine aw_aload_n (i := 0) rfl d_X12_init_297 0 rfl ?_
  refine aw_sipush (v := 128) d_X12_init_298 is_128 ?_
  refine aw_newa (t := 0) (atype := .int) 236 128 (by decide) rfl tw_51 (hn12 236 (by decide) (by decide)) (by decide) xs0 (by decide +kernel) (by decide +kernel) (by decide +kernel) (show 36 + 1 ≤ 100 from by decide +kernel) (show 269154 + 128 ≤ 288204 from by decide +kernel) d_X12_init_301 ?_
  refine aw_putrF (k0 := 50) kc_12 (ss_n hs11 (by decide)) (Nat.le_of_ble_eq_true rfl) tw_1792 d_X12_init_303 rfl rfl rfl rfl ?_
  have hs13 := ss_step (k := 236) (t := 0) (n := 128) (c' := 1) (s := 50) (r := some 236) hs11 (by decide)
  have hn14 := nn_step (k := 236) (t := 0) (n := 128) (c := 1) (s := 50) (r := some 236) hn12
  refine aw_aload_n (i := 0) rfl d_X12_init_306 0 rfl ?_
  refine aw_sipush (v := 200) d_X12_init_307 is_200 ?_
  refine aw_newa (t := 0) (atype := .int) 237 200 (by decide) rfl tw_51 (hn14 237 (by decide) (by decide)) (by decide) xs0 (by decide +kernel) (by decide +kernel) (by decide +kernel) (show 37 + 1 ≤ 100 from by decide +kernel) (show 269282 + 200 ≤ 288204 from by decide +kernel) d_X12_init_310 ?_
  refine aw_putrF (k0 := 51) kc_12 (ss_n hs13 (by decide)) (Nat.le_of_ble_eq_true rfl) tw_1793 d_X12_init_312 rfl rfl rfl rfl ?_
  have hs15 := ss_step (k := 237) (t := 0) (n := 200) (c' := 1) (s := 51) (r := some 237) hs13 (by decide)
  have hn16 := nn_step (k := 237) (t := 0) (n := 200) (c := 1) (s := 51) (r := some 237) hn14
  refine aw_aload_n (i := 0) rfl d_X12_init_315 0 rfl ?_
  refine aw_sipush (v := 400) d_X12_init_316 is_400 ?_
  refine aw_newa (t := 0) (atype := .int) 238 400 (by decide) rfl tw_51 (hn16 238 (by decide) (by decide)) (by decide) xs0 (by decide +kernel) (by decide +kernel) (by decide +kernel) (show 38 + 1 ≤ 100 from by decide +kernel) (show 269482 + 400 ≤ 288204 from by decide +kernel) d_X12_init_319 ?_
  refine aw_putrF (k0 := 53) kc_12 (ss_n hs15 (by decide)) (Nat.le_of_ble_eq_true rfl) tw_1795 d_X12_init_321 rfl rfl rfl rfl ?_
  have hs17 := ss_step (k := 238) (t := 0) (n := 400) (c' := 1) (s := 53) (r := some 238) hs15 (by decide)
  have hn18 := nn_step (k := 238) (t := 0) (n := 400) (c := 1) (s := 53) (r := some 238) hn16
  refine aw_aload_n (i := 0) rfl d_X12_init_324 0 rfl ?_
  refine aw_sipush (v := 400) d_X12_init_325 is_400 ?_
  refine aw_newa (t := 0) (atype := .int) 239 400 (by decide) rfl tw_51 (hn18 239 (by decide) (by decide)) (by decide) xs0 (by decide +kernel) (by decide +kernel) (by decide +kernel) (show 39 + 1 ≤ 100 from by decide +kernel) (show 269882 + 400 ≤ 288204 from by decide +kernel) d_X12_init_328 ?_
  refine aw_putrF (k0 := 54) kc_12 (ss_n hs17 (by decide)) (Nat.le_of_ble_eq_true rfl) tw_1796 d_X12_init_330 rfl rfl rfl rfl ?_
  have hs19 := ss_step (k := 239) (t := 0) (n := 400) (c' := 1) (s := 54) (r := some 239) hs17 (by decide)
  have hn20 := nn_step (k := 239) (t := 0) (n := 400) (c := 1) (s := 54) (r := some 239) hn18
  refine aw_aload_n (i := 0) rfl d_X12_init_333 0 rfl ?_
  refine aw_sipush (v := 400) d_X12_init_334 is_400 ?_
  refine aw_newa (t := 0) (atype := .int) 240 400 (by decide) rfl tw_51 (hn20 240 (by decide) (by decide)) (by decide) xs0 (by decide +kernel) (by decide +kernel) (by decide +kernel) (show 40 + 1 ≤ 100 from by decide +kernel) (show 270282 + 400 ≤ 288204 from by decide +kernel) d_X12_init_337 ?_
  refine aw_putrF (k0 := 55) kc_12 (ss_n hs19 (by decide)) (Nat.le_of_ble_eq_true rfl) tw_1797 d_X12_init_339 rfl rfl rfl rfl ?_
  have hs21 := ss_step (k := 240) (t := 0) (n := 400) (c' := 1) (s := 55) (r := some 240) hs19 (by decide)
  have hn22 := nn_step (k := 240) (t := 0) (n := 400) (c := 1) (s := 55) (r := some 240) hn20
  refine aw_aload_n (i := 0) rfl d_X12_init_342 0 rfl ?_
  refine aw_sipush (v := 400) d_X12_init_343 is_400 ?_
  refine aw_newa (t := 0) (atype := .int) 241 400 (by decide) rfl tw_51 (hn22 241 (by decide) (by decide)) (by decide) xs0 (by decide +kernel) (by decide +kernel) (by decide +kernel) (show 41 + 1 ≤ 100 from by decide +kernel) (show 270682 + 400 ≤ 288204 from by decide +kernel) d_X12_init_346 ?_
  refine aw_putrF (k0 := 56) kc_12 (ss_n hs21 (by decide)) (Nat.le_of_ble_eq_true rfl) tw_1798 d_X12_init_348 rfl rfl rfl rfl ?_
  have hs23 := ss_step (k := 241) (t := 0) (n := 400) (c' := 1) (s := 56) (r := some 241) hs21 (by decide)
  have hn24 := nn_step (k := 241) (t := 0) (n := 400) (c := 1) (s := 56) (r := some 241) hn22
  refine aw_aload_n (i := 0) rfl d_X12_init_351 0 rfl ?_
  refine aw_sipush (v := 400) d_X12_init_352 is_400 ?_
  refine aw_newa (t := 0) (atype := .int) 242 400 (by decide) rfl tw_51 (hn24 242 (by decide) (by decide)) (by decide) xs0 (by decide +kernel) (by decide +kernel) (by decide +kernel) (show 42 + 1 ≤ 100 from by decide +kernel) (show 271082 + 400 ≤ 288204 from by decide +kernel) d_X12_init_355 ?_
  refine aw_putrF (k0 := 57) kc_12 (ss_n hs23 (by decide)) (Nat.le_of_ble_eq_true rfl) tw_1799 d_X12_init_357 rfl rfl rfl rfl ?_
  have hs25 := ss_step (k := 242) (t := 0) (n := 400) (c' := 1) (s := 57) (r := some 242) hs23 (by decide)
  have hn26 := nn_step (k := 242) (t := 0) (n := 400) (c := 1) (s := 57) (r := some 242) hn24
  refine aw_aload_n (i := 0) rfl d_X12_init_360 0 rfl ?_
  refine aw_sipush (v := 400) d_X12_init_361 is_400 ?_
  refine aw_newa (t := 0) (atype := .int) 243 400 (by decide) rfl tw_51 (hn26 243 (by decide) (by decide)) (by decide) xs0 (by decide +kernel) (by decide +kernel) (by decide +kernel) (show 43 + 1 ≤ 100 from by decide +kernel) (show 271482 + 400 ≤ 288204 from by decide +kernel) d_X12_init_364 ?_
  refine aw_putrF (k0 := 58) kc_12 (ss_n hs25 (by decide)) (Nat.le_of_ble_eq_true rfl) tw_1800 d_X12_init_366 rfl rfl rfl rfl ?_
  have hs27 := ss_step (k := 243) (t := 0) (n := 400) (c' := 1) (s := 58) (r := some 243) hs25 (by decide)
  have hn28 := nn_step (k := 243) (t := 0) (n := 400) (c := 1) (s := 58) (r := some 243) hn26
  refine aw_aload_n (i := 0) rfl d_X12_init_369 0 rfl ?_
  refine aw_sipush (v := 400) d_X12_init_370 is_400 ?_
  refine aw_newa (t := 0) (atype := .int) 244 400 (by decide) rfl tw_51 (hn28 244 (by decide) (by decide)) (by decide) xs0 (by decide +kernel) (by decide +kernel) (by decide +kernel) (show 44 + 1 ≤ 100 from by decide +kernel) (show 271882 + 400 ≤ 288204 from by decide +kernel) d_X12_init_373 ?_
  refine aw_putrF (k0 := 59) kc_12 (ss_n hs27 (by decide)) (Nat.le_of_ble_eq_true rfl) tw_1801 d_X12_init_375 rfl rfl rfl rfl ?_
  have hs29 := ss_step (k := 244) (t := 0) (n := 400) (c' := 1) (s := 59) (r := some 244) hs27 (by decide)
  have hn30 := nn_step (k := 244) (t := 0) (n := 400) (c := 1) (s := 59) (r := some 244) hn28
  exact k
noncomputable def CC_3 (h : Hp_) : Hp_ := h_rm (h_nw (h_rm (h_nw (h_rm (h_nw (h_rm (h_nw (h_rm (h_nw (h_rm (h_nw (h_rm (h_nw (h_rm (h_nw (h_rm (h_nw (h_rm (h_nw (h_rm (h_nw (h_rm (h_nw (h_rm (h_nw (h_rm (h_nw (h_rm (h_nw h 245 0 200) 1 60 (some 245)) 246 0 200) 1 61 (some 246)) 247 0 200) 1 62 (some 247)) 248 1 12) 1 65 (some 248)) 249 0 80) 1 66 (some 249)) 250 0 80) 1 67 (some 250)) 251 0 80) 1 68 (some 251)) 252 0 80) 1 69 (some 252)) 253 0 80) 1 70 (some 253)) 254 1 80) 1 71 (some 254)) 255 0 300) 1 72 (some 255)) 256 0 300) 1 73 (some 256)) 257 0 300) 1 74 (some 257)) 258 0 300) 1 75 (some 258)) 259 0 300) 1 76 (some 259)
theorem cf_3 (h : Hp_) (hs : h_sh h 1 = some (22, 131)) (hn : ∀ a, 245 ≤ a → a < 300 → h_sh h a = none) : h_sh (CC_3 h) 1 = some (22, 131) ∧ (∀ a, 260 ≤ a → a < 300 → h_sh (CC_3 h) a = none) := by
  have hs1 := ss_step (k := 245) (t := 0) (n := 200) (c' := 1) (s := 60) (r := some 245) hs (by decide)
  have hn2 := nn_step (k := 245) (t := 0) (n := 200) (c := 1) (s := 60) (r := some 245) hn
  have hs3 := ss_step (k := 246) (t := 0) (n := 200) (c' := 1) (s := 61) (r := some 246) hs1 (by decide)
  have hn4 := nn_step (k := 246) (t := 0) (n := 200) (c := 1) (s := 61) (r := some 246) hn2
  have hs5 := ss_step (k := 247) (t := 0) (n := 200) (c' := 1) (s := 62) (r := some 247) hs3 (by decide)
  have hn6 := nn_step (k := 247) (t := 0) (n := 200) (c := 1) (s := 62) (r := some 247) hn4
  have hs7 := ss_step (k := 248) (t := 1) (n := 12) (c' := 1) (s := 65) (r := some 248) hs5 (by decide)
  have hn8 := nn_step (k := 248) (t := 1) (n := 12) (c := 1) (s := 65) (r := some 248) hn6
  have hs9 := ss_step (k := 249) (t := 0) (n := 80) (c' := 1) (s := 66) (r := some 249) hs7 (by decide)
  have hn10 := nn_step (k := 249) (t := 0) (n := 80) (c := 1) (s := 66) (r := some 249) hn8
  have hs11 := ss_step (k := 250) (t := 0) (n := 80) (c' := 1) (s := 67) (r := some 250) hs9 (by decide)
  have hn12 := nn_step (k := 250) (t := 0) (n := 80) (c := 1) (s := 67) (r := some 250) hn10
  have hs13 := ss_step (k := 251) (t := 0) (n := 80) (c' := 1) (s := 68) (r := some 251) hs11 (by decide)
  have hn14 := nn_step (k := 251) (t := 0) (n := 80) (c := 1) (s := 68) (r := some 251) hn12
  have hs15 := ss_step (k := 252) (t := 0) (n := 80) (c' := 1) (s := 69) (r := some 252) hs13 (by decide)
  have hn16 := nn_step (k := 252) (t := 0) (n := 80) (c := 1) (s := 69) (r := some 252) hn14
  have hs17 := ss_step (k := 253) (t := 0) (n := 80) (c' := 1) (s := 70) (r := some 253) hs15 (by decide)
  have hn18 := nn_step (k := 253) (t := 0) (n := 80) (c := 1) (s := 70) (r := some 253) hn16
  have hs19 := ss_step (k := 254) (t := 1) (n := 80) (c' := 1) (s := 71) (r := some 254) hs17 (by decide)
  have hn20 := nn_step (k := 254) (t := 1) (n := 80) (c := 1) (s := 71) (r := some 254) hn18
  have hs21 := ss_step (k := 255) (t := 0) (n := 300) (c' := 1) (s := 72) (r := some 255) hs19 (by decide)
  have hn22 := nn_step (k := 255) (t := 0) (n := 300) (c := 1) (s := 72) (r := some 255) hn20
  have hs23 := ss_step (k := 256) (t := 0) (n := 300) (c' := 1) (s := 73) (r := some 256) hs21 (by decide)
  have hn24 := nn_step (k := 256) (t := 0) (n := 300) (c := 1) (s := 73) (r := some 256) hn22
  have hs25 := ss_step (k := 257) (t := 0) (n := 300) (c' := 1) (s := 74) (r := some 257) hs23 (by decide)
  have hn26 := nn_step (k := 257) (t := 0) (n := 300) (c := 1) (s := 74) (r := some 257) hn24
  have hs27 := ss_step (k := 258) (t := 0) (n := 300) (c' := 1) (s := 75) (r := some 258) hs25 (by decide)
  have hn28 := nn_step (k := 258) (t := 0) (n := 300) (c := 1) (s := 75) (r := some 258) hn26
  have hs29 := ss_step (k := 259) (t := 0) (n := 300) (c' := 1) (s := 76) (r := some 259) hs27 (by decide)
  have hn30 := nn_step (k := 259) (t := 0) (n := 300) (c := 1) (s := 76) (r := some 259) hn28
  exact ⟨hs29, hn30⟩
theorem ck_3 (d : Nat) (h : Hp_) (K : Option Value → Hp_ → Prop) (hs : h_sh h 1 = some (22, 131)) (hn : ∀ a, 245 ≤ a → a < 300 → h_sh h a = none) (k : AW (m_X12_init (d + 1) 100 288204) 60 274874 506 [(0, .ref 1)] [] (CC_3 h) K) : AW (m_X12_init (d + 1) 100 288204) 45 272282 378 [(0, .ref 1)] [] h K := by
  refine aw_aload_n (i := 0) rfl d_X12_init_378 0 rfl ?_
  refine aw_sipush (v := 200) d_X12_init_379 is_200 ?_
  refine aw_newa (t := 0) (atype := .int) 245 200 (by decide) rfl tw_51 (hn 245 (by decide) (by decide)) (by decide) xs0 (by decide +kernel) (by decide +kernel) (by decide +kernel) (show 45 + 1 ≤ 100 from by decide +kernel) (show 272282 + 200 ≤ 288204 from by decide +kernel) d_X12_init_382 ?_
  refine aw_putrF (k0 := 60) kc_12 (ss_n hs (by decide)) (Nat.le_of_ble_eq_true rfl) tw_1802 d_X12_init_384 rfl rfl rfl rfl ?_
  have hs1 := ss_step (k := 245) (t := 0) (n := 200) (c' := 1) (s := 60) (r := some 245) hs (by decide)
  have hn2 := nn_step (k := 245) (t := 0) (n := 200) (c := 1) (s := 60) (r := some 245) hn
  refine aw_aload_n (i := 0) rfl d_X12_init_387 0 rfl ?_
  refine aw_sipush (v := 200) d_X12_init_388 is_200 ?_
  refine aw_newa (t := 0) (atype := .int) 246 200 (by decide) rfl tw_51 (hn2 246 (by decide) (by decide)) (by decide) xs0 (by decide +kernel) (by decide +kernel) (by decide +kernel) (show 46 + 1 ≤ 100 from by decide +kernel) (show 272482 + 200 ≤ 288204 from by decide +kernel) d_X12_init_391 ?_
  refine aw_putrF (k0 := 61) kc_12 (ss_n hs1 (by decide)) (Nat.le_of_ble_eq_true rfl) tw_1803 d_X12_init_393 rfl rfl rfl rfl ?_
  have hs3 := ss_step (k := 246) (t := 0) (n := 200) (c' := 1) (s := 61) (r := some 246) hs1 (by decide)
  have hn4 := nn_step (k := 246) (t := 0) (n := 200) (c := 1) (s := 61) (r := some 246) hn2
  refine aw_aload_n (i := 0) rfl d_X12_init_396 0 rfl ?_
  refine aw_sipush (v := 200) d_X12_init_397 is_200 ?_
  refine aw_newa (t := 0) (atype := .int) 247 200 (by decide) rfl tw_51 (hn4 247 (by decide) (by decide)) (by decide) xs0 (by decide +kernel) (by decide +kernel) (by decide +kernel) (show 47 + 1 ≤ 100 from by decide +kernel) (show 272682 + 200 ≤ 288204 from by decide +kernel) d_X12_init_400 ?_
  refine aw_putrF (k0 := 62) kc_12 (ss_n hs3 (by decide)) (Nat.le_of_ble_eq_true rfl) tw_1804 d_X12_init_402 rfl rfl rfl rfl ?_
  have hs5 := ss_step (k := 247) (t := 0) (n := 200) (c' := 1) (s := 62) (r := some 247) hs3 (by decide)
  have hn6 := nn_step (k := 247) (t := 0) (n := 200) (c := 1) (s := 62) (r := some 247) hn4
  refine aw_aload_n (i := 0) rfl d_X12_init_405 0 rfl ?_
  refine aw_bipush (v := 12) d_X12_init_406 ib_12 ?_
  refine aw_newa (t := 1) (atype := .boolean) 248 12 (by decide) rfl tw_252 (hn6 248 (by decide) (by decide)) (by decide) xs0 (by decide +kernel) (by decide +kernel) (by decide +kernel) (show 48 + 1 ≤ 100 from by decide +kernel) (show 272882 + 12 ≤ 288204 from by decide +kernel) d_X12_init_408 ?_
  refine aw_putrF (k0 := 65) kc_12 (ss_n hs5 (by decide)) (Nat.le_of_ble_eq_true rfl) tw_1807 d_X12_init_410 rfl rfl rfl rfl ?_
  have hs7 := ss_step (k := 248) (t := 1) (n := 12) (c' := 1) (s := 65) (r := some 248) hs5 (by decide)
  have hn8 := nn_step (k := 248) (t := 1) (n := 12) (c := 1) (s := 65) (r := some 248) hn6
  refine aw_aload_n (i := 0) rfl d_X12_init_413 0 rfl ?_
  refine aw_bipush (v := 80) d_X12_init_414 ib_80 ?_
  refine aw_newa (t := 0) (atype := .int) 249 80 (by decide) rfl tw_51 (hn8 249 (by decide) (by decide)) (by decide) xs0 (by decide +kernel) (by decide +kernel) (by decide +kernel) (show 49 + 1 ≤ 100 from by decide +kernel) (show 272894 + 80 ≤ 288204 from by decide +kernel) d_X12_init_416 ?_
  refine aw_putrF (k0 := 66) kc_12 (ss_n hs7 (by decide)) (Nat.le_of_ble_eq_true rfl) tw_1808 d_X12_init_418 rfl rfl rfl rfl ?_
  have hs9 := ss_step (k := 249) (t := 0) (n := 80) (c' := 1) (s := 66) (r := some 249) hs7 (by decide)
  have hn10 := nn_step (k := 249) (t := 0) (n := 80) (c := 1) (s := 66) (r := some 249) hn8
  refine aw_aload_n (i := 0) rfl d_X12_init_421 0 rfl ?_
  refine aw_bipush (v := 80) d_X12_init_422 ib_80 ?_
  refine aw_newa (t := 0) (atype := .int) 250 80 (by decide) rfl tw_51 (hn10 250 (by decide) (by decide)) (by decide) xs0 (by decide +kernel) (by decide +kernel) (by decide +kernel) (show 50 + 1 ≤ 100 from by decide +kernel) (show 272974 + 80 ≤ 288204 from by decide +kernel) d_X12_init_424 ?_
  refine aw_putrF (k0 := 67) kc_12 (ss_n hs9 (by decide)) (Nat.le_of_ble_eq_true rfl) tw_1809 d_X12_init_426 rfl rfl rfl rfl ?_
  have hs11 := ss_step (k := 250) (t := 0) (n := 80) (c' := 1) (s := 67) (r := some 250) hs9 (by decide)
  have hn12 := nn_step (k := 250) (t := 0) (n := 80) (c := 1) (s := 67) (r := some 250) hn10
  refine aw_aload_n (i := 0) rfl d_X12_init_429 0 rfl ?_
  refine aw_bipush (v := 80) d_X12_init_430 ib_80 ?_
  refine aw_newa (t := 0) (atype := .int) 251 80 (by decide) rfl tw_51 (hn12 251 (by decide) (by decide)) (by decide) xs0 (by decide +kernel) (by decide +kernel) (by decide +kernel) (show 51 + 1 ≤ 100 from by decide +kernel) (show 273054 + 80 ≤ 288204 from by decide +kernel) d_X12_init_432 ?_
  refine aw_putrF (k0 := 68) kc_12 (ss_n hs11 (by decide)) (Nat.le_of_ble_eq_true rfl) tw_1810 d_X12_init_434 rfl rfl rfl rfl ?_
  have hs13 := ss_step (k := 251) (t := 0) (n := 80) (c' := 1) (s := 68) (r := some 251) hs11 (by decide)
  have hn14 := nn_step (k := 251) (t := 0) (n := 80) (c := 1) (s := 68) (r := some 251) hn12
  refine aw_aload_n (i := 0) rfl d_X12_init_437 0 rfl ?_
  refine aw_bipush (v := 80) d_X12_init_438 ib_80 ?_
  refine aw_newa (t := 0) (atype := .int) 252 80 (by decide) rfl tw_51 (hn14 252 (by decide) (by decide)) (by decide) xs0 (by decide +kernel) (by decide +kernel) (by decide +kernel) (show 52 + 1 ≤ 100 from by decide +kernel) (show 273134 + 80 ≤ 288204 from by decide +kernel) d_X12_init_440 ?_
  refine aw_putrF (k0 := 69) kc_12 (ss_n hs13 (by decide)) (Nat.le_of_ble_eq_true rfl) tw_1811 d_X12_init_442 rfl rfl rfl rfl ?_
  have hs15 := ss_step (k := 252) (t := 0) (n := 80) (c' := 1) (s := 69) (r := some 252) hs13 (by decide)
  have hn16 := nn_step (k := 252) (t := 0) (n := 80) (c := 1) (s := 69) (r := some 252) hn14
  refine aw_aload_n (i := 0) rfl d_X12_init_445 0 rfl ?_
  refine aw_bipush (v := 80) d_X12_init_446 ib_80 ?_
  refine aw_newa (t := 0) (atype := .int) 253 80 (by decide) rfl tw_51 (hn16 253 (by decide) (by decide)) (by decide) xs0 (by decide +kernel) (by decide +kernel) (by decide +kernel) (show 53 + 1 ≤ 100 from by decide +kernel) (show 273214 + 80 ≤ 288204 from by decide +kernel) d_X12_init_448 ?_
  refine aw_putrF (k0 := 70) kc_12 (ss_n hs15 (by decide)) (Nat.le_of_ble_eq_true rfl) tw_1812 d_X12_init_450 rfl rfl rfl rfl ?_
  have hs17 := ss_step (k := 253) (t := 0) (n := 80) (c' := 1) (s := 70) (r := some 253) hs15 (by decide)
  have hn18 := nn_step (k := 253) (t := 0) (n := 80) (c := 1) (s := 70) (r := some 253) hn16
  refine aw_aload_n (i := 0) rfl d_X12_init_453 0 rfl ?_
  refine aw_bipush (v := 80) d_X12_init_454 ib_80 ?_
  refine aw_newa (t := 1) (atype := .boolean) 254 80 (by decide) rfl tw_252 (hn18 254 (by decide) (by decide)) (by decide) xs0 (by decide +kernel) (by decide +kernel) (by decide +kernel) (show 54 + 1 ≤ 100 from by decide +kernel) (show 273294 + 80 ≤ 288204 from by decide +kernel) d_X12_init_456 ?_
  refine aw_putrF (k0 := 71) kc_12 (ss_n hs17 (by decide)) (Nat.le_of_ble_eq_true rfl) tw_1813 d_X12_init_458 rfl rfl rfl rfl ?_
  have hs19 := ss_step (k := 254) (t := 1) (n := 80) (c' := 1) (s := 71) (r := some 254) hs17 (by decide)
  have hn20 := nn_step (k := 254) (t := 1) (n := 80) (c := 1) (s := 71) (r := some 254) hn18
  refine aw_aload_n (i := 0) rfl d_X12_init_461 0 rfl ?_
  refine aw_sipush (v := 300) d_X12_init_462 is_300 ?_
  refine aw_newa (t := 0) (atype := .int) 255 300 (by decide) rfl tw_51 (hn20 255 (by decide) (by decide)) (by decide) xs0 (by decide +kernel) (by decide +kernel) (by decide +kernel) (show 55 + 1 ≤ 100 from by decide +kernel) (show 273374 + 300 ≤ 288204 from by decide +kernel) d_X12_init_465 ?_
  refine aw_putrF (k0 := 72) kc_12 (ss_n hs19 (by decide)) (Nat.le_of_ble_eq_true rfl) tw_1814 d_X12_init_467 rfl rfl rfl rfl ?_
  have hs21 := ss_step (k := 255) (t := 0) (n := 300) (c' := 1) (s := 72) (r := some 255) hs19 (by decide)
  have hn22 := nn_step (k := 255) (t := 0) (n := 300) (c := 1) (s := 72) (r := some 255) hn20
  refine aw_aload_n (i := 0) rfl d_X12_init_470 0 rfl ?_
  refine aw_sipush (v := 300) d_X12_init_471 is_300 ?_
  refine aw_newa (t := 0) (atype := .int) 256 300 (by decide) rfl tw_51 (hn22 256 (by decide) (by decide)) (by decide) xs0 (by decide +kernel) (by decide +kernel) (by decide +kernel) (show 56 + 1 ≤ 100 from by decide +kernel) (show 273674 + 300 ≤ 288204 from by decide +kernel) d_X12_init_474 ?_
  refine aw_putrF (k0 := 73) kc_12 (ss_n hs21 (by decide)) (Nat.le_of_ble_eq_true rfl) tw_1815 d_X12_init_476 rfl rfl rfl rfl ?_
  have hs23 := ss_step (k := 256) (t := 0) (n := 300) (c' := 1) (s := 73) (r := some 256) hs21 (by decide)
  have hn24 := nn_step (k := 256) (t := 0) (n := 300) (c := 1) (s := 73) (r := some 256) hn22
  refine aw_aload_n (i := 0) rfl d_X12_init_479 0 rfl ?_
  refine aw_sipush (v := 300) d_X12_init_480 is_300 ?_
  refine aw_newa (t := 0) (atype := .int) 257 300 (by decide) rfl tw_51 (hn24 257 (by decide) (by decide)) (by decide) xs0 (by decide +kernel) (by decide +kernel) (by decide +kernel) (show 57 + 1 ≤ 100 from by decide +kernel) (show 273974 + 300 ≤ 288204 from by decide +kernel) d_X12_init_483 ?_
  refine aw_putrF (k0 := 74) kc_12 (ss_n hs23 (by decide)) (Nat.le_of_ble_eq_true rfl) tw_1816 d_X12_init_485 rfl rfl rfl rfl ?_
  have hs25 := ss_step (k := 257) (t := 0) (n := 300) (c' := 1) (s := 74) (r := some 257) hs23 (by decide)
  have hn26 := nn_step (k := 257) (t := 0) (n := 300) (c := 1) (s := 74) (r := some 257) hn24
  refine aw_aload_n (i := 0) rfl d_X12_init_488 0 rfl ?_
  refine aw_sipush (v := 300) d_X12_init_489 is_300 ?_
  refine aw_newa (t := 0) (atype := .int) 258 300 (by decide) rfl tw_51 (hn26 258 (by decide) (by decide)) (by decide) xs0 (by decide +kernel) (by decide +kernel) (by decide +kernel) (show 58 + 1 ≤ 100 from by decide +kernel) (show 274274 + 300 ≤ 288204 from by decide +kernel) d_X12_init_492 ?_
  refine aw_putrF (k0 := 75) kc_12 (ss_n hs25 (by decide)) (Nat.le_of_ble_eq_true rfl) tw_1817 d_X12_init_494 rfl rfl rfl rfl ?_
  have hs27 := ss_step (k := 258) (t := 0) (n := 300) (c' := 1) (s := 75) (r := some 258) hs25 (by decide)
  have hn28 := nn_step (k := 258) (t := 0) (n := 300) (c := 1) (s := 75) (r := some 258) hn26
  refine aw_aload_n (i := 0) rfl d_X12_init_497 0 rfl ?_
  refine aw_sipush (v := 300) d_X12_init_498 is_300 ?_
  refine aw_newa (t := 0) (atype := .int) 259 300 (by decide) rfl tw_51 (hn28 259 (by decide) (by decide)) (by decide) xs0 (by decide +kernel) (by decide +kernel) (by decide +kernel) (show 59 + 1 ≤ 100 from by decide +kernel) (show 274574 + 300 ≤ 288204 from by decide +kernel) d_X12_init_501 ?_
  refine aw_putrF (k0 := 76) kc_12 (ss_n hs27 (by decide)) (Nat.le_of_ble_eq_true rfl) tw_1818 d_X12_init_503 rfl rfl rfl rfl ?_
  have hs29 := ss_step (k := 259) (t := 0) (n := 300) (c' := 1) (s := 76) (r := some 259) hs27 (by decide)
  have hn30 := nn_step (k := 259) (t := 0) (n := 300) (c := 1) (s := 76) (r := some 259) hn28
  exact k
noncomputable def CC_4 (h : Hp_) : Hp_ := h_rm (h_nw (h_rm (h_nw (h_rm (h_nw (h_rm (h_nw (h_rm (h_nw (h_rm (h_nw (h_rm (h_nw (h_rm (h_nw (h_rm (h_nw (h_rm (h_nw (h_rm (h_nw (h_rm (h_nw (h_rm (h_nw (h_rm (h_nw (h_rm (h_nw h 260 0 300) 1 77 (some 260)) 261 0 2700) 1 78 (some 261)) 262 0 30) 1 81 (some 262)) 263 0 30) 1 82 (some 263)) 264 0 10) 1 83 (some 264)) 265 0 8) 1 84 (some 265)) 266 0 200) 1 85 (some 266)) 267 0 200) 1 86 (some 267)) 268 0 200) 1 87 (some 268)) 269 0 200) 1 88 (some 269)) 270 1 200) 1 89 (some 270)) 271 0 16) 1 90 (some 271)) 272 1 16) 1 91 (some 272)) 273 0 180) 1 92 (some 273)) 274 0 180) 1 93 (some 274)
theorem cf_4 (h : Hp_) (hs : h_sh h 1 = some (22, 131)) (hn : ∀ a, 260 ≤ a → a < 300 → h_sh h a = none) : h_sh (CC_4 h) 1 = some (22, 131) ∧ (∀ a, 275 ≤ a → a < 300 → h_sh (CC_4 h) a = none) ∧ h_r (CC_4 h) 1 84 = some 265 ∧ h_sh (CC_4 h) 265 = some (0, 8) := by
  have hs1 := ss_step (k := 260) (t := 0) (n := 300) (c' := 1) (s := 77) (r := some 260) hs (by decide)
  have hn2 := nn_step (k := 260) (t := 0) (n := 300) (c := 1) (s := 77) (r := some 260) hn
  have hs3 := ss_step (k := 261) (t := 0) (n := 2700) (c' := 1) (s := 78) (r := some 261) hs1 (by decide)
  have hn4 := nn_step (k := 261) (t := 0) (n := 2700) (c := 1) (s := 78) (r := some 261) hn2
  have hs5 := ss_step (k := 262) (t := 0) (n := 30) (c' := 1) (s := 81) (r := some 262) hs3 (by decide)
  have hn6 := nn_step (k := 262) (t := 0) (n := 30) (c := 1) (s := 81) (r := some 262) hn4
  have hs7 := ss_step (k := 263) (t := 0) (n := 30) (c' := 1) (s := 82) (r := some 263) hs5 (by decide)
  have hn8 := nn_step (k := 263) (t := 0) (n := 30) (c := 1) (s := 82) (r := some 263) hn6
  have hs9 := ss_step (k := 264) (t := 0) (n := 10) (c' := 1) (s := 83) (r := some 264) hs7 (by decide)
  have hn10 := nn_step (k := 264) (t := 0) (n := 10) (c := 1) (s := 83) (r := some 264) hn8
  have hs11 := ss_step (k := 265) (t := 0) (n := 8) (c' := 1) (s := 84) (r := some 265) hs9 (by decide)
  have hn12 := nn_step (k := 265) (t := 0) (n := 8) (c := 1) (s := 84) (r := some 265) hn10
  have tr13 := rr_of hs11
  have ts14 := sh_of hs11
  have hs15 := ss_step (k := 266) (t := 0) (n := 200) (c' := 1) (s := 85) (r := some 266) hs11 (by decide)
  have hn16 := nn_step (k := 266) (t := 0) (n := 200) (c := 1) (s := 85) (r := some 266) hn12
  have tr17 := rr_step (k := 266) (t := 0) (n := 200) (c := 1) (s := 85) (r := some 266) tr13 (by decide) (by decide)
  have ts18 := ss_step (k := 266) (t := 0) (n := 200) (c' := 1) (s := 85) (r := some 266) ts14 (by decide)
  have hs19 := ss_step (k := 267) (t := 0) (n := 200) (c' := 1) (s := 86) (r := some 267) hs15 (by decide)
  have hn20 := nn_step (k := 267) (t := 0) (n := 200) (c := 1) (s := 86) (r := some 267) hn16
  have tr21 := rr_step (k := 267) (t := 0) (n := 200) (c := 1) (s := 86) (r := some 267) tr17 (by decide) (by decide)
  have ts22 := ss_step (k := 267) (t := 0) (n := 200) (c' := 1) (s := 86) (r := some 267) ts18 (by decide)
  have hs23 := ss_step (k := 268) (t := 0) (n := 200) (c' := 1) (s := 87) (r := some 268) hs19 (by decide)
  have hn24 := nn_step (k := 268) (t := 0) (n := 200) (c := 1) (s := 87) (r := some 268) hn20
  have tr25 := rr_step (k := 268) (t := 0) (n := 200) (c := 1) (s := 87) (r := some 268) tr21 (by decide) (by decide)
  have ts26 := ss_step (k := 268) (t := 0) (n := 200) (c' := 1) (s := 87) (r := some 268) ts22 (by decide)
  have hs27 := ss_step (k := 269) (t := 0) (n := 200) (c' := 1) (s := 88) (r := some 269) hs23 (by decide)
  have hn28 := nn_step (k := 269) (t := 0) (n := 200) (c := 1) (s := 88) (r := some 269) hn24
  have tr29 := rr_step (k := 269) (t := 0) (n := 200) (c := 1) (s := 88) (r := some 269) tr25 (by decide) (by decide)
  have ts30 := ss_step (k := 269) (t := 0) (n := 200) (c' := 1) (s := 88) (r := some 269) ts26 (by decide)
  have hs31 := ss_step (k := 270) (t := 1) (n := 200) (c' := 1) (s := 89) (r := some 270) hs27 (by decide)
  have hn32 := nn_step (k := 270) (t := 1) (n := 200) (c := 1) (s := 89) (r := some 270) hn28
  have tr33 := rr_step (k := 270) (t := 1) (n := 200) (c := 1) (s := 89) (r := some 270) tr29 (by decide) (by decide)
  have ts34 := ss_step (k := 270) (t := 1) (n := 200) (c' := 1) (s := 89) (r := some 270) ts30 (by decide)
  have hs35 := ss_step (k := 271) (t := 0) (n := 16) (c' := 1) (s := 90) (r := some 271) hs31 (by decide)
  have hn36 := nn_step (k := 271) (t := 0) (n := 16) (c := 1) (s := 90) (r := some 271) hn32
  have tr37 := rr_step (k := 271) (t := 0) (n := 16) (c := 1) (s := 90) (r := some 271) tr33 (by decide) (by decide)
  have ts38 := ss_step (k := 271) (t := 0) (n := 16) (c' := 1) (s := 90) (r := some 271) ts34 (by decide)
  have hs39 := ss_step (k := 272) (t := 1) (n := 16) (c' := 1) (s := 91) (r := some 272) hs35 (by decide)
  have hn40 := nn_step (k := 272) (t := 1) (n := 16) (c := 1) (s := 91) (r := some 272) hn36
  have tr41 := rr_step (k := 272) (t := 1) (n := 16) (c := 1) (s := 91) (r := some 272) tr37 (by decide) (by decide)
  have ts42 := ss_step (k := 272) (t := 1) (n := 16) (c' := 1) (s := 91) (r := some 272) ts38 (by decide)
  have hs43 := ss_step (k := 273) (t := 0) (n := 180) (c' := 1) (s := 92) (r := some 273) hs39 (by decide)
  have hn44 := nn_step (k := 273) (t := 0) (n := 180) (c := 1) (s := 92) (r := some 273) hn40
  have tr45 := rr_step (k := 273) (t := 0) (n := 180) (c := 1) (s := 92) (r := some 273) tr41 (by decide) (by decide)
  have ts46 := ss_step (k := 273) (t := 0) (n := 180) (c' := 1) (s := 92) (r := some 273) ts42 (by decide)
  have hs47 := ss_step (k := 274) (t := 0) (n := 180) (c' := 1) (s := 93) (r := some 274) hs43 (by decide)
  have hn48 := nn_step (k := 274) (t := 0) (n := 180) (c := 1) (s := 93) (r := some 274) hn44
  have tr49 := rr_step (k := 274) (t := 0) (n := 180) (c := 1) (s := 93) (r := some 274) tr45 (by decide) (by decide)
  have ts50 := ss_step (k := 274) (t := 0) (n := 180) (c' := 1) (s := 93) (r := some 274) ts46 (by decide)
  exact ⟨hs47, hn48, tr49, ts50⟩
theorem ck_4 (d : Nat) (h : Hp_) (K : Option Value → Hp_ → Prop) (hs : h_sh h 1 = some (22, 131)) (hn : ∀ a, 260 ≤ a → a < 300 → h_sh h a = none) (k : AW (m_X12_init (d + 1) 100 288204) 75 279344 635 [(0, .ref 1)] [] (CC_4 h) K) : AW (m_X12_init (d + 1) 100 288204) 60 274874 506 [(0, .ref 1)] [] h K := by
  refine aw_aload_n (i := 0) rfl d_X12_init_506 0 rfl ?_
  refine aw_sipush (v := 300) d_X12_init_507 is_300 ?_
  refine aw_newa (t := 0) (atype := .int) 260 300 (by decide) rfl tw_51 (hn 260 (by decide) (by decide)) (by decide) xs0 (by decide +kernel) (by decide +kernel) (by decide +kernel) (show 60 + 1 ≤ 100 from by decide +kernel) (show 274874 + 300 ≤ 288204 from by decide +kernel) d_X12_init_510 ?_
  refine aw_putrF (k0 := 77) kc_12 (ss_n hs (by decide)) (Nat.le_of_ble_eq_true rfl) tw_1819 d_X12_init_512 rfl rfl rfl rfl ?_
  have hs1 := ss_step (k := 260) (t := 0) (n := 300) (c' := 1) (s := 77) (r := some 260) hs (by decide)
  have hn2 := nn_step (k := 260) (t := 0) (n := 300) (c := 1) (s := 77) (r := some 260) hn
  refine aw_aload_n (i := 0) rfl d_X12_init_515 0 rfl ?_
  refine aw_sipush (v := 2700) d_X12_init_516 is_2700 ?_
  refine aw_newa (t := 0) (atype := .int) 261 2700 (by decide) rfl tw_51 (hn2 261 (by decide) (by decide)) (by decide) xs0 (by decide +kernel) (by decide +kernel) (by decide +kernel) (show 61 + 1 ≤ 100 from by decide +kernel) (show 275174 + 2700 ≤ 288204 from by decide +kernel) d_X12_init_519 ?_
  refine aw_putrF (k0 := 78) kc_12 (ss_n hs1 (by decide)) (Nat.le_of_ble_eq_true rfl) tw_1820 d_X12_init_521 rfl rfl rfl rfl ?_
  have hs3 := ss_step (k := 261) (t := 0) (n := 2700) (c' := 1) (s := 78) (r := some 261) hs1 (by decide)
  have hn4 := nn_step (k := 261) (t := 0) (n := 2700) (c := 1) (s := 78) (r := some 261) hn2
  refine aw_aload_n (i := 0) rfl d_X12_init_524 0 rfl ?_
  refine aw_bipush (v := 30) d_X12_init_525 ib_30 ?_
  refine aw_newa (t := 0) (atype := .int) 262 30 (by decide) rfl tw_51 (hn4 262 (by decide) (by decide)) (by decide) xs0 (by decide +kernel) (by decide +kernel) (by decide +kernel) (show 62 + 1 ≤ 100 from by decide +kernel) (show 277874 + 30 ≤ 288204 from by decide +kernel) d_X12_init_527 ?_
  refine aw_putrF (k0 := 81) kc_12 (ss_n hs3 (by decide)) (Nat.le_of_ble_eq_true rfl) tw_1823 d_X12_init_529 rfl rfl rfl rfl ?_
  have hs5 := ss_step (k := 262) (t := 0) (n := 30) (c' := 1) (s := 81) (r := some 262) hs3 (by decide)
  have hn6 := nn_step (k := 262) (t := 0) (n := 30) (c := 1) (s := 81) (r := some 262) hn4
  refine aw_aload_n (i := 0) rfl d_X12_init_532 0 rfl ?_
  refine aw_bipush (v := 30) d_X12_init_533 ib_30 ?_
  refine aw_newa (t := 0) (atype := .int) 263 30 (by decide) rfl tw_51 (hn6 263 (by decide) (by decide)) (by decide) xs0 (by decide +kernel) (by decide +kernel) (by decide +kernel) (show 63 + 1 ≤ 100 from by decide +kernel) (show 277904 + 30 ≤ 288204 from by decide +kernel) d_X12_init_535 ?_
  refine aw_putrF (k0 := 82) kc_12 (ss_n hs5 (by decide)) (Nat.le_of_ble_eq_true rfl) tw_1824 d_X12_init_537 rfl rfl rfl rfl ?_
  have hs7 := ss_step (k := 263) (t := 0) (n := 30) (c' := 1) (s := 82) (r := some 263) hs5 (by decide)
  have hn8 := nn_step (k := 263) (t := 0) (n := 30) (c := 1) (s := 82) (r := some 263) hn6
  refine aw_aload_n (i := 0) rfl d_X12_init_540 0 rfl ?_
  refine aw_bipush (v := 10) d_X12_init_541 ib_10 ?_
  refine aw_newa (t := 0) (atype := .int) 264 10 (by decide) rfl tw_51 (hn8 264 (by decide) (by decide)) (by decide) xs0 (by decide +kernel) (by decide +kernel) (by decide +kernel) (show 64 + 1 ≤ 100 from by decide +kernel) (show 277934 + 10 ≤ 288204 from by decide +kernel) d_X12_init_543 ?_
  refine aw_putrF (k0 := 83) kc_12 (ss_n hs7 (by decide)) (Nat.le_of_ble_eq_true rfl) tw_1825 d_X12_init_545 rfl rfl rfl rfl ?_
  have hs9 := ss_step (k := 264) (t := 0) (n := 10) (c' := 1) (s := 83) (r := some 264) hs7 (by decide)
  have hn10 := nn_step (k := 264) (t := 0) (n := 10) (c := 1) (s := 83) (r := some 264) hn8
  refine aw_aload_n (i := 0) rfl d_X12_init_548 0 rfl ?_
  refine aw_bipush (v := 8) d_X12_init_549 ib_8 ?_
  refine aw_newa (t := 0) (atype := .int) 265 8 (by decide) rfl tw_51 (hn10 265 (by decide) (by decide)) (by decide) xs0 (by decide +kernel) (by decide +kernel) (by decide +kernel) (show 65 + 1 ≤ 100 from by decide +kernel) (show 277944 + 8 ≤ 288204 from by decide +kernel) d_X12_init_551 ?_
  refine aw_putrF (k0 := 84) kc_12 (ss_n hs9 (by decide)) (Nat.le_of_ble_eq_true rfl) tw_1826 d_X12_init_553 rfl rfl rfl rfl ?_
  have hs11 := ss_step (k := 265) (t := 0) (n := 8) (c' := 1) (s := 84) (r := some 265) hs9 (by decide)
  have hn12 := nn_step (k := 265) (t := 0) (n := 8) (c := 1) (s := 84) (r := some 265) hn10
  have tr13 := rr_of hs11
  have ts14 := sh_of hs11
  refine aw_aload_n (i := 0) rfl d_X12_init_556 0 rfl ?_
  refine aw_sipush (v := 200) d_X12_init_557 is_200 ?_
  refine aw_newa (t := 0) (atype := .int) 266 200 (by decide) rfl tw_51 (hn12 266 (by decide) (by decide)) (by decide) xs0 (by decide +kernel) (by decide +kernel) (by decide +kernel) (show 66 + 1 ≤ 100 from by decide +kernel) (show 277952 + 200 ≤ 288204 from by decide +kernel) d_X12_init_560 ?_
  refine aw_putrF (k0 := 85) kc_12 (ss_n hs11 (by decide)) (Nat.le_of_ble_eq_true rfl) tw_1827 d_X12_init_562 rfl rfl rfl rfl ?_
  have hs15 := ss_step (k := 266) (t := 0) (n := 200) (c' := 1) (s := 85) (r := some 266) hs11 (by decide)
  have hn16 := nn_step (k := 266) (t := 0) (n := 200) (c := 1) (s := 85) (r := some 266) hn12
  have tr17 := rr_step (k := 266) (t := 0) (n := 200) (c := 1) (s := 85) (r := some 266) tr13 (by decide) (by decide)
  have ts18 := ss_step (k := 266) (t := 0) (n := 200) (c' := 1) (s := 85) (r := some 266) ts14 (by decide)
  refine aw_aload_n (i := 0) rfl d_X12_init_565 0 rfl ?_
  refine aw_sipush (v := 200) d_X12_init_566 is_200 ?_
  refine aw_newa (t := 0) (atype := .int) 267 200 (by decide) rfl tw_51 (hn16 267 (by decide) (by decide)) (by decide) xs0 (by decide +kernel) (by decide +kernel) (by decide +kernel) (show 67 + 1 ≤ 100 from by decide +kernel) (show 278152 + 200 ≤ 288204 from by decide +kernel) d_X12_init_569 ?_
  refine aw_putrF (k0 := 86) kc_12 (ss_n hs15 (by decide)) (Nat.le_of_ble_eq_true rfl) tw_1828 d_X12_init_571 rfl rfl rfl rfl ?_
  have hs19 := ss_step (k := 267) (t := 0) (n := 200) (c' := 1) (s := 86) (r := some 267) hs15 (by decide)
  have hn20 := nn_step (k := 267) (t := 0) (n := 200) (c := 1) (s := 86) (r := some 267) hn16
  have tr21 := rr_step (k := 267) (t := 0) (n := 200) (c := 1) (s := 86) (r := some 267) tr17 (by decide) (by decide)
  have ts22 := ss_step (k := 267) (t := 0) (n := 200) (c' := 1) (s := 86) (r := some 267) ts18 (by decide)
  refine aw_aload_n (i := 0) rfl d_X12_init_574 0 rfl ?_
  refine aw_sipush (v := 200) d_X12_init_575 is_200 ?_
  refine aw_newa (t := 0) (atype := .int) 268 200 (by decide) rfl tw_51 (hn20 268 (by decide) (by decide)) (by decide) xs0 (by decide +kernel) (by decide +kernel) (by decide +kernel) (show 68 + 1 ≤ 100 from by decide +kernel) (show 278352 + 200 ≤ 288204 from by decide +kernel) d_X12_init_578 ?_
  refine aw_putrF (k0 := 87) kc_12 (ss_n hs19 (by decide)) (Nat.le_of_ble_eq_true rfl) tw_1829 d_X12_init_580 rfl rfl rfl rfl ?_
  have hs23 := ss_step (k := 268) (t := 0) (n := 200) (c' := 1) (s := 87) (r := some 268) hs19 (by decide)
  have hn24 := nn_step (k := 268) (t := 0) (n := 200) (c := 1) (s := 87) (r := some 268) hn20
  have tr25 := rr_step (k := 268) (t := 0) (n := 200) (c := 1) (s := 87) (r := some 268) tr21 (by decide) (by decide)
  have ts26 := ss_step (k := 268) (t := 0) (n := 200) (c' := 1) (s := 87) (r := some 268) ts22 (by decide)
  refine aw_aload_n (i := 0) rfl d_X12_init_583 0 rfl ?_
  refine aw_sipush (v := 200) d_X12_init_584 is_200 ?_
  refine aw_newa (t := 0) (atype := .int) 269 200 (by decide) rfl tw_51 (hn24 269 (by decide) (by decide)) (by decide) xs0 (by decide +kernel) (by decide +kernel) (by decide +kernel) (show 69 + 1 ≤ 100 from by decide +kernel) (show 278552 + 200 ≤ 288204 from by decide +kernel) d_X12_init_587 ?_
  refine aw_putrF (k0 := 88) kc_12 (ss_n hs23 (by decide)) (Nat.le_of_ble_eq_true rfl) tw_1830 d_X12_init_589 rfl rfl rfl rfl ?_
  have hs27 := ss_step (k := 269) (t := 0) (n := 200) (c' := 1) (s := 88) (r := some 269) hs23 (by decide)
  have hn28 := nn_step (k := 269) (t := 0) (n := 200) (c := 1) (s := 88) (r := some 269) hn24
  have tr29 := rr_step (k := 269) (t := 0) (n := 200) (c := 1) (s := 88) (r := some 269) tr25 (by decide) (by decide)
  have ts30 := ss_step (k := 269) (t := 0) (n := 200) (c' := 1) (s := 88) (r := some 269) ts26 (by decide)
  refine aw_aload_n (i := 0) rfl d_X12_init_592 0 rfl ?_
  refine aw_sipush (v := 200) d_X12_init_593 is_200 ?_
  refine aw_newa (t := 1) (atype := .boolean) 270 200 (by decide) rfl tw_252 (hn28 270 (by decide) (by decide)) (by decide) xs0 (by decide +kernel) (by decide +kernel) (by decide +kernel) (show 70 + 1 ≤ 100 from by decide +kernel) (show 278752 + 200 ≤ 288204 from by decide +kernel) d_X12_init_596 ?_
  refine aw_putrF (k0 := 89) kc_12 (ss_n hs27 (by decide)) (Nat.le_of_ble_eq_true rfl) tw_1831 d_X12_init_598 rfl rfl rfl rfl ?_
  have hs31 := ss_step (k := 270) (t := 1) (n := 200) (c' := 1) (s := 89) (r := some 270) hs27 (by decide)
  have hn32 := nn_step (k := 270) (t := 1) (n := 200) (c := 1) (s := 89) (r := some 270) hn28
  have tr33 := rr_step (k := 270) (t := 1) (n := 200) (c := 1) (s := 89) (r := some 270) tr29 (by decide) (by decide)
  have ts34 := ss_step (k := 270) (t := 1) (n := 200) (c' := 1) (s := 89) (r := some 270) ts30 (by decide)
  refine aw_aload_n (i := 0) rfl d_X12_init_601 0 rfl ?_
  refine aw_bipush (v := 16) d_X12_init_602 ib_16 ?_
  refine aw_newa (t := 0) (atype := .int) 271 16 (by decide) rfl tw_51 (hn32 271 (by decide) (by decide)) (by decide) xs0 (by decide +kernel) (by decide +kernel) (by decide +kernel) (show 71 + 1 ≤ 100 from by decide +kernel) (show 278952 + 16 ≤ 288204 from by decide +kernel) d_X12_init_604 ?_
  refine aw_putrF (k0 := 90) kc_12 (ss_n hs31 (by decide)) (Nat.le_of_ble_eq_true rfl) tw_1832 d_X12_init_606 rfl rfl rfl rfl ?_
  have hs35 := ss_step (k := 271) (t := 0) (n := 16) (c' := 1) (s := 90) (r := some 271) hs31 (by decide)
  have hn36 := nn_step (k := 271) (t := 0) (n := 16) (c := 1) (s := 90) (r := some 271) hn32
  have tr37 := rr_step (k := 271) (t := 0) (n := 16) (c := 1) (s := 90) (r := some 271) tr33 (by decide) (by decide)
  have ts38 := ss_step (k := 271) (t := 0) (n := 16) (c' := 1) (s := 90) (r := some 271) ts34 (by decide)
  refine aw_aload_n (i := 0) rfl d_X12_init_609 0 rfl ?_
  refine aw_bipush (v := 16) d_X12_init_610 ib_16 ?_
  refine aw_newa (t := 1) (atype := .boolean) 272 16 (by decide) rfl tw_252 (hn36 272 (by decide) (by decide)) (by decide) xs0 (by decide +kernel) (by decide +kernel) (by decide +kernel) (show 72 + 1 ≤ 100 from by decide +kernel) (show 278968 + 16 ≤ 288204 from by decide +kernel) d_X12_init_612 ?_
  refine aw_putrF (k0 := 91) kc_12 (ss_n hs35 (by decide)) (Nat.le_of_ble_eq_true rfl) tw_1833 d_X12_init_614 rfl rfl rfl rfl ?_
  have hs39 := ss_step (k := 272) (t := 1) (n := 16) (c' := 1) (s := 91) (r := some 272) hs35 (by decide)
  have hn40 := nn_step (k := 272) (t := 1) (n := 16) (c := 1) (s := 91) (r := some 272) hn36
  have tr41 := rr_step (k := 272) (t := 1) (n := 16) (c := 1) (s := 91) (r := some 272) tr37 (by decide) (by decide)
  have ts42 := ss_step (k := 272) (t := 1) (n := 16) (c' := 1) (s := 91) (r := some 272) ts38 (by decide)
  refine aw_aload_n (i := 0) rfl d_X12_init_617 0 rfl ?_
  refine aw_sipush (v := 180) d_X12_init_618 is_180 ?_
  refine aw_newa (t := 0) (atype := .int) 273 180 (by decide) rfl tw_51 (hn40 273 (by decide) (by decide)) (by decide) xs0 (by decide +kernel) (by decide +kernel) (by decide +kernel) (show 73 + 1 ≤ 100 from by decide +kernel) (show 278984 + 180 ≤ 288204 from by decide +kernel) d_X12_init_621 ?_
  refine aw_putrF (k0 := 92) kc_12 (ss_n hs39 (by decide)) (Nat.le_of_ble_eq_true rfl) tw_1834 d_X12_init_623 rfl rfl rfl rfl ?_
  have hs43 := ss_step (k := 273) (t := 0) (n := 180) (c' := 1) (s := 92) (r := some 273) hs39 (by decide)
  have hn44 := nn_step (k := 273) (t := 0) (n := 180) (c := 1) (s := 92) (r := some 273) hn40
  have tr45 := rr_step (k := 273) (t := 0) (n := 180) (c := 1) (s := 92) (r := some 273) tr41 (by decide) (by decide)
  have ts46 := ss_step (k := 273) (t := 0) (n := 180) (c' := 1) (s := 92) (r := some 273) ts42 (by decide)
  refine aw_aload_n (i := 0) rfl d_X12_init_626 0 rfl ?_
  refine aw_sipush (v := 180) d_X12_init_627 is_180 ?_
  refine aw_newa (t := 0) (atype := .int) 274 180 (by decide) rfl tw_51 (hn44 274 (by decide) (by decide)) (by decide) xs0 (by decide +kernel) (by decide +kernel) (by decide +kernel) (show 74 + 1 ≤ 100 from by decide +kernel) (show 279164 + 180 ≤ 288204 from by decide +kernel) d_X12_init_630 ?_
  refine aw_putrF (k0 := 93) kc_12 (ss_n hs43 (by decide)) (Nat.le_of_ble_eq_true rfl) tw_1835 d_X12_init_632 rfl rfl rfl rfl ?_
  have hs47 := ss_step (k := 274) (t := 0) (n := 180) (c' := 1) (s := 93) (r := some 274) hs43 (by decide)
  have hn48 := nn_step (k := 274) (t := 0) (n := 180) (c := 1) (s := 93) (r := some 274) hn44
  have tr49 := rr_step (k := 274) (t := 0) (n := 180) (c := 1) (s := 93) (r := some 274) tr45 (by decide) (by decide)
  have ts50 := ss_step (k := 274) (t := 0) (n := 180) (c' := 1) (s := 93) (r := some 274) ts46 (by decide)
  exact k
noncomputable def CC_5 (h : Hp_) : Hp_ := h_rm (h_nw (h_rm (h_nw (h_rm (h_nw (h_rm (h_nw (h_rm (h_nw (h_rm (h_nw (h_rm (h_nw (h_rm (h_nw (h_rm (h_nw (h_im (h_rm (h_nw (h_rm (h_nw (h_rm (h_nw (h_rm (h_nw (h_rm (h_nw h 275 0 180) 1 94 (some 275)) 276 0 30) 1 95 (some 276)) 277 0 30) 1 98 (some 277)) 278 0 8) 1 99 (some 278)) 279 0 8) 1 100 (some 279)) 1 103 3) 280 0 2304) 1 104 (some 280)) 281 0 8) 1 105 (some 281)) 282 0 8) 1 106 (some 282)) 283 0 8) 1 107 (some 283)) 284 0 5) 1 109 (some 284)) 285 0 5) 1 110 (some 285)) 286 0 5) 1 111 (some 286)) 287 0 5) 1 112 (some 287)) 288 0 4) 1 116 (some 288)
theorem cf_5 (h : Hp_) (hs : h_sh h 1 = some (22, 131)) (hn : ∀ a, 275 ≤ a → a < 300 → h_sh h a = none) (tr : h_r h 1 84 = some 265) (ts : h_sh h 265 = some (0, 8)) : h_sh (CC_5 h) 1 = some (22, 131) ∧ (∀ a, 289 ≤ a → a < 300 → h_sh (CC_5 h) a = none) ∧ h_r (CC_5 h) 1 84 = some 265 ∧ h_sh (CC_5 h) 265 = some (0, 8) := by
  have hs1 := ss_step (k := 275) (t := 0) (n := 180) (c' := 1) (s := 94) (r := some 275) hs (by decide)
  have hn2 := nn_step (k := 275) (t := 0) (n := 180) (c := 1) (s := 94) (r := some 275) hn
  have tr3 := rr_step (k := 275) (t := 0) (n := 180) (c := 1) (s := 94) (r := some 275) tr (by decide) (by decide)
  have ts4 := ss_step (k := 275) (t := 0) (n := 180) (c' := 1) (s := 94) (r := some 275) ts (by decide)
  have hs5 := ss_step (k := 276) (t := 0) (n := 30) (c' := 1) (s := 95) (r := some 276) hs1 (by decide)
  have hn6 := nn_step (k := 276) (t := 0) (n := 30) (c := 1) (s := 95) (r := some 276) hn2
  have tr7 := rr_step (k := 276) (t := 0) (n := 30) (c := 1) (s := 95) (r := some 276) tr3 (by decide) (by decide)
  have ts8 := ss_step (k := 276) (t := 0) (n := 30) (c' := 1) (s := 95) (r := some 276) ts4 (by decide)
  have hs9 := ss_step (k := 277) (t := 0) (n := 30) (c' := 1) (s := 98) (r := some 277) hs5 (by decide)
  have hn10 := nn_step (k := 277) (t := 0) (n := 30) (c := 1) (s := 98) (r := some 277) hn6
  have tr11 := rr_step (k := 277) (t := 0) (n := 30) (c := 1) (s := 98) (r := some 277) tr7 (by decide) (by decide)
  have ts12 := ss_step (k := 277) (t := 0) (n := 30) (c' := 1) (s := 98) (r := some 277) ts8 (by decide)
  have hs13 := ss_step (k := 278) (t := 0) (n := 8) (c' := 1) (s := 99) (r := some 278) hs9 (by decide)
  have hn14 := nn_step (k := 278) (t := 0) (n := 8) (c := 1) (s := 99) (r := some 278) hn10
  have tr15 := rr_step (k := 278) (t := 0) (n := 8) (c := 1) (s := 99) (r := some 278) tr11 (by decide) (by decide)
  have ts16 := ss_step (k := 278) (t := 0) (n := 8) (c' := 1) (s := 99) (r := some 278) ts12 (by decide)
  have hs17 := ss_step (k := 279) (t := 0) (n := 8) (c' := 1) (s := 100) (r := some 279) hs13 (by decide)
  have hn18 := nn_step (k := 279) (t := 0) (n := 8) (c := 1) (s := 100) (r := some 279) hn14
  have tr19 := rr_step (k := 279) (t := 0) (n := 8) (c := 1) (s := 100) (r := some 279) tr15 (by decide) (by decide)
  have ts20 := ss_step (k := 279) (t := 0) (n := 8) (c' := 1) (s := 100) (r := some 279) ts16 (by decide)
  have hs21 := ss_im (a := 1) (k := 103) (x := 3) hs17
  have hn22 := nn_im (b := 1) (k := 103) (x := 3) hn18
  have tr23 := rr_im (a := 1) (k := 103) (x := 3) tr19
  have ts24 := ss_im (a := 1) (k := 103) (x := 3) ts20
  have hs25 := ss_step (k := 280) (t := 0) (n := 2304) (c' := 1) (s := 104) (r := some 280) hs21 (by decide)
  have hn26 := nn_step (k := 280) (t := 0) (n := 2304) (c := 1) (s := 104) (r := some 280) hn22
  have tr27 := rr_step (k := 280) (t := 0) (n := 2304) (c := 1) (s := 104) (r := some 280) tr23 (by decide) (by decide)
  have ts28 := ss_step (k := 280) (t := 0) (n := 2304) (c' := 1) (s := 104) (r := some 280) ts24 (by decide)
  have hs29 := ss_step (k := 281) (t := 0) (n := 8) (c' := 1) (s := 105) (r := some 281) hs25 (by decide)
  have hn30 := nn_step (k := 281) (t := 0) (n := 8) (c := 1) (s := 105) (r := some 281) hn26
  have tr31 := rr_step (k := 281) (t := 0) (n := 8) (c := 1) (s := 105) (r := some 281) tr27 (by decide) (by decide)
  have ts32 := ss_step (k := 281) (t := 0) (n := 8) (c' := 1) (s := 105) (r := some 281) ts28 (by decide)
  have hs33 := ss_step (k := 282) (t := 0) (n := 8) (c' := 1) (s := 106) (r := some 282) hs29 (by decide)
  have hn34 := nn_step (k := 282) (t := 0) (n := 8) (c := 1) (s := 106) (r := some 282) hn30
  have tr35 := rr_step (k := 282) (t := 0) (n := 8) (c := 1) (s := 106) (r := some 282) tr31 (by decide) (by decide)
  have ts36 := ss_step (k := 282) (t := 0) (n := 8) (c' := 1) (s := 106) (r := some 282) ts32 (by decide)
  have hs37 := ss_step (k := 283) (t := 0) (n := 8) (c' := 1) (s := 107) (r := some 283) hs33 (by decide)
  have hn38 := nn_step (k := 283) (t := 0) (n := 8) (c := 1) (s := 107) (r := some 283) hn34
  have tr39 := rr_step (k := 283) (t := 0) (n := 8) (c := 1) (s := 107) (r := some 283) tr35 (by decide) (by decide)
  have ts40 := ss_step (k := 283) (t := 0) (n := 8) (c' := 1) (s := 107) (r := some 283) ts36 (by decide)
  have hs41 := ss_step (k := 284) (t := 0) (n := 5) (c' := 1) (s := 109) (r := some 284) hs37 (by decide)
  have hn42 := nn_step (k := 284) (t := 0) (n := 5) (c := 1) (s := 109) (r := some 284) hn38
  have tr43 := rr_step (k := 284) (t := 0) (n := 5) (c := 1) (s := 109) (r := some 284) tr39 (by decide) (by decide)
  have ts44 := ss_step (k := 284) (t := 0) (n := 5) (c' := 1) (s := 109) (r := some 284) ts40 (by decide)
  have hs45 := ss_step (k := 285) (t := 0) (n := 5) (c' := 1) (s := 110) (r := some 285) hs41 (by decide)
  have hn46 := nn_step (k := 285) (t := 0) (n := 5) (c := 1) (s := 110) (r := some 285) hn42
  have tr47 := rr_step (k := 285) (t := 0) (n := 5) (c := 1) (s := 110) (r := some 285) tr43 (by decide) (by decide)
  have ts48 := ss_step (k := 285) (t := 0) (n := 5) (c' := 1) (s := 110) (r := some 285) ts44 (by decide)
  have hs49 := ss_step (k := 286) (t := 0) (n := 5) (c' := 1) (s := 111) (r := some 286) hs45 (by decide)
  have hn50 := nn_step (k := 286) (t := 0) (n := 5) (c := 1) (s := 111) (r := some 286) hn46
  have tr51 := rr_step (k := 286) (t := 0) (n := 5) (c := 1) (s := 111) (r := some 286) tr47 (by decide) (by decide)
  have ts52 := ss_step (k := 286) (t := 0) (n := 5) (c' := 1) (s := 111) (r := some 286) ts48 (by decide)
  have hs53 := ss_step (k := 287) (t := 0) (n := 5) (c' := 1) (s := 112) (r := some 287) hs49 (by decide)
  have hn54 := nn_step (k := 287) (t := 0) (n := 5) (c := 1) (s := 112) (r := some 287) hn50
  have tr55 := rr_step (k := 287) (t := 0) (n := 5) (c := 1) (s := 112) (r := some 287) tr51 (by decide) (by decide)
  have ts56 := ss_step (k := 287) (t := 0) (n := 5) (c' := 1) (s := 112) (r := some 287) ts52 (by decide)
  have hs57 := ss_step (k := 288) (t := 0) (n := 4) (c' := 1) (s := 116) (r := some 288) hs53 (by decide)
  have hn58 := nn_step (k := 288) (t := 0) (n := 4) (c := 1) (s := 116) (r := some 288) hn54
  have tr59 := rr_step (k := 288) (t := 0) (n := 4) (c := 1) (s := 116) (r := some 288) tr55 (by decide) (by decide)
  have ts60 := ss_step (k := 288) (t := 0) (n := 4) (c' := 1) (s := 116) (r := some 288) ts56 (by decide)
  exact ⟨hs57, hn58, tr59, ts60⟩
theorem ck_5 (d : Nat) (h : Hp_) (K : Option Value → Hp_ → Prop) (hs : h_sh h 1 = some (22, 131)) (hn : ∀ a, 275 ≤ a → a < 300 → h_sh h a = none) (tr : h_r h 1 84 = some 265) (ts : h_sh h 265 = some (0, 8)) (k : AW (m_X12_init (d + 1) 100 288204) 89 281952 749 [(0, .ref 1)] [] (CC_5 h) K) : AW (m_X12_init (d + 1) 100 288204) 75 279344 635 [(0, .ref 1)] [] h K := by
  refine aw_aload_n (i := 0) rfl d_X12_init_635 0 rfl ?_
  refine aw_sipush (v := 180) d_X12_init_636 is_180 ?_
  refine aw_newa (t := 0) (atype := .int) 275 180 (by decide) rfl tw_51 (hn 275 (by decide) (by decide)) (by decide) xs0 (by decide +kernel) (by decide +kernel) (by decide +kernel) (show 75 + 1 ≤ 100 from by decide +kernel) (show 279344 + 180 ≤ 288204 from by decide +kernel) d_X12_init_639 ?_
  refine aw_putrF (k0 := 94) kc_12 (ss_n hs (by decide)) (Nat.le_of_ble_eq_true rfl) tw_1836 d_X12_init_641 rfl rfl rfl rfl ?_
  have hs1 := ss_step (k := 275) (t := 0) (n := 180) (c' := 1) (s := 94) (r := some 275) hs (by decide)
  have hn2 := nn_step (k := 275) (t := 0) (n := 180) (c := 1) (s := 94) (r := some 275) hn
  have tr3 := rr_step (k := 275) (t := 0) (n := 180) (c := 1) (s := 94) (r := some 275) tr (by decide) (by decide)
  have ts4 := ss_step (k := 275) (t := 0) (n := 180) (c' := 1) (s := 94) (r := some 275) ts (by decide)
  refine aw_aload_n (i := 0) rfl d_X12_init_644 0 rfl ?_
  refine aw_bipush (v := 30) d_X12_init_645 ib_30 ?_
  refine aw_newa (t := 0) (atype := .int) 276 30 (by decide) rfl tw_51 (hn2 276 (by decide) (by decide)) (by decide) xs0 (by decide +kernel) (by decide +kernel) (by decide +kernel) (show 76 + 1 ≤ 100 from by decide +kernel) (show 279524 + 30 ≤ 288204 from by decide +kernel) d_X12_init_647 ?_
  refine aw_putrF (k0 := 95) kc_12 (ss_n hs1 (by decide)) (Nat.le_of_ble_eq_true rfl) tw_1837 d_X12_init_649 rfl rfl rfl rfl ?_
  have hs5 := ss_step (k := 276) (t := 0) (n := 30) (c' := 1) (s := 95) (r := some 276) hs1 (by decide)
  have hn6 := nn_step (k := 276) (t := 0) (n := 30) (c := 1) (s := 95) (r := some 276) hn2
  have tr7 := rr_step (k := 276) (t := 0) (n := 30) (c := 1) (s := 95) (r := some 276) tr3 (by decide) (by decide)
  have ts8 := ss_step (k := 276) (t := 0) (n := 30) (c' := 1) (s := 95) (r := some 276) ts4 (by decide)
  refine aw_aload_n (i := 0) rfl d_X12_init_652 0 rfl ?_
  refine aw_bipush (v := 30) d_X12_init_653 ib_30 ?_
  refine aw_newa (t := 0) (atype := .int) 277 30 (by decide) rfl tw_51 (hn6 277 (by decide) (by decide)) (by decide) xs0 (by decide +kernel) (by decide +kernel) (by decide +kernel) (show 77 + 1 ≤ 100 from by decide +kernel) (show 279554 + 30 ≤ 288204 from by decide +kernel) d_X12_init_655 ?_
  refine aw_putrF (k0 := 98) kc_12 (ss_n hs5 (by decide)) (Nat.le_of_ble_eq_true rfl) tw_1840 d_X12_init_657 rfl rfl rfl rfl ?_
  have hs9 := ss_step (k := 277) (t := 0) (n := 30) (c' := 1) (s := 98) (r := some 277) hs5 (by decide)
  have hn10 := nn_step (k := 277) (t := 0) (n := 30) (c := 1) (s := 98) (r := some 277) hn6
  have tr11 := rr_step (k := 277) (t := 0) (n := 30) (c := 1) (s := 98) (r := some 277) tr7 (by decide) (by decide)
  have ts12 := ss_step (k := 277) (t := 0) (n := 30) (c' := 1) (s := 98) (r := some 277) ts8 (by decide)
  refine aw_aload_n (i := 0) rfl d_X12_init_660 0 rfl ?_
  refine aw_bipush (v := 8) d_X12_init_661 ib_8 ?_
  refine aw_newa (t := 0) (atype := .int) 278 8 (by decide) rfl tw_51 (hn10 278 (by decide) (by decide)) (by decide) xs0 (by decide +kernel) (by decide +kernel) (by decide +kernel) (show 78 + 1 ≤ 100 from by decide +kernel) (show 279584 + 8 ≤ 288204 from by decide +kernel) d_X12_init_663 ?_
  refine aw_putrF (k0 := 99) kc_12 (ss_n hs9 (by decide)) (Nat.le_of_ble_eq_true rfl) tw_1841 d_X12_init_665 rfl rfl rfl rfl ?_
  have hs13 := ss_step (k := 278) (t := 0) (n := 8) (c' := 1) (s := 99) (r := some 278) hs9 (by decide)
  have hn14 := nn_step (k := 278) (t := 0) (n := 8) (c := 1) (s := 99) (r := some 278) hn10
  have tr15 := rr_step (k := 278) (t := 0) (n := 8) (c := 1) (s := 99) (r := some 278) tr11 (by decide) (by decide)
  have ts16 := ss_step (k := 278) (t := 0) (n := 8) (c' := 1) (s := 99) (r := some 278) ts12 (by decide)
  refine aw_aload_n (i := 0) rfl d_X12_init_668 0 rfl ?_
  refine aw_bipush (v := 8) d_X12_init_669 ib_8 ?_
  refine aw_newa (t := 0) (atype := .int) 279 8 (by decide) rfl tw_51 (hn14 279 (by decide) (by decide)) (by decide) xs0 (by decide +kernel) (by decide +kernel) (by decide +kernel) (show 79 + 1 ≤ 100 from by decide +kernel) (show 279592 + 8 ≤ 288204 from by decide +kernel) d_X12_init_671 ?_
  refine aw_putrF (k0 := 100) kc_12 (ss_n hs13 (by decide)) (Nat.le_of_ble_eq_true rfl) tw_1842 d_X12_init_673 rfl rfl rfl rfl ?_
  have hs17 := ss_step (k := 279) (t := 0) (n := 8) (c' := 1) (s := 100) (r := some 279) hs13 (by decide)
  have hn18 := nn_step (k := 279) (t := 0) (n := 8) (c := 1) (s := 100) (r := some 279) hn14
  have tr19 := rr_step (k := 279) (t := 0) (n := 8) (c := 1) (s := 100) (r := some 279) tr15 (by decide) (by decide)
  have ts20 := ss_step (k := 279) (t := 0) (n := 8) (c' := 1) (s := 100) (r := some 279) ts16 (by decide)
  refine aw_aload_n (i := 0) rfl d_X12_init_676 0 rfl ?_
  refine aw_iconst (v := 3) d_X12_init_677 ic_3 ?_
  refine aw_puti (k0 := 103) kc_12 hs17 (Nat.le_of_ble_eq_true rfl) tw_1845 d_X12_init_678 rfl rfl nf_i ?_
  have hs21 := ss_im (a := 1) (k := 103) (x := 3) hs17
  have hn22 := nn_im (b := 1) (k := 103) (x := 3) hn18
  have tr23 := rr_im (a := 1) (k := 103) (x := 3) tr19
  have ts24 := ss_im (a := 1) (k := 103) (x := 3) ts20
  refine aw_aload_n (i := 0) rfl d_X12_init_681 0 rfl ?_
  refine aw_sipush (v := 2304) d_X12_init_682 is_2304 ?_
  refine aw_newa (t := 0) (atype := .int) 280 2304 (by decide) rfl tw_51 (hn22 280 (by decide) (by decide)) (by decide) xs0 (by decide +kernel) (by decide +kernel) (by decide +kernel) (show 80 + 1 ≤ 100 from by decide +kernel) (show 279600 + 2304 ≤ 288204 from by decide +kernel) d_X12_init_685 ?_
  refine aw_putrF (k0 := 104) kc_12 (ss_n hs21 (by decide)) (Nat.le_of_ble_eq_true rfl) tw_1846 d_X12_init_687 rfl rfl rfl rfl ?_
  have hs25 := ss_step (k := 280) (t := 0) (n := 2304) (c' := 1) (s := 104) (r := some 280) hs21 (by decide)
  have hn26 := nn_step (k := 280) (t := 0) (n := 2304) (c := 1) (s := 104) (r := some 280) hn22
  have tr27 := rr_step (k := 280) (t := 0) (n := 2304) (c := 1) (s := 104) (r := some 280) tr23 (by decide) (by decide)
  have ts28 := ss_step (k := 280) (t := 0) (n := 2304) (c' := 1) (s := 104) (r := some 280) ts24 (by decide)
  refine aw_aload_n (i := 0) rfl d_X12_init_690 0 rfl ?_
  refine aw_bipush (v := 8) d_X12_init_691 ib_8 ?_
  refine aw_newa (t := 0) (atype := .int) 281 8 (by decide) rfl tw_51 (hn26 281 (by decide) (by decide)) (by decide) xs0 (by decide +kernel) (by decide +kernel) (by decide +kernel) (show 81 + 1 ≤ 100 from by decide +kernel) (show 281904 + 8 ≤ 288204 from by decide +kernel) d_X12_init_693 ?_
  refine aw_putrF (k0 := 105) kc_12 (ss_n hs25 (by decide)) (Nat.le_of_ble_eq_true rfl) tw_1847 d_X12_init_695 rfl rfl rfl rfl ?_
  have hs29 := ss_step (k := 281) (t := 0) (n := 8) (c' := 1) (s := 105) (r := some 281) hs25 (by decide)
  have hn30 := nn_step (k := 281) (t := 0) (n := 8) (c := 1) (s := 105) (r := some 281) hn26
  have tr31 := rr_step (k := 281) (t := 0) (n := 8) (c := 1) (s := 105) (r := some 281) tr27 (by decide) (by decide)
  have ts32 := ss_step (k := 281) (t := 0) (n := 8) (c' := 1) (s := 105) (r := some 281) ts28 (by decide)
  refine aw_aload_n (i := 0) rfl d_X12_init_698 0 rfl ?_
  refine aw_bipush (v := 8) d_X12_init_699 ib_8 ?_
  refine aw_newa (t := 0) (atype := .int) 282 8 (by decide) rfl tw_51 (hn30 282 (by decide) (by decide)) (by decide) xs0 (by decide +kernel) (by decide +kernel) (by decide +kernel) (show 82 + 1 ≤ 100 from by decide +kernel) (show 281912 + 8 ≤ 288204 from by decide +kernel) d_X12_init_701 ?_
  refine aw_putrF (k0 := 106) kc_12 (ss_n hs29 (by decide)) (Nat.le_of_ble_eq_true rfl) tw_1848 d_X12_init_703 rfl rfl rfl rfl ?_
  have hs33 := ss_step (k := 282) (t := 0) (n := 8) (c' := 1) (s := 106) (r := some 282) hs29 (by decide)
  have hn34 := nn_step (k := 282) (t := 0) (n := 8) (c := 1) (s := 106) (r := some 282) hn30
  have tr35 := rr_step (k := 282) (t := 0) (n := 8) (c := 1) (s := 106) (r := some 282) tr31 (by decide) (by decide)
  have ts36 := ss_step (k := 282) (t := 0) (n := 8) (c' := 1) (s := 106) (r := some 282) ts32 (by decide)
  refine aw_aload_n (i := 0) rfl d_X12_init_706 0 rfl ?_
  refine aw_bipush (v := 8) d_X12_init_707 ib_8 ?_
  refine aw_newa (t := 0) (atype := .int) 283 8 (by decide) rfl tw_51 (hn34 283 (by decide) (by decide)) (by decide) xs0 (by decide +kernel) (by decide +kernel) (by decide +kernel) (show 83 + 1 ≤ 100 from by decide +kernel) (show 281920 + 8 ≤ 288204 from by decide +kernel) d_X12_init_709 ?_
  refine aw_putrF (k0 := 107) kc_12 (ss_n hs33 (by decide)) (Nat.le_of_ble_eq_true rfl) tw_1849 d_X12_init_711 rfl rfl rfl rfl ?_
  have hs37 := ss_step (k := 283) (t := 0) (n := 8) (c' := 1) (s := 107) (r := some 283) hs33 (by decide)
  have hn38 := nn_step (k := 283) (t := 0) (n := 8) (c := 1) (s := 107) (r := some 283) hn34
  have tr39 := rr_step (k := 283) (t := 0) (n := 8) (c := 1) (s := 107) (r := some 283) tr35 (by decide) (by decide)
  have ts40 := ss_step (k := 283) (t := 0) (n := 8) (c' := 1) (s := 107) (r := some 283) ts36 (by decide)
  refine aw_aload_n (i := 0) rfl d_X12_init_714 0 rfl ?_
  refine aw_iconst (v := 5) d_X12_init_715 ic_5 ?_
  refine aw_newa (t := 0) (atype := .int) 284 5 (by decide) rfl tw_51 (hn38 284 (by decide) (by decide)) (by decide) xs0 (by decide +kernel) (by decide +kernel) (by decide +kernel) (show 84 + 1 ≤ 100 from by decide +kernel) (show 281928 + 5 ≤ 288204 from by decide +kernel) d_X12_init_716 ?_
  refine aw_putrF (k0 := 109) kc_12 (ss_n hs37 (by decide)) (Nat.le_of_ble_eq_true rfl) tw_1851 d_X12_init_718 rfl rfl rfl rfl ?_
  have hs41 := ss_step (k := 284) (t := 0) (n := 5) (c' := 1) (s := 109) (r := some 284) hs37 (by decide)
  have hn42 := nn_step (k := 284) (t := 0) (n := 5) (c := 1) (s := 109) (r := some 284) hn38
  have tr43 := rr_step (k := 284) (t := 0) (n := 5) (c := 1) (s := 109) (r := some 284) tr39 (by decide) (by decide)
  have ts44 := ss_step (k := 284) (t := 0) (n := 5) (c' := 1) (s := 109) (r := some 284) ts40 (by decide)
  refine aw_aload_n (i := 0) rfl d_X12_init_721 0 rfl ?_
  refine aw_iconst (v := 5) d_X12_init_722 ic_5 ?_
  refine aw_newa (t := 0) (atype := .int) 285 5 (by decide) rfl tw_51 (hn42 285 (by decide) (by decide)) (by decide) xs0 (by decide +kernel) (by decide +kernel) (by decide +kernel) (show 85 + 1 ≤ 100 from by decide +kernel) (show 281933 + 5 ≤ 288204 from by decide +kernel) d_X12_init_723 ?_
  refine aw_putrF (k0 := 110) kc_12 (ss_n hs41 (by decide)) (Nat.le_of_ble_eq_true rfl) tw_1852 d_X12_init_725 rfl rfl rfl rfl ?_
  have hs45 := ss_step (k := 285) (t := 0) (n := 5) (c' := 1) (s := 110) (r := some 285) hs41 (by decide)
  have hn46 := nn_step (k := 285) (t := 0) (n := 5) (c := 1) (s := 110) (r := some 285) hn42
  have tr47 := rr_step (k := 285) (t := 0) (n := 5) (c := 1) (s := 110) (r := some 285) tr43 (by decide) (by decide)
  have ts48 := ss_step (k := 285) (t := 0) (n := 5) (c' := 1) (s := 110) (r := some 285) ts44 (by decide)
  refine aw_aload_n (i := 0) rfl d_X12_init_728 0 rfl ?_
  refine aw_iconst (v := 5) d_X12_init_729 ic_5 ?_
  refine aw_newa (t := 0) (atype := .int) 286 5 (by decide) rfl tw_51 (hn46 286 (by decide) (by decide)) (by decide) xs0 (by decide +kernel) (by decide +kernel) (by decide +kernel) (show 86 + 1 ≤ 100 from by decide +kernel) (show 281938 + 5 ≤ 288204 from by decide +kernel) d_X12_init_730 ?_
  refine aw_putrF (k0 := 111) kc_12 (ss_n hs45 (by decide)) (Nat.le_of_ble_eq_true rfl) tw_1853 d_X12_init_732 rfl rfl rfl rfl ?_
  have hs49 := ss_step (k := 286) (t := 0) (n := 5) (c' := 1) (s := 111) (r := some 286) hs45 (by decide)
  have hn50 := nn_step (k := 286) (t := 0) (n := 5) (c := 1) (s := 111) (r := some 286) hn46
  have tr51 := rr_step (k := 286) (t := 0) (n := 5) (c := 1) (s := 111) (r := some 286) tr47 (by decide) (by decide)
  have ts52 := ss_step (k := 286) (t := 0) (n := 5) (c' := 1) (s := 111) (r := some 286) ts48 (by decide)
  refine aw_aload_n (i := 0) rfl d_X12_init_735 0 rfl ?_
  refine aw_iconst (v := 5) d_X12_init_736 ic_5 ?_
  refine aw_newa (t := 0) (atype := .int) 287 5 (by decide) rfl tw_51 (hn50 287 (by decide) (by decide)) (by decide) xs0 (by decide +kernel) (by decide +kernel) (by decide +kernel) (show 87 + 1 ≤ 100 from by decide +kernel) (show 281943 + 5 ≤ 288204 from by decide +kernel) d_X12_init_737 ?_
  refine aw_putrF (k0 := 112) kc_12 (ss_n hs49 (by decide)) (Nat.le_of_ble_eq_true rfl) tw_1854 d_X12_init_739 rfl rfl rfl rfl ?_
  have hs53 := ss_step (k := 287) (t := 0) (n := 5) (c' := 1) (s := 112) (r := some 287) hs49 (by decide)
  have hn54 := nn_step (k := 287) (t := 0) (n := 5) (c := 1) (s := 112) (r := some 287) hn50
  have tr55 := rr_step (k := 287) (t := 0) (n := 5) (c := 1) (s := 112) (r := some 287) tr51 (by decide) (by decide)
  have ts56 := ss_step (k := 287) (t := 0) (n := 5) (c' := 1) (s := 112) (r := some 287) ts52 (by decide)
  refine aw_aload_n (i := 0) rfl d_X12_init_742 0 rfl ?_
  refine aw_iconst (v := 4) d_X12_init_743 ic_4 ?_
  refine aw_newa (t := 0) (atype := .int) 288 4 (by decide) rfl tw_51 (hn54 288 (by decide) (by decide)) (by decide) xs0 (by decide +kernel) (by decide +kernel) (by decide +kernel) (show 88 + 1 ≤ 100 from by decide +kernel) (show 281948 + 4 ≤ 288204 from by decide +kernel) d_X12_init_744 ?_
  refine aw_putrF (k0 := 116) kc_12 (ss_n hs53 (by decide)) (Nat.le_of_ble_eq_true rfl) tw_1858 d_X12_init_746 rfl rfl rfl rfl ?_
  have hs57 := ss_step (k := 288) (t := 0) (n := 4) (c' := 1) (s := 116) (r := some 288) hs53 (by decide)
  have hn58 := nn_step (k := 288) (t := 0) (n := 4) (c := 1) (s := 116) (r := some 288) hn54
  have tr59 := rr_step (k := 288) (t := 0) (n := 4) (c := 1) (s := 116) (r := some 288) tr55 (by decide) (by decide)
  have ts60 := ss_step (k := 288) (t := 0) (n := 4) (c' := 1) (s := 116) (r := some 288) ts56 (by decide)
  exact k
noncomputable def CC_6 (h : Hp_) : Hp_ := h_im (h_rm (h_nw (h_rm (h_nw (h_rm (h_nw (h_rm (h_nw (h_rm (h_nw (h_rm (h_nw (h_rm (h_nw (h_rm (h_nw (h_rm (h_nw (h_rm (h_nw (h_rm (h_nw h 289 0 4) 1 117 (some 289)) 290 0 4) 1 118 (some 290)) 291 0 3328) 1 120 (some 291)) 292 0 48) 1 121 (some 292)) 293 0 372) 1 122 (some 293)) 294 0 600) 1 123 (some 294)) 295 0 600) 1 124 (some 295)) 296 0 600) 1 125 (some 296)) 297 0 600) 1 126 (some 297)) 298 0 48) 1 128 (some 298)) 299 1 48) 1 129 (some 299)) 1 130 3
theorem cf_6 (h : Hp_) (hs : h_sh h 1 = some (22, 131)) (hn : ∀ a, 289 ≤ a → a < 300 → h_sh h a = none) (tr : h_r h 1 84 = some 265) (ts : h_sh h 265 = some (0, 8)) : h_sh (CC_6 h) 1 = some (22, 131) ∧ (∀ a, 300 ≤ a → a < 300 → h_sh (CC_6 h) a = none) ∧ h_r (CC_6 h) 1 84 = some 265 ∧ h_sh (CC_6 h) 265 = some (0, 8) := by
  have hs1 := ss_step (k := 289) (t := 0) (n := 4) (c' := 1) (s := 117) (r := some 289) hs (by decide)
  have hn2 := nn_step (k := 289) (t := 0) (n := 4) (c := 1) (s := 117) (r := some 289) hn
  have tr3 := rr_step (k := 289) (t := 0) (n := 4) (c := 1) (s := 117) (r := some 289) tr (by decide) (by decide)
  have ts4 := ss_step (k := 289) (t := 0) (n := 4) (c' := 1) (s := 117) (r := some 289) ts (by decide)
  have hs5 := ss_step (k := 290) (t := 0) (n := 4) (c' := 1) (s := 118) (r := some 290) hs1 (by decide)
  have hn6 := nn_step (k := 290) (t := 0) (n := 4) (c := 1) (s := 118) (r := some 290) hn2
  have tr7 := rr_step (k := 290) (t := 0) (n := 4) (c := 1) (s := 118) (r := some 290) tr3 (by decide) (by decide)
  have ts8 := ss_step (k := 290) (t := 0) (n := 4) (c' := 1) (s := 118) (r := some 290) ts4 (by decide)
  have hs9 := ss_step (k := 291) (t := 0) (n := 3328) (c' := 1) (s := 120) (r := some 291) hs5 (by decide)
  have hn10 := nn_step (k := 291) (t := 0) (n := 3328) (c := 1) (s := 120) (r := some 291) hn6
  have tr11 := rr_step (k := 291) (t := 0) (n := 3328) (c := 1) (s := 120) (r := some 291) tr7 (by decide) (by decide)
  have ts12 := ss_step (k := 291) (t := 0) (n := 3328) (c' := 1) (s := 120) (r := some 291) ts8 (by decide)
  have hs13 := ss_step (k := 292) (t := 0) (n := 48) (c' := 1) (s := 121) (r := some 292) hs9 (by decide)
  have hn14 := nn_step (k := 292) (t := 0) (n := 48) (c := 1) (s := 121) (r := some 292) hn10
  have tr15 := rr_step (k := 292) (t := 0) (n := 48) (c := 1) (s := 121) (r := some 292) tr11 (by decide) (by decide)
  have ts16 := ss_step (k := 292) (t := 0) (n := 48) (c' := 1) (s := 121) (r := some 292) ts12 (by decide)
  have hs17 := ss_step (k := 293) (t := 0) (n := 372) (c' := 1) (s := 122) (r := some 293) hs13 (by decide)
  have hn18 := nn_step (k := 293) (t := 0) (n := 372) (c := 1) (s := 122) (r := some 293) hn14
  have tr19 := rr_step (k := 293) (t := 0) (n := 372) (c := 1) (s := 122) (r := some 293) tr15 (by decide) (by decide)
  have ts20 := ss_step (k := 293) (t := 0) (n := 372) (c' := 1) (s := 122) (r := some 293) ts16 (by decide)
  have hs21 := ss_step (k := 294) (t := 0) (n := 600) (c' := 1) (s := 123) (r := some 294) hs17 (by decide)
  have hn22 := nn_step (k := 294) (t := 0) (n := 600) (c := 1) (s := 123) (r := some 294) hn18
  have tr23 := rr_step (k := 294) (t := 0) (n := 600) (c := 1) (s := 123) (r := some 294) tr19 (by decide) (by decide)
  have ts24 := ss_step (k := 294) (t := 0) (n := 600) (c' := 1) (s := 123) (r := some 294) ts20 (by decide)
  have hs25 := ss_step (k := 295) (t := 0) (n := 600) (c' := 1) (s := 124) (r := some 295) hs21 (by decide)
  have hn26 := nn_step (k := 295) (t := 0) (n := 600) (c := 1) (s := 124) (r := some 295) hn22
  have tr27 := rr_step (k := 295) (t := 0) (n := 600) (c := 1) (s := 124) (r := some 295) tr23 (by decide) (by decide)
  have ts28 := ss_step (k := 295) (t := 0) (n := 600) (c' := 1) (s := 124) (r := some 295) ts24 (by decide)
  have hs29 := ss_step (k := 296) (t := 0) (n := 600) (c' := 1) (s := 125) (r := some 296) hs25 (by decide)
  have hn30 := nn_step (k := 296) (t := 0) (n := 600) (c := 1) (s := 125) (r := some 296) hn26
  have tr31 := rr_step (k := 296) (t := 0) (n := 600) (c := 1) (s := 125) (r := some 296) tr27 (by decide) (by decide)
  have ts32 := ss_step (k := 296) (t := 0) (n := 600) (c' := 1) (s := 125) (r := some 296) ts28 (by decide)
  have hs33 := ss_step (k := 297) (t := 0) (n := 600) (c' := 1) (s := 126) (r := some 297) hs29 (by decide)
  have hn34 := nn_step (k := 297) (t := 0) (n := 600) (c := 1) (s := 126) (r := some 297) hn30
  have tr35 := rr_step (k := 297) (t := 0) (n := 600) (c := 1) (s := 126) (r := some 297) tr31 (by decide) (by decide)
  have ts36 := ss_step (k := 297) (t := 0) (n := 600) (c' := 1) (s := 126) (r := some 297) ts32 (by decide)
  have hs37 := ss_step (k := 298) (t := 0) (n := 48) (c' := 1) (s := 128) (r := some 298) hs33 (by decide)
  have hn38 := nn_step (k := 298) (t := 0) (n := 48) (c := 1) (s := 128) (r := some 298) hn34
  have tr39 := rr_step (k := 298) (t := 0) (n := 48) (c := 1) (s := 128) (r := some 298) tr35 (by decide) (by decide)
  have ts40 := ss_step (k := 298) (t := 0) (n := 48) (c' := 1) (s := 128) (r := some 298) ts36 (by decide)
  have hs41 := ss_step (k := 299) (t := 1) (n := 48) (c' := 1) (s := 129) (r := some 299) hs37 (by decide)
  have hn42 := nn_step (k := 299) (t := 1) (n := 48) (c := 1) (s := 129) (r := some 299) hn38
  have tr43 := rr_step (k := 299) (t := 1) (n := 48) (c := 1) (s := 129) (r := some 299) tr39 (by decide) (by decide)
  have ts44 := ss_step (k := 299) (t := 1) (n := 48) (c' := 1) (s := 129) (r := some 299) ts40 (by decide)
  have hs45 := ss_im (a := 1) (k := 130) (x := 3) hs41
  have hn46 := nn_im (b := 1) (k := 130) (x := 3) hn42
  have tr47 := rr_im (a := 1) (k := 130) (x := 3) tr43
  have ts48 := ss_im (a := 1) (k := 130) (x := 3) ts44
  exact ⟨hs45, hn46, tr47, ts48⟩
theorem ck_6 (d : Nat) (h : Hp_) (K : Option Value → Hp_ → Prop) (hs : h_sh h 1 = some (22, 131)) (hn : ∀ a, 289 ≤ a → a < 300 → h_sh h a = none) (tr : h_r h 1 84 = some 265) (ts : h_sh h 265 = some (0, 8)) (k : AW (m_X12_init (d + 1) 100 288204) 100 288204 846 [(0, .ref 1)] [] (CC_6 h) K) : AW (m_X12_init (d + 1) 100 288204) 89 281952 749 [(0, .ref 1)] [] h K := by
  refine aw_aload_n (i := 0) rfl d_X12_init_749 0 rfl ?_
  refine aw_iconst (v := 4) d_X12_init_750 ic_4 ?_
  refine aw_newa (t := 0) (atype := .int) 289 4 (by decide) rfl tw_51 (hn 289 (by decide) (by decide)) (by decide) xs0 (by decide +kernel) (by decide +kernel) (by decide +kernel) (show 89 + 1 ≤ 100 from by decide +kernel) (show 281952 + 4 ≤ 288204 from by decide +kernel) d_X12_init_751 ?_
  refine aw_putrF (k0 := 117) kc_12 (ss_n hs (by decide)) (Nat.le_of_ble_eq_true rfl) tw_1859 d_X12_init_753 rfl rfl rfl rfl ?_
  have hs1 := ss_step (k := 289) (t := 0) (n := 4) (c' := 1) (s := 117) (r := some 289) hs (by decide)
  have hn2 := nn_step (k := 289) (t := 0) (n := 4) (c := 1) (s := 117) (r := some 289) hn
  have tr3 := rr_step (k := 289) (t := 0) (n := 4) (c := 1) (s := 117) (r := some 289) tr (by decide) (by decide)
  have ts4 := ss_step (k := 289) (t := 0) (n := 4) (c' := 1) (s := 117) (r := some 289) ts (by decide)
  refine aw_aload_n (i := 0) rfl d_X12_init_756 0 rfl ?_
  refine aw_iconst (v := 4) d_X12_init_757 ic_4 ?_
  refine aw_newa (t := 0) (atype := .int) 290 4 (by decide) rfl tw_51 (hn2 290 (by decide) (by decide)) (by decide) xs0 (by decide +kernel) (by decide +kernel) (by decide +kernel) (show 90 + 1 ≤ 100 from by decide +kernel) (show 281956 + 4 ≤ 288204 from by decide +kernel) d_X12_init_758 ?_
  refine aw_putrF (k0 := 118) kc_12 (ss_n hs1 (by decide)) (Nat.le_of_ble_eq_true rfl) tw_1860 d_X12_init_760 rfl rfl rfl rfl ?_
  have hs5 := ss_step (k := 290) (t := 0) (n := 4) (c' := 1) (s := 118) (r := some 290) hs1 (by decide)
  have hn6 := nn_step (k := 290) (t := 0) (n := 4) (c := 1) (s := 118) (r := some 290) hn2
  have tr7 := rr_step (k := 290) (t := 0) (n := 4) (c := 1) (s := 118) (r := some 290) tr3 (by decide) (by decide)
  have ts8 := ss_step (k := 290) (t := 0) (n := 4) (c' := 1) (s := 118) (r := some 290) ts4 (by decide)
  refine aw_aload_n (i := 0) rfl d_X12_init_763 0 rfl ?_
  refine aw_sipush (v := 3328) d_X12_init_764 is_3328 ?_
  refine aw_newa (t := 0) (atype := .int) 291 3328 (by decide) rfl tw_51 (hn6 291 (by decide) (by decide)) (by decide) xs0 (by decide +kernel) (by decide +kernel) (by decide +kernel) (show 91 + 1 ≤ 100 from by decide +kernel) (show 281960 + 3328 ≤ 288204 from by decide +kernel) d_X12_init_767 ?_
  refine aw_putrF (k0 := 120) kc_12 (ss_n hs5 (by decide)) (Nat.le_of_ble_eq_true rfl) tw_1862 d_X12_init_769 rfl rfl rfl rfl ?_
  have hs9 := ss_step (k := 291) (t := 0) (n := 3328) (c' := 1) (s := 120) (r := some 291) hs5 (by decide)
  have hn10 := nn_step (k := 291) (t := 0) (n := 3328) (c := 1) (s := 120) (r := some 291) hn6
  have tr11 := rr_step (k := 291) (t := 0) (n := 3328) (c := 1) (s := 120) (r := some 291) tr7 (by decide) (by decide)
  have ts12 := ss_step (k := 291) (t := 0) (n := 3328) (c' := 1) (s := 120) (r := some 291) ts8 (by decide)
  refine aw_aload_n (i := 0) rfl d_X12_init_772 0 rfl ?_
  refine aw_bipush (v := 48) d_X12_init_773 ib_48 ?_
  refine aw_newa (t := 0) (atype := .int) 292 48 (by decide) rfl tw_51 (hn10 292 (by decide) (by decide)) (by decide) xs0 (by decide +kernel) (by decide +kernel) (by decide +kernel) (show 92 + 1 ≤ 100 from by decide +kernel) (show 285288 + 48 ≤ 288204 from by decide +kernel) d_X12_init_775 ?_
  refine aw_putrF (k0 := 121) kc_12 (ss_n hs9 (by decide)) (Nat.le_of_ble_eq_true rfl) tw_1863 d_X12_init_777 rfl rfl rfl rfl ?_
  have hs13 := ss_step (k := 292) (t := 0) (n := 48) (c' := 1) (s := 121) (r := some 292) hs9 (by decide)
  have hn14 := nn_step (k := 292) (t := 0) (n := 48) (c := 1) (s := 121) (r := some 292) hn10
  have tr15 := rr_step (k := 292) (t := 0) (n := 48) (c := 1) (s := 121) (r := some 292) tr11 (by decide) (by decide)
  have ts16 := ss_step (k := 292) (t := 0) (n := 48) (c' := 1) (s := 121) (r := some 292) ts12 (by decide)
  refine aw_aload_n (i := 0) rfl d_X12_init_780 0 rfl ?_
  refine aw_sipush (v := 372) d_X12_init_781 is_372 ?_
  refine aw_newa (t := 0) (atype := .int) 293 372 (by decide) rfl tw_51 (hn14 293 (by decide) (by decide)) (by decide) xs0 (by decide +kernel) (by decide +kernel) (by decide +kernel) (show 93 + 1 ≤ 100 from by decide +kernel) (show 285336 + 372 ≤ 288204 from by decide +kernel) d_X12_init_784 ?_
  refine aw_putrF (k0 := 122) kc_12 (ss_n hs13 (by decide)) (Nat.le_of_ble_eq_true rfl) tw_1864 d_X12_init_786 rfl rfl rfl rfl ?_
  have hs17 := ss_step (k := 293) (t := 0) (n := 372) (c' := 1) (s := 122) (r := some 293) hs13 (by decide)
  have hn18 := nn_step (k := 293) (t := 0) (n := 372) (c := 1) (s := 122) (r := some 293) hn14
  have tr19 := rr_step (k := 293) (t := 0) (n := 372) (c := 1) (s := 122) (r := some 293) tr15 (by decide) (by decide)
  have ts20 := ss_step (k := 293) (t := 0) (n := 372) (c' := 1) (s := 122) (r := some 293) ts16 (by decide)
  refine aw_aload_n (i := 0) rfl d_X12_init_789 0 rfl ?_
  refine aw_sipush (v := 600) d_X12_init_790 is_600 ?_
  refine aw_newa (t := 0) (atype := .int) 294 600 (by decide) rfl tw_51 (hn18 294 (by decide) (by decide)) (by decide) xs0 (by decide +kernel) (by decide +kernel) (by decide +kernel) (show 94 + 1 ≤ 100 from by decide +kernel) (show 285708 + 600 ≤ 288204 from by decide +kernel) d_X12_init_793 ?_
  refine aw_putrF (k0 := 123) kc_12 (ss_n hs17 (by decide)) (Nat.le_of_ble_eq_true rfl) tw_1865 d_X12_init_795 rfl rfl rfl rfl ?_
  have hs21 := ss_step (k := 294) (t := 0) (n := 600) (c' := 1) (s := 123) (r := some 294) hs17 (by decide)
  have hn22 := nn_step (k := 294) (t := 0) (n := 600) (c := 1) (s := 123) (r := some 294) hn18
  have tr23 := rr_step (k := 294) (t := 0) (n := 600) (c := 1) (s := 123) (r := some 294) tr19 (by decide) (by decide)
  have ts24 := ss_step (k := 294) (t := 0) (n := 600) (c' := 1) (s := 123) (r := some 294) ts20 (by decide)
  refine aw_aload_n (i := 0) rfl d_X12_init_798 0 rfl ?_
  refine aw_sipush (v := 600) d_X12_init_799 is_600 ?_
  refine aw_newa (t := 0) (atype := .int) 295 600 (by decide) rfl tw_51 (hn22 295 (by decide) (by decide)) (by decide) xs0 (by decide +kernel) (by decide +kernel) (by decide +kernel) (show 95 + 1 ≤ 100 from by decide +kernel) (show 286308 + 600 ≤ 288204 from by decide +kernel) d_X12_init_802 ?_
  refine aw_putrF (k0 := 124) kc_12 (ss_n hs21 (by decide)) (Nat.le_of_ble_eq_true rfl) tw_1866 d_X12_init_804 rfl rfl rfl rfl ?_
  have hs25 := ss_step (k := 295) (t := 0) (n := 600) (c' := 1) (s := 124) (r := some 295) hs21 (by decide)
  have hn26 := nn_step (k := 295) (t := 0) (n := 600) (c := 1) (s := 124) (r := some 295) hn22
  have tr27 := rr_step (k := 295) (t := 0) (n := 600) (c := 1) (s := 124) (r := some 295) tr23 (by decide) (by decide)
  have ts28 := ss_step (k := 295) (t := 0) (n := 600) (c' := 1) (s := 124) (r := some 295) ts24 (by decide)
  refine aw_aload_n (i := 0) rfl d_X12_init_807 0 rfl ?_
  refine aw_sipush (v := 600) d_X12_init_808 is_600 ?_
  refine aw_newa (t := 0) (atype := .int) 296 600 (by decide) rfl tw_51 (hn26 296 (by decide) (by decide)) (by decide) xs0 (by decide +kernel) (by decide +kernel) (by decide +kernel) (show 96 + 1 ≤ 100 from by decide +kernel) (show 286908 + 600 ≤ 288204 from by decide +kernel) d_X12_init_811 ?_
  refine aw_putrF (k0 := 125) kc_12 (ss_n hs25 (by decide)) (Nat.le_of_ble_eq_true rfl) tw_1867 d_X12_init_813 rfl rfl rfl rfl ?_
  have hs29 := ss_step (k := 296) (t := 0) (n := 600) (c' := 1) (s := 125) (r := some 296) hs25 (by decide)
  have hn30 := nn_step (k := 296) (t := 0) (n := 600) (c := 1) (s := 125) (r := some 296) hn26
  have tr31 := rr_step (k := 296) (t := 0) (n := 600) (c := 1) (s := 125) (r := some 296) tr27 (by decide) (by decide)
  have ts32 := ss_step (k := 296) (t := 0) (n := 600) (c' := 1) (s := 125) (r := some 296) ts28 (by decide)
  refine aw_aload_n (i := 0) rfl d_X12_init_816 0 rfl ?_
  refine aw_sipush (v := 600) d_X12_init_817 is_600 ?_
  refine aw_newa (t := 0) (atype := .int) 297 600 (by decide) rfl tw_51 (hn30 297 (by decide) (by decide)) (by decide) xs0 (by decide +kernel) (by decide +kernel) (by decide +kernel) (show 97 + 1 ≤ 100 from by decide +kernel) (show 287508 + 600 ≤ 288204 from by decide +kernel) d_X12_init_820 ?_
  refine aw_putrF (k0 := 126) kc_12 (ss_n hs29 (by decide)) (Nat.le_of_ble_eq_true rfl) tw_1868 d_X12_init_822 rfl rfl rfl rfl ?_
  have hs33 := ss_step (k := 297) (t := 0) (n := 600) (c' := 1) (s := 126) (r := some 297) hs29 (by decide)
  have hn34 := nn_step (k := 297) (t := 0) (n := 600) (c := 1) (s := 126) (r := some 297) hn30
  have tr35 := rr_step (k := 297) (t := 0) (n := 600) (c := 1) (s := 126) (r := some 297) tr31 (by decide) (by decide)
  have ts36 := ss_step (k := 297) (t := 0) (n := 600) (c' := 1) (s := 126) (r := some 297) ts32 (by decide)
  refine aw_aload_n (i := 0) rfl d_X12_init_825 0 rfl ?_
  refine aw_bipush (v := 48) d_X12_init_826 ib_48 ?_
  refine aw_newa (t := 0) (atype := .int) 298 48 (by decide) rfl tw_51 (hn34 298 (by decide) (by decide)) (by decide) xs0 (by decide +kernel) (by decide +kernel) (by decide +kernel) (show 98 + 1 ≤ 100 from by decide +kernel) (show 288108 + 48 ≤ 288204 from by decide +kernel) d_X12_init_828 ?_
  refine aw_putrF (k0 := 128) kc_12 (ss_n hs33 (by decide)) (Nat.le_of_ble_eq_true rfl) tw_1870 d_X12_init_830 rfl rfl rfl rfl ?_
  have hs37 := ss_step (k := 298) (t := 0) (n := 48) (c' := 1) (s := 128) (r := some 298) hs33 (by decide)
  have hn38 := nn_step (k := 298) (t := 0) (n := 48) (c := 1) (s := 128) (r := some 298) hn34
  have tr39 := rr_step (k := 298) (t := 0) (n := 48) (c := 1) (s := 128) (r := some 298) tr35 (by decide) (by decide)
  have ts40 := ss_step (k := 298) (t := 0) (n := 48) (c' := 1) (s := 128) (r := some 298) ts36 (by decide)
  refine aw_aload_n (i := 0) rfl d_X12_init_833 0 rfl ?_
  refine aw_bipush (v := 48) d_X12_init_834 ib_48 ?_
  refine aw_newa (t := 1) (atype := .boolean) 299 48 (by decide) rfl tw_252 (hn38 299 (by decide) (by decide)) (by decide) xs0 (by decide +kernel) (by decide +kernel) (by decide +kernel) (show 99 + 1 ≤ 100 from by decide +kernel) (show 288156 + 48 ≤ 288204 from by decide +kernel) d_X12_init_836 ?_
  refine aw_putrF (k0 := 129) kc_12 (ss_n hs37 (by decide)) (Nat.le_of_ble_eq_true rfl) tw_1871 d_X12_init_838 rfl rfl rfl rfl ?_
  have hs41 := ss_step (k := 299) (t := 1) (n := 48) (c' := 1) (s := 129) (r := some 299) hs37 (by decide)
  have hn42 := nn_step (k := 299) (t := 1) (n := 48) (c := 1) (s := 129) (r := some 299) hn38
  have tr43 := rr_step (k := 299) (t := 1) (n := 48) (c := 1) (s := 129) (r := some 299) tr39 (by decide) (by decide)
  have ts44 := ss_step (k := 299) (t := 1) (n := 48) (c' := 1) (s := 129) (r := some 299) ts40 (by decide)
  refine aw_aload_n (i := 0) rfl d_X12_init_841 0 rfl ?_
  refine aw_iconst (v := 3) d_X12_init_842 ic_3 ?_
  refine aw_puti (k0 := 130) kc_12 hs41 (Nat.le_of_ble_eq_true rfl) tw_1872 d_X12_init_843 rfl rfl nf_i ?_
  have hs45 := ss_im (a := 1) (k := 130) (x := 3) hs41
  have hn46 := nn_im (b := 1) (k := 130) (x := 3) hn42
  have tr47 := rr_im (a := 1) (k := 130) (x := 3) tr43
  have ts48 := ss_im (a := 1) (k := 130) (x := 3) ts44
  exact k
noncomputable def CH_1 (h : Hp_) : Hp_ := h_im (h_im (h_im (h_im (h_im (h_im (h_im (h_im (CC_6 (CC_5 (CC_4 (CC_3 (CC_2 (CC_1 (CC_0 h))))))) 265 ((0 : Int32).toNatClampNeg) 1) 265 ((1 : Int32).toNatClampNeg) 1) 265 ((2 : Int32).toNatClampNeg) 1) 265 ((3 : Int32).toNatClampNeg) 1) 265 ((4 : Int32).toNatClampNeg) 1) 265 ((5 : Int32).toNatClampNeg) 1) 265 ((6 : Int32).toNatClampNeg) 1) 265 ((7 : Int32).toNatClampNeg) 1
theorem k_X12_init_1 (d : Nat) (h : Hp_) (hs : h_sh h 1 = some (22, 131)) (hn : ∀ a, 200 ≤ a → a < 300 → h_sh h a = none) : Cv (m_X12_init (d + 1) 100 288204) [.ref 1] h (fun h' => h' = CH_1 h) := by
  refine Ct.of (fun _ _ _ => trivial) rfl (Nat.le_of_ble_eq_true rfl) ?_
  show AW (m_X12_init (d + 1) 100 288204) 0 0 0 [(0, .ref 1)] [] h (kV _)
  refine aw_aload_n (i := 0) rfl d_X12_init_0 0 rfl ?_
  refine aw_objInit (rest := []) d_X12_init_1 tw_1740 tw_33 tw_34 (show 1 ≤ d + 1 by omega) (show 0 + 12 ≤ 100 * (d + 1) by omega) ?_
  have q0 := cf_0 h hs hn
  refine ck_0 d h _ hs hn ?_
  have q1 := cf_1 (CC_0 h) q0.1 q0.2
  refine ck_1 d (CC_0 h) _ q0.1 q0.2 ?_
  have q2 := cf_2 (CC_1 (CC_0 h)) q1.1 q1.2
  refine ck_2 d (CC_1 (CC_0 h)) _ q1.1 q1.2 ?_
  have q3 := cf_3 (CC_2 (CC_1 (CC_0 h))) q2.1 q2.2
  refine ck_3 d (CC_2 (CC_1 (CC_0 h))) _ q2.1 q2.2 ?_
  have q4 := cf_4 (CC_3 (CC_2 (CC_1 (CC_0 h)))) q3.1 q3.2
  refine ck_4 d (CC_3 (CC_2 (CC_1 (CC_0 h)))) _ q3.1 q3.2 ?_
  have q5 := cf_5 (CC_4 (CC_3 (CC_2 (CC_1 (CC_0 h))))) q4.1 q4.2.1 q4.2.2.1 q4.2.2.2
  refine ck_5 d (CC_4 (CC_3 (CC_2 (CC_1 (CC_0 h))))) _ q4.1 q4.2.1 q4.2.2.1 q4.2.2.2 ?_
  have q6 := cf_6 (CC_5 (CC_4 (CC_3 (CC_2 (CC_1 (CC_0 h)))))) q5.1 q5.2.1 q5.2.2.1 q5.2.2.2
  refine ck_6 d (CC_5 (CC_4 (CC_3 (CC_2 (CC_1 (CC_0 h)))))) _ q5.1 q5.2.1 q5.2.2.1 q5.2.2.2 ?_
  have hs0 := q6.1
  have tr0 := q6.2.2.1
  have ts0 := q6.2.2.2
  generalize hB : CC_6 (CC_5 (CC_4 (CC_3 (CC_2 (CC_1 (CC_0 h)))))) = B at hs0 tr0 ts0 ⊢
  refine aw_iconst (v := 0) d_X12_init_846 ic_0 ?_
  refine aw_istore_n (i := 1) rfl [(0, .ref 1), (1, .int 0)] d_X12_init_847 (Nat.le_of_ble_eq_true rfl) rfl rfl ?_
  refine aw_iload_n (i := 1) rfl d_X12_init_848 1 rfl ?_
  refine aw_bipush (v := 8) d_X12_init_849 ib_8 ?_
  refine aw_icmp_ge (tgt := 867) d_X12_init_851 rfl (fun c => absurd c (by decide)) (fun _ => ?_)
  refine aw_aload_n (i := 0) rfl d_X12_init_854 0 rfl ?_
  refine aw_getr (k0 := 84) (b := 265) kc_12 hs0 (Nat.le_of_ble_eq_true rfl) tw_1826 d_X12_init_855 rfl tr0 ?_
  refine aw_iload_n (i := 1) rfl d_X12_init_858 1 rfl ?_
  refine aw_iconst (v := 1) d_X12_init_859 ic_1 ?_
  refine aw_iast (n := 8) ts0 (vin_c (by decide)) d_X12_init_860 ?_
  have hs1 := ss_im (a := 265) (k := ((0 : Int32).toNatClampNeg)) (x := 1) hs0
  have tr1 := rr_im (a := 265) (k := ((0 : Int32).toNatClampNeg)) (x := 1) tr0
  have ts1 := ss_im (a := 265) (k := ((0 : Int32).toNatClampNeg)) (x := 1) ts0
  refine aw_iinc (v := 1) [(0, .ref 1), (1, .int 1)] d_X12_init_861 1 rfl (by decide) (Nat.le_of_ble_eq_true rfl) rfl rfl ?_
  refine aw_goto (tgt := 848) d_X12_init_864 rfl ?_
  refine aw_iload_n (i := 1) rfl d_X12_init_848 1 rfl ?_
  refine aw_bipush (v := 8) d_X12_init_849 ib_8 ?_
  refine aw_icmp_ge (tgt := 867) d_X12_init_851 rfl (fun c => absurd c (by decide)) (fun _ => ?_)
  refine aw_aload_n (i := 0) rfl d_X12_init_854 0 rfl ?_
  refine aw_getr (k0 := 84) (b := 265) kc_12 hs1 (Nat.le_of_ble_eq_true rfl) tw_1826 d_X12_init_855 rfl tr1 ?_
  refine aw_iload_n (i := 1) rfl d_X12_init_858 1 rfl ?_
  refine aw_iconst (v := 1) d_X12_init_859 ic_1 ?_
  refine aw_iast (n := 8) ts1 (vin_c (by decide)) d_X12_init_860 ?_
  have hs2 := ss_im (a := 265) (k := ((1 : Int32).toNatClampNeg)) (x := 1) hs1
  have tr2 := rr_im (a := 265) (k := ((1 : Int32).toNatClampNeg)) (x := 1) tr1
  have ts2 := ss_im (a := 265) (k := ((1 : Int32).toNatClampNeg)) (x := 1) ts1
  refine aw_iinc (v := 2) [(0, .ref 1), (1, .int 2)] d_X12_init_861 1 rfl (by decide) (Nat.le_of_ble_eq_true rfl) rfl rfl ?_
  refine aw_goto (tgt := 848) d_X12_init_864 rfl ?_
  refine aw_iload_n (i := 1) rfl d_X12_init_848 1 rfl ?_
  refine aw_bipush (v := 8) d_X12_init_849 ib_8 ?_
  refine aw_icmp_ge (tgt := 867) d_X12_init_851 rfl (fun c => absurd c (by decide)) (fun _ => ?_)
  refine aw_aload_n (i := 0) rfl d_X12_init_854 0 rfl ?_
  refine aw_getr (k0 := 84) (b := 265) kc_12 hs2 (Nat.le_of_ble_eq_true rfl) tw_1826 d_X12_init_855 rfl tr2 ?_
  refine aw_iload_n (i := 1) rfl d_X12_init_858 1 rfl ?_
  refine aw_iconst (v := 1) d_X12_init_859 ic_1 ?_
  refine aw_iast (n := 8) ts2 (vin_c (by decide)) d_X12_init_860 ?_
  have hs3 := ss_im (a := 265) (k := ((2 : Int32).toNatClampNeg)) (x := 1) hs2
  have tr3 := rr_im (a := 265) (k := ((2 : Int32).toNatClampNeg)) (x := 1) tr2
  have ts3 := ss_im (a := 265) (k := ((2 : Int32).toNatClampNeg)) (x := 1) ts2
  refine aw_iinc (v := 3) [(0, .ref 1), (1, .int 3)] d_X12_init_861 1 rfl (by decide) (Nat.le_of_ble_eq_true rfl) rfl rfl ?_
  refine aw_goto (tgt := 848) d_X12_init_864 rfl ?_
  refine aw_iload_n (i := 1) rfl d_X12_init_848 1 rfl ?_
  refine aw_bipush (v := 8) d_X12_init_849 ib_8 ?_
  refine aw_icmp_ge (tgt := 867) d_X12_init_851 rfl (fun c => absurd c (by decide)) (fun _ => ?_)
  refine aw_aload_n (i := 0) rfl d_X12_init_854 0 rfl ?_
  refine aw_getr (k0 := 84) (b := 265) kc_12 hs3 (Nat.le_of_ble_eq_true rfl) tw_1826 d_X12_init_855 rfl tr3 ?_
  refine aw_iload_n (i := 1) rfl d_X12_init_858 1 rfl ?_
  refine aw_iconst (v := 1) d_X12_init_859 ic_1 ?_
  refine aw_iast (n := 8) ts3 (vin_c (by decide)) d_X12_init_860 ?_
  have hs4 := ss_im (a := 265) (k := ((3 : Int32).toNatClampNeg)) (x := 1) hs3
  have tr4 := rr_im (a := 265) (k := ((3 : Int32).toNatClampNeg)) (x := 1) tr3
  have ts4 := ss_im (a := 265) (k := ((3 : Int32).toNatClampNeg)) (x := 1) ts3
  refine aw_iinc (v := 4) [(0, .ref 1), (1, .int 4)] d_X12_init_861 1 rfl (by decide) (Nat.le_of_ble_eq_true rfl) rfl rfl ?_
  refine aw_goto (tgt := 848) d_X12_init_864 rfl ?_
  refine aw_iload_n (i := 1) rfl d_X12_init_848 1 rfl ?_
  refine aw_bipush (v := 8) d_X12_init_849 ib_8 ?_
  refine aw_icmp_ge (tgt := 867) d_X12_init_851 rfl (fun c => absurd c (by decide)) (fun _ => ?_)
  refine aw_aload_n (i := 0) rfl d_X12_init_854 0 rfl ?_
  refine aw_getr (k0 := 84) (b := 265) kc_12 hs4 (Nat.le_of_ble_eq_true rfl) tw_1826 d_X12_init_855 rfl tr4 ?_
  refine aw_iload_n (i := 1) rfl d_X12_init_858 1 rfl ?_
  refine aw_iconst (v := 1) d_X12_init_859 ic_1 ?_
  refine aw_iast (n := 8) ts4 (vin_c (by decide)) d_X12_init_860 ?_
  have hs5 := ss_im (a := 265) (k := ((4 : Int32).toNatClampNeg)) (x := 1) hs4
  have tr5 := rr_im (a := 265) (k := ((4 : Int32).toNatClampNeg)) (x := 1) tr4
  have ts5 := ss_im (a := 265) (k := ((4 : Int32).toNatClampNeg)) (x := 1) ts4
  refine aw_iinc (v := 5) [(0, .ref 1), (1, .int 5)] d_X12_init_861 1 rfl (by decide) (Nat.le_of_ble_eq_true rfl) rfl rfl ?_
  refine aw_goto (tgt := 848) d_X12_init_864 rfl ?_
  refine aw_iload_n (i := 1) rfl d_X12_init_848 1 rfl ?_
  refine aw_bipush (v := 8) d_X12_init_849 ib_8 ?_
  refine aw_icmp_ge (tgt := 867) d_X12_init_851 rfl (fun c => absurd c (by decide)) (fun _ => ?_)
  refine aw_aload_n (i := 0) rfl d_X12_init_854 0 rfl ?_
  refine aw_getr (k0 := 84) (b := 265) kc_12 hs5 (Nat.le_of_ble_eq_true rfl) tw_1826 d_X12_init_855 rfl tr5 ?_
  refine aw_iload_n (i := 1) rfl d_X12_init_858 1 rfl ?_
  refine aw_iconst (v := 1) d_X12_init_859 ic_1 ?_
  refine aw_iast (n := 8) ts5 (vin_c (by decide)) d_X12_init_860 ?_
  have hs6 := ss_im (a := 265) (k := ((5 : Int32).toNatClampNeg)) (x := 1) hs5
  have tr6 := rr_im (a := 265) (k := ((5 : Int32).toNatClampNeg)) (x := 1) tr5
  have ts6 := ss_im (a := 265) (k := ((5 : Int32).toNatClampNeg)) (x := 1) ts5
  refine aw_iinc (v := 6) [(0, .ref 1), (1, .int 6)] d_X12_init_861 1 rfl (by decide) (Nat.le_of_ble_eq_true rfl) rfl rfl ?_
  refine aw_goto (tgt := 848) d_X12_init_864 rfl ?_
  refine aw_iload_n (i := 1) rfl d_X12_init_848 1 rfl ?_
  refine aw_bipush (v := 8) d_X12_init_849 ib_8 ?_
  refine aw_icmp_ge (tgt := 867) d_X12_init_851 rfl (fun c => absurd c (by decide)) (fun _ => ?_)
  refine aw_aload_n (i := 0) rfl d_X12_init_854 0 rfl ?_
  refine aw_getr (k0 := 84) (b := 265) kc_12 hs6 (Nat.le_of_ble_eq_true rfl) tw_1826 d_X12_init_855 rfl tr6 ?_
  refine aw_iload_n (i := 1) rfl d_X12_init_858 1 rfl ?_
  refine aw_iconst (v := 1) d_X12_init_859 ic_1 ?_
  refine aw_iast (n := 8) ts6 (vin_c (by decide)) d_X12_init_860 ?_
  have hs7 := ss_im (a := 265) (k := ((6 : Int32).toNatClampNeg)) (x := 1) hs6
  have tr7 := rr_im (a := 265) (k := ((6 : Int32).toNatClampNeg)) (x := 1) tr6
  have ts7 := ss_im (a := 265) (k := ((6 : Int32).toNatClampNeg)) (x := 1) ts6
  refine aw_iinc (v := 7) [(0, .ref 1), (1, .int 7)] d_X12_init_861 1 rfl (by decide) (Nat.le_of_ble_eq_true rfl) rfl rfl ?_
  refine aw_goto (tgt := 848) d_X12_init_864 rfl ?_
  refine aw_iload_n (i := 1) rfl d_X12_init_848 1 rfl ?_
  refine aw_bipush (v := 8) d_X12_init_849 ib_8 ?_
  refine aw_icmp_ge (tgt := 867) d_X12_init_851 rfl (fun c => absurd c (by decide)) (fun _ => ?_)
  refine aw_aload_n (i := 0) rfl d_X12_init_854 0 rfl ?_
  refine aw_getr (k0 := 84) (b := 265) kc_12 hs7 (Nat.le_of_ble_eq_true rfl) tw_1826 d_X12_init_855 rfl tr7 ?_
  refine aw_iload_n (i := 1) rfl d_X12_init_858 1 rfl ?_
  refine aw_iconst (v := 1) d_X12_init_859 ic_1 ?_
  refine aw_iast (n := 8) ts7 (vin_c (by decide)) d_X12_init_860 ?_
  have hs8 := ss_im (a := 265) (k := ((7 : Int32).toNatClampNeg)) (x := 1) hs7
  have tr8 := rr_im (a := 265) (k := ((7 : Int32).toNatClampNeg)) (x := 1) tr7
  have ts8 := ss_im (a := 265) (k := ((7 : Int32).toNatClampNeg)) (x := 1) ts7
  refine aw_iinc (v := 8) [(0, .ref 1), (1, .int 8)] d_X12_init_861 1 rfl (by decide) (Nat.le_of_ble_eq_true rfl) rfl rfl ?_
  refine aw_goto (tgt := 848) d_X12_init_864 rfl ?_
  refine aw_iload_n (i := 1) rfl d_X12_init_848 1 rfl ?_
  refine aw_bipush (v := 8) d_X12_init_849 ib_8 ?_
  refine aw_icmp_ge (tgt := 867) d_X12_init_851 rfl (fun _ => ?_) (fun c => absurd c (by decide))
  rw [← hB]
  exact aw_vret rfl d_X12_init_867 ⟨show 100 ≤ 100 from Nat.le_refl _, show 288204 ≤ 288204 from Nat.le_refl _⟩ ⟨rfl, rfl⟩
end
section
def hE : Hp_ := (fun _ => none, fun _ _ => 0, fun _ _ => 0, fun _ _ => none)
def G0 : Hp_ := h_nw hE 0 21 16
theorem rng_none {h : Hp_} {lo hi : Nat} (hc : (List.range (hi - lo)).all (fun i => (h_sh h (lo + i)).isNone) = true) : ∀ a, lo ≤ a → a < hi → h_sh h a = none := by
  intro a h1 h2
  have z := List.all_eq_true.mp hc (a - lo) (List.mem_range.mpr (by omega))
  rw [show lo + (a - lo) = a from by omega] at z
  exact Option.isNone_iff_eq_none.mp z
def G1 : Hp_ := h_nw G0 10 19 2
def G2 : Hp_ := CH_10 G1
def G3 : Hp_ := h_rm G2 0 1 (some 10)
def G4 : Hp_ := h_nw G3 11 18 10
def G5 : Hp_ := CH_11 G4
def G6 : Hp_ := h_rm G5 0 2 (some 11)
def G7 : Hp_ := h_nw G6 12 10 4
def G8 : Hp_ := CH_12 G7
def G9 : Hp_ := h_rm G8 0 3 (some 12)
def G10 : Hp_ := h_nw G9 13 20 6
def G11 : Hp_ := CH_13 G10
def G12 : Hp_ := h_rm G11 0 4 (some 13)
def G13 : Hp_ := h_nw G12 14 20 6
def G14 : Hp_ := CH_14 G13
def G15 : Hp_ := h_rm G14 0 5 (some 14)
def G16 : Hp_ := h_nw G15 15 4 12
def G17 : Hp_ := h_rm G16 0 6 (some 15)
def G18 : Hp_ := h_nw G17 16 17 12
def G19 : Hp_ := CH_16 G18
def G20 : Hp_ := h_rm G19 0 8 (some 16)
def G21 : Hp_ := h_nw G20 17 14 17
def G22 : Hp_ := CH_17 G21
def G23 : Hp_ := h_rm G22 0 9 (some 17)
def G24 : Hp_ := h_nw G23 18 11 16
def G25 : Hp_ := CH_18 G24
def G26 : Hp_ := h_rm G25 0 10 (some 18)
def G27 : Hp_ := h_nw G26 19 13 11
def G28 : Hp_ := CH_19 G27
def G29 : Hp_ := h_rm G28 0 11 (some 19)
def G30 : Hp_ := h_nw G29 20 16 20
def G31 : Hp_ := CH_20 G30
def G32 : Hp_ := h_rm G31 0 12 (some 20)
def G33 : Hp_ := h_nw G32 21 15 16
def G34 : Hp_ := CH_21 G33
def G35 : Hp_ := h_rm G34 0 13 (some 21)
def G36 : Hp_ := h_nw G35 400 3 0
def G37 : Hp_ := h_rm G36 0 15 (some 400)
theorem k_X11_init_0 (d : Nat) : Cv (m_X11_init (d + 2) 99 30357) [.ref 0] G0 (fun h' => h' = G37) := by
  refine Ct.of (fun _ _ _ => trivial) rfl (Nat.le_of_ble_eq_true rfl) ?_
  show AW (m_X11_init (d + 2) 99 30357) 0 0 0 [(0, .ref 0)] [] G0 (kV _)
  refine aw_aload_n (i := 0) rfl d_X11_init_0 0 rfl ?_
  refine aw_objInit (rest := []) d_X11_init_1 tw_32 tw_33 tw_34 (show 1 ≤ d + 2 by omega) (show 0 + 12 ≤ 100 * (d + 2) by omega) ?_
  refine aw_aload_n (i := 0) rfl d_X11_init_4 0 rfl ?_
  refine aw_new (ci := 9) 10 kc_9 tw_35 tw_36 tw_2 (by decide +kernel) (by decide) xs0 (show 0 + 1 ≤ 99 from by decide +kernel) (show 0 + 2 ≤ 30357 from by decide +kernel) d_X11_init_5 ?_
  show AW (m_X11_init (d + 2) 99 30357) 1 2 8 [(0, .ref 0)] [.ref 10, .ref 0] G1 (kV _)
  refine aw_dup d_X11_init_8 rfl ?_
  refine aw_callI (vs := []) (a := 10) (rest := [.ref 10, .ref 0]) d_X11_init_9 (cI_X9_init (d + 1) 1 256) ⟨rfl, rfl⟩ tw_38 tw_37 rfl ⟨show d + 1 + 1 ≤ d + 2 by omega, show 8 + (2 + 11) + 100 * (d + 1) ≤ 100 * (d + 2) by omega⟩ (by decide) ⟨show 1 + 1 ≤ 99 from by decide +kernel, show 2 + 256 ≤ 30357 from by decide +kernel⟩ xs0 (k_X9_init_10 d G1 (by decide +kernel) (rng_none (by decide +kernel))) (fun v h9 kk => ?_)
  obtain ⟨rfl, rfl⟩ := kk
  show AW (m_X11_init (d + 2) 99 30357) 2 258 12 [(0, .ref 0)] [.ref 10, .ref 0] G2 (kV _)
  refine aw_putrF (k0 := 1) kc_11 (by decide +kernel) (Nat.le_of_ble_eq_true rfl) tw_488 d_X11_init_12 rfl rfl rfl rfl ?_
  show AW (m_X11_init (d + 2) 99 30357) 2 258 15 [(0, .ref 0)] [] G3 (kV _)
  refine aw_aload_n (i := 0) rfl d_X11_init_15 0 rfl ?_
  refine aw_new (ci := 8) 11 kc_8 tw_52 tw_53 tw_3 (by decide +kernel) (by decide) xs0 (show 2 + 1 ≤ 99 from by decide +kernel) (show 258 + 10 ≤ 30357 from by decide +kernel) d_X11_init_16 ?_
  show AW (m_X11_init (d + 2) 99 30357) 3 268 19 [(0, .ref 0)] [.ref 11, .ref 0] G4 (kV _)
  refine aw_dup d_X11_init_19 rfl ?_
  refine aw_callIN (vs := []) (a := 11) (rest := [.ref 11, .ref 0]) d_X11_init_20 (cI_X8_init (d + 1) 3 474) ⟨rfl, rfl⟩ tw_55 (List.mem_of_getElem? (i := 0) rfl) rfl ⟨show d + 1 + 1 ≤ d + 2 by omega, show 8 + (1 + 11) + 100 * (d + 1) ≤ 100 * (d + 2) by omega⟩ (by decide) ⟨show 3 + 3 ≤ 99 from by decide +kernel, show 268 + 474 ≤ 30357 from by decide +kernel⟩ xs0 (k_X8_init_11 d G4 (by decide +kernel) (rng_none (by decide +kernel))) (fun v h9 kk => ?_)
  obtain ⟨rfl, rfl⟩ := kk
  show AW (m_X11_init (d + 2) 99 30357) 6 742 23 [(0, .ref 0)] [.ref 11, .ref 0] G5 (kV _)
  refine aw_putrF (k0 := 2) kc_11 (by decide +kernel) (Nat.le_of_ble_eq_true rfl) tw_489 d_X11_init_23 rfl rfl rfl rfl ?_
  show AW (m_X11_init (d + 2) 99 30357) 6 742 26 [(0, .ref 0)] [] G6 (kV _)
  refine aw_aload_n (i := 0) rfl d_X11_init_26 0 rfl ?_
  refine aw_new (ci := 0) 12 kc_0 tw_97 tw_98 tw_4 (by decide +kernel) (by decide) xs0 (show 6 + 1 ≤ 99 from by decide +kernel) (show 742 + 4 ≤ 30357 from by decide +kernel) d_X11_init_27 ?_
  show AW (m_X11_init (d + 2) 99 30357) 7 746 30 [(0, .ref 0)] [.ref 12, .ref 0] G7 (kV _)
  refine aw_dup d_X11_init_30 rfl ?_
  refine aw_callIN (vs := []) (a := 12) (rest := [.ref 12, .ref 0]) d_X11_init_31 (cI_X0_init (d + 1) 3 1824) ⟨rfl, rfl⟩ tw_100 (List.mem_of_getElem? (i := 1) rfl) rfl ⟨show d + 1 + 1 ≤ d + 2 by omega, show 8 + (1 + 11) + 100 * (d + 1) ≤ 100 * (d + 2) by omega⟩ (by decide) ⟨show 7 + 3 ≤ 99 from by decide +kernel, show 746 + 1824 ≤ 30357 from by decide +kernel⟩ xs0 (k_X0_init_12 d G7 (by decide +kernel) (rng_none (by decide +kernel))) (fun v h9 kk => ?_)
  obtain ⟨rfl, rfl⟩ := kk
  show AW (m_X11_init (d + 2) 99 30357) 10 2570 34 [(0, .ref 0)] [.ref 12, .ref 0] G8 (kV _)
  refine aw_putrF (k0 := 3) kc_11 (by decide +kernel) (Nat.le_of_ble_eq_true rfl) tw_490 d_X11_init_34 rfl rfl rfl rfl ?_
  show AW (m_X11_init (d + 2) 99 30357) 10 2570 37 [(0, .ref 0)] [] G9 (kV _)
  refine aw_aload_n (i := 0) rfl d_X11_init_37 0 rfl ?_
  refine aw_new (ci := 10) 13 kc_10 tw_118 tw_119 tw_5 (by decide +kernel) (by decide) xs0 (show 10 + 1 ≤ 99 from by decide +kernel) (show 2570 + 6 ≤ 30357 from by decide +kernel) d_X11_init_38 ?_
  show AW (m_X11_init (d + 2) 99 30357) 11 2576 41 [(0, .ref 0)] [.ref 13, .ref 0] G10 (kV _)
  refine aw_dup d_X11_init_41 rfl ?_
  refine aw_callIN (vs := []) (a := 13) (rest := [.ref 13, .ref 0]) d_X11_init_42 (cI_X10_init (d + 1) 5 3504) ⟨rfl, rfl⟩ tw_121 (List.mem_of_getElem? (i := 2) rfl) rfl ⟨show d + 1 + 1 ≤ d + 2 by omega, show 8 + (1 + 11) + 100 * (d + 1) ≤ 100 * (d + 2) by omega⟩ (by decide) ⟨show 11 + 5 ≤ 99 from by decide +kernel, show 2576 + 3504 ≤ 30357 from by decide +kernel⟩ xs0 (k_X10_init_13 d G10 (by decide +kernel) (rng_none (by decide +kernel))) (fun v h9 kk => ?_)
  obtain ⟨rfl, rfl⟩ := kk
  show AW (m_X11_init (d + 2) 99 30357) 16 6080 45 [(0, .ref 0)] [.ref 13, .ref 0] G11 (kV _)
  refine aw_putrF (k0 := 4) kc_11 (by decide +kernel) (Nat.le_of_ble_eq_true rfl) tw_491 d_X11_init_45 rfl rfl rfl rfl ?_
  show AW (m_X11_init (d + 2) 99 30357) 16 6080 48 [(0, .ref 0)] [] G12 (kV _)
  refine aw_aload_n (i := 0) rfl d_X11_init_48 0 rfl ?_
  refine aw_new (ci := 10) 14 kc_10 tw_118 tw_119 tw_5 (by decide +kernel) (by decide) xs0 (show 16 + 1 ≤ 99 from by decide +kernel) (show 6080 + 6 ≤ 30357 from by decide +kernel) d_X11_init_49 ?_
  show AW (m_X11_init (d + 2) 99 30357) 17 6086 52 [(0, .ref 0)] [.ref 14, .ref 0] G13 (kV _)
  refine aw_dup d_X11_init_52 rfl ?_
  refine aw_callIN (vs := []) (a := 14) (rest := [.ref 14, .ref 0]) d_X11_init_53 (cI_X10_init (d + 1) 5 3504) ⟨rfl, rfl⟩ tw_121 (List.mem_of_getElem? (i := 2) rfl) rfl ⟨show d + 1 + 1 ≤ d + 2 by omega, show 8 + (1 + 11) + 100 * (d + 1) ≤ 100 * (d + 2) by omega⟩ (by decide) ⟨show 17 + 5 ≤ 99 from by decide +kernel, show 6086 + 3504 ≤ 30357 from by decide +kernel⟩ xs0 (k_X10_init_14 d G13 (by decide +kernel) (rng_none (by decide +kernel))) (fun v h9 kk => ?_)
  obtain ⟨rfl, rfl⟩ := kk
  show AW (m_X11_init (d + 2) 99 30357) 22 9590 56 [(0, .ref 0)] [.ref 14, .ref 0] G14 (kV _)
  refine aw_putrF (k0 := 5) kc_11 (by decide +kernel) (Nat.le_of_ble_eq_true rfl) tw_492 d_X11_init_56 rfl rfl rfl rfl ?_
  show AW (m_X11_init (d + 2) 99 30357) 22 9590 59 [(0, .ref 0)] [] G15 (kV _)
  refine aw_aload_n (i := 0) rfl d_X11_init_59 0 rfl ?_
  refine aw_bipush (v := 12) d_X11_init_60 ib_12 ?_
  refine aw_newq 15 12 tw_144 (by decide +kernel) (by decide) xs0 (by decide) (by decide) (by decide) (show 22 + 1 ≤ 99 from by decide +kernel) (show 9590 + 12 ≤ 30357 from by decide +kernel) d_X11_init_62 ?_
  show AW (m_X11_init (d + 2) 99 30357) 23 9602 65 [(0, .ref 0)] [.ref 15, .ref 0] G16 (kV _)
  refine aw_putrF (k0 := 6) kc_11 (by decide +kernel) (Nat.le_of_ble_eq_true rfl) tw_493 d_X11_init_65 rfl rfl rfl rfl ?_
  show AW (m_X11_init (d + 2) 99 30357) 23 9602 68 [(0, .ref 0)] [] G17 (kV _)
  refine aw_aload_n (i := 0) rfl d_X11_init_68 0 rfl ?_
  refine aw_new (ci := 7) 16 kc_7 tw_146 tw_147 tw_6 (by decide +kernel) (by decide) xs0 (show 23 + 1 ≤ 99 from by decide +kernel) (show 9602 + 12 ≤ 30357 from by decide +kernel) d_X11_init_69 ?_
  show AW (m_X11_init (d + 2) 99 30357) 24 9614 72 [(0, .ref 0)] [.ref 16, .ref 0] G18 (kV _)
  refine aw_dup d_X11_init_72 rfl ?_
  refine aw_callIN (vs := []) (a := 16) (rest := [.ref 16, .ref 0]) d_X11_init_73 (cI_X7_init (d + 1) 10 3400) ⟨rfl, rfl⟩ tw_149 (List.mem_of_getElem? (i := 3) rfl) rfl ⟨show d + 1 + 1 ≤ d + 2 by omega, show 8 + (1 + 11) + 100 * (d + 1) ≤ 100 * (d + 2) by omega⟩ (by decide) ⟨show 24 + 10 ≤ 99 from by decide +kernel, show 9614 + 3400 ≤ 30357 from by decide +kernel⟩ xs0 (k_X7_init_16 d G18 (by decide +kernel) (rng_none (by decide +kernel))) (fun v h9 kk => ?_)
  obtain ⟨rfl, rfl⟩ := kk
  show AW (m_X11_init (d + 2) 99 30357) 34 13014 76 [(0, .ref 0)] [.ref 16, .ref 0] G19 (kV _)
  refine aw_putrF (k0 := 8) kc_11 (by decide +kernel) (Nat.le_of_ble_eq_true rfl) tw_495 d_X11_init_76 rfl rfl rfl rfl ?_
  show AW (m_X11_init (d + 2) 99 30357) 34 13014 79 [(0, .ref 0)] [] G20 (kV _)
  refine aw_aload_n (i := 0) rfl d_X11_init_79 0 rfl ?_
  refine aw_new (ci := 4) 17 kc_4 tw_190 tw_191 tw_7 (by decide +kernel) (by decide) xs0 (show 34 + 1 ≤ 99 from by decide +kernel) (show 13014 + 17 ≤ 30357 from by decide +kernel) d_X11_init_80 ?_
  show AW (m_X11_init (d + 2) 99 30357) 35 13031 83 [(0, .ref 0)] [.ref 17, .ref 0] G21 (kV _)
  refine aw_dup d_X11_init_83 rfl ?_
  refine aw_callIN (vs := []) (a := 17) (rest := [.ref 17, .ref 0]) d_X11_init_84 (cI_X4_init (d + 1) 14 5060) ⟨rfl, rfl⟩ tw_193 (List.mem_of_getElem? (i := 4) rfl) rfl ⟨show d + 1 + 1 ≤ d + 2 by omega, show 8 + (1 + 11) + 100 * (d + 1) ≤ 100 * (d + 2) by omega⟩ (by decide) ⟨show 35 + 14 ≤ 99 from by decide +kernel, show 13031 + 5060 ≤ 30357 from by decide +kernel⟩ xs0 (k_X4_init_17 d G21 (by decide +kernel) (rng_none (by decide +kernel))) (fun v h9 kk => ?_)
  obtain ⟨rfl, rfl⟩ := kk
  show AW (m_X11_init (d + 2) 99 30357) 49 18091 87 [(0, .ref 0)] [.ref 17, .ref 0] G22 (kV _)
  refine aw_putrF (k0 := 9) kc_11 (by decide +kernel) (Nat.le_of_ble_eq_true rfl) tw_496 d_X11_init_87 rfl rfl rfl rfl ?_
  show AW (m_X11_init (d + 2) 99 30357) 49 18091 90 [(0, .ref 0)] [] G23 (kV _)
  refine aw_aload_n (i := 0) rfl d_X11_init_90 0 rfl ?_
  refine aw_new (ci := 1) 18 kc_1 tw_253 tw_254 tw_8 (by decide +kernel) (by decide) xs0 (show 49 + 1 ≤ 99 from by decide +kernel) (show 18091 + 16 ≤ 30357 from by decide +kernel) d_X11_init_91 ?_
  show AW (m_X11_init (d + 2) 99 30357) 50 18107 94 [(0, .ref 0)] [.ref 18, .ref 0] G24 (kV _)
  refine aw_dup d_X11_init_94 rfl ?_
  refine aw_callI (vs := []) (a := 18) (rest := [.ref 18, .ref 0]) d_X11_init_95 (cI_X1_init (d + 1) 14 1110) ⟨rfl, rfl⟩ tw_256 tw_255 rfl ⟨show d + 1 + 1 ≤ d + 2 by omega, show 8 + (1 + 11) + 100 * (d + 1) ≤ 100 * (d + 2) by omega⟩ (by decide) ⟨show 50 + 14 ≤ 99 from by decide +kernel, show 18107 + 1110 ≤ 30357 from by decide +kernel⟩ xs0 (k_X1_init_18 d G24 (by decide +kernel) (rng_none (by decide +kernel))) (fun v h9 kk => ?_)
  obtain ⟨rfl, rfl⟩ := kk
  show AW (m_X11_init (d + 2) 99 30357) 64 19217 98 [(0, .ref 0)] [.ref 18, .ref 0] G25 (kV _)
  refine aw_putrF (k0 := 10) kc_11 (by decide +kernel) (Nat.le_of_ble_eq_true rfl) tw_497 d_X11_init_98 rfl rfl rfl rfl ?_
  show AW (m_X11_init (d + 2) 99 30357) 64 19217 101 [(0, .ref 0)] [] G26 (kV _)
  refine aw_aload_n (i := 0) rfl d_X11_init_101 0 rfl ?_
  refine aw_new (ci := 3) 19 kc_3 tw_315 tw_316 tw_10 (by decide +kernel) (by decide) xs0 (show 64 + 1 ≤ 99 from by decide +kernel) (show 19217 + 11 ≤ 30357 from by decide +kernel) d_X11_init_102 ?_
  show AW (m_X11_init (d + 2) 99 30357) 65 19228 105 [(0, .ref 0)] [.ref 19, .ref 0] G27 (kV _)
  refine aw_dup d_X11_init_105 rfl ?_
  refine aw_callIN (vs := []) (a := 19) (rest := [.ref 19, .ref 0]) d_X11_init_106 (cI_X3_init (d + 1) 7 4704) ⟨rfl, rfl⟩ tw_318 (List.mem_of_getElem? (i := 5) rfl) rfl ⟨show d + 1 + 1 ≤ d + 2 by omega, show 8 + (1 + 11) + 100 * (d + 1) ≤ 100 * (d + 2) by omega⟩ (by decide) ⟨show 65 + 7 ≤ 99 from by decide +kernel, show 19228 + 4704 ≤ 30357 from by decide +kernel⟩ xs0 (k_X3_init_19 d G27 (by decide +kernel) (rng_none (by decide +kernel))) (fun v h9 kk => ?_)
  obtain ⟨rfl, rfl⟩ := kk
  show AW (m_X11_init (d + 2) 99 30357) 72 23932 109 [(0, .ref 0)] [.ref 19, .ref 0] G28 (kV _)
  refine aw_putrF (k0 := 11) kc_11 (by decide +kernel) (Nat.le_of_ble_eq_true rfl) tw_498 d_X11_init_109 rfl rfl rfl rfl ?_
  show AW (m_X11_init (d + 2) 99 30357) 72 23932 112 [(0, .ref 0)] [] G29 (kV _)
  refine aw_aload_n (i := 0) rfl d_X11_init_112 0 rfl ?_
  refine aw_new (ci := 6) 20 kc_6 tw_357 tw_358 tw_11 (by decide +kernel) (by decide) xs0 (show 72 + 1 ≤ 99 from by decide +kernel) (show 23932 + 20 ≤ 30357 from by decide +kernel) d_X11_init_113 ?_
  show AW (m_X11_init (d + 2) 99 30357) 73 23952 116 [(0, .ref 0)] [.ref 20, .ref 0] G30 (kV _)
  refine aw_dup d_X11_init_116 rfl ?_
  refine aw_callIN (vs := []) (a := 20) (rest := [.ref 20, .ref 0]) d_X11_init_117 (cI_X6_init (d + 1) 12 3439) ⟨rfl, rfl⟩ tw_360 (List.mem_of_getElem? (i := 6) rfl) rfl ⟨show d + 1 + 1 ≤ d + 2 by omega, show 8 + (1 + 11) + 100 * (d + 1) ≤ 100 * (d + 2) by omega⟩ (by decide) ⟨show 73 + 12 ≤ 99 from by decide +kernel, show 23952 + 3439 ≤ 30357 from by decide +kernel⟩ xs0 (k_X6_init_20 d G30 (by decide +kernel) (rng_none (by decide +kernel))) (fun v h9 kk => ?_)
  obtain ⟨rfl, rfl⟩ := kk
  show AW (m_X11_init (d + 2) 99 30357) 85 27391 120 [(0, .ref 0)] [.ref 20, .ref 0] G31 (kV _)
  refine aw_putrF (k0 := 12) kc_11 (by decide +kernel) (Nat.le_of_ble_eq_true rfl) tw_499 d_X11_init_120 rfl rfl rfl rfl ?_
  show AW (m_X11_init (d + 2) 99 30357) 85 27391 123 [(0, .ref 0)] [] G32 (kV _)
  refine aw_aload_n (i := 0) rfl d_X11_init_123 0 rfl ?_
  refine aw_new (ci := 5) 21 kc_5 tw_427 tw_428 tw_12 (by decide +kernel) (by decide) xs0 (show 85 + 1 ≤ 99 from by decide +kernel) (show 27391 + 16 ≤ 30357 from by decide +kernel) d_X11_init_124 ?_
  show AW (m_X11_init (d + 2) 99 30357) 86 27407 127 [(0, .ref 0)] [.ref 21, .ref 0] G33 (kV _)
  refine aw_dup d_X11_init_127 rfl ?_
  refine aw_callI (vs := []) (a := 21) (rest := [.ref 21, .ref 0]) d_X11_init_128 (cI_X5_init (d + 1) 12 2950) ⟨rfl, rfl⟩ tw_430 tw_429 rfl ⟨show d + 1 + 1 ≤ d + 2 by omega, show 8 + (1 + 11) + 100 * (d + 1) ≤ 100 * (d + 2) by omega⟩ (by decide) ⟨show 86 + 12 ≤ 99 from by decide +kernel, show 27407 + 2950 ≤ 30357 from by decide +kernel⟩ xs0 (k_X5_init_21 d G33 (by decide +kernel) (rng_none (by decide +kernel))) (fun v h9 kk => ?_)
  obtain ⟨rfl, rfl⟩ := kk
  show AW (m_X11_init (d + 2) 99 30357) 98 30357 131 [(0, .ref 0)] [.ref 21, .ref 0] G34 (kV _)
  refine aw_putrF (k0 := 13) kc_11 (by decide +kernel) (Nat.le_of_ble_eq_true rfl) tw_500 d_X11_init_131 rfl rfl rfl rfl ?_
  show AW (m_X11_init (d + 2) 99 30357) 98 30357 134 [(0, .ref 0)] [] G35 (kV _)
  refine aw_aload_n (i := 0) rfl d_X11_init_134 0 rfl ?_
  refine aw_iconst (v := 0) d_X11_init_135 ic_0 ?_
  refine aw_newa (t := 3) (atype := .long) 400 0 (by decide) rfl tw_426 (by decide +kernel) (by decide) xs0 (by decide) (by decide) (by decide) (show 98 + 1 ≤ 99 from by decide +kernel) (show 30357 + 0 ≤ 30357 from by decide +kernel) d_X11_init_136 ?_
  show AW (m_X11_init (d + 2) 99 30357) 99 30357 138 [(0, .ref 0)] [.ref 400, .ref 0] G36 (kV _)
  refine aw_putr (k0 := 15) kc_11 (by decide +kernel) (Nat.le_of_ble_eq_true rfl) tw_502 d_X11_init_138 rfl rfl ?_
  show AW (m_X11_init (d + 2) 99 30357) 99 30357 141 [(0, .ref 0)] [] G37 (kV _)
  exact aw_vret rfl d_X11_init_141 ⟨show 99 ≤ 99 from Nat.le_refl _, show 30357 ≤ 30357 from Nat.le_refl _⟩ ⟨rfl, rfl⟩
def GM0 : Hp_ := h_nw G37 1 22 131
noncomputable def HF : Hp_ := h_nw (CH_1 GM0) 2 3 1
theorem wHF : Wf HF := by
  have h1 : shL.all (fun q => decide (h_sh HF q.1 = some q.2)) = true := by decide +kernel
  have h2 : rfL.all (fun q => decide (h_r HF q.1 q.2.1 = some q.2.2)) = true := by decide +kernel
  exact ⟨fun q hq => of_decide_eq_true (List.all_eq_true.mp h1 q hq), fun q hq => of_decide_eq_true (List.all_eq_true.mp h2 q hq)⟩
end
section
theorem d_L_7 : decode code 7 = .ok (.astore_n 1, 1) := by decide +kernel
theorem d_L_15 : decode code 15 = .ok (.astore_n 2, 1) := by decide +kernel
theorem d_L_17 : decode code 17 = .ok (.newarray .long, 2) := by decide +kernel
theorem d_L_19 : decode code 19 = .ok (.astore_n 3, 1) := by decide +kernel
theorem d_L_40 : decode code 40 = .ok (.tableswitch 2366 0 56 #[244, 293, 330, 379, 452, 477, 502, 515, 552, 589, 638, 691, 716, 756, 793, 842, 879, 916, 989, 1014, 1051, 1088, 1125, 1150, 1175, 1212, 1249, 1326, 1351, 1400, 1449, 1498, 1523, 1576, 1601, 1614, 1639, 1664, 1689, 1738, 1775, 1800, 1837, 1886, 1911, 1936, 1947, 1972, 2021, 2070, 2119, 2132, 2169, 2218, 2243, 2280, 2341], 244) := by decide +kernel
theorem db67e_0 : Pf_ code [(0, [0xbb, 0x00, 0x08]), (3, [0x59]), (4, [0xb7, 0x00, 0x0f]), (8, [0xbb, 0x00, 0x10]), (11, [0x59]), (12, [0xb7, 0x00, 0x12]), (16, [0x04]), (20, [0x03]), (21, [0x36, 0x04]), (23, [0x15, 0x04]), (25, [0x2a]), (26, [0xbe]), (27, [0x10, 0x06]), (29, [0x64]), (30, [0xa3, 0x09, 0x4e]), (33, [0x2a]), (34, [0x15, 0x04]), (36, [0x2e]), (37, [0x10, 0x3f]), (39, [0x7e]), (284, [0x2b]), (285, [0x2a]), (286, [0x15, 0x04]), (288, [0x04])] := pf_ok code _ 0 (by decide +kernel)
theorem d_L_0 : decode code 0 = .ok (.new 8, 3) := gq_0 db67e_0 eb_1359
theorem d_L_3 : decode code 3 = .ok (.dup, 1) := gq_1 db67e_0 eb_46
theorem d_L_4 : decode code 4 = .ok (.invokespecial 15, 3) := gq_2 db67e_0 eb_1360
theorem d_L_8 : decode code 8 = .ok (.new 16, 3) := gq_3 db67e_0 eb_581
theorem d_L_11 : decode code 11 = .ok (.dup, 1) := gq_4 db67e_0 eb_46
theorem d_L_12 : decode code 12 = .ok (.invokespecial 18, 3) := gq_5 db67e_0 eb_582
theorem d_L_16 : decode code 16 = .ok (.iconst 1, 1) := gq_6 db67e_0 eb_19
theorem d_L_20 : decode code 20 = .ok (.iconst 0, 1) := gq_7 db67e_0 eb_21
theorem d_L_21 : decode code 21 = .ok (.istore 4, 2) := gq_8 db67e_0 eb_133
theorem d_L_23 : decode code 23 = .ok (.iload 4, 2) := gq_9 db67e_0 eb_76
theorem d_L_25 : decode code 25 = .ok (.aload_n 0, 1) := gq_10 db67e_0 eb_0
theorem d_L_26 : decode code 26 = .ok (.arraylength, 1) := gq_11 db67e_0 eb_52
theorem d_L_27 : decode code 27 = .ok (.bipush 6, 2) := gq_12 db67e_0 eb_14
theorem d_L_29 : decode code 29 = .ok (.isub, 1) := gq_13 db67e_0 eb_48
theorem d_L_30 : decode code 30 = .ok (.if_icmp .gt 2382, 3) := gq_14 db67e_0 eb_1361
theorem d_L_33 : decode code 33 = .ok (.aload_n 0, 1) := gq_15 db67e_0 eb_0
theorem d_L_34 : decode code 34 = .ok (.iload 4, 2) := gq_16 db67e_0 eb_76
theorem d_L_36 : decode code 36 = .ok (.iaload, 1) := gq_17 db67e_0 eb_37
theorem d_L_37 : decode code 37 = .ok (.bipush 63, 2) := gq_18 db67e_0 eb_497
theorem d_L_39 : decode code 39 = .ok (.iand, 1) := gq_19 db67e_0 eb_55
theorem d_L_284 : decode code 284 = .ok (.aload_n 1, 1) := gq_20 db67e_0 eb_23
theorem d_L_285 : decode code 285 = .ok (.aload_n 0, 1) := gq_21 db67e_0 eb_0
theorem d_L_286 : decode code 286 = .ok (.iload 4, 2) := gq_22 db67e_0 eb_76
theorem d_L_288 : decode code 288 = .ok (.iconst 1, 1) := gq_23 db67e_0 eb_19
theorem db67e_1 : Pf_ code [(289, [0x60]), (290, [0x2e]), (291, [0x2a]), (292, [0x15, 0x04]), (294, [0x05]), (295, [0x60]), (296, [0x2e]), (297, [0x2a]), (298, [0x15, 0x04]), (300, [0x06]), (301, [0x60]), (302, [0x2e]), (303, [0xb6, 0x00, 0x13]), (306, [0x57]), (307, [0x2c]), (308, [0x2a]), (309, [0x15, 0x04]), (311, [0x04]), (312, [0x60]), (313, [0x2e]), (314, [0x2a]), (315, [0x15, 0x04]), (317, [0x05]), (318, [0x60])] := pf_ok code _ 289 (by decide +kernel)
theorem d_L_289 : decode code 289 = .ok (.iadd, 1) := gq_0 db67e_1 eb_35
theorem d_L_290 : decode code 290 = .ok (.iaload, 1) := gq_1 db67e_1 eb_37
theorem d_L_291 : decode code 291 = .ok (.aload_n 0, 1) := gq_2 db67e_1 eb_0
theorem d_L_292 : decode code 292 = .ok (.iload 4, 2) := gq_3 db67e_1 eb_76
theorem d_L_294 : decode code 294 = .ok (.iconst 2, 1) := gq_4 db67e_1 eb_10
theorem d_L_295 : decode code 295 = .ok (.iadd, 1) := gq_5 db67e_1 eb_35
theorem d_L_296 : decode code 296 = .ok (.iaload, 1) := gq_6 db67e_1 eb_37
theorem d_L_297 : decode code 297 = .ok (.aload_n 0, 1) := gq_7 db67e_1 eb_0
theorem d_L_298 : decode code 298 = .ok (.iload 4, 2) := gq_8 db67e_1 eb_76
theorem d_L_300 : decode code 300 = .ok (.iconst 3, 1) := gq_9 db67e_1 eb_54
theorem d_L_301 : decode code 301 = .ok (.iadd, 1) := gq_10 db67e_1 eb_35
theorem d_L_302 : decode code 302 = .ok (.iaload, 1) := gq_11 db67e_1 eb_37
theorem d_L_303 : decode code 303 = .ok (.invokevirtual 19, 3) := gq_12 db67e_1 eb_1362
theorem d_L_306 : decode code 306 = .ok (.pop, 1) := gq_13 db67e_1 eb_466
theorem d_L_307 : decode code 307 = .ok (.aload_n 2, 1) := gq_14 db67e_1 eb_301
theorem d_L_308 : decode code 308 = .ok (.aload_n 0, 1) := gq_15 db67e_1 eb_0
theorem d_L_309 : decode code 309 = .ok (.iload 4, 2) := gq_16 db67e_1 eb_76
theorem d_L_311 : decode code 311 = .ok (.iconst 1, 1) := gq_17 db67e_1 eb_19
theorem d_L_312 : decode code 312 = .ok (.iadd, 1) := gq_18 db67e_1 eb_35
theorem d_L_313 : decode code 313 = .ok (.iaload, 1) := gq_19 db67e_1 eb_37
theorem d_L_314 : decode code 314 = .ok (.aload_n 0, 1) := gq_20 db67e_1 eb_0
theorem d_L_315 : decode code 315 = .ok (.iload 4, 2) := gq_21 db67e_1 eb_76
theorem d_L_317 : decode code 317 = .ok (.iconst 2, 1) := gq_22 db67e_1 eb_10
theorem d_L_318 : decode code 318 = .ok (.iadd, 1) := gq_23 db67e_1 eb_35
theorem db67e_2 : Pf_ code [(319, [0x2e]), (320, [0x2a]), (321, [0x15, 0x04]), (323, [0x06]), (324, [0x60]), (325, [0x2e]), (326, [0xb6, 0x00, 0x17]), (329, [0x57]), (330, [0xa7, 0x08, 0x1c]), (333, [0x2b]), (334, [0x2a]), (335, [0x15, 0x04]), (337, [0x04]), (338, [0x60]), (339, [0x2e]), (340, [0x2a]), (341, [0x15, 0x04]), (343, [0x05]), (344, [0x60]), (345, [0x2e]), (346, [0xb6, 0x00, 0x18]), (349, [0x57]), (350, [0x2c]), (351, [0x2a])] := pf_ok code _ 319 (by decide +kernel)
theorem d_L_319 : decode code 319 = .ok (.iaload, 1) := gq_0 db67e_2 eb_37
theorem d_L_320 : decode code 320 = .ok (.aload_n 0, 1) := gq_1 db67e_2 eb_0
theorem d_L_321 : decode code 321 = .ok (.iload 4, 2) := gq_2 db67e_2 eb_76
theorem d_L_323 : decode code 323 = .ok (.iconst 3, 1) := gq_3 db67e_2 eb_54
theorem d_L_324 : decode code 324 = .ok (.iadd, 1) := gq_4 db67e_2 eb_35
theorem d_L_325 : decode code 325 = .ok (.iaload, 1) := gq_5 db67e_2 eb_37
theorem d_L_326 : decode code 326 = .ok (.invokevirtual 23, 3) := gq_6 db67e_2 eb_1363
theorem d_L_329 : decode code 329 = .ok (.pop, 1) := gq_7 db67e_2 eb_466
theorem d_L_330 : decode code 330 = .ok (.goto 2076, 3) := gq_8 db67e_2 eb_1364
theorem d_L_333 : decode code 333 = .ok (.aload_n 1, 1) := gq_9 db67e_2 eb_23
theorem d_L_334 : decode code 334 = .ok (.aload_n 0, 1) := gq_10 db67e_2 eb_0
theorem d_L_335 : decode code 335 = .ok (.iload 4, 2) := gq_11 db67e_2 eb_76
theorem d_L_337 : decode code 337 = .ok (.iconst 1, 1) := gq_12 db67e_2 eb_19
theorem d_L_338 : decode code 338 = .ok (.iadd, 1) := gq_13 db67e_2 eb_35
theorem d_L_339 : decode code 339 = .ok (.iaload, 1) := gq_14 db67e_2 eb_37
theorem d_L_340 : decode code 340 = .ok (.aload_n 0, 1) := gq_15 db67e_2 eb_0
theorem d_L_341 : decode code 341 = .ok (.iload 4, 2) := gq_16 db67e_2 eb_76
theorem d_L_343 : decode code 343 = .ok (.iconst 2, 1) := gq_17 db67e_2 eb_10
theorem d_L_344 : decode code 344 = .ok (.iadd, 1) := gq_18 db67e_2 eb_35
theorem d_L_345 : decode code 345 = .ok (.iaload, 1) := gq_19 db67e_2 eb_37
theorem d_L_346 : decode code 346 = .ok (.invokevirtual 24, 3) := gq_20 db67e_2 eb_1365
theorem d_L_349 : decode code 349 = .ok (.pop, 1) := gq_21 db67e_2 eb_466
theorem d_L_350 : decode code 350 = .ok (.aload_n 2, 1) := gq_22 db67e_2 eb_301
theorem d_L_351 : decode code 351 = .ok (.aload_n 0, 1) := gq_23 db67e_2 eb_0
theorem db67e_3 : Pf_ code [(352, [0x15, 0x04]), (354, [0x04]), (355, [0x60]), (356, [0x2e]), (357, [0x2a]), (358, [0x15, 0x04]), (360, [0x05]), (361, [0x60]), (362, [0x2e]), (363, [0xb6, 0x00, 0x1b]), (366, [0x57]), (367, [0xa7, 0x07, 0xf7]), (370, [0x2b]), (371, [0x2a]), (372, [0x15, 0x04]), (374, [0x04]), (375, [0x60]), (376, [0x2e]), (377, [0x2a]), (378, [0x15, 0x04]), (380, [0x05]), (381, [0x60]), (382, [0x2e]), (383, [0x2a])] := pf_ok code _ 352 (by decide +kernel)
theorem d_L_352 : decode code 352 = .ok (.iload 4, 2) := gq_0 db67e_3 eb_76
theorem d_L_354 : decode code 354 = .ok (.iconst 1, 1) := gq_1 db67e_3 eb_19
theorem d_L_355 : decode code 355 = .ok (.iadd, 1) := gq_2 db67e_3 eb_35
theorem d_L_356 : decode code 356 = .ok (.iaload, 1) := gq_3 db67e_3 eb_37
theorem d_L_357 : decode code 357 = .ok (.aload_n 0, 1) := gq_4 db67e_3 eb_0
theorem d_L_358 : decode code 358 = .ok (.iload 4, 2) := gq_5 db67e_3 eb_76
theorem d_L_360 : decode code 360 = .ok (.iconst 2, 1) := gq_6 db67e_3 eb_10
theorem d_L_361 : decode code 361 = .ok (.iadd, 1) := gq_7 db67e_3 eb_35
theorem d_L_362 : decode code 362 = .ok (.iaload, 1) := gq_8 db67e_3 eb_37
theorem d_L_363 : decode code 363 = .ok (.invokevirtual 27, 3) := gq_9 db67e_3 eb_1366
theorem d_L_366 : decode code 366 = .ok (.pop, 1) := gq_10 db67e_3 eb_466
theorem d_L_367 : decode code 367 = .ok (.goto 2039, 3) := gq_11 db67e_3 eb_1367
theorem d_L_370 : decode code 370 = .ok (.aload_n 1, 1) := gq_12 db67e_3 eb_23
theorem d_L_371 : decode code 371 = .ok (.aload_n 0, 1) := gq_13 db67e_3 eb_0
theorem d_L_372 : decode code 372 = .ok (.iload 4, 2) := gq_14 db67e_3 eb_76
theorem d_L_374 : decode code 374 = .ok (.iconst 1, 1) := gq_15 db67e_3 eb_19
theorem d_L_375 : decode code 375 = .ok (.iadd, 1) := gq_16 db67e_3 eb_35
theorem d_L_376 : decode code 376 = .ok (.iaload, 1) := gq_17 db67e_3 eb_37
theorem d_L_377 : decode code 377 = .ok (.aload_n 0, 1) := gq_18 db67e_3 eb_0
theorem d_L_378 : decode code 378 = .ok (.iload 4, 2) := gq_19 db67e_3 eb_76
theorem d_L_380 : decode code 380 = .ok (.iconst 2, 1) := gq_20 db67e_3 eb_10
theorem d_L_381 : decode code 381 = .ok (.iadd, 1) := gq_21 db67e_3 eb_35
theorem d_L_382 : decode code 382 = .ok (.iaload, 1) := gq_22 db67e_3 eb_37
theorem d_L_383 : decode code 383 = .ok (.aload_n 0, 1) := gq_23 db67e_3 eb_0
theorem db67e_4 : Pf_ code [(384, [0x15, 0x04]), (386, [0x06]), (387, [0x60]), (388, [0x2e]), (389, [0xb6, 0x00, 0x1c]), (392, [0x57]), (393, [0x2c]), (394, [0x2a]), (395, [0x15, 0x04]), (397, [0x04]), (398, [0x60]), (399, [0x2e]), (400, [0x2a]), (401, [0x15, 0x04]), (403, [0x05]), (404, [0x60]), (405, [0x2e]), (406, [0x2a]), (407, [0x15, 0x04]), (409, [0x06]), (410, [0x60]), (411, [0x2e]), (412, [0xb6, 0x00, 0x1f]), (415, [0x57])] := pf_ok code _ 384 (by decide +kernel)
theorem d_L_384 : decode code 384 = .ok (.iload 4, 2) := gq_0 db67e_4 eb_76
theorem d_L_386 : decode code 386 = .ok (.iconst 3, 1) := gq_1 db67e_4 eb_54
theorem d_L_387 : decode code 387 = .ok (.iadd, 1) := gq_2 db67e_4 eb_35
theorem d_L_388 : decode code 388 = .ok (.iaload, 1) := gq_3 db67e_4 eb_37
theorem d_L_389 : decode code 389 = .ok (.invokevirtual 28, 3) := gq_4 db67e_4 eb_1368
theorem d_L_392 : decode code 392 = .ok (.pop, 1) := gq_5 db67e_4 eb_466
theorem d_L_393 : decode code 393 = .ok (.aload_n 2, 1) := gq_6 db67e_4 eb_301
theorem d_L_394 : decode code 394 = .ok (.aload_n 0, 1) := gq_7 db67e_4 eb_0
theorem d_L_395 : decode code 395 = .ok (.iload 4, 2) := gq_8 db67e_4 eb_76
theorem d_L_397 : decode code 397 = .ok (.iconst 1, 1) := gq_9 db67e_4 eb_19
theorem d_L_398 : decode code 398 = .ok (.iadd, 1) := gq_10 db67e_4 eb_35
theorem d_L_399 : decode code 399 = .ok (.iaload, 1) := gq_11 db67e_4 eb_37
theorem d_L_400 : decode code 400 = .ok (.aload_n 0, 1) := gq_12 db67e_4 eb_0
theorem d_L_401 : decode code 401 = .ok (.iload 4, 2) := gq_13 db67e_4 eb_76
theorem d_L_403 : decode code 403 = .ok (.iconst 2, 1) := gq_14 db67e_4 eb_10
theorem d_L_404 : decode code 404 = .ok (.iadd, 1) := gq_15 db67e_4 eb_35
theorem d_L_405 : decode code 405 = .ok (.iaload, 1) := gq_16 db67e_4 eb_37
theorem d_L_406 : decode code 406 = .ok (.aload_n 0, 1) := gq_17 db67e_4 eb_0
theorem d_L_407 : decode code 407 = .ok (.iload 4, 2) := gq_18 db67e_4 eb_76
theorem d_L_409 : decode code 409 = .ok (.iconst 3, 1) := gq_19 db67e_4 eb_54
theorem d_L_410 : decode code 410 = .ok (.iadd, 1) := gq_20 db67e_4 eb_35
theorem d_L_411 : decode code 411 = .ok (.iaload, 1) := gq_21 db67e_4 eb_37
theorem d_L_412 : decode code 412 = .ok (.invokevirtual 31, 3) := gq_22 db67e_4 eb_1369
theorem d_L_415 : decode code 415 = .ok (.pop, 1) := gq_23 db67e_4 eb_466
theorem db67e_5 : Pf_ code [(416, [0xa7, 0x07, 0xc6]), (419, [0x2b]), (420, [0x2a]), (421, [0x15, 0x04]), (423, [0x04]), (424, [0x60]), (425, [0x2e]), (426, [0x2a]), (427, [0x15, 0x04]), (429, [0x05]), (430, [0x60]), (431, [0x2e]), (432, [0x2a]), (433, [0x15, 0x04]), (435, [0x06]), (436, [0x60]), (437, [0x2e]), (438, [0x2a]), (439, [0x15, 0x04]), (441, [0x07]), (442, [0x60]), (443, [0x2e]), (444, [0x2a]), (445, [0x15, 0x04])] := pf_ok code _ 416 (by decide +kernel)
theorem d_L_416 : decode code 416 = .ok (.goto 1990, 3) := gq_0 db67e_5 eb_1370
theorem d_L_419 : decode code 419 = .ok (.aload_n 1, 1) := gq_1 db67e_5 eb_23
theorem d_L_420 : decode code 420 = .ok (.aload_n 0, 1) := gq_2 db67e_5 eb_0
theorem d_L_421 : decode code 421 = .ok (.iload 4, 2) := gq_3 db67e_5 eb_76
theorem d_L_423 : decode code 423 = .ok (.iconst 1, 1) := gq_4 db67e_5 eb_19
theorem d_L_424 : decode code 424 = .ok (.iadd, 1) := gq_5 db67e_5 eb_35
theorem d_L_425 : decode code 425 = .ok (.iaload, 1) := gq_6 db67e_5 eb_37
theorem d_L_426 : decode code 426 = .ok (.aload_n 0, 1) := gq_7 db67e_5 eb_0
theorem d_L_427 : decode code 427 = .ok (.iload 4, 2) := gq_8 db67e_5 eb_76
theorem d_L_429 : decode code 429 = .ok (.iconst 2, 1) := gq_9 db67e_5 eb_10
theorem d_L_430 : decode code 430 = .ok (.iadd, 1) := gq_10 db67e_5 eb_35
theorem d_L_431 : decode code 431 = .ok (.iaload, 1) := gq_11 db67e_5 eb_37
theorem d_L_432 : decode code 432 = .ok (.aload_n 0, 1) := gq_12 db67e_5 eb_0
theorem d_L_433 : decode code 433 = .ok (.iload 4, 2) := gq_13 db67e_5 eb_76
theorem d_L_435 : decode code 435 = .ok (.iconst 3, 1) := gq_14 db67e_5 eb_54
theorem d_L_436 : decode code 436 = .ok (.iadd, 1) := gq_15 db67e_5 eb_35
theorem d_L_437 : decode code 437 = .ok (.iaload, 1) := gq_16 db67e_5 eb_37
theorem d_L_438 : decode code 438 = .ok (.aload_n 0, 1) := gq_17 db67e_5 eb_0
theorem d_L_439 : decode code 439 = .ok (.iload 4, 2) := gq_18 db67e_5 eb_76
theorem d_L_441 : decode code 441 = .ok (.iconst 4, 1) := gq_19 db67e_5 eb_291
theorem d_L_442 : decode code 442 = .ok (.iadd, 1) := gq_20 db67e_5 eb_35
theorem d_L_443 : decode code 443 = .ok (.iaload, 1) := gq_21 db67e_5 eb_37
theorem d_L_444 : decode code 444 = .ok (.aload_n 0, 1) := gq_22 db67e_5 eb_0
theorem d_L_445 : decode code 445 = .ok (.iload 4, 2) := gq_23 db67e_5 eb_76
theorem db67e_6 : Pf_ code [(447, [0x08]), (448, [0x60]), (449, [0x2e]), (450, [0xb6, 0x00, 0x20]), (453, [0x57]), (454, [0x2c]), (455, [0x2a]), (456, [0x15, 0x04]), (458, [0x04]), (459, [0x60]), (460, [0x2e]), (461, [0x2a]), (462, [0x15, 0x04]), (464, [0x05]), (465, [0x60]), (466, [0x2e]), (467, [0x2a]), (468, [0x15, 0x04]), (470, [0x06]), (471, [0x60]), (472, [0x2e]), (473, [0x2a]), (474, [0x15, 0x04]), (476, [0x07])] := pf_ok code _ 447 (by decide +kernel)
theorem d_L_447 : decode code 447 = .ok (.iconst 5, 1) := gq_0 db67e_6 eb_122
theorem d_L_448 : decode code 448 = .ok (.iadd, 1) := gq_1 db67e_6 eb_35
theorem d_L_449 : decode code 449 = .ok (.iaload, 1) := gq_2 db67e_6 eb_37
theorem d_L_450 : decode code 450 = .ok (.invokevirtual 32, 3) := gq_3 db67e_6 eb_1371
theorem d_L_453 : decode code 453 = .ok (.pop, 1) := gq_4 db67e_6 eb_466
theorem d_L_454 : decode code 454 = .ok (.aload_n 2, 1) := gq_5 db67e_6 eb_301
theorem d_L_455 : decode code 455 = .ok (.aload_n 0, 1) := gq_6 db67e_6 eb_0
theorem d_L_456 : decode code 456 = .ok (.iload 4, 2) := gq_7 db67e_6 eb_76
theorem d_L_458 : decode code 458 = .ok (.iconst 1, 1) := gq_8 db67e_6 eb_19
theorem d_L_459 : decode code 459 = .ok (.iadd, 1) := gq_9 db67e_6 eb_35
theorem d_L_460 : decode code 460 = .ok (.iaload, 1) := gq_10 db67e_6 eb_37
theorem d_L_461 : decode code 461 = .ok (.aload_n 0, 1) := gq_11 db67e_6 eb_0
theorem d_L_462 : decode code 462 = .ok (.iload 4, 2) := gq_12 db67e_6 eb_76
theorem d_L_464 : decode code 464 = .ok (.iconst 2, 1) := gq_13 db67e_6 eb_10
theorem d_L_465 : decode code 465 = .ok (.iadd, 1) := gq_14 db67e_6 eb_35
theorem d_L_466 : decode code 466 = .ok (.iaload, 1) := gq_15 db67e_6 eb_37
theorem d_L_467 : decode code 467 = .ok (.aload_n 0, 1) := gq_16 db67e_6 eb_0
theorem d_L_468 : decode code 468 = .ok (.iload 4, 2) := gq_17 db67e_6 eb_76
theorem d_L_470 : decode code 470 = .ok (.iconst 3, 1) := gq_18 db67e_6 eb_54
theorem d_L_471 : decode code 471 = .ok (.iadd, 1) := gq_19 db67e_6 eb_35
theorem d_L_472 : decode code 472 = .ok (.iaload, 1) := gq_20 db67e_6 eb_37
theorem d_L_473 : decode code 473 = .ok (.aload_n 0, 1) := gq_21 db67e_6 eb_0
theorem d_L_474 : decode code 474 = .ok (.iload 4, 2) := gq_22 db67e_6 eb_76
theorem d_L_476 : decode code 476 = .ok (.iconst 4, 1) := gq_23 db67e_6 eb_291
theorem db67e_7 : Pf_ code [(477, [0x60]), (478, [0x2e]), (479, [0x2a]), (480, [0x15, 0x04]), (482, [0x08]), (483, [0x60]), (484, [0x2e]), (485, [0xb6, 0x00, 0x24]), (488, [0x57]), (489, [0xa7, 0x07, 0x7d]), (492, [0x2b]), (493, [0x2a]), (494, [0x15, 0x04]), (496, [0x04]), (497, [0x60]), (498, [0x2e]), (499, [0xb6, 0x00, 0x25]), (502, [0x57]), (503, [0x2c]), (504, [0x2a]), (505, [0x15, 0x04]), (507, [0x04]), (508, [0x60]), (509, [0x2e])] := pf_ok code _ 477 (by decide +kernel)
theorem d_L_477 : decode code 477 = .ok (.iadd, 1) := gq_0 db67e_7 eb_35
theorem d_L_478 : decode code 478 = .ok (.iaload, 1) := gq_1 db67e_7 eb_37
theorem d_L_479 : decode code 479 = .ok (.aload_n 0, 1) := gq_2 db67e_7 eb_0
theorem d_L_480 : decode code 480 = .ok (.iload 4, 2) := gq_3 db67e_7 eb_76
theorem d_L_482 : decode code 482 = .ok (.iconst 5, 1) := gq_4 db67e_7 eb_122
theorem d_L_483 : decode code 483 = .ok (.iadd, 1) := gq_5 db67e_7 eb_35
theorem d_L_484 : decode code 484 = .ok (.iaload, 1) := gq_6 db67e_7 eb_37
theorem d_L_485 : decode code 485 = .ok (.invokevirtual 36, 3) := gq_7 db67e_7 eb_1372
theorem d_L_488 : decode code 488 = .ok (.pop, 1) := gq_8 db67e_7 eb_466
theorem d_L_489 : decode code 489 = .ok (.goto 1917, 3) := gq_9 db67e_7 eb_1373
theorem d_L_492 : decode code 492 = .ok (.aload_n 1, 1) := gq_10 db67e_7 eb_23
theorem d_L_493 : decode code 493 = .ok (.aload_n 0, 1) := gq_11 db67e_7 eb_0
theorem d_L_494 : decode code 494 = .ok (.iload 4, 2) := gq_12 db67e_7 eb_76
theorem d_L_496 : decode code 496 = .ok (.iconst 1, 1) := gq_13 db67e_7 eb_19
theorem d_L_497 : decode code 497 = .ok (.iadd, 1) := gq_14 db67e_7 eb_35
theorem d_L_498 : decode code 498 = .ok (.iaload, 1) := gq_15 db67e_7 eb_37
theorem d_L_499 : decode code 499 = .ok (.invokevirtual 37, 3) := gq_16 db67e_7 eb_1374
theorem d_L_502 : decode code 502 = .ok (.pop, 1) := gq_17 db67e_7 eb_466
theorem d_L_503 : decode code 503 = .ok (.aload_n 2, 1) := gq_18 db67e_7 eb_301
theorem d_L_504 : decode code 504 = .ok (.aload_n 0, 1) := gq_19 db67e_7 eb_0
theorem d_L_505 : decode code 505 = .ok (.iload 4, 2) := gq_20 db67e_7 eb_76
theorem d_L_507 : decode code 507 = .ok (.iconst 1, 1) := gq_21 db67e_7 eb_19
theorem d_L_508 : decode code 508 = .ok (.iadd, 1) := gq_22 db67e_7 eb_35
theorem d_L_509 : decode code 509 = .ok (.iaload, 1) := gq_23 db67e_7 eb_37
theorem db67e_8 : Pf_ code [(510, [0xb6, 0x00, 0x29]), (513, [0x57]), (514, [0xa7, 0x07, 0x64]), (517, [0x2b]), (518, [0x2a]), (519, [0x15, 0x04]), (521, [0x04]), (522, [0x60]), (523, [0x2e]), (524, [0xb6, 0x00, 0x2a]), (527, [0x57]), (528, [0x2c]), (529, [0x2a]), (530, [0x15, 0x04]), (532, [0x04]), (533, [0x60]), (534, [0x2e]), (535, [0xb6, 0x00, 0x2e]), (538, [0x57]), (539, [0xa7, 0x07, 0x4b]), (542, [0x2b]), (543, [0xb6, 0x00, 0x2f]), (546, [0x57]), (547, [0x2c])] := pf_ok code _ 510 (by decide +kernel)
theorem d_L_510 : decode code 510 = .ok (.invokevirtual 41, 3) := gq_0 db67e_8 eb_1375
theorem d_L_513 : decode code 513 = .ok (.pop, 1) := gq_1 db67e_8 eb_466
theorem d_L_514 : decode code 514 = .ok (.goto 1892, 3) := gq_2 db67e_8 eb_1376
theorem d_L_517 : decode code 517 = .ok (.aload_n 1, 1) := gq_3 db67e_8 eb_23
theorem d_L_518 : decode code 518 = .ok (.aload_n 0, 1) := gq_4 db67e_8 eb_0
theorem d_L_519 : decode code 519 = .ok (.iload 4, 2) := gq_5 db67e_8 eb_76
theorem d_L_521 : decode code 521 = .ok (.iconst 1, 1) := gq_6 db67e_8 eb_19
theorem d_L_522 : decode code 522 = .ok (.iadd, 1) := gq_7 db67e_8 eb_35
theorem d_L_523 : decode code 523 = .ok (.iaload, 1) := gq_8 db67e_8 eb_37
theorem d_L_524 : decode code 524 = .ok (.invokevirtual 42, 3) := gq_9 db67e_8 eb_1377
theorem d_L_527 : decode code 527 = .ok (.pop, 1) := gq_10 db67e_8 eb_466
theorem d_L_528 : decode code 528 = .ok (.aload_n 2, 1) := gq_11 db67e_8 eb_301
theorem d_L_529 : decode code 529 = .ok (.aload_n 0, 1) := gq_12 db67e_8 eb_0
theorem d_L_530 : decode code 530 = .ok (.iload 4, 2) := gq_13 db67e_8 eb_76
theorem d_L_532 : decode code 532 = .ok (.iconst 1, 1) := gq_14 db67e_8 eb_19
theorem d_L_533 : decode code 533 = .ok (.iadd, 1) := gq_15 db67e_8 eb_35
theorem d_L_534 : decode code 534 = .ok (.iaload, 1) := gq_16 db67e_8 eb_37
theorem d_L_535 : decode code 535 = .ok (.invokevirtual 46, 3) := gq_17 db67e_8 eb_66
theorem d_L_538 : decode code 538 = .ok (.pop, 1) := gq_18 db67e_8 eb_466
theorem d_L_539 : decode code 539 = .ok (.goto 1867, 3) := gq_19 db67e_8 eb_1378
theorem d_L_542 : decode code 542 = .ok (.aload_n 1, 1) := gq_20 db67e_8 eb_23
theorem d_L_543 : decode code 543 = .ok (.invokevirtual 47, 3) := gq_21 db67e_8 eb_1379
theorem d_L_546 : decode code 546 = .ok (.pop, 1) := gq_22 db67e_8 eb_466
theorem d_L_547 : decode code 547 = .ok (.aload_n 2, 1) := gq_23 db67e_8 eb_301
theorem db67e_9 : Pf_ code [(548, [0xb6, 0x00, 0x33]), (551, [0x57]), (552, [0xa7, 0x07, 0x3e]), (555, [0x2b]), (556, [0x2a]), (557, [0x15, 0x04]), (559, [0x04]), (560, [0x60]), (561, [0x2e]), (562, [0x2a]), (563, [0x15, 0x04]), (565, [0x05]), (566, [0x60]), (567, [0x2e]), (568, [0xb6, 0x00, 0x34]), (571, [0x57]), (572, [0x2c]), (573, [0x2a]), (574, [0x15, 0x04]), (576, [0x04]), (577, [0x60]), (578, [0x2e]), (579, [0x2a]), (580, [0x15, 0x04])] := pf_ok code _ 548 (by decide +kernel)
theorem d_L_548 : decode code 548 = .ok (.invokevirtual 51, 3) := gq_0 db67e_9 eb_208
theorem d_L_551 : decode code 551 = .ok (.pop, 1) := gq_1 db67e_9 eb_466
theorem d_L_552 : decode code 552 = .ok (.goto 1854, 3) := gq_2 db67e_9 eb_1380
theorem d_L_555 : decode code 555 = .ok (.aload_n 1, 1) := gq_3 db67e_9 eb_23
theorem d_L_556 : decode code 556 = .ok (.aload_n 0, 1) := gq_4 db67e_9 eb_0
theorem d_L_557 : decode code 557 = .ok (.iload 4, 2) := gq_5 db67e_9 eb_76
theorem d_L_559 : decode code 559 = .ok (.iconst 1, 1) := gq_6 db67e_9 eb_19
theorem d_L_560 : decode code 560 = .ok (.iadd, 1) := gq_7 db67e_9 eb_35
theorem d_L_561 : decode code 561 = .ok (.iaload, 1) := gq_8 db67e_9 eb_37
theorem d_L_562 : decode code 562 = .ok (.aload_n 0, 1) := gq_9 db67e_9 eb_0
theorem d_L_563 : decode code 563 = .ok (.iload 4, 2) := gq_10 db67e_9 eb_76
theorem d_L_565 : decode code 565 = .ok (.iconst 2, 1) := gq_11 db67e_9 eb_10
theorem d_L_566 : decode code 566 = .ok (.iadd, 1) := gq_12 db67e_9 eb_35
theorem d_L_567 : decode code 567 = .ok (.iaload, 1) := gq_13 db67e_9 eb_37
theorem d_L_568 : decode code 568 = .ok (.invokevirtual 52, 3) := gq_14 db67e_9 eb_1381
theorem d_L_571 : decode code 571 = .ok (.pop, 1) := gq_15 db67e_9 eb_466
theorem d_L_572 : decode code 572 = .ok (.aload_n 2, 1) := gq_16 db67e_9 eb_301
theorem d_L_573 : decode code 573 = .ok (.aload_n 0, 1) := gq_17 db67e_9 eb_0
theorem d_L_574 : decode code 574 = .ok (.iload 4, 2) := gq_18 db67e_9 eb_76
theorem d_L_576 : decode code 576 = .ok (.iconst 1, 1) := gq_19 db67e_9 eb_19
theorem d_L_577 : decode code 577 = .ok (.iadd, 1) := gq_20 db67e_9 eb_35
theorem d_L_578 : decode code 578 = .ok (.iaload, 1) := gq_21 db67e_9 eb_37
theorem d_L_579 : decode code 579 = .ok (.aload_n 0, 1) := gq_22 db67e_9 eb_0
theorem d_L_580 : decode code 580 = .ok (.iload 4, 2) := gq_23 db67e_9 eb_76
theorem db67e_10 : Pf_ code [(582, [0x05]), (583, [0x60]), (584, [0x2e]), (585, [0xb6, 0x00, 0x37]), (588, [0x57]), (589, [0xa7, 0x07, 0x19]), (592, [0x2b]), (593, [0x2a]), (594, [0x15, 0x04]), (596, [0x04]), (597, [0x60]), (598, [0x2e]), (599, [0x2a]), (600, [0x15, 0x04]), (602, [0x05]), (603, [0x60]), (604, [0x2e]), (605, [0xb6, 0x00, 0x38]), (608, [0x57]), (609, [0x2c]), (610, [0x2a]), (611, [0x15, 0x04]), (613, [0x04]), (614, [0x60])] := pf_ok code _ 582 (by decide +kernel)
theorem d_L_582 : decode code 582 = .ok (.iconst 2, 1) := gq_0 db67e_10 eb_10
theorem d_L_583 : decode code 583 = .ok (.iadd, 1) := gq_1 db67e_10 eb_35
theorem d_L_584 : decode code 584 = .ok (.iaload, 1) := gq_2 db67e_10 eb_37
theorem d_L_585 : decode code 585 = .ok (.invokevirtual 55, 3) := gq_3 db67e_10 eb_1382
theorem d_L_588 : decode code 588 = .ok (.pop, 1) := gq_4 db67e_10 eb_466
theorem d_L_589 : decode code 589 = .ok (.goto 1817, 3) := gq_5 db67e_10 eb_1383
theorem d_L_592 : decode code 592 = .ok (.aload_n 1, 1) := gq_6 db67e_10 eb_23
theorem d_L_593 : decode code 593 = .ok (.aload_n 0, 1) := gq_7 db67e_10 eb_0
theorem d_L_594 : decode code 594 = .ok (.iload 4, 2) := gq_8 db67e_10 eb_76
theorem d_L_596 : decode code 596 = .ok (.iconst 1, 1) := gq_9 db67e_10 eb_19
theorem d_L_597 : decode code 597 = .ok (.iadd, 1) := gq_10 db67e_10 eb_35
theorem d_L_598 : decode code 598 = .ok (.iaload, 1) := gq_11 db67e_10 eb_37
theorem d_L_599 : decode code 599 = .ok (.aload_n 0, 1) := gq_12 db67e_10 eb_0
theorem d_L_600 : decode code 600 = .ok (.iload 4, 2) := gq_13 db67e_10 eb_76
theorem d_L_602 : decode code 602 = .ok (.iconst 2, 1) := gq_14 db67e_10 eb_10
theorem d_L_603 : decode code 603 = .ok (.iadd, 1) := gq_15 db67e_10 eb_35
theorem d_L_604 : decode code 604 = .ok (.iaload, 1) := gq_16 db67e_10 eb_37
theorem d_L_605 : decode code 605 = .ok (.invokevirtual 56, 3) := gq_17 db67e_10 eb_1384
theorem d_L_608 : decode code 608 = .ok (.pop, 1) := gq_18 db67e_10 eb_466
theorem d_L_609 : decode code 609 = .ok (.aload_n 2, 1) := gq_19 db67e_10 eb_301
theorem d_L_610 : decode code 610 = .ok (.aload_n 0, 1) := gq_20 db67e_10 eb_0
theorem d_L_611 : decode code 611 = .ok (.iload 4, 2) := gq_21 db67e_10 eb_76
theorem d_L_613 : decode code 613 = .ok (.iconst 1, 1) := gq_22 db67e_10 eb_19
theorem d_L_614 : decode code 614 = .ok (.iadd, 1) := gq_23 db67e_10 eb_35
theorem db67e_11 : Pf_ code [(615, [0x2e]), (616, [0x2a]), (617, [0x15, 0x04]), (619, [0x05]), (620, [0x60]), (621, [0x2e]), (622, [0xb6, 0x00, 0x3c]), (625, [0x57]), (626, [0xa7, 0x06, 0xf4]), (629, [0x2b]), (630, [0x2a]), (631, [0x15, 0x04]), (633, [0x04]), (634, [0x60]), (635, [0x2e]), (636, [0x2a]), (637, [0x15, 0x04]), (639, [0x05]), (640, [0x60]), (641, [0x2e]), (642, [0x2a]), (643, [0x15, 0x04]), (645, [0x06]), (646, [0x60])] := pf_ok code _ 615 (by decide +kernel)
theorem d_L_615 : decode code 615 = .ok (.iaload, 1) := gq_0 db67e_11 eb_37
theorem d_L_616 : decode code 616 = .ok (.aload_n 0, 1) := gq_1 db67e_11 eb_0
theorem d_L_617 : decode code 617 = .ok (.iload 4, 2) := gq_2 db67e_11 eb_76
theorem d_L_619 : decode code 619 = .ok (.iconst 2, 1) := gq_3 db67e_11 eb_10
theorem d_L_620 : decode code 620 = .ok (.iadd, 1) := gq_4 db67e_11 eb_35
theorem d_L_621 : decode code 621 = .ok (.iaload, 1) := gq_5 db67e_11 eb_37
theorem d_L_622 : decode code 622 = .ok (.invokevirtual 60, 3) := gq_6 db67e_11 eb_84
theorem d_L_625 : decode code 625 = .ok (.pop, 1) := gq_7 db67e_11 eb_466
theorem d_L_626 : decode code 626 = .ok (.goto 1780, 3) := gq_8 db67e_11 eb_1385
theorem d_L_629 : decode code 629 = .ok (.aload_n 1, 1) := gq_9 db67e_11 eb_23
theorem d_L_630 : decode code 630 = .ok (.aload_n 0, 1) := gq_10 db67e_11 eb_0
theorem d_L_631 : decode code 631 = .ok (.iload 4, 2) := gq_11 db67e_11 eb_76
theorem d_L_633 : decode code 633 = .ok (.iconst 1, 1) := gq_12 db67e_11 eb_19
theorem d_L_634 : decode code 634 = .ok (.iadd, 1) := gq_13 db67e_11 eb_35
theorem d_L_635 : decode code 635 = .ok (.iaload, 1) := gq_14 db67e_11 eb_37
theorem d_L_636 : decode code 636 = .ok (.aload_n 0, 1) := gq_15 db67e_11 eb_0
theorem d_L_637 : decode code 637 = .ok (.iload 4, 2) := gq_16 db67e_11 eb_76
theorem d_L_639 : decode code 639 = .ok (.iconst 2, 1) := gq_17 db67e_11 eb_10
theorem d_L_640 : decode code 640 = .ok (.iadd, 1) := gq_18 db67e_11 eb_35
theorem d_L_641 : decode code 641 = .ok (.iaload, 1) := gq_19 db67e_11 eb_37
theorem d_L_642 : decode code 642 = .ok (.aload_n 0, 1) := gq_20 db67e_11 eb_0
theorem d_L_643 : decode code 643 = .ok (.iload 4, 2) := gq_21 db67e_11 eb_76
theorem d_L_645 : decode code 645 = .ok (.iconst 3, 1) := gq_22 db67e_11 eb_54
theorem d_L_646 : decode code 646 = .ok (.iadd, 1) := gq_23 db67e_11 eb_35
theorem db67e_12 : Pf_ code [(647, [0x2e]), (648, [0xb6, 0x00, 0x3d]), (651, [0x57]), (652, [0x2c]), (653, [0x2a]), (654, [0x15, 0x04]), (656, [0x04]), (657, [0x60]), (658, [0x2e]), (659, [0x2a]), (660, [0x15, 0x04]), (662, [0x05]), (663, [0x60]), (664, [0x2e]), (665, [0x2a]), (666, [0x15, 0x04]), (668, [0x06]), (669, [0x60]), (670, [0x2e]), (671, [0xb6, 0x00, 0x41]), (674, [0x57]), (675, [0xa7, 0x06, 0xc3]), (678, [0x2b]), (679, [0x2a])] := pf_ok code _ 647 (by decide +kernel)
theorem d_L_647 : decode code 647 = .ok (.iaload, 1) := gq_0 db67e_12 eb_37
theorem d_L_648 : decode code 648 = .ok (.invokevirtual 61, 3) := gq_1 db67e_12 eb_214
theorem d_L_651 : decode code 651 = .ok (.pop, 1) := gq_2 db67e_12 eb_466
theorem d_L_652 : decode code 652 = .ok (.aload_n 2, 1) := gq_3 db67e_12 eb_301
theorem d_L_653 : decode code 653 = .ok (.aload_n 0, 1) := gq_4 db67e_12 eb_0
theorem d_L_654 : decode code 654 = .ok (.iload 4, 2) := gq_5 db67e_12 eb_76
theorem d_L_656 : decode code 656 = .ok (.iconst 1, 1) := gq_6 db67e_12 eb_19
theorem d_L_657 : decode code 657 = .ok (.iadd, 1) := gq_7 db67e_12 eb_35
theorem d_L_658 : decode code 658 = .ok (.iaload, 1) := gq_8 db67e_12 eb_37
theorem d_L_659 : decode code 659 = .ok (.aload_n 0, 1) := gq_9 db67e_12 eb_0
theorem d_L_660 : decode code 660 = .ok (.iload 4, 2) := gq_10 db67e_12 eb_76
theorem d_L_662 : decode code 662 = .ok (.iconst 2, 1) := gq_11 db67e_12 eb_10
theorem d_L_663 : decode code 663 = .ok (.iadd, 1) := gq_12 db67e_12 eb_35
theorem d_L_664 : decode code 664 = .ok (.iaload, 1) := gq_13 db67e_12 eb_37
theorem d_L_665 : decode code 665 = .ok (.aload_n 0, 1) := gq_14 db67e_12 eb_0
theorem d_L_666 : decode code 666 = .ok (.iload 4, 2) := gq_15 db67e_12 eb_76
theorem d_L_668 : decode code 668 = .ok (.iconst 3, 1) := gq_16 db67e_12 eb_54
theorem d_L_669 : decode code 669 = .ok (.iadd, 1) := gq_17 db67e_12 eb_35
theorem d_L_670 : decode code 670 = .ok (.iaload, 1) := gq_18 db67e_12 eb_37
theorem d_L_671 : decode code 671 = .ok (.invokevirtual 65, 3) := gq_19 db67e_12 eb_1386
theorem d_L_674 : decode code 674 = .ok (.pop, 1) := gq_20 db67e_12 eb_466
theorem d_L_675 : decode code 675 = .ok (.goto 1731, 3) := gq_21 db67e_12 eb_1387
theorem d_L_678 : decode code 678 = .ok (.aload_n 1, 1) := gq_22 db67e_12 eb_23
theorem d_L_679 : decode code 679 = .ok (.aload_n 0, 1) := gq_23 db67e_12 eb_0
theorem db67e_13 : Pf_ code [(680, [0x15, 0x04]), (682, [0x04]), (683, [0x60]), (684, [0x2e]), (685, [0x2a]), (686, [0x15, 0x04]), (688, [0x05]), (689, [0x60]), (690, [0x2e]), (691, [0x99, 0x00, 0x07]), (694, [0x04]), (695, [0xa7, 0x00, 0x04]), (698, [0x03]), (699, [0xb6, 0x00, 0x42]), (702, [0x57]), (703, [0x2c]), (704, [0x2a]), (705, [0x15, 0x04]), (707, [0x04]), (708, [0x60]), (709, [0x2e]), (710, [0x2a]), (711, [0x15, 0x04]), (713, [0x05])] := pf_ok code _ 680 (by decide +kernel)
theorem d_L_680 : decode code 680 = .ok (.iload 4, 2) := gq_0 db67e_13 eb_76
theorem d_L_682 : decode code 682 = .ok (.iconst 1, 1) := gq_1 db67e_13 eb_19
theorem d_L_683 : decode code 683 = .ok (.iadd, 1) := gq_2 db67e_13 eb_35
theorem d_L_684 : decode code 684 = .ok (.iaload, 1) := gq_3 db67e_13 eb_37
theorem d_L_685 : decode code 685 = .ok (.aload_n 0, 1) := gq_4 db67e_13 eb_0
theorem d_L_686 : decode code 686 = .ok (.iload 4, 2) := gq_5 db67e_13 eb_76
theorem d_L_688 : decode code 688 = .ok (.iconst 2, 1) := gq_6 db67e_13 eb_10
theorem d_L_689 : decode code 689 = .ok (.iadd, 1) := gq_7 db67e_13 eb_35
theorem d_L_690 : decode code 690 = .ok (.iaload, 1) := gq_8 db67e_13 eb_37
theorem d_L_691 : decode code 691 = .ok (.ifCond .eq 7, 3) := gq_9 db67e_13 eb_123
theorem d_L_694 : decode code 694 = .ok (.iconst 1, 1) := gq_10 db67e_13 eb_19
theorem d_L_695 : decode code 695 = .ok (.goto 4, 3) := gq_11 db67e_13 eb_20
theorem d_L_698 : decode code 698 = .ok (.iconst 0, 1) := gq_12 db67e_13 eb_21
theorem d_L_699 : decode code 699 = .ok (.invokevirtual 66, 3) := gq_13 db67e_13 eb_292
theorem d_L_702 : decode code 702 = .ok (.pop, 1) := gq_14 db67e_13 eb_466
theorem d_L_703 : decode code 703 = .ok (.aload_n 2, 1) := gq_15 db67e_13 eb_301
theorem d_L_704 : decode code 704 = .ok (.aload_n 0, 1) := gq_16 db67e_13 eb_0
theorem d_L_705 : decode code 705 = .ok (.iload 4, 2) := gq_17 db67e_13 eb_76
theorem d_L_707 : decode code 707 = .ok (.iconst 1, 1) := gq_18 db67e_13 eb_19
theorem d_L_708 : decode code 708 = .ok (.iadd, 1) := gq_19 db67e_13 eb_35
theorem d_L_709 : decode code 709 = .ok (.iaload, 1) := gq_20 db67e_13 eb_37
theorem d_L_710 : decode code 710 = .ok (.aload_n 0, 1) := gq_21 db67e_13 eb_0
theorem d_L_711 : decode code 711 = .ok (.iload 4, 2) := gq_22 db67e_13 eb_76
theorem d_L_713 : decode code 713 = .ok (.iconst 2, 1) := gq_23 db67e_13 eb_10
theorem db67e_14 : Pf_ code [(714, [0x60]), (715, [0x2e]), (716, [0x99, 0x00, 0x07]), (719, [0x04]), (720, [0xa7, 0x00, 0x04]), (723, [0x03]), (724, [0xb6, 0x00, 0x46]), (727, [0x57]), (728, [0xa7, 0x06, 0x8e]), (731, [0x2b]), (732, [0x2a]), (733, [0x15, 0x04]), (735, [0x04]), (736, [0x60]), (737, [0x2e]), (738, [0xb6, 0x00, 0x47]), (741, [0x57]), (742, [0x2c]), (743, [0x2a]), (744, [0x15, 0x04]), (746, [0x04]), (747, [0x60]), (748, [0x2e]), (749, [0xb6, 0x00, 0x4a])] := pf_ok code _ 714 (by decide +kernel)
theorem d_L_714 : decode code 714 = .ok (.iadd, 1) := gq_0 db67e_14 eb_35
theorem d_L_715 : decode code 715 = .ok (.iaload, 1) := gq_1 db67e_14 eb_37
theorem d_L_716 : decode code 716 = .ok (.ifCond .eq 7, 3) := gq_2 db67e_14 eb_123
theorem d_L_719 : decode code 719 = .ok (.iconst 1, 1) := gq_3 db67e_14 eb_19
theorem d_L_720 : decode code 720 = .ok (.goto 4, 3) := gq_4 db67e_14 eb_20
theorem d_L_723 : decode code 723 = .ok (.iconst 0, 1) := gq_5 db67e_14 eb_21
theorem d_L_724 : decode code 724 = .ok (.invokevirtual 70, 3) := gq_6 db67e_14 eb_216
theorem d_L_727 : decode code 727 = .ok (.pop, 1) := gq_7 db67e_14 eb_466
theorem d_L_728 : decode code 728 = .ok (.goto 1678, 3) := gq_8 db67e_14 eb_1388
theorem d_L_731 : decode code 731 = .ok (.aload_n 1, 1) := gq_9 db67e_14 eb_23
theorem d_L_732 : decode code 732 = .ok (.aload_n 0, 1) := gq_10 db67e_14 eb_0
theorem d_L_733 : decode code 733 = .ok (.iload 4, 2) := gq_11 db67e_14 eb_76
theorem d_L_735 : decode code 735 = .ok (.iconst 1, 1) := gq_12 db67e_14 eb_19
theorem d_L_736 : decode code 736 = .ok (.iadd, 1) := gq_13 db67e_14 eb_35
theorem d_L_737 : decode code 737 = .ok (.iaload, 1) := gq_14 db67e_14 eb_37
theorem d_L_738 : decode code 738 = .ok (.invokevirtual 71, 3) := gq_15 db67e_14 eb_1389
theorem d_L_741 : decode code 741 = .ok (.pop, 1) := gq_16 db67e_14 eb_466
theorem d_L_742 : decode code 742 = .ok (.aload_n 2, 1) := gq_17 db67e_14 eb_301
theorem d_L_743 : decode code 743 = .ok (.aload_n 0, 1) := gq_18 db67e_14 eb_0
theorem d_L_744 : decode code 744 = .ok (.iload 4, 2) := gq_19 db67e_14 eb_76
theorem d_L_746 : decode code 746 = .ok (.iconst 1, 1) := gq_20 db67e_14 eb_19
theorem d_L_747 : decode code 747 = .ok (.iadd, 1) := gq_21 db67e_14 eb_35
theorem d_L_748 : decode code 748 = .ok (.iaload, 1) := gq_22 db67e_14 eb_37
theorem d_L_749 : decode code 749 = .ok (.invokevirtual 74, 3) := gq_23 db67e_14 eb_1390
theorem db67e_15 : Pf_ code [(752, [0x57]), (753, [0xa7, 0x06, 0x75]), (756, [0x2b]), (757, [0x2a]), (758, [0x15, 0x04]), (760, [0x04]), (761, [0x60]), (762, [0x2e]), (763, [0x2a]), (764, [0x15, 0x04]), (766, [0x05]), (767, [0x60]), (768, [0x2e]), (769, [0x2d]), (770, [0xb8, 0x00, 0x4b]), (773, [0x36, 0x05]), (775, [0x2c]), (776, [0x2a]), (777, [0x15, 0x04]), (779, [0x04]), (780, [0x60]), (781, [0x2e]), (782, [0x2a]), (783, [0x15, 0x04])] := pf_ok code _ 752 (by decide +kernel)
theorem d_L_752 : decode code 752 = .ok (.pop, 1) := gq_0 db67e_15 eb_466
theorem d_L_753 : decode code 753 = .ok (.goto 1653, 3) := gq_1 db67e_15 eb_1391
theorem d_L_756 : decode code 756 = .ok (.aload_n 1, 1) := gq_2 db67e_15 eb_23
theorem d_L_757 : decode code 757 = .ok (.aload_n 0, 1) := gq_3 db67e_15 eb_0
theorem d_L_758 : decode code 758 = .ok (.iload 4, 2) := gq_4 db67e_15 eb_76
theorem d_L_760 : decode code 760 = .ok (.iconst 1, 1) := gq_5 db67e_15 eb_19
theorem d_L_761 : decode code 761 = .ok (.iadd, 1) := gq_6 db67e_15 eb_35
theorem d_L_762 : decode code 762 = .ok (.iaload, 1) := gq_7 db67e_15 eb_37
theorem d_L_763 : decode code 763 = .ok (.aload_n 0, 1) := gq_8 db67e_15 eb_0
theorem d_L_764 : decode code 764 = .ok (.iload 4, 2) := gq_9 db67e_15 eb_76
theorem d_L_766 : decode code 766 = .ok (.iconst 2, 1) := gq_10 db67e_15 eb_10
theorem d_L_767 : decode code 767 = .ok (.iadd, 1) := gq_11 db67e_15 eb_35
theorem d_L_768 : decode code 768 = .ok (.iaload, 1) := gq_12 db67e_15 eb_37
theorem d_L_769 : decode code 769 = .ok (.aload_n 3, 1) := gq_13 db67e_15 eb_312
theorem d_L_770 : decode code 770 = .ok (.invokestatic 75, 3) := gq_14 db67e_15 eb_1392
theorem d_L_773 : decode code 773 = .ok (.istore 5, 2) := gq_15 db67e_15 eb_134
theorem d_L_775 : decode code 775 = .ok (.aload_n 2, 1) := gq_16 db67e_15 eb_301
theorem d_L_776 : decode code 776 = .ok (.aload_n 0, 1) := gq_17 db67e_15 eb_0
theorem d_L_777 : decode code 777 = .ok (.iload 4, 2) := gq_18 db67e_15 eb_76
theorem d_L_779 : decode code 779 = .ok (.iconst 1, 1) := gq_19 db67e_15 eb_19
theorem d_L_780 : decode code 780 = .ok (.iadd, 1) := gq_20 db67e_15 eb_35
theorem d_L_781 : decode code 781 = .ok (.iaload, 1) := gq_21 db67e_15 eb_37
theorem d_L_782 : decode code 782 = .ok (.aload_n 0, 1) := gq_22 db67e_15 eb_0
theorem d_L_783 : decode code 783 = .ok (.iload 4, 2) := gq_23 db67e_15 eb_76
theorem db67e_16 : Pf_ code [(785, [0x05]), (786, [0x60])] := pf_ok code _ 785 (by decide +kernel)
theorem d_L_785 : decode code 785 = .ok (.iconst 2, 1) := gq_0 db67e_16 eb_10
theorem d_L_786 : decode code 786 = .ok (.iadd, 1) := gq_1 db67e_16 eb_35
end
