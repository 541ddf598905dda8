section
/-! the reference: clauses, with what they put down -/
def clM (c : Cl2) : List Int32 := (if c.1.length = 0 then [0, 1] else c.1.flatMap tkm) ++ 2 :: (c.2.flatMap tkm ++ [3])
/-- what was found, and what was put down -/
def Fq (b : Nat → Int32) (n : Nat) (R : Bool × Nat) (E : List Int32) (h0 h : Hp_) : Prop := (h_i h 1 34 = -1 ∧ R.1 = true ∧ ska b n (ta h) = R.2 ∧ Cdm h0 h E) ∨ (¬ h_i h 1 34 = -1 ∧ R.1 = false ∧ h_i h 1 34 = Int32.ofNat R.2)
theorem Fq.ok {b : Nat → Int32} {n : Nat} {R : Bool × Nat} {E : List Int32} {h0 h : Hp_} (F : Fq b n R E h0 h) (w : h_i h 1 34 = -1) : R.1 = true ∧ ska b n (ta h) = R.2 ∧ Cdm h0 h E := by
  rcases F with F | F
  · exact F.2
  · exact absurd w F.1
theorem Fq.no {b : Nat → Int32} {n : Nat} {R : Bool × Nat} {E : List Int32} {h0 h : Hp_} (F : Fq b n R E h0 h) (w : ¬ h_i h 1 34 = -1) : R.1 = false ∧ h_i h 1 34 = Int32.ofNat R.2 := by
  rcases F with F | F
  · exact absurd F.1 w
  · exact F.2
theorem Fq.b {b : Nat → Int32} {n : Nat} {R : Bool × Nat} {E : List Int32} {h0 h1 h : Hp_} (F : Fq b n R E h0 h) (c : Cdm h1 h0 []) : Fq b n R E h1 h := by
  rcases F with F | F
  · exact Or.inl ⟨F.1, F.2.1, F.2.2.1, c.tr F.2.2.2⟩
  · exact Or.inr F
/-- behind a fault nothing more is found -/
def Nof (h7 h : Hp_) : Prop := ¬ h_i h 1 34 = -1 ∧ h_i h 1 34 = h_i h7 1 34
theorem c_askg (s d : Nat) {b : Nat → Int32} {n : Nat} {h h7 : Hp_} (I : Iv h) (q : Pq h) (t : Tp b n h) (P : Pe s h h7) : Cv (m_X12_ask (d + 1) 0 0) [.ref 1] h7 (fun h' => Ak s h h' ∧ (h_i h7 1 34 = -1 → Fq b n (exr b n 63 (ta h7)) [2] h7 h') ∧ (¬ h_i h7 1 34 = -1 → Nof h7 h')) := by
  have ro := P.room I q
  have z1 : pz h ≤ 160 := (pz_in I).2
  have d0 : 0 ≤ pd h := (dp_in7 I).1
  have a0 : 0 ≤ pa h := (pa_in I).1
  have n0 := sN_i I
  have PP := P
  obtain ⟨p1, p2, p3, p4, p5, p6, p7, p8⟩ := PP
  obtain ⟨q1, q2, q3, q4⟩ := q
  have z7 := zf p2 (by decide +kernel)
  have no : ∀ h5 : Hp_, Iv h5 → Fr [1033, 1034] h7 h5 → pa h5 ≤ 179 → ¬ h_i h5 1 34 = -1 → (h_i h7 1 34 = -1 → (exr b n 63 (ta h7)).1 = false ∧ h_i h5 1 34 = Int32.ofNat (exr b n 63 (ta h7)).2) → (¬ h_i h7 1 34 = -1 → h_i h5 1 34 = h_i h7 1 34) → Cv (m_X12_say (d + 0) 0 0) [.ref 1, .int 2] (h_im h5 1 33 ((h_i h5 1 33) + 1)) (fun h9 => Wf h9 ∧ Ak s h h9 ∧ (h_i h7 1 34 = -1 → Fq b n (exr b n 63 (ta h7)) [2] h7 h9) ∧ (¬ h_i h7 1 34 = -1 → Nof h7 h9)) := by
    intro h5 i5 f5 a5 w5 F5 N5
    obtain ⟨k1, k2, k3⟩ := at1 i5 a5
    generalize h_im h5 1 33 ((h_i h5 1 33) + 1) = h6 at k1 k2 k3 ⊢
    have g5 := f36 f5 (by decide +kernel)
    have g6 := f36 k2 (by decide +kernel)
    have e5 := f35 f5 (by decide +kernel)
    have e6 := f35 k2 (by decide +kernel)
    refine Cv.mono (c_say d k1 2 (by show ps h6 ≤ 558; omega)) (fun h9 S => ⟨S.1.1, ?_⟩)
    obtain ⟨s1, s2, s3, s4, s5⟩ := Sa.q (h := h6) (x := 2) (h' := h9) S
    have n6 := sN_i k1
    have e9 : h_i h9 1 34 = h_i h5 1 34 := s2.trans (f34 k2 (by decide +kernel))
    refine ⟨⟨S.1, (p2.tr (f5.more (by decide +kernel))).tr ((k2.more (by decide +kernel)).tr (S.2.1.more (by decide +kernel))), by omega, fun k hk => ?_, by omega, fun w => ?_⟩, fun w => Or.inr ⟨by rw [e9]; exact w5, (F5 w).1, by rw [e9]; exact (F5 w).2⟩, fun w => ⟨by rw [e9]; exact w5, e9.trans (N5 w)⟩⟩
    · rw [S.2.2.2.2 k (by show k ≠ sN h6; omega), fr_i k2 (a := 226) (by decide +kernel), fr_i f5 (a := 226) (by decide +kernel)]
      exact p5 k hk
    · rw [s2, f34 k2 (by decide +kernel)] at w
      exact absurd w w5
  refine t_X12_ask d h7 p1.1 _ ⟨fun w => ?_, fun w => ?_⟩
  · have t' := (p8 w).1
    exact no h7 p1 (Fr.rf _ _) (by omega) w (fun y => absurd y w) (fun _ => rfl)
  · obtain ⟨t1, t2, t3, _⟩ := p7 w
    refine Ci.mono (c_lookf d p1 (P.tp t)) (fun r h5 LL => ⟨LL.1.1.1, fun er => ?_, fun nr => ?_⟩)
    · have L := LL.1
      have l5 : pa h5 < pz h := by
        rcases L.fwd z7 with u | u
        · rw [er] at u; exact absurd u (by decide)
        · exact u
      have P5 := P.lk I L
      have w5 : h_i h5 1 34 = -1 := by rw [f34 L.2.1 (by decide +kernel)]; exact w
      obtain ⟨c1, c2, c3, c4, c5, c6, c7, _⟩ := P5
      obtain ⟨b1, b2, b3, K, b4, b5⟩ := c7 w5
      obtain ⟨k1, k2, k3⟩ := at1 c1 (by omega)
      have a6 := nxa LL k1 k3
      generalize h_im h5 1 33 ((h_i h5 1 33) + 1) = h6 at k1 k2 k3 a6 ⊢
      have g6 := f36 k2 (by decide +kernel)
      have e6 := f35 k2 (by decide +kernel)
      refine Cv.mono (c_say d k1 2 (by show ps h6 ≤ 558; omega)) (fun h9 S => ⟨S.1.1, ?_⟩)
      obtain ⟨s1, s2, s3, s4, s5⟩ := Sa.q (h := h6) (x := 2) (h' := h9) S
      have n5 := sN_i c1
      have n6 := sN_i k1
      have n9 := sN_i S.1
      have m6 : sN h6 = sN h5 := by omega
      have cc : ∀ k, k < sN h5 → h_i h9 226 k = h_i h5 226 k := fun k hk => by rw [S.2.2.2.2 k (by show k ≠ sN h6; omega), fr_i k2 (a := 226) (by decide +kernel)]
      have w9 : h_i h9 1 34 = -1 := by rw [s2, f34 k2 (by decide +kernel)]; exact w5
      have a9 : ta h9 = ska b n (ta h7) + 1 := by
        show (h_i h9 1 33).toNatClampNeg = _
        rw [(S.2.1.2 1 33 (by decide +kernel)).1]
        exact a6
      have ee : exr b n 63 (ta h7) = (true, ska b n (ska b n (ta h7) + 1)) := by
        unfold exr
        exact if_pos (by rw [← LL.2.2]; exact er)
      have cd : Cdm h7 h9 [2] := (Cdm.f0 (L.2.1.tr k2) (by decide +kernel)).tr (Cdm.say k1 S)
      have G : Fq b n (exr b n 63 (ta h7)) [2] h7 h9 := by
        rw [ee]
        exact Or.inl ⟨w9, rfl, by rw [a9], cd⟩
      refine ⟨⟨S.1, (c2.tr (k2.more (by decide +kernel))).tr (S.2.1.more (by decide +kernel)), by omega, fun k hk => ?_, by omega, fun _ => ⟨by omega, by omega, by omega, sN h5, K, by omega, PR.same (fun k _ b => cc k b) b5, ?_, by omega⟩⟩, fun _ => G, fun y => absurd w y⟩
      · rw [cc k (by omega)]; exact c5 k hk
      · rw [← m6]; exact S.2.2.2.1
    · have L := LL.1
      have w5 : h_i h5 1 34 = -1 := by rw [f34 L.2.1 (by decide +kernel)]; exact w
      refine Cv.mono (c_badf d L.1 w5) (fun h6 k => ⟨k.1.1, ?_⟩)
      obtain ⟨k1, k2, k3, k4⟩ := k
      have e6 := f33 k2 (by decide +kernel)
      have l4 := L.2.2.2.1
      have ee : exr b n 63 (ta h7) = (false, ska b n (ta h7)) := by
        unfold exr
        exact if_neg (by rw [← LL.2.2]; exact nr)
      exact no h6 k1 ((L.2.1.more (by decide +kernel)).tr (k2.more (by decide +kernel))) (by omega) k3 (fun _ => by rw [ee]; exact ⟨rfl, by rw [k4, LL.2.1]⟩) (fun y => absurd w y)
/-- a pair's condition failed -/
theorem fq_c {b : Nat → Int32} {n : Nat} {f g : Rce} {a : Nat} {E : List Int32} {h0 h1 h7 h : Hp_} (F : Fte b n (f a) h0 h7) (w : ¬ h_i h7 1 34 = -1) (k : Nof h7 h) : Fq b n ((k2pr f g a).1, (k2pr f g a).2.1) E h1 h := by
  have q := F.no w
  have e1 : k2pr f g a = (false, (f a).2.1, ([], [])) := by
    unfold k2pr
    exact if_neg (by rw [q.1]; decide)
  rw [e1]
  exact Or.inr ⟨k.1, rfl, by rw [k.2]; exact q.2⟩
/-- a pair whose condition stands -/
theorem k2pr_ok {b : Nat → Int32} {n : Nat} {f g : Rce} {a : Nat} {h0 h7 : Hp_} (c : Cne b n g) (F : Fte b n (f a) h0 h7) (w : h_i h7 1 34 = -1) : k2pr f g a = ((g (ta h7)).1, (g (ta h7)).2.1, ((f a).2.2, (g (ta h7)).2.2)) := by
  have q := F.ok w
  unfold k2pr
  rw [if_pos q.1, ← q.2.1, c]
/-- behind '?' the answer follows, or not -/
theorem k2q_n {b : Nat → Int32} {n : Nat} {g : Rce} {a : Nat} (q : (exr b n 63 a).1 = false) : (k2sq (k2ex b n 63) g a).1 = false ∧ (k2sq (k2ex b n 63) g a).2.1 = (exr b n 63 a).2 := by
  have e1 : k2sq (k2ex b n 63) g a = k2ex b n 63 a := by
    unfold k2sq
    exact if_neg (by rw [(Pje.ex a).1, q]; decide)
  rw [e1, (Pje.ex a).1, (Pje.ex a).2]
  exact ⟨q, rfl⟩
theorem k2q_y {b : Nat → Int32} {n : Nat} {g : Rce} (c : Cne b n g) {a p : Nat} (q : (exr b n 63 a).1 = true) (e : ska b n p = (exr b n 63 a).2) : k2sq (k2ex b n 63) g a = g p := by
  have e2 : (k2ex b n 63 a).2.2 = [] := by
    unfold k2ex
    split <;> rfl
  unfold k2sq
  rw [if_pos ((Pje.ex a).1.trans q), e2, (Pje.ex a).2, ← e, c]
  rfl
theorem cl_restg (s : Nat) (hs : s = 1 ∨ s = 2) (d : Nat) {b : Nat → Int32} {n : Nat} {h h7 : Hp_} (I : Iv h) (q : Pq h) (q0 : ps h ≤ 3 * pa h) (e0 : pd h = 0) (es : h_i h 1 37 = Int32.ofNat s) (t : Tp b n h) (P : Pe s h h7) {fc : Rce} {a : Nat} (F : Fte b n (fc a) h h7) (nz : (fc a).1 = true → ¬ (fc a).2.2.length = 0) {K : Hp_ → Prop} (up : ∀ h', Pc s h h' → Fq b n ((k2pr fc (k2sq (k2ex b n 63) (k2ss b n (ltb s) 6)) a).1, (k2pr fc (k2sq (k2ex b n 63) (k2ss b n (ltb s) 6)) a).2.1) (clM (k2pr fc (k2sq (k2ex b n 63) (k2ss b n (ltb s) 6)) a).2.2) h h' → K h') :
    Cv (m_X12_ask (d + 80 + 1) 0 0) [.ref 1] h7 (fun h10 => Wf h10 ∧ ((¬ (h_i h10 1 34) = (-1) → K h10) ∧ ((h_i h10 1 34) = (-1) → Cv (m_X12_sum (d + 80 + 53) 0 0) [.ref 1] h10 (fun h14 => Wf h14 ∧ (Cv (m_X12_say (d + 80 + 0) 0 0) [.ref 1, .int 3] h14 (fun h17 => Wf h17 ∧ (K h17))))))) := by
  have z1 : pz h ≤ 160 := (pz_in I).2
  have n0 := sN_i I
  have a0 : 0 ≤ pa h := (pa_in I).1
  refine Cv.mono (c_askg s (d + 80) I q t P) (fun h10 AA => ?_)
  obtain ⟨A, F10, N10⟩ := AA
  have cg : Cne b n (k2sq (k2ex b n 63) (k2ss b n (ltb s) 6)) := Cne.sq Cne.ex
  obtain ⟨a1, a2, a3, a4, a6, a5⟩ := A
  refine ⟨a1.1, fun w => up _ ⟨a1, a2, a3, a4, fun y => absurd y w⟩ (by
    by_cases w7 : h_i h7 1 34 = -1
    · have q := (F10 w7).no w
      have z := k2q_n (g := k2ss b n (ltb s) 6) q.1
      rw [k2pr_ok cg F w7]
      exact Or.inr ⟨w, z.1, by rw [q.2]; show _ = Int32.ofNat ((k2sq (k2ex b n 63) (k2ss b n (ltb s) 6)) (ta h7)).2.1; rw [z.2]⟩
    · exact fq_c F w7 (N10 w7)), fun w => ?_⟩
  have w7 : h_i h7 1 34 = -1 := Decidable.byContradiction (fun y => (N10 y).1 w)
  have f10 := (F10 w7).ok w
  have e10 : (k2sq (k2ex b n 63) (k2ss b n (ltb s) 6)) (ta h7) = k2ss b n (ltb s) 6 (ta h10) := k2q_y (Cne.ss 6) f10.1 f10.2.1
  obtain ⟨b1, b2, b3, m, K1, b4, b5, b6, b7⟩ := a5 w
  have z10 := zf a2 (by decide +kernel)
  have s10 : h_i h10 1 37 = Int32.ofNat s := by rw [(a2.2 1 37 (by decide +kernel)).1]; exact es
  have q10 : Pq h10 := ⟨w, by omega, by omega, by omega⟩
  refine Cv.mono (r_sumg s hs d h10 a1 q10 (by omega) s10 (t.fr a2 (by decide +kernel))) (fun h14 QQ => ⟨QQ.1.1.1, ?_⟩)
  obtain ⟨Q, QF⟩ := QQ
  refine Cv.mono (c_say (d + 80) Q.1 3 (Q.room a1 q10)) (fun h17 S => ⟨S.1.1, up _ ?_ (by
    have e4 : h_i h17 1 34 = h_i h14 1 34 := (S.2.1.2 1 34 (by decide +kernel)).1
    have e3 : ta h17 = ta h14 := by
      show (h_i h17 1 33).toNatClampNeg = _
      rw [(S.2.1.2 1 33 (by decide +kernel)).1]
    rw [k2pr_ok cg F w7, e10]
    by_cases w14 : h_i h14 1 34 = -1
    · have q := F.ok w7
      have qq := QF.ok w14
      refine Or.inl ⟨by rw [e4]; exact w14, qq.1, by rw [e3]; exact qq.2.1, ?_⟩
      show Cdm h h17 (clM ((fc a).2.2, (k2ss b n (ltb s) 6 (ta h10)).2.2))
      unfold clM
      rw [if_neg (nz q.1)]
      have z := ((q.2.2.tr f10.2.2).tr qq.2.2).tr (Cdm.say Q.1 S)
      rw [List.append_assoc, List.append_assoc] at z
      exact z
    · have k := QF.no w14
      exact Or.inr ⟨by rw [e4]; exact w14, k.1, by rw [e4]; exact k.2⟩)⟩)
  obtain ⟨u1, u2, u3, u4, u5⟩ := Sa.q (h := h14) (x := 3) (h' := h17) S
  obtain ⟨c1, c2, c3, c4, c5, c6, c7, c8⟩ := Q
  have n10 := sN_i a1
  have n14 := sN_i c1
  have n17 := sN_i S.1
  have m17 : sN h17 = sN h14 + 1 := by omega
  have cc : ∀ k, k < sN h14 → h_i h17 226 k = h_i h14 226 k := fun k hk => S.2.2.2.2 k (by show k ≠ sN h14; omega)
  refine ⟨S.1, (a2.tr c2).tr (S.2.1.more (by decide +kernel)), by omega, fun k hk => ?_, fun w17 => ?_⟩
  · rw [cc k (by omega), c5 k (by omega)]; exact a4 k hk
  · rw [u2] at w17
    obtain ⟨t1, t2, t3, K2, t4, t5⟩ := c7 w17
    refine ⟨by omega, by omega, by omega, by omega, m, sN h14, ?_, ?_, ?_, ?_, m17⟩
    · exact PR.ex (PR.same (fun k _ b => by rw [cc k (by omega), c5 k (by omega)]) b5) (by omega)
    · rw [cc m (by omega), c5 m (by omega)]; exact b6
    · rw [← b7]; exact PR.ex (PR.same (fun k _ b => cc k b) t5) (by omega)
    · exact S.2.2.2.1
theorem cl_ansg (s d : Nat) {b : Nat → Int32} {n : Nat} {h h3 h7 : Hp_} {r : Int32} (I : Iv h) (q0 : ps h ≤ 3 * pa h) (A : Ak s h h3) (w : h_i h3 1 34 = -1) (LL : Lkf b n h3 r h7) (l : pa h7 < pz h) (vr : vdb r = true) {K : Hp_ → Prop} (up : ∀ h', Pc s h h' → h_i h' 1 34 = -1 → ska b n (ta h') = ska b n (ska b n (ta h3) + 1) → Cdm h3 h' [0, vdv r, 3] → K h') :
    Cv (m_X12_say (d + 0) 0 0) [.ref 1, .int 0] (h_im h7 1 33 ((h_i h7 1 33) + 1)) (fun h71 => Wf h71 ∧ ∀ c : Int32, c = vdv r → Cv (m_X12_say (d + 0) 0 0) [.ref 1, .int c] h71 (fun h77 => Wf h77 ∧ (Cv (m_X12_say (d + 0) 0 0) [.ref 1, .int 3] h77 (fun h80 => Wf h80 ∧ (K h80))))) := by
  have z1 : pz h ≤ 160 := (pz_in I).2
  have n0 := sN_i I
  have a0 : 0 ≤ pa h := (pa_in I).1
  have L := LL.1
  obtain ⟨a1, a2, a3, a4, a6, a5⟩ := A
  obtain ⟨b1, b2, b3, m, K1, b4, b5, b6, b7⟩ := a5 w
  have z3 := zf a2 (by decide +kernel)
  obtain ⟨k1, k2, k3⟩ := nx1 a1 L (by omega)
  have l3 := L.2.2.1
  have aa := nxa LL k1 k3
  have w7 : h_i (h_im h7 1 33 ((h_i h7 1 33) + 1)) 1 34 = -1 := by rw [f_ne (by decide), f34 L.2.1 (by decide +kernel)]; exact w
  generalize h_im h7 1 33 ((h_i h7 1 33) + 1) = h2 at k1 k2 k3 aa w7 ⊢
  have g2 := f36 k2 (by decide +kernel)
  have e2 := f35 k2 (by decide +kernel)
  have Y0 : Sy h3 [] h2 := (Sy.rf a1).mv k1 (k2.more (by decide +kernel))
  refine Cv.mono (c_say d k1 0 (by show ps h2 ≤ 558; omega)) (fun h71 S => ⟨S.1.1, fun c ec => ?_⟩)
  obtain ⟨s1, s2, s3, s4, s5⟩ := Sa.q (h := h2) (x := 0) (h' := h71) S
  refine Cv.mono (c_say d S.1 c (by show ps h71 ≤ 558; omega)) (fun h77 T => ⟨T.1.1, ?_⟩)
  obtain ⟨t1, t2, t3, t4, t5⟩ := Sa.q (h := h71) (x := c) (h' := h77) T
  refine Cv.mono (c_say d T.1 3 (by show ps h77 ≤ 558; omega)) (fun h80 U => ⟨U.1.1, up _ ?_ ?_ ?_ ?_⟩)
  case refine_2 =>
    have f := (S.2.1.tr T.2.1).tr U.2.1
    rw [(f.2 1 34 (by decide +kernel)).1]
    exact w7
  case refine_3 =>
    have f := (S.2.1.tr T.2.1).tr U.2.1
    show ska b n (h_i h80 1 33).toNatClampNeg = _
    rw [(f.2 1 33 (by decide +kernel)).1]
    show ska b n (ta h2) = _
    rw [aa]
  case refine_4 =>
    rw [← ec]
    exact (((Cdm.f0 k2 (by decide +kernel)).tr (Cdm.say k1 S)).tr (Cdm.say S.1 T)).tr (Cdm.say T.1 U)
  obtain ⟨u1, u2, u3, u4, u5⟩ := Sa.q (h := h77) (x := 3) (h' := h80) U
  have Y : Sy h3 [0, c, 3] h80 := ((Y0.say a1 S).say a1 T).say a1 U
  obtain ⟨y1, y2, y3, y4, y5⟩ := Y
  have y4' : ps h80 = ps h3 + 3 := y4
  have n3 := sN_i a1
  have n80 := sN_i y1
  have x0 := y5 0 0 rfl
  have x2 := y5 2 3 rfl
  refine ⟨y1, a2.tr y2, by omega, fun k hk => ?_, fun _ => ⟨by omega, by omega, by omega, by omega, m, sN h3 + 2, ?_, ?_, ?_, x2, by omega⟩⟩
  · rw [y3 k (by omega)]; exact a4 k hk
  · exact PR.ex (PR.same (fun k _ b => y3 k (by omega)) b5) (by omega)
  · rw [y3 m (by omega)]; exact b6
  · rw [← b7]; exact PR.ex (PR.num x0) (by decide)
/-- a plain sum: put behind 0 1 2, place and fault as they were -/
theorem cl_shiftg (s d : Nat) {h h0 : Hp_} (I : Iv h) (q0 : ps h ≤ 3 * pa h) (P : Pe s h h0) (w : h_i h0 1 34 = -1) (x3 : Int32) (e3 : x3 = h_i h 1 36) {E : List Int32} (cE : Cdm h h0 E) {K : Hp_ → Prop} (up : ∀ h', Pc s h h' → h_i h' 1 34 = h_i h0 1 34 → h_i h' 1 33 = h_i h0 1 33 → Cdm h h' ([0, 1] ++ 2 :: (E ++ [3])) → K h') :
    ∀ (n : Nat) (h2 : Hp_) (x4 : Int32), x4.toInt = (sN h : Int) + n - 1 → Iv h2 → Fr [226999] h0 h2 → sN h + n ≤ sN h0 → (∀ j, j < sN h + n → h_i h2 226 j = h_i h0 226 j) → (∀ j, sN h + n ≤ j → j < sN h0 → h_i h2 226 (j + 3) = h_i h0 226 j) →
    AW (m_X12_clause (d + 58) 0 0) 0 0 179 [(0, .ref 1), (3, .int x3), (4, .int x4)] [] h2 (kV K) := by
  have z1 : pz h ≤ 160 := (pz_in I).2
  have n0 := sN_i I
  have a0 : 0 ≤ pa h := (pa_in I).1
  obtain ⟨p1, p2, p3, p4, p5, p6, p7, p8⟩ := P
  obtain ⟨t1, t2, t3, K1, t4, t5⟩ := p7 w
  have nh0 := sN_i p1
  have i3 : x3.toInt = (sN h : Int) := by rw [e3]; exact n0.symm
  have j3 : x3.toNatClampNeg = sN h := by rw [e3]
  have o1 : (1 : Int32).toInt = 1 := rfl
  have o2 : (2 : Int32).toInt = 2 := rfl
  have o3 : (3 : Int32).toInt = 3 := rfl
  have om : (-1 : Int32).toInt = -1 := rfl
  intro n
  induction n with
  | zero =>
    intro h2 x4 e4 I2 F2 l2 c1 c2
    have e1' : (x3 + 1).toInt = x3.toInt + 1 := by rw [tx_add (by rw [o1]; omega) (by rw [o1]; omega), o1]
    have e2' : (x3 + 2).toInt = x3.toInt + 2 := by rw [tx_add (by rw [o2]; omega) (by rw [o2]; omega), o2]
    have k1 : (x3 + 1).toNatClampNeg = sN h + 1 := by have := n_nat (x := x3 + 1) (by omega); omega
    have k2 : (x3 + 2).toNatClampNeg = sN h + 2 := by have := n_nat (x := x3 + 2) (by omega); omega
    refine t_X12_clause_179 d h2 I2.1 x3 x4 _ ⟨fun _ => ⟨dp_in (lo := 0) (hi := 559) ⟨by show (0 : Int) ≤ _; omega, by show _ ≤ (559 : Int); omega⟩ (by decide) (by decide), dp_in (lo := 0) (hi := 559) ⟨by show (0 : Int) ≤ _; omega, by show _ ≤ (559 : Int); omega⟩ (by decide) (by decide), dp_in (lo := 0) (hi := 559) ⟨by show (0 : Int) ≤ _; omega, by show _ ≤ (559 : Int); omega⟩ (by decide) (by decide), ?_⟩, fun z => absurd (q_lt.mpr (by omega)) z⟩
    rw [j3, k1, k2]
    have g2 : ps h2 = ps h0 := f36 F2 (by decide +kernel)
    have es : (h_i h2 1 36 + 3).toInt = ps h2 + 3 := by
      have g : (h_i h2 1 36).toInt = ps h0 := g2
      show _ = (h_i h2 1 36).toInt + 3
      rw [tx_add (by rw [o3]; omega) (by rw [o3]; omega), o3]
    have I3 : Iv (h_im (h_im (h_im (h_im h2 226 (sN h) 0) 226 (sN h + 1) 1) 226 (sN h + 2) 2) 1 36 ((h_i h2 1 36) + 3)) := i36 (i226 (i226 (i226 I2 _ _) _ _) _ _) ⟨by rw [es]; show (0 : Int) ≤ _; omega, by rw [es]; show _ ≤ (559 : Int); omega⟩
    have F3 : Fr wzp h0 (h_im (h_im (h_im (h_im h2 226 (sN h) 0) 226 (sN h + 1) 1) 226 (sN h + 2) 2) 1 36 ((h_i h2 1 36) + 3)) := ((((F2.more (by decide +kernel)).im (inw_row (by decide +kernel) _)).im (inw_row (by decide +kernel) _)).im (inw_row (by decide +kernel) _)).im (by decide +kernel)
    have s3 : ps (h_im (h_im (h_im (h_im h2 226 (sN h) 0) 226 (sN h + 1) 1) 226 (sN h + 2) 2) 1 36 ((h_i h2 1 36) + 3)) = ps h2 + 3 := by
      show (h_i (h_im _ 1 36 _) 1 36).toInt = _
      rw [im_at]; exact es
    have c3 : ∀ k, h_i (h_im (h_im (h_im (h_im h2 226 (sN h) 0) 226 (sN h + 1) 1) 226 (sN h + 2) 2) 1 36 ((h_i h2 1 36) + 3)) 226 k = if k = sN h + 2 then 2 else if k = sN h + 1 then 1 else if k = sN h then 0 else h_i h2 226 k := by
      intro k
      rw [im_ne (by decide), h_i_im, h_i_im, h_i_im]
      by_cases y2 : k = sN h + 2
      · rw [if_pos ⟨rfl, y2⟩, if_pos y2]
      · rw [if_neg (fun z => y2 z.2), if_neg y2]
        by_cases y1 : k = sN h + 1
        · rw [if_pos ⟨rfl, y1⟩, if_pos y1]
        · rw [if_neg (fun z => y1 z.2), if_neg y1]
          by_cases y0 : k = sN h
          · rw [if_pos ⟨rfl, y0⟩, if_pos y0]
          · rw [if_neg (fun z => y0 z.2), if_neg y0]
    have a3 : pa (h_im (h_im (h_im (h_im h2 226 (sN h) 0) 226 (sN h + 1) 1) 226 (sN h + 2) 2) 1 36 ((h_i h2 1 36) + 3)) = pa h0 := by
      show (h_i (h_im _ 1 36 _) 1 33).toInt = _
      rw [f_ne (by decide), im_ne (by decide), im_ne (by decide), im_ne (by decide)]
      exact f33 F2 (by decide +kernel)
    have d3 : pd (h_im (h_im (h_im (h_im h2 226 (sN h) 0) 226 (sN h + 1) 1) 226 (sN h + 2) 2) 1 36 ((h_i h2 1 36) + 3)) = pd h0 := by
      show (h_i (h_im _ 1 36 _) 1 35).toInt = _
      rw [f_ne (by decide), im_ne (by decide), im_ne (by decide), im_ne (by decide)]
      exact f35 F2 (by decide +kernel)
    have G4 : h_i (h_im (h_im (h_im (h_im h2 226 (sN h) 0) 226 (sN h + 1) 1) 226 (sN h + 2) 2) 1 36 ((h_i h2 1 36) + 3)) 1 34 = h_i h0 1 34 := by
      rw [f_ne (by decide), im_ne (by decide), im_ne (by decide), im_ne (by decide)]
      exact (F2.2 1 34 (by decide +kernel)).1
    have G3 : h_i (h_im (h_im (h_im (h_im h2 226 (sN h) 0) 226 (sN h + 1) 1) 226 (sN h + 2) 2) 1 36 ((h_i h2 1 36) + 3)) 1 33 = h_i h0 1 33 := by
      rw [f_ne (by decide), im_ne (by decide), im_ne (by decide), im_ne (by decide)]
      exact (F2.2 1 33 (by decide +kernel)).1
    generalize h_im (h_im (h_im (h_im h2 226 (sN h) 0) 226 (sN h + 1) 1) 226 (sN h + 2) 2) 1 36 ((h_i h2 1 36) + 3) = h3 at I3 F3 s3 c3 a3 d3 G3 G4 ⊢
    refine Cv.mono (c_say d I3 3 (by show ps h3 ≤ 558; omega)) (fun h9 S => ⟨S.1.1, ?_⟩)
    obtain ⟨u1, u2, u3, u4, u5⟩ := Sa.q (h := h3) (x := 3) (h' := h9) S
    have nh3 := sN_i I3
    have nh9 := sN_i S.1
    have m3 : sN h3 = sN h0 + 3 := by omega
    have cc : ∀ k, k < sN h0 + 3 → h_i h9 226 k = if k = sN h + 2 then 2 else if k = sN h + 1 then 1 else if k = sN h then 0 else h_i h2 226 k := fun k hk => by rw [S.2.2.2.2 k (by show k ≠ sN h3; omega)]; exact c3 k
    have eN : sN h9 = sN h0 + 4 := by
      have u : ps h9 = ps h3 + 1 := S.2.2.1
      omega
    have lE := cE.1
    refine up _ ?_ ((S.2.1.2 1 34 (by decide +kernel)).1.trans G4) ((S.2.1.2 1 33 (by decide +kernel)).1.trans G3) ?_
    · refine ⟨S.1, (p2.tr F3).tr (S.2.1.more (by decide +kernel)), by omega, fun k hk => ?_, fun _ => ⟨by omega, by omega, by omega, by omega, sN h + 2, sN h0 + 3, ?_, ?_, ?_, ?_, by omega⟩⟩
      · rw [cc k (by omega), if_neg (by omega), if_neg (by omega), if_neg (by omega), c1 k (by omega)]
        exact p5 k hk
      · exact PR.ex (PR.num (by rw [cc _ (by omega), if_neg (by omega), if_neg (by omega), if_pos rfl])) (by decide)
      · rw [cc _ (by omega), if_pos rfl]
      · refine PR.ex (k := K1) ?_ (by omega)
        rw [show sN h + 2 + 1 = sN h + 3 by omega]
        refine PR.sh (t := 3) (fun x a b => ?_) t5
        rw [cc _ (by omega), if_neg (by omega), if_neg (by omega), if_neg (by omega)]
        exact c2 x (by omega) b
      · rw [← m3]; exact S.2.2.2.1
    · refine ⟨?_, fun k hk => ?_, fun i v ev => ?_⟩
      · show sN h9 = sN h + ((E ++ [(3 : Int32)]).length + 1 + 1 + 1)
        rw [List.length_append]
        show sN h9 = sN h + (E.length + 1 + 1 + 1 + 1)
        omega
      · rw [cc k (by omega), if_neg (by omega), if_neg (by omega), if_neg (by omega), c1 k (by omega)]
        exact p5 k hk
      · match i, ev with
        | 0, ev =>
          have ev : some (0 : Int32) = some v := ev
          rw [Nat.add_zero, cc _ (by omega), if_neg (by omega), if_neg (by omega), if_pos rfl]
          exact Option.some.inj ev
        | 1, ev =>
          have ev : some (1 : Int32) = some v := ev
          rw [cc _ (by omega), if_neg (by omega), if_pos rfl]
          exact Option.some.inj ev
        | 2, ev =>
          have ev : some (2 : Int32) = some v := ev
          rw [cc _ (by omega), if_pos rfl]
          exact Option.some.inj ev
        | j + 3, ev =>
          have ev : (E ++ [(3 : Int32)])[j]? = some v := ev
          by_cases lj : j < E.length
          · rw [List.getElem?_append_left lj] at ev
            rw [cc _ (by omega), if_neg (by omega), if_neg (by omega), if_neg (by omega), show sN h + (j + 3) = sN h + j + 3 by omega, c2 (sN h + j) (by omega) (by omega)]
            exact cE.2.2 j v ev
          · rw [List.getElem?_append_right (by omega)] at ev
            have lt : j - E.length < 1 := (List.getElem?_eq_some_iff.mp ev).1
            have e0 : j - E.length = 0 := by omega
            rw [e0] at ev
            have ev : some (3 : Int32) = some v := ev
            rw [show sN h + (j + 3) = sN h3 by omega, ← Option.some.inj ev]
            exact S.2.2.2.1
  | succ n ih =>
    intro h2 x4 e4 I2 F2 l2 c1 c2
    have j4 : x4.toNatClampNeg = sN h + n := by have := n_nat (x := x4) (by omega); omega
    have e3' : (x4 + 3).toInt = x4.toInt + 3 := by rw [tx_add (by rw [o3]; omega) (by rw [o3]; omega), o3]
    have k3 : (x4 + 3).toNatClampNeg = sN h + n + 3 := by have := n_nat (x := x4 + 3) (by omega); omega
    refine t_X12_clause_179 d h2 I2.1 x3 x4 _ ⟨fun z => absurd (q_lt.mp z) (by omega), fun _ => ⟨dp_in (lo := 0) (hi := 559) ⟨by show (0 : Int) ≤ _; omega, by show _ ≤ (559 : Int); omega⟩ (by decide) (by decide), dp_in (lo := 0) (hi := 559) ⟨by show (0 : Int) ≤ _; omega, by show _ ≤ (559 : Int); omega⟩ (by decide) (by decide), ?_⟩⟩
    rw [j4, k3]
    have em : (x4 + (-1)).toInt = x4.toInt - 1 := by rw [tx_add (by rw [om]; omega) (by rw [om]; omega), om]; omega
    generalize x4 + (-1) = y at em ⊢
    refine ih _ y (by omega) (i226 I2 _ _) (F2.im (inw_row (by decide +kernel) _)) (by omega) (fun j hj => ?_) (fun j a b => ?_)
    · rw [h_i_im, if_neg (fun u => by have := u.2; omega)]; exact c1 j (by omega)
    · rw [h_i_im]
      by_cases y0 : j = sN h + n
      · rw [if_pos ⟨rfl, by omega⟩, y0]; exact c1 _ (by omega)
      · rw [if_neg (fun u => by have := u.2; omega)]; exact c2 j (by omega) b
theorem k2c_1 {b : Nat → Int32} {n : Nat} : k2c b n 1 = k2ac b n := rfl
theorem k2c_2 {b : Nat → Int32} {n : Nat} : k2c b n 2 = k2pc b n := rfl
theorem c_clauseg (s : Nat) (hs : s = 1 ∨ s = 2) (d : Nat) {b : Nat → Int32} {n : Nat} {h : Hp_} (I : Iv h) (q : Pq h) (q0 : ps h ≤ 3 * pa h) (e0 : pd h = 0) (es : h_i h 1 37 = Int32.ofNat s) (t : Tp b n h) : Cv (m_X12_clause (d + 80 + 58) 0 0) [.ref 1] h (fun h' => Pc s h h' ∧ Fq b n ((k2c b n s (ta h)).1, (k2c b n s (ta h)).2.1) (clM (k2c b n s (ta h)).2.2) h h') := by
  have z1 : pz h ≤ 160 := (pz_in I).2
  refine t_X12_clause (d + 80) h I.1 _ (Ci.mono (c_lookf (d + 80) I t) (fun r h1 LL => ?_))
  have L := LL.1
  have l3 := L.2.2.1
  have l4 := L.2.2.2.1
  have zz := zf L.2.1 (by decide +kernel)
  have g1 := f36 L.2.1 (by decide +kernel)
  have d1 := f35 L.2.1 (by decide +kernel)
  have n0 := sN_i I
  have n1 := sN_i L.1
  have m1 : sN h1 = sN h := by omega
  have s1 : h_i h1 1 37 = Int32.ofNat s := by rw [(L.2.1.2 1 37 (by decide +kernel)).1]; exact es
  have q1 : Pq h1 := ⟨by rw [f34 L.2.1 (by decide +kernel)]; exact q.1, by have := q.2.1; omega, by omega, by omega⟩
  have q01 : ps h1 ≤ 3 * pa h1 := by omega
  have t1 : Tp b n h1 := LL.t t
  have ta1 : k2c b n s (ta h) = k2c b n s (ta h1) := by rw [LL.2.1, k2c_c]
  have cd1 : Cdm h h1 [] := Cdm.f0 L.2.1 (by decide +kernel)
  have er1 : r = skv b n (ta h1) := by rw [LL.2.1, skv_i]; exact LL.2.2
  have up : ∀ h', Pc s h1 h' → Fq b n ((k2c b n s (ta h1)).1, (k2c b n s (ta h1)).2.1) (clM (k2c b n s (ta h1)).2.2) h1 h' → Pc s h h' ∧ Fq b n ((k2c b n s (ta h)).1, (k2c b n s (ta h)).2.1) (clM (k2c b n s (ta h)).2.2) h h' := by
    intro h' P G
    obtain ⟨p1, p2, p3, p4, p5⟩ := P
    refine ⟨⟨p1, (L.2.1.more (by decide +kernel)).tr p2, by omega, fun k hk => ?_, fun w => ?_⟩, by rw [ta1]; exact G.b cd1⟩
    · rw [p4 k (by omega)]; exact fr_i L.2.1 (by decide +kernel) k
    · obtain ⟨t1, t2, t3, t4, t5⟩ := p5 w
      exact ⟨by omega, by omega, by omega, by omega, by rw [← m1]; exact t5⟩
  have cond : Cv (m_X12_condition (d + 80 + 57) 0 0) [.ref 1, .int 0] h1 (fun h7 => Pe s h1 h7 ∧ Fte b n (k2cd b n (k2un b n (ltb s) 6) (ta h1)) h1 h7) := c_cond0g s 80 0 _ (r_unitg s hs) d h1 L.1 q1 (by omega) s1 t1
  have s2 : ¬ h_i h1 1 37 = 1 → s = 2 := fun y => by
    rcases hs with u | u
    · subst u
      exact absurd s1 y
    · exact u
  have pay : ¬ h_i h1 1 37 = 1 → (r = 33 ∨ r = 40) → Cv (m_X12_condition (d + 80 + 57) 0 0) [.ref 1, .int 0] h1 (fun h7 => Wf h7 ∧ (Cv (m_X12_ask (d + 80 + 1) 0 0) [.ref 1] h7 (fun h10 => Wf h10 ∧ ((¬ (h_i h10 1 34) = (-1) → Pc s h h10 ∧ Fq b n ((k2c b n s (ta h)).1, (k2c b n s (ta h)).2.1) (clM (k2c b n s (ta h)).2.2) h h10) ∧ ((h_i h10 1 34) = (-1) → Cv (m_X12_sum (d + 80 + 53) 0 0) [.ref 1] h10 (fun h14 => Wf h14 ∧ (Cv (m_X12_say (d + 80 + 0) 0 0) [.ref 1, .int 3] h14 (fun h17 => Wf h17 ∧ (Pc s h h17 ∧ Fq b n ((k2c b n s (ta h)).1, (k2c b n s (ta h)).2.1) (clM (k2c b n s (ta h)).2.2) h h17))))))))) := fun ns c => by
    have e2 := s2 ns
    subst e2
    have ec : k2c b n 2 (ta h1) = k2pr (k2cd b n (k2un b n ltp 6)) (k2pa b n) (ta h1) := by
      show k2pc b n (ta h1) = _
      unfold k2pc
      exact if_pos (by rw [← er1]; exact c)
    rw [ec] at up
    exact Cv.mono cond (fun h7 P => ⟨P.1.1.1, cl_restg 2 hs d L.1 q1 q01 (by omega) s1 t1 P.1 (fc := k2cd b n (k2un b n ltp 6)) (a := ta h1) P.2 (fun y => (Wty.cd (Wty.un 6) (ta h1) y).nz) up⟩)
  refine ⟨L.1.1, fun ns => ⟨fun e33 => pay ns (Or.inl e33), fun n33 => ⟨fun e40 => pay ns (Or.inr e40), fun n40 => ?_⟩⟩, fun ys => ?_⟩
  · have e2 := s2 ns
    subst e2
    have eb : k2c b n 2 (ta h1) = if (k2ss b n ltp 6 (ta h1)).1 = true then (if sgb (skv b n (k2ss b n ltp 6 (ta h1)).2.1) = true then k2pr (k2p1 b n) (k2pa b n) (ta h1) else (true, (k2ss b n ltp 6 (ta h1)).2.1, ([], (k2ss b n ltp 6 (ta h1)).2.2))) else (false, (k2ss b n ltp 6 (ta h1)).2.1, ([], [])) := by
      show k2pc b n (ta h1) = _
      unfold k2pc
      rw [if_neg (by rw [← er1]; exact fun y => y.elim n33 n40)]
    refine Cv.mono (r_sumg 2 hs d h1 L.1 q1 (by omega) s1 t1) (fun h6 PP => ⟨PP.1.1.1, fun w => ?_, fun w => ?_⟩)
    · obtain ⟨P, PF⟩ := PP
      have k6 := PF.ok w
      have k1 : (k2ss b n ltp 6 (ta h1)).1 = true := k6.1
      have k2' : ska b n (ta h6) = (k2ss b n ltp 6 (ta h1)).2.1 := k6.2.1
      rw [eb, if_pos k1, ← k2', skv_i] at up
      refine Ci.mono (c_lookf (d + 80) P.1 (P.tp t1)) (fun r2 h4 LL4 => ⟨LL4.1.1.1, ?_⟩)
      have L4 := LL4.1
      have P4 := P.lk L.1 L4
      have w4 : h_i h4 1 34 = -1 := by rw [f34 L4.2.1 (by decide +kernel)]; exact w
      refine Ci.mono (c_isSignf (d + 80) h4 r2) (fun r5 h5 k => ?_)
      obtain ⟨e5, k⟩ := k
      subst e5
      refine ⟨L4.1.1, fun n5 => ?_, fun y5 => ?_⟩
      · have sg : sgb (skv b n (ta h6)) = true := by
          rcases k with k | k
          · rw [← LL4.2.2]
            exact k.2.1
          · exact absurd k.1 n5
        rw [if_pos sg] at up
        refine Cv.mono (c_cond1g 2 80 0 _ _ (r_unitg 2 hs) (r_sumg 2 hs) d L.1 q1 (by omega) s1 t1 P4 w4) (fun h7 P7 => ⟨P7.1.1.1, cl_restg 2 hs d L.1 q1 q01 (by omega) s1 t1 P7.1 (fc := k2p1 b n) (a := ta h1) ?_ (fun y => ((Wty.ss 6).cp ((Wcp.cm (Wty.ss 6)).sw (Wsw.mp (Wty.un 6))) (ta h1) y).nz) up⟩)
        have G7 := P7.2
        rw [LL4.2.1, Cne.sq Cne.cm] at G7
        have S6 := sqg (f := k2ss b n ltp 6) (g := k2sq (k2cm b n (k2ss b n ltp 6)) (k2mp b n (k2un b n ltp 6))) (Cne.sq Cne.cm) PF
        exact S6.ft w (G7.b (Cdm.f0 L4.2.1 (by decide +kernel)))
      · have sg : ¬ sgb (skv b n (ta h6)) = true := by
          rcases k with k | k
          · rw [y5] at k
            exact absurd k.1 (by decide)
          · rw [← LL4.2.2, k.2]
            decide
        rw [if_neg sg] at up
        have cE : Cdm h1 h5 ((k2ss b n ltp 6 (ta h1)).2.2.flatMap tkm) := k6.2.2.fr L4.2.1 (by decide +kernel)
        have up' : ∀ h', Pc 2 h1 h' → h_i h' 1 34 = h_i h5 1 34 → h_i h' 1 33 = h_i h5 1 33 → Cdm h1 h' ([0, 1] ++ 2 :: ((k2ss b n ltp 6 (ta h1)).2.2.flatMap tkm ++ [3])) → Pc 2 h h' ∧ Fq b n ((k2c b n 2 (ta h)).1, (k2c b n 2 (ta h)).2.1) (clM (k2c b n 2 (ta h)).2.2) h h' := fun h' p e4 e3 c => up h' p (Or.inl ⟨by rw [e4]; exact w4, rfl, by
          show ska b n (h_i h' 1 33).toNatClampNeg = ska b n (ta h6)
          rw [e3]
          show ska b n (ta h5) = _
          rw [LL4.i, LL4.2.1], c⟩)
        have n5 := sN_i P4.1
        have o1 : (1 : Int32).toInt = 1 := rfl
        have a0 : 0 ≤ pa h1 := (pa_in L.1).1
        obtain ⟨t1', t2, t3, _⟩ := P4.2.2.2.2.2.2.1 w4
        have p6 := P4.2.2.2.2.2.1
        have t3' : (h_i h5 1 36).toInt ≤ ps h1 + 2 * (pa h5 - pa h1) := t3
        have p6' : ps h1 ≤ (h_i h5 1 36).toInt := p6
        have n1' : 0 ≤ ps h1 := (ps_in L.1).1
        have ex : (h_i h5 1 36 - 1).toInt = (h_i h5 1 36).toInt - 1 := by rw [tx_sub (by rw [o1]; omega) (by rw [o1]; omega), o1]
        have ex' : (h_i h5 1 36 - 1).toInt = ps h5 - 1 := ex
        refine cl_shiftg 2 (d + 80) L.1 q01 P4 w4 _ rfl cE up' (sN h5 - sN h1) h5 _ (by omega) P4.1 (Fr.rf _ _) (by omega) (fun _ _ => rfl) (fun j a b => absurd a (by omega))
    · refine up _ (PP.1.wr w) ?_
      have k := PP.2.no w
      have k1 : (k2ss b n ltp 6 (ta h1)).1 = false := k.1
      rw [eb, if_neg (by rw [k1]; decide)]
      exact Or.inr ⟨w, rfl, k.2⟩
  · have e1 : s = 1 := by
      rcases hs with u | u
      · exact u
      · subst u
        rw [s1] at ys
        exact absurd ys (by decide)
    subst e1
    refine Cv.mono cond (fun h7 P => ⟨P.1.1.1, ?_⟩)
    have e7 : k2c b n 1 (ta h1) = k2pr (k2cd b n (k2un b n lta 6)) (k2av b n) (ta h1) := rfl
    have cg : Cne b n (k2av b n) := Cne.sq Cne.ex
    have F7 : Fte b n (k2cd b n (k2un b n lta 6) (ta h1)) h1 h7 := P.2
    rw [e7] at up
    refine Cv.mono (c_askg 1 (d + 80) L.1 q1 t1 P.1) (fun h3 AA => ?_)
    obtain ⟨A, F10, N10⟩ := AA
    refine ⟨A.1.1, fun w => ?_, fun w => up _ ⟨A.1, A.2.1, A.2.2.1, A.2.2.2.1, fun y => absurd y w⟩ (by
      by_cases w7 : h_i h7 1 34 = -1
      · have q := (F10 w7).no w
        have z := k2q_n (g := k2vd b n) q.1
        rw [k2pr_ok cg F7 w7]
        exact Or.inr ⟨w, z.1, by rw [q.2]; show _ = Int32.ofNat (k2sq (k2ex b n 63) (k2vd b n) (ta h7)).2.1; rw [z.2]⟩
      · exact fq_c F7 w7 (N10 w7))⟩
    have w7 : h_i h7 1 34 = -1 := Decidable.byContradiction (fun y => (N10 y).1 w)
    have f10 := (F10 w7).ok w
    have e10 : k2av b n (ta h7) = k2vd b n (ta h3) := k2q_y Cne.vd f10.1 f10.2.1
    have nz : ¬ (k2cd b n (k2un b n lta 6) (ta h1)).2.2.length = 0 := (Wty.cd (Wty.un 6) (ta h1) (F7.ok w7).1).nz
    rw [k2pr_ok cg F7 w7, e10] at up
    refine Ci.mono (c_lookf (d + 80) A.1 (t1.fr A.2.1 (by decide +kernel))) (fun r2 h4 LL4 => ?_)
    have L4 := LL4.1
    have z3 := zf A.2.1 (by decide +kernel)
    have fw : ∀ c : Int32, r2 = c → ¬ c = -1 → pa h4 < pz h1 := fun c ec nc => by
      rcases L4.fwd z3 with u | u
      · exact absurd (ec.symm.trans u) nc
      · exact u
    have four : pa h4 < pz h1 → vdb r2 = true → Cv (m_X12_say (d + 80 + 0) 0 0) [.ref 1, .int 0] (h_im h4 1 33 ((h_i h4 1 33) + 1)) (fun h71 => Wf h71 ∧ ((¬ r2 = 120 → (¬ r2 = 110 → (¬ r2 = 114 → Cv (m_X12_say (d + 80 + 0) 0 0) [.ref 1, .int 3] h71 (fun h77 => Wf h77 ∧ (Cv (m_X12_say (d + 80 + 0) 0 0) [.ref 1, .int 3] h77 (fun h80 => Wf h80 ∧ (Pc 1 h h80 ∧ Fq b n ((k2c b n 1 (ta h)).1, (k2c b n 1 (ta h)).2.1) (clM (k2c b n 1 (ta h)).2.2) h h80))))) ∧ (r2 = 114 → Cv (m_X12_say (d + 80 + 0) 0 0) [.ref 1, .int 2] h71 (fun h77 => Wf h77 ∧ (Cv (m_X12_say (d + 80 + 0) 0 0) [.ref 1, .int 3] h77 (fun h80 => Wf h80 ∧ (Pc 1 h h80 ∧ Fq b n ((k2c b n 1 (ta h)).1, (k2c b n 1 (ta h)).2.1) (clM (k2c b n 1 (ta h)).2.2) h h80)))))) ∧ (r2 = 110 → Cv (m_X12_say (d + 80 + 0) 0 0) [.ref 1, .int 1] h71 (fun h77 => Wf h77 ∧ (Cv (m_X12_say (d + 80 + 0) 0 0) [.ref 1, .int 3] h77 (fun h80 => Wf h80 ∧ (Pc 1 h h80 ∧ Fq b n ((k2c b n 1 (ta h)).1, (k2c b n 1 (ta h)).2.1) (clM (k2c b n 1 (ta h)).2.2) h h80)))))) ∧ (r2 = 120 → Cv (m_X12_say (d + 80 + 0) 0 0) [.ref 1, .int 0] h71 (fun h77 => Wf h77 ∧ (Cv (m_X12_say (d + 80 + 0) 0 0) [.ref 1, .int 3] h77 (fun h80 => Wf h80 ∧ (Pc 1 h h80 ∧ Fq b n ((k2c b n 1 (ta h)).1, (k2c b n 1 (ta h)).2.1) (clM (k2c b n 1 (ta h)).2.2) h h80))))))) := fun l v => by
      have ev : k2vd b n (ta h3) = (true, ska b n (ska b n (ta h3) + 1), [(0, vdv r2)]) := by
        unfold k2vd
        rw [← LL4.2.2, if_pos v]
      rw [ev] at up
      have up2 : ∀ h', Pc 1 h1 h' → h_i h' 1 34 = -1 → ska b n (ta h') = ska b n (ska b n (ta h3) + 1) → Cdm h3 h' [0, vdv r2, 3] → _ := fun h' p w' e' c => up h' p (Or.inl ⟨w', rfl, e', by
        show Cdm h1 h' (clM ((k2cd b n (k2un b n lta 6) (ta h1)).2.2, [(0, vdv r2)]))
        unfold clM
        rw [if_neg nz]
        have z := ((F7.ok w7).2.2.tr f10.2.2).tr c
        rw [List.append_assoc] at z
        exact z⟩)
      exact Cv.mono (cl_ansg 1 (d + 80) L.1 q01 A w LL4 l v up2) (fun h71 k => ⟨k.1, fun n1 => ⟨fun n2 => ⟨fun n3 => k.2 3 (by unfold vdv; rw [if_neg n1, if_neg n2, if_neg n3]), fun e3 => k.2 2 (by unfold vdv; rw [if_neg n1, if_neg n2, if_pos e3])⟩, fun e2 => k.2 1 (by unfold vdv; rw [if_neg n1, if_pos e2])⟩, fun e1 => k.2 0 (by unfold vdv; rw [if_pos e1])⟩)
    have w4 : h_i h4 1 34 = -1 := by rw [f34 L4.2.1 (by decide +kernel)]; exact w
    refine ⟨L4.1.1, fun e => four (fw _ e (by decide)) (by rw [e]; decide), fun n1 => ⟨fun e => four (fw _ e (by decide)) (by rw [e]; decide), fun n2 => ⟨fun e => four (fw _ e (by decide)) (by rw [e]; decide), fun n3 => ⟨fun e => four (fw _ e (by decide)) (by rw [e]; decide), fun n4 => Cv.mono (c_badf (d + 80) L4.1 w4) (fun h9 b9 => ⟨b9.1.1, up _ ⟨b9.1, (A.2.1.tr (L4.2.1.more (by decide +kernel))).tr (b9.2.1.more (by decide +kernel)), ?_, ?_, fun y => absurd y b9.2.2.1⟩ ?_⟩)⟩⟩⟩⟩
    · have b5 := f35 b9.2.1 (by decide +kernel)
      have l5 := f35 L4.2.1 (by decide +kernel)
      have a5 := A.2.2.1
      omega
    · intro k hk
      rw [fr_i b9.2.1 (a := 226) (by decide +kernel), fr_i L4.2.1 (a := 226) (by decide +kernel)]
      exact A.2.2.2.1 k hk
    · have ev : k2vd b n (ta h3) = (false, ska b n (ta h3), []) := by
        unfold k2vd
        exact if_neg (by rw [← LL4.2.2]; exact fun y => (of_decide_eq_true y).elim n1 (fun y => y.elim n2 (fun y => y.elim n3 n4)))
      rw [ev]
      exact Or.inr ⟨b9.2.2.1, rfl, by rw [b9.2.2.2, LL4.2.1]⟩
/-! the reference: a whole text, with what is put down -/
def rlM (C : List Cl2) : List Int32 := C.flatMap clM
def Sge (b : Nat → Int32) (n : Nat) (T : Bool × Nat × List Cl2) (g : Rcf Cl2) (h0 h : Hp_) : Prop := (h_i h 1 34 = -1 → ∃ C : List Cl2, T = k2pre C (g (ta h)) ∧ Cdm h0 h (rlM C)) ∧ (¬ h_i h 1 34 = -1 → T.1 = false ∧ h_i h 1 34 = Int32.ofNat T.2.1)
theorem rlM_a (C D : List Cl2) : rlM (C ++ D) = rlM C ++ rlM D := List.flatMap_append
theorem rlM_1 (c : Cl2) : rlM [c] = clM c := by
  unfold rlM
  simp
theorem sge_1 {b : Nat → Int32} {n s : Nat} {g : Rcf Cl2} {a : Nat} {h0 h : Hp_} (c : Cne b n g) (F : Fq b n ((k2c b n s a).1, (k2c b n s a).2.1) (clM (k2c b n s a).2.2) h0 h) : Sge b n (k2sq (k21 (k2c b n s)) g a) g h0 h := by
  refine ⟨fun w => ?_, fun w => ?_⟩
  · have k := F.ok w
    have y : (k21 (k2c b n s) a).1 = true := k.1
    have p : ska b n (ta h) = (k21 (k2c b n s) a).2.1 := k.2.1
    refine ⟨[(k2c b n s a).2.2], ?_, by rw [rlM_1]; exact k.2.2⟩
    unfold k2sq
    rw [if_pos y, ← p, c]
    rfl
  · have k := F.no w
    have e : k2sq (k21 (k2c b n s)) g a = k21 (k2c b n s) a := by
      unfold k2sq
      exact if_neg (by rw [show (k21 (k2c b n s) a).1 = false from k.1]; decide)
    rw [e]
    exact k
/-- all clauses were found -/
def Fge (b : Nat → Int32) (n : Nat) (T : Bool × Nat × List Cl2) (h0 h : Hp_) : Prop := T.1 = true ∧ ska b n (ta h) = T.2.1 ∧ Cdm h0 h (rlM T.2.2)
theorem lge_x {b : Nat → Int32} {n s k : Nat} {T : Bool × Nat × List Cl2} {h0 h h5 : Hp_} {r : Int32} (F : Sge b n T (k2lp b n (isq 59) (fun _ => []) (k21 (k2c b n s)) k) h0 h) (w : h_i h 1 34 = -1) (L : Lkf b n h r h5) (ns : k = 0 ∨ isq 59 r = false) : Fge b n T h0 h5 := by
  obtain ⟨C, e, c⟩ := F.1 w
  have e2 : k2lp b n (isq 59) (fun _ => []) (k21 (k2c b n s)) k (ta h) = (true, ska b n (ta h), []) := by
    cases k with
    | zero => rfl
    | succ k =>
      rcases ns with u | u
      · cases u
      · unfold k2lp
        exact if_neg (by rw [← L.2.2, u]; decide)
  rw [e2] at e
  rw [e]
  refine ⟨rfl, by rw [L.i, L.2.1]; rfl, ?_⟩
  show Cdm h0 h5 (rlM (C ++ []))
  rw [List.append_nil]
  exact c.fr L.1.2.1 (by decide +kernel)
theorem lge_s {b : Nat → Int32} {n s k : Nat} {T : Bool × Nat × List Cl2} {h0 h h6 h9 : Hp_} {r : Int32} (F : Sge b n T (k2lp b n (isq 59) (fun _ => []) (k21 (k2c b n s)) (k + 1)) h0 h) (w : h_i h 1 34 = -1) (er : r = skv b n (ta h)) (ys : isq 59 r = true) (c6 : Cdm h h6 []) (G : Fq b n ((k2c b n s (ska b n (ta h) + 1)).1, (k2c b n s (ska b n (ta h) + 1)).2.1) (clM (k2c b n s (ska b n (ta h) + 1)).2.2) h6 h9) : Sge b n T (k2lp b n (isq 59) (fun _ => []) (k21 (k2c b n s)) k) h0 h9 := by
  obtain ⟨C, e, c⟩ := F.1 w
  have e2 : k2lp b n (isq 59) (fun _ => []) (k21 (k2c b n s)) (k + 1) (ta h) = if (k21 (k2c b n s) (ska b n (ta h) + 1)).1 = true then k2pre ((k21 (k2c b n s) (ska b n (ta h) + 1)).2.2 ++ []) (k2lp b n (isq 59) (fun _ => []) (k21 (k2c b n s)) k (k21 (k2c b n s) (ska b n (ta h) + 1)).2.1) else k21 (k2c b n s) (ska b n (ta h) + 1) := by
    show (if isq 59 (skv b n (ta h)) = true then _ else _) = _
    rw [if_pos (by rw [← er]; exact ys)]
  rw [e2, List.append_nil] at e
  refine ⟨fun w9 => ?_, fun w9 => ?_⟩
  · have g := G.ok w9
    have g2 : (k21 (k2c b n s) (ska b n (ta h) + 1)).1 = true := g.1
    have g3 : ska b n (ta h9) = (k21 (k2c b n s) (ska b n (ta h) + 1)).2.1 := g.2.1
    rw [if_pos g2, ← g3, Cne.lp k, k2pre_a] at e
    refine ⟨_, e, ?_⟩
    show Cdm h0 h9 (rlM (C ++ [(k2c b n s (ska b n (ta h) + 1)).2.2]))
    rw [rlM_a, rlM_1]
    exact c.tr (c6.tr g.2.2)
  · have g := G.no w9
    have g2 : (k21 (k2c b n s) (ska b n (ta h) + 1)).1 = false := g.1
    rw [if_neg (by rw [g2]; decide)] at e
    rw [e]
    exact g
/-- the codes of a whole text stand in the reference -/
def Crm (C : List Cl2) (h : Hp_) : Prop := sN h = (rlM C).length ∧ ∀ i v, (rlM C)[i]? = some v → h_i h 226 i = v
theorem fl_loopg (s : Nat) (hs : s = 1 ∨ s = 2) (d : Nat) {b : Nat → Int32} {nn : Nat} (bb : ∀ k, k < nn → ¬ b k = -1) {h h0 : Hp_} (x1 : Int32) (e1 : x1 = Int32.ofNat s) (I0 : Iv h0) (F0 : Fr wzf h h0) (es : h_i h0 1 37 = Int32.ofNat s) (t0 : Tp b nn h0) (z0 : sN h0 = 0) :
    ∀ (n : Nat) (h2 : Hp_), Fl s h0 h2 → Sge b nn (k2ru b nn s 0) (k2lp b nn (isq 59) (fun _ => []) (k21 (k2c b nn s)) n) h0 h2 → pz h0 - pa h2 ≤ n → AW (m_X12_fault (d + 80 + 59) 0 0) 0 0 52 [(0, .ref 1)] [] h2 (kI (fun r h' => Fa x1 h r h' ∧ r = enq b nn (ruq b nn (clq b nn s)) ∧ (r = -1 → (k2ru b nn s 0).1 = true ∧ Crm (k2ru b nn s 0).2.2 h'))) := by
  have z1 : pz h0 ≤ 160 := (pz_in I0).2
  have dn : ∀ h', Fl s h0 h' → Fa x1 h (h_i h' 1 34) h' := by
    intro h' G
    refine ⟨G.1, F0.tr (G.2.1.more (by decide +kernel)), fun w => ⟨fun e => ?_, fun t ht et => ?_⟩⟩
    · rw [e1] at e
      rcases hs with u | u <;> subst u <;> exact absurd e (by decide)
    · have tt : t = s := by
        rw [e1] at et
        rcases hs with u | u <;> subst u <;> rcases ht with v | v <;> subst v <;> first | rfl | exact absurd et (by decide)
      subst tt
      exact (G.2.2.2 w).2.2
  have pj := pj_ru (b := b) (n := nn) hs 0
  have bad : ∀ h' : Hp_, ¬ h_i h' 1 34 = -1 → (k2ru b nn s 0).1 = false → h_i h' 1 34 = Int32.ofNat (k2ru b nn s 0).2.1 → h_i h' 1 34 = enq b nn (ruq b nn (clq b nn s)) ∧ (h_i h' 1 34 = -1 → (k2ru b nn s 0).1 = true ∧ Crm (k2ru b nn s 0).2.2 h') := fun h' w e1 e2 => by
    refine ⟨?_, fun y => absurd y w⟩
    unfold enq
    rw [if_neg (by rw [← pj.1, e1]; decide), ← pj.2]
    exact e2
  have ends : ∀ h1, Fl s h0 h1 → h_i h1 1 34 = -1 → Fge b nn (k2ru b nn s 0) h0 h1 → Ci (m_X12_look (d + 80 + 0) 0 0) [.ref 1] h1 (fun r h5 => Wf h5 ∧ ((r = (-1) → Fa x1 h (h_i h5 1 34) h5 ∧ h_i h5 1 34 = enq b nn (ruq b nn (clq b nn s)) ∧ (h_i h5 1 34 = -1 → (k2ru b nn s 0).1 = true ∧ Crm (k2ru b nn s 0).2.2 h5)) ∧ (¬ r = (-1) → Cv (m_X12_bad (d + 80 + 0) 0 0) [.ref 1] h5 (fun h9 => Wf h9 ∧ (Fa x1 h (h_i h9 1 34) h9 ∧ h_i h9 1 34 = enq b nn (ruq b nn (clq b nn s)) ∧ (h_i h9 1 34 = -1 → (k2ru b nn s 0).1 = true ∧ Crm (k2ru b nn s 0).2.2 h9)))))) := by
    intro h1 G w FT
    refine Ci.mono (c_lookf (d + 80) G.1 (t0.fr G.2.1 (by decide +kernel))) (fun r h5 LL => ?_)
    have FT' : Ft b nn (ruq b nn (clq b nn s) 0) h1 := Or.inl ⟨w, by rw [← pj.1]; exact FT.1, by rw [← pj.2]; exact FT.2.1⟩
    have E := enq_y bb FT' w LL
    have cr : Crm (k2ru b nn s 0).2.2 h5 := by
      have z := FT.2.2.fr LL.1.2.1 (by decide +kernel)
      have z1 := z.1
      rw [z0, Nat.zero_add] at z1
      refine ⟨z1, fun i v e => ?_⟩
      have q := z.2.2 i v e
      rw [z0, Nat.zero_add] at q
      exact q
    have L := LL.1
    have G5 := G.lk L
    refine ⟨L.1.1, fun er => ⟨dn _ G5, E.1 er, fun _ => ⟨FT.1, cr⟩⟩, fun nr => ?_⟩
    exact Cv.mono (c_badf (d + 80) L.1 (by rw [f34 L.2.1 (by decide +kernel)]; exact w)) (fun h9 k => ⟨k.1.1, ⟨k.1, F0.tr ((G5.2.1.tr (k.2.1.more (by decide +kernel))).more (by decide +kernel)), fun y => absurd y k.2.2.1⟩, by rw [k.2.2.2]; exact E.2 nr, fun y => absurd y k.2.2.1⟩)
  intro n
  induction n with
  | zero =>
    intro h2 G F m
    have zz := zf G.2.1 (by decide +kernel)
    have t2 : Tp b nn h2 := t0.fr G.2.1 (by decide +kernel)
    refine t_X12_fault_52 (d + 80) h2 G.1.1 _ ⟨fun w => ⟨fun _ => ⟨dn _ G, bad h2 w (F.2 w).1 (F.2 w).2⟩, fun y => absurd y w⟩, fun w => Ci.mono (c_lookf (d + 80) G.1 t2) (fun r h5 LL => ⟨LL.1.1.1, fun _ => ⟨fun y => absurd (by rw [f34 LL.1.2.1 (by decide +kernel)]; exact w) y, fun w5 => ends _ (G.lk LL.1) w5 (lge_x F w LL (Or.inl rfl))⟩, fun er => ?_⟩)⟩
    have l3 := LL.1.2.2.1
    rcases LL.1.fwd zz with u | u
    · rw [er] at u; exact absurd u (by decide)
    · omega
  | succ n ih =>
    intro h2 G F m
    have zz := zf G.2.1 (by decide +kernel)
    have t2 : Tp b nn h2 := t0.fr G.2.1 (by decide +kernel)
    refine t_X12_fault_52 (d + 80) h2 G.1.1 _ ⟨fun w => ⟨fun _ => ⟨dn _ G, bad h2 w (F.2 w).1 (F.2 w).2⟩, fun y => absurd y w⟩, fun w => Ci.mono (c_lookf (d + 80) G.1 t2) (fun r h5 LL => ⟨LL.1.1.1, fun nr => ⟨fun y => absurd (by rw [f34 LL.1.2.1 (by decide +kernel)]; exact w) y, fun w5 => ends _ (G.lk LL.1) w5 (lge_x F w LL (Or.inr (decide_eq_false nr)))⟩, fun er => ?_⟩)⟩
    have L := LL.1
    have G5 := G.lk L
    have w5 : h_i h5 1 34 = -1 := by rw [f34 L.2.1 (by decide +kernel)]; exact w
    have l3 := L.2.2.1
    have l5 : pa h5 < pz h0 := by
      rcases L.fwd zz with u | u
      · rw [er] at u; exact absurd u (by decide)
      · exact u
    obtain ⟨t1, t2', f, t3⟩ := G5.2.2.2 w5
    obtain ⟨k1, k2, k3⟩ := at1 L.1 (by omega)
    have na := nxa LL k1 k3
    generalize h_im h5 1 33 ((h_i h5 1 33) + 1) = h6 at k1 k2 k3 na ⊢
    have e5 := f35 k2 (by decide +kernel)
    have e6 := f36 k2 (by decide +kernel)
    have z6 := zf k2 (by decide +kernel)
    have z5 := zf G5.2.1 (by decide +kernel)
    have g3 := G5.2.2.1
    have n5 := sN_i G5.1
    have n6 := sN_i k1
    have m6 : sN h6 = sN h5 := by omega
    have F6 : Fr wzp h0 h6 := G5.2.1.tr (k2.more (by decide +kernel))
    refine Cv.mono (c_clauseg s hs d k1 ⟨by rw [f34 k2 (by decide +kernel)]; exact w5, by omega, by omega, by omega⟩ (by omega) (by omega) (by rw [(F6.2 1 37 (by decide +kernel)).1]; exact es) (t0.fr F6 (by decide +kernel))) (fun h9 PP => ?_)
    obtain ⟨P, PF⟩ := PP
    obtain ⟨p1, p2, p3, p4, p5⟩ := P
    rw [na] at PF
    have S9 := lge_s F w LL.2.2 (decide_eq_true er) (Cdm.f0 (L.2.1.tr k2) (by decide +kernel)) PF
    have c9 : ∀ k, k < sN h5 → h_i h9 226 k = h_i h5 226 k := fun k hk => by rw [p4 k (by omega)]; exact fr_i k2 (by decide +kernel) k
    refine ⟨p1.1, ?_⟩
    by_cases w9 : h_i h9 1 34 = -1
    · obtain ⟨u1, u2, u3, u4, u5⟩ := p5 w9
      refine ih h9 ⟨p1, F6.tr p2, by omega, fun _ => ⟨by omega, by omega, f + 1, ?_⟩⟩ S9 (by omega)
      refine pcl_snoc (pcl_same (fun x _ b => c9 x b) t3) ?_
      rw [← m6]; exact u5
    · refine t_X12_fault_52 (d + 80) h9 p1.1 _ ⟨fun w => ⟨fun _ => ?_, fun y => absurd y w⟩, fun w => absurd w w9⟩
      exact ⟨dn _ ⟨p1, F6.tr p2, by omega, fun y => absurd y w9⟩, bad h9 w9 (S9.2 w9).1 (S9.2 w9).2⟩
theorem c_faultg (d : Nat) {b : Nat → Int32} {n : Nat} (bb : ∀ k, k < n → ¬ b k = -1) {h : Hp_} (I : Iv h) (t : Tp b n h) (s : Nat) (hs : s = 1 ∨ s = 2) : Ci (m_X12_fault (d + 80 + 59) 0 0) [.ref 1, .int (Int32.ofNat s)] h (fun r h' => Fa (Int32.ofNat s) h r h' ∧ r = enq b n (ruq b n (clq b n s)) ∧ (r = -1 → (k2ru b n s 0).1 = true ∧ Crm (k2ru b n s 0).2.2 h')) := by
  have z0 : 0 ≤ pz h := (pz_in I).1
  have z1 : pz h ≤ 160 := (pz_in I).2
  have b0 : rin (0 : Int32).toInt (0, 180) := ⟨by decide, by decide⟩
  have I0 : Iv (h_im (h_im (h_im (h_im (h_im h 1 37 (Int32.ofNat s)) 1 33 0) 1 34 (-1)) 1 35 0) 1 36 0) := i36 (i35 (i34 (i33 (I.im (by rw [show tf 1 37 = rtop by decide +kernel]; exact rtop_in _) (by decide)) b0) _) ⟨by decide, by decide⟩) ⟨by decide, by decide⟩
  have F0 : Fr wzf h (h_im (h_im (h_im (h_im (h_im h 1 37 (Int32.ofNat s)) 1 33 0) 1 34 (-1)) 1 35 0) 1 36 0) := (((((Fr.rf _ _).im (by decide +kernel)).im (by decide +kernel)).im (by decide +kernel)).im (by decide +kernel)).im (by decide +kernel)
  have e36 : h_i (h_im (h_im (h_im (h_im (h_im h 1 37 (Int32.ofNat s)) 1 33 0) 1 34 (-1)) 1 35 0) 1 36 0) 1 36 = 0 := im_at
  have e35 : h_i (h_im (h_im (h_im (h_im (h_im h 1 37 (Int32.ofNat s)) 1 33 0) 1 34 (-1)) 1 35 0) 1 36 0) 1 35 = 0 := by rw [f_ne (by decide), im_at]
  have e34 : h_i (h_im (h_im (h_im (h_im (h_im h 1 37 (Int32.ofNat s)) 1 33 0) 1 34 (-1)) 1 35 0) 1 36 0) 1 34 = -1 := by rw [f_ne (by decide), f_ne (by decide), im_at]
  have e33 : h_i (h_im (h_im (h_im (h_im (h_im h 1 37 (Int32.ofNat s)) 1 33 0) 1 34 (-1)) 1 35 0) 1 36 0) 1 33 = 0 := by rw [f_ne (by decide), f_ne (by decide), f_ne (by decide), im_at]
  have e37 : h_i (h_im (h_im (h_im (h_im (h_im h 1 37 (Int32.ofNat s)) 1 33 0) 1 34 (-1)) 1 35 0) 1 36 0) 1 37 = Int32.ofNat s := by rw [f_ne (by decide), f_ne (by decide), f_ne (by decide), f_ne (by decide), im_at]
  have bs : 0 ≤ Int32.ofNat s ∧ Int32.ofNat s ≤ 2 := by rcases hs with u | u <;> subst u <;> decide
  have ns : ¬ Int32.ofNat s = 0 := by rcases hs with u | u <;> subst u <;> decide
  refine t_X12_fault (d + 80) h I.1 (Int32.ofNat s) _ ⟨fun _ => ?_, fun y => absurd bs y⟩
  generalize h_im (h_im (h_im (h_im (h_im h 1 37 (Int32.ofNat s)) 1 33 0) 1 34 (-1)) 1 35 0) 1 36 0 = h0 at I0 F0 e36 e35 e34 e33 e37 ⊢
  have zz := zf F0 (by decide +kernel)
  have a0 : pa h0 = 0 := by show (h_i h0 1 33).toInt = 0; rw [e33]; rfl
  have ta0 : ta h0 = 0 := by have := ta_i I0; omega
  have d0 : pd h0 = 0 := by show (h_i h0 1 35).toInt = 0; rw [e35]; rfl
  have s0 : ps h0 = 0 := by show (h_i h0 1 36).toInt = 0; rw [e36]; rfl
  have n0 := sN_i I0
  have nz : sN h0 = 0 := by omega
  have t0 : Tp b n h0 := t.fr F0 (by decide +kernel)
  refine ⟨fun _ => ?_, fun y => absurd y ns⟩
  refine Cv.mono (c_clauseg s hs d I0 ⟨e34, by omega, by omega, by omega⟩ (by omega) d0 e37 t0) (fun h5 PP => ?_)
  obtain ⟨P, PF⟩ := PP
  obtain ⟨p1, p2, p3, p4, p5⟩ := P
  have a5 : 0 ≤ pa h5 := (pa_in p1).1
  rw [ta0] at PF
  refine ⟨p1.1, fl_loopg s hs d bb (Int32.ofNat s) rfl I0 F0 e37 t0 nz 160 h5 ⟨p1, p2, by omega, fun w => ?_⟩ (sge_1 (Cne.lp 160) PF) (by omega)⟩
  obtain ⟨u1, u2, u3, u4, u5⟩ := p5 w
  refine ⟨by omega, by omega, 1, ?_⟩
  rw [nz] at u5
  exact pcl_snoc (f := 0) (e := 0) rfl u5
/-! texts at work: what they tell -/
theorem lg_le (x y : Int64) : lg_cmp x y ≤ 0 ↔ ¬ y < x := by
  unfold lg_cmp
  by_cases c : x > y
  · rw [if_pos c]
    exact ⟨fun h => absurd h (by decide), fun h => absurd c h⟩
  · rw [if_neg c]
    by_cases e : x = y
    · rw [if_pos e]
      exact ⟨fun _ => c, fun _ => by decide⟩
    · rw [if_neg e]
      exact ⟨fun _ => c, fun _ => by decide⟩
theorem lg_ge (x y : Int64) : 0 ≤ lg_cmp x y ↔ ¬ x < y := by
  unfold lg_cmp
  by_cases c : x > y
  · rw [if_pos c]
    refine ⟨fun _ z => ?_, fun _ => by decide⟩
    have a := Int64.lt_iff_toInt_lt.mp c
    have b := Int64.lt_iff_toInt_lt.mp z
    omega
  · rw [if_neg c]
    by_cases e : x = y
    · rw [if_pos e, e]
      refine ⟨fun _ z => ?_, fun _ => by decide⟩
      have b := Int64.lt_iff_toInt_lt.mp z
      omega
    · rw [if_neg e]
      refine ⟨fun h => absurd h (by decide), fun h => ?_⟩
      have a : ¬ y.toInt < x.toInt := fun z => c (Int64.lt_iff_toInt_lt.mpr z)
      have b : ¬ x.toInt < y.toInt := fun z => h (Int64.lt_iff_toInt_lt.mpr z)
      exact absurd (Int64.toInt_inj.mp (by omega)) e
def kbd (x : Int64) : Int32 := if lg_cmp x (1000000 : Int64) ≤ 0 then (if 0 ≤ lg_cmp x (-1000000 : Int64) then x.toInt32 else -1000000) else 1000000
theorem kbd_b (x : Int64) : kbd x = bndv x := by
  have m1 : (1000000 : Int64).toInt = 1000000 := by decide
  have m2 : (-1000000 : Int64).toInt = -1000000 := by decide
  unfold kbd bndv
  by_cases a : (1000000 : Int64) < x
  · have a' := Int64.lt_iff_toInt_lt.mp a
    have n1 : ¬ x < (1000000 : Int64) := fun z => by
      have := Int64.lt_iff_toInt_lt.mp z
      omega
    rw [if_neg (fun z => (lg_le _ _).mp z a), if_neg n1, if_neg (by decide)]
    decide
  · rw [if_pos ((lg_le _ _).mpr a)]
    have a' : ¬ (1000000 : Int64).toInt < x.toInt := fun z => a (Int64.lt_iff_toInt_lt.mpr z)
    by_cases c : x < (-1000000 : Int64)
    · have c' := Int64.lt_iff_toInt_lt.mp c
      have y1 : x < (1000000 : Int64) := Int64.lt_iff_toInt_lt.mpr (by omega)
      rw [if_neg (fun z => (lg_ge _ _).mp z c), if_pos y1, if_pos c]
      decide
    · rw [if_pos ((lg_ge _ _).mpr c)]
      by_cases y1 : x < (1000000 : Int64)
      · rw [if_pos y1, if_neg c]
      · have y1' : ¬ x.toInt < (1000000 : Int64).toInt := fun z => y1 (Int64.lt_iff_toInt_lt.mpr z)
        have e : x = 1000000 := Int64.toInt_inj.mp (by omega)
        rw [if_neg y1, if_neg (by decide), e]
def cmb (o x y : Int32) : Int32 := if o = 5 then kbd (x.toInt64 + y.toInt64) else if o = 6 then kbd (x.toInt64 - y.toInt64) else if o = 7 then kbd (x.toInt64 * y.toInt64) else if o = 8 then (if x = y then 1 else 0) else if o = 9 then (if y ≤ x then 0 else 1) else if o = 10 then (if x ≤ y then 0 else 1) else if o = 11 then x &&& y else x ||| y
def skt (v : Int32 → Int32) (t : Tk2) (st : List Int32) : List Int32 := if t.1 = 0 then t.2 :: st else if t.1 = 1 then v t.2 :: st else if t.1 = 2 then (match st with | x :: st => (1 - x) :: st | [] => []) else (match st with | y :: x :: st => cmb t.1 x y :: st | _ => [])
def run2 (v : Int32 → Int32) : List Tk2 → List Int32 → List Int32
  | [], st => st
  | t :: E, st => run2 v E (skt v t st)
def top2 : List Int32 → Int32
  | [] => 0
  | x :: _ => x
/-- what a text of clauses tells -/
def evC (v : Int32 → Int32) : List Cl2 → Int32
  | [] => 0
  | c :: C => if c.1.length = 0 ∨ ¬ top2 (run2 v c.1 []) = 0 then top2 (run2 v c.2 []) else evC v C
/-- numbers on the pile: those that say yes or no are 1 or 0 -/
def Vty : List Bool → List Int32 → Prop
  | [], [] => True
  | y :: s, x :: st => (y = true → x = 0 ∨ x = 1) ∧ Vty s st
  | _, _ => False
theorem ty1_c {t : Tk2} {s s' : List Bool} (h : ty1 t s = some s') : ((t.1 = 0 ∨ t.1 = 1) ∧ s' = false :: s) ∨ (t.1 = 2 ∧ ∃ q, s = true :: q ∧ s' = true :: q) ∨ ((t.1 = 5 ∨ t.1 = 6 ∨ t.1 = 7) ∧ ∃ q, s = false :: false :: q ∧ s' = false :: q) ∨ ((t.1 = 8 ∨ t.1 = 9 ∨ t.1 = 10) ∧ ∃ q, s = false :: false :: q ∧ s' = true :: q) ∨ ((t.1 = 11 ∨ t.1 = 12) ∧ ∃ q, s = true :: true :: q ∧ s' = true :: q) := by
  unfold ty1 at h
  by_cases c0 : t.1 = 0 ∨ t.1 = 1
  · rw [if_pos c0] at h
    exact Or.inl ⟨c0, (Option.some.inj h).symm⟩
  · rw [if_neg c0] at h
    by_cases c2 : t.1 = 2
    · rw [if_pos c2] at h
      match s, h with
      | true :: q, h => exact Or.inr (Or.inl ⟨c2, q, rfl, (Option.some.inj h).symm⟩)
      | false :: q, h => cases h
      | [], h => cases h
    · rw [if_neg c2] at h
      by_cases c5 : t.1 = 5 ∨ t.1 = 6 ∨ t.1 = 7
      · rw [if_pos c5] at h
        match s, h with
        | false :: false :: q, h => exact Or.inr (Or.inr (Or.inl ⟨c5, q, rfl, (Option.some.inj h).symm⟩))
        | false :: true :: q, h => cases h
        | true :: q, h => cases h
        | [false], h => cases h
        | [], h => cases h
      · rw [if_neg c5] at h
        by_cases c8 : t.1 = 8 ∨ t.1 = 9 ∨ t.1 = 10
        · rw [if_pos c8] at h
          match s, h with
          | false :: false :: q, h => exact Or.inr (Or.inr (Or.inr (Or.inl ⟨c8, q, rfl, (Option.some.inj h).symm⟩)))
          | false :: true :: q, h => cases h
          | true :: q, h => cases h
          | [false], h => cases h
          | [], h => cases h
        · rw [if_neg c8] at h
          by_cases c11 : t.1 = 11 ∨ t.1 = 12
          · rw [if_pos c11] at h
            match s, h with
            | true :: true :: q, h => exact Or.inr (Or.inr (Or.inr (Or.inr ⟨c11, q, rfl, (Option.some.inj h).symm⟩)))
            | true :: false :: q, h => cases h
            | false :: q, h => cases h
            | [true], h => cases h
            | [], h => cases h
          · rw [if_neg c11] at h
            cases h
theorem skt_p {v : Int32 → Int32} {t : Tk2} {st : List Int32} (h : t.1 = 0 ∨ t.1 = 1) : skt v t st = (if t.1 = 0 then t.2 else v t.2) :: st := by
  unfold skt
  rcases h with e | e
  · rw [if_pos e, if_pos e]
  · have n : ¬ t.1 = 0 := by rw [e]; decide
    rw [if_neg n, if_pos e, if_neg n]
theorem skt_n {v : Int32 → Int32} {t : Tk2} {st : List Int32} {x : Int32} (h : t.1 = 2) : skt v t (x :: st) = (1 - x) :: st := by
  unfold skt
  rw [if_neg (by rw [h]; decide), if_neg (by rw [h]; decide), if_pos h]
theorem skt_b {v : Int32 → Int32} {t : Tk2} {st : List Int32} {x y : Int32} (h : ¬ t.1 = 0 ∧ ¬ t.1 = 1 ∧ ¬ t.1 = 2) : skt v t (y :: x :: st) = cmb t.1 x y :: st := by
  unfold skt
  rw [if_neg h.1, if_neg h.2.1, if_neg h.2.2]
theorem n02 {x : Int32} (h : x = 5 ∨ x = 6 ∨ x = 7 ∨ x = 8 ∨ x = 9 ∨ x = 10 ∨ x = 11 ∨ x = 12) : ¬ x = 0 ∧ ¬ x = 1 ∧ ¬ x = 2 := by
  rcases h with e | e | e | e | e | e | e | e <;> rw [e] <;> decide
theorem ite_01 (p : Prop) [Decidable p] : (if p then (1 : Int32) else 0) = 0 ∨ (if p then (1 : Int32) else 0) = 1 := by
  by_cases h : p
  · rw [if_pos h]
    exact Or.inr rfl
  · rw [if_neg h]
    exact Or.inl rfl
theorem ite_10 (p : Prop) [Decidable p] : (if p then (0 : Int32) else 1) = 0 ∨ (if p then (0 : Int32) else 1) = 1 := by
  by_cases h : p
  · rw [if_pos h]
    exact Or.inl rfl
  · rw [if_neg h]
    exact Or.inr rfl
theorem cmb_8 {o x y : Int32} (h : o = 8 ∨ o = 9 ∨ o = 10) : cmb o x y = 0 ∨ cmb o x y = 1 := by
  unfold cmb
  rcases h with e | e | e
  · rw [if_neg (by rw [e]; decide), if_neg (by rw [e]; decide), if_neg (by rw [e]; decide), if_pos e]
    exact ite_01 _
  · rw [if_neg (by rw [e]; decide), if_neg (by rw [e]; decide), if_neg (by rw [e]; decide), if_neg (by rw [e]; decide), if_pos e]
    exact ite_10 _
  · rw [if_neg (by rw [e]; decide), if_neg (by rw [e]; decide), if_neg (by rw [e]; decide), if_neg (by rw [e]; decide), if_neg (by rw [e]; decide), if_pos e]
    exact ite_10 _
theorem cmb_11 {o x y : Int32} (h : o = 11 ∨ o = 12) (hx : x = 0 ∨ x = 1) (hy : y = 0 ∨ y = 1) : cmb o x y = 0 ∨ cmb o x y = 1 := by
  rcases h with e | e <;> subst e <;> rcases hx with e | e <;> subst e <;> rcases hy with e | e <;> subst e <;> decide
/-- one token, both ways of reading: the kinds stay true -/
theorem skt_t {v : Int32 → Int32} {t : Tk2} {s s' : List Bool} {st : List Int32} (h : ty1 t s = some s') (V : Vty s st) : Vty s' (skt v t st) := by
  rcases ty1_c h with ⟨c, e⟩ | ⟨c, q, e, e'⟩ | ⟨c, q, e, e'⟩ | ⟨c, q, e, e'⟩ | ⟨c, q, e, e'⟩
  · rw [e, skt_p c]
    exact ⟨fun y => absurd y (by decide), V⟩
  · subst e e'
    match st, V with
    | x :: st, V =>
      rw [skt_n c]
      refine ⟨fun _ => ?_, V.2⟩
      rcases V.1 rfl with u | u <;> subst u <;> decide
  · subst e e'
    match st, V with
    | y :: x :: st, V =>
      rw [skt_b (n02 (by rcases c with u | u | u <;> rw [u] <;> decide))]
      exact ⟨fun y => absurd y (by decide), V.2.2⟩
    | [y], V => exact V.2.elim
  · subst e e'
    match st, V with
    | y :: x :: st, V =>
      rw [skt_b (n02 (by rcases c with u | u | u <;> rw [u] <;> decide))]
      exact ⟨fun _ => cmb_8 c, V.2.2⟩
    | [y], V => exact V.2.elim
  · subst e e'
    match st, V with
    | y :: x :: st, V =>
      rw [skt_b (n02 (by rcases c with u | u <;> rw [u] <;> decide))]
      exact ⟨fun _ => cmb_11 c (V.2.1 rfl) (V.1 rfl), V.2.2⟩
    | [y], V => exact V.2.elim
theorem Vty.l : ∀ {s : List Bool} {st : List Int32}, Vty s st → s.length = st.length
  | [], [], _ => rfl
  | _ :: s, _ :: st, V => by
    show s.length + 1 = st.length + 1
    rw [Vty.l V.2]
  | [], _ :: _, V => V.elim
  | _ :: _, [], V => V.elim
theorem run2_t {v : Int32 → Int32} : ∀ (E : List Tk2) {s s' : List Bool} {st : List Int32}, tyL E s = some s' → Vty s st → Vty s' (run2 v E st)
  | [], s, s', st, h, V => by
    have h : some s = some s' := h
    rw [← Option.some.inj h]
    exact V
  | t :: E, s, s', st, h, V => by
    have h : (match ty1 t s with | some s' => tyL E s' | none => none) = some s' := h
    cases e : ty1 t s with
    | none =>
      rw [e] at h
      cases h
    | some q =>
      rw [e] at h
      exact run2_t E h (skt_t e V)
theorem run2_a {v : Int32 → Int32} : ∀ (E F : List Tk2) (st : List Int32), run2 v (E ++ F) st = run2 v F (run2 v E st)
  | [], _, _ => rfl
  | t :: E, F, st => run2_a E F (skt v t st)
/-- a sum, or a condition, leaves one number -/
theorem run2_1 {v : Int32 → Int32} {y : Bool} {E : List Tk2} (p : Put1 y E) : ∃ x, run2 v E [] = [x] := by
  have V := run2_t (v := v) E (p []) (st := []) trivial
  have l := V.l
  match e : run2 v E [], l with
  | [x], _ => exact ⟨x, rfl⟩
/-- letters that are alike tell alike -/
theorem run2_v {v w : Int32 → Int32} : ∀ (E : List Tk2) (st : List Int32), (∀ t ∈ E, t.1 = 1 → v t.2 = w t.2) → run2 v E st = run2 w E st
  | [], _, _ => rfl
  | t :: E, st, h => by
    have e : skt v t st = skt w t st := by
      unfold skt
      by_cases c : t.1 = 1
      · rw [if_pos c, if_pos c, h t (List.mem_cons_self ..) c]
      · rw [if_neg c, if_neg c]
    show run2 v E (skt v t st) = run2 w E (skt w t st)
    rw [e]
    exact run2_v E _ (fun t ht => h t (List.mem_cons_of_mem _ ht))
theorem evC_v {s : Nat} {v w : Int32 → Int32} (h : ∀ c, ltb s c = true → v c = w c) : ∀ C : List Cl2, (∀ c ∈ C, clO s c) → evC v C = evC w C
  | [], _ => rfl
  | c :: C, hc => by
    have k := hc c (List.mem_cons_self ..)
    show (if c.1.length = 0 ∨ ¬ top2 (run2 v c.1 []) = 0 then top2 (run2 v c.2 []) else evC v C) = (if c.1.length = 0 ∨ ¬ top2 (run2 w c.1 []) = 0 then top2 (run2 w c.2 []) else evC w C)
    rw [run2_v c.1 [] (fun t ht e => h _ ((k.2.2.1 t ht).1 e)), run2_v c.2 [] (fun t ht e => h _ ((k.2.2.2 t ht).1 e)), evC_v h C (fun c hc' => hc c (List.mem_cons_of_mem _ hc'))]
/-- the pile, as a row holds it -/
def Pil (p : Nat → Int32) : List Int32 → Prop
  | [] => True
  | x :: st => p st.length = x ∧ Pil p st
theorem Pil.cg {p q : Nat → Int32} : ∀ {st : List Int32}, Pil p st → (∀ k, k < st.length → q k = p k) → Pil q st
  | [], _, _ => trivial
  | x :: st, P, e => ⟨(e _ (by show st.length < st.length + 1; omega)).trans P.1, Pil.cg P.2 (fun k hk => e k (by show k < st.length + 1; omega))⟩
theorem Pil.up {p : Nat → Int32} {st : List Int32} (P : Pil p st) (x : Int32) : Pil (upp p st.length x) (x :: st) := ⟨if_pos rfl, P.cg (fun k hk => if_neg (by omega))⟩
/-! what the reference's codes tell -/
def At_ (cd : Nat → Int32) (i : Nat) (L : List Int32) : Prop := ∀ k v, L[k]? = some v → cd (i + k) = v
theorem At_.l {cd : Nat → Int32} {i : Nat} {L M : List Int32} (a : At_ cd i (L ++ M)) : At_ cd i L := fun k v e => a k v (by
  have l : k < L.length := (List.getElem?_eq_some_iff.mp e).1
  rw [List.getElem?_append_left l]
  exact e)
theorem At_.r {cd : Nat → Int32} {i : Nat} {L M : List Int32} (a : At_ cd i (L ++ M)) : At_ cd (i + L.length) M := fun k v e => by
  have z := a (L.length + k) v (by
    rw [List.getElem?_append_right (by omega), show L.length + k - L.length = k by omega]
    exact e)
  rw [← Nat.add_assoc] at z
  exact z
theorem At_.h {cd : Nat → Int32} {i : Nat} {x : Int32} {L : List Int32} (a : At_ cd i (x :: L)) : cd i = x := a 0 x rfl
theorem bnd_and {x y : Int32} (hx : x = 0 ∨ x = 1) (hy : y = 0 ∨ y = 1) : bothv 38 x y = cmb 11 x y ∧ bothv 124 x y = cmb 12 x y := by
  rcases hx with e | e <;> subst e <;> rcases hy with e | e <;> subst e <;> decide
theorem both_cmb {o x y : Int32} (h : (o = 5 ∨ o = 6 ∨ o = 7) ∨ (o = 8 ∨ o = 9 ∨ o = 10) ∨ ((o = 11 ∨ o = 12) ∧ (x = 0 ∨ x = 1) ∧ (y = 0 ∨ y = 1))) : bothv (opm o) x y = cmb o x y := by
  rcases h with (e | e | e) | (e | e | e) | ⟨e, hx, hy⟩
  · subst e
    show bndv (x.toInt64 + y.toInt64) = kbd (x.toInt64 + y.toInt64)
    exact (kbd_b _).symm
  · subst e
    show bndv (x.toInt64 - y.toInt64) = kbd (x.toInt64 - y.toInt64)
    exact (kbd_b _).symm
  · subst e
    show bndv (x.toInt64 * y.toInt64) = kbd (x.toInt64 * y.toInt64)
    exact (kbd_b _).symm
  · subst e
    rfl
  · subst e
    rfl
  · subst e
    rfl
  · rcases e with e | e <;> subst e
    · exact (bnd_and hx hy).1
    · exact (bnd_and hx hy).2
theorem opm_n {o : Int32} (h : o = 5 ∨ o = 6 ∨ o = 7 ∨ o = 8 ∨ o = 9 ∨ o = 10 ∨ o = 11 ∨ o = 12) : ¬ opm o = 0 ∧ ¬ opm o = 1 ∧ ¬ opm o = 33 ∧ ¬ opm o = 2 ∧ ¬ opm o = 3 := by
  rcases h with e | e | e | e | e | e | e | e <;> subst e <;> decide
theorem tkm_b {t : Tk2} (h : ¬ t.1 = 0 ∧ ¬ t.1 = 1) : tkm t = [opm t.1] := by
  unfold tkm
  rw [if_neg h.1, if_neg h.2]
/-- one token of the reference at work -/
theorem rt_one {s : Nat} {cd lt : Nat → Int32} {j : Nat} (hj : cd j = 2 ∨ cd j = 3) {t : Tk2} {g i m : Nat} {p : Nat → Int32} {st : List Int32} {ts ts' : List Bool} (P : prun s cd g i st.length j m) (L : Pil p st) (ht : ty1 t ts = some ts') (V : Vty ts st) (a : At_ cd i (tkm t)) : ∃ g' p', prun s cd g' (i + (tkm t).length) (skt (fun c => lt c.toNatClampNeg) t st).length j m ∧ wev cd lt g i st.length p = wev cd lt g' (i + (tkm t).length) (skt (fun c => lt c.toNatClampNeg) t st).length p' ∧ Pil p' (skt (fun c => lt c.toNatClampNeg) t st) := by
  have fst : ¬ cd i = 2 ∧ ¬ cd i = 3 := by
    rcases ty1_c ht with ⟨c, _⟩ | ⟨c, _⟩ | ⟨c, _⟩ | ⟨c, _⟩ | ⟨c, _⟩
    · unfold tkm at a
      rcases c with c | c
      · rw [if_pos c] at a
        rw [a.h]
        decide
      · rw [if_neg (by rw [c]; decide), if_pos c] at a
        rw [a.h]
        decide
    · rw [tkm_b (by rw [c]; decide), c] at a
      rw [a.h]
      decide
    · rw [tkm_b (by rcases c with u | u | u <;> rw [u] <;> decide)] at a
      rw [a.h]
      exact (opm_n (by rcases c with u | u | u <;> rw [u] <;> decide)).2.2.2
    · rw [tkm_b (by rcases c with u | u | u <;> rw [u] <;> decide)] at a
      rw [a.h]
      exact (opm_n (by rcases c with u | u | u <;> rw [u] <;> decide)).2.2.2
    · rw [tkm_b (by rcases c with u | u <;> rw [u] <;> decide)] at a
      rw [a.h]
      exact (opm_n (by rcases c with u | u <;> rw [u] <;> decide)).2.2.2
  cases g with
  | zero =>
    have e : i = j := P.1
    rw [e] at fst
    exact (hj.elim fst.1 fst.2).elim
  | succ g =>
    obtain ⟨i', n', h1, h2⟩ := P
    rw [wev_s]
    have bin : ∀ (x y : Int32) (st0 : List Int32), st = y :: x :: st0 → (¬ t.1 = 0 ∧ ¬ t.1 = 1 ∧ ¬ t.1 = 2) → (¬ opm t.1 = 0 ∧ ¬ opm t.1 = 1 ∧ ¬ opm t.1 = 33 ∧ ¬ opm t.1 = 2 ∧ ¬ opm t.1 = 3) → bothv (opm t.1) x y = cmb t.1 x y → ∃ g' p', prun s cd g' (i + (tkm t).length) (skt (fun c => lt c.toNatClampNeg) t st).length j m ∧ (if cd i = 0 then wev cd lt g (i + 2) (st.length + 1) (upp p st.length (cd (i + 1))) else if cd i = 1 then wev cd lt g (i + 2) (st.length + 1) (upp p st.length (lt (cd (i + 1)).toNatClampNeg)) else if cd i = 33 then wev cd lt g (i + 1) st.length (upp p (st.length - 1) (if p (st.length - 1) = 0 then 1 else 0)) else wev cd lt g (i + 1) (st.length - 1) (upp p (st.length - 2) (bothv (cd i) (p (st.length - 2)) (p (st.length - 1))))) = wev cd lt g' (i + (tkm t).length) (skt (fun c => lt c.toNatClampNeg) t st).length p' ∧ Pil p' (skt (fun c => lt c.toNatClampNeg) t st) := fun x y st0 est nt no eb => by
      subst est
      rw [tkm_b ⟨nt.1, nt.2.1⟩] at a ⊢
      have ci := a.h
      rw [skt_b nt, if_neg (by rw [ci]; exact no.1), if_neg (by rw [ci]; exact no.2.1), if_neg (by rw [ci]; exact no.2.2.1)]
      have q : i' = i + 1 ∧ n' = (y :: x :: st0).length - 1 := by
        rcases pst_0 h1 with ⟨c, _⟩ | ⟨c, _⟩ | ⟨c, _⟩ | ⟨_, _, q2, q3⟩
        · exact absurd (ci.symm.trans c) no.1
        · exact absurd (ci.symm.trans c) no.2.1
        · exact absurd (ci.symm.trans c) no.2.2.1
        · exact ⟨q2, q3⟩
      have l1 : (y :: x :: st0).length - 1 = (cmb t.1 x y :: st0).length := rfl
      rw [q.1, q.2, l1] at h2
      refine ⟨g, upp p st0.length (cmb t.1 x y), h2, ?_, L.2.2.up _⟩
      have p1 : p ((y :: x :: st0).length - 1) = y := L.1
      have p2 : p ((y :: x :: st0).length - 2) = x := L.2.1
      rw [p1, p2, ci, eb]
      rfl
    rcases ty1_c ht with ⟨c, e⟩ | ⟨c, q, e, e'⟩ | ⟨c, q, e, e'⟩ | ⟨c, q, e, e'⟩ | ⟨c, q, e, e'⟩
    · rw [skt_p c]
      rcases c with c | c
      · have et : tkm t = [0, t.2] := by
          unfold tkm
          rw [if_pos c]
        rw [et] at a ⊢
        have ci := a.h
        have c1 : cd (i + 1) = t.2 := a 1 t.2 rfl
        rw [if_pos ci, if_pos c, c1]
        have q : i' = i + 2 ∧ n' = st.length + 1 := by
          rcases pst_0 h1 with ⟨_, _, q2, q3⟩ | ⟨c, _⟩ | ⟨c, _⟩ | ⟨c, _⟩
          · exact ⟨q2, q3⟩
          · rw [ci] at c
            exact absurd c (by decide)
          · rw [ci] at c
            exact absurd c (by decide)
          · exact absurd ci c.1
        rw [q.1, q.2] at h2
        exact ⟨g, _, h2, rfl, L.up _⟩
      · have n0 : ¬ t.1 = 0 := by rw [c]; decide
        have et : tkm t = [1, t.2] := by
          unfold tkm
          rw [if_neg n0, if_pos c]
        rw [et] at a ⊢
        have ci := a.h
        have c1 : cd (i + 1) = t.2 := a 1 t.2 rfl
        rw [if_neg n0, if_neg (show ¬ cd i = 0 by rw [ci]; decide), if_pos ci, c1]
        have q : i' = i + 2 ∧ n' = st.length + 1 := by
          rcases pst_0 h1 with ⟨c, _⟩ | ⟨_, _, _, q2, q3⟩ | ⟨c, _⟩ | ⟨c, _⟩
          · rw [ci] at c
            exact absurd c (by decide)
          · exact ⟨q2, q3⟩
          · rw [ci] at c
            exact absurd c (by decide)
          · exact absurd ci c.2.1
        rw [q.1, q.2] at h2
        exact ⟨g, _, h2, rfl, L.up _⟩
    · subst e
      match st, V, L, h1, h2, bin with
      | x :: st0, V, L, h1, h2, bin =>
        rw [skt_n c]
        have et : tkm t = [33] := by
          rw [tkm_b (by rw [c]; decide), c]
          rfl
        rw [et] at a ⊢
        have ci := a.h
        rw [if_neg (by rw [ci]; decide), if_neg (by rw [ci]; decide), if_pos ci]
        have q : i' = i + 1 ∧ n' = (x :: st0).length := by
          rcases pst_0 h1 with ⟨c, _⟩ | ⟨c, _⟩ | ⟨_, _, q2, q3⟩ | ⟨c, _⟩
          · rw [ci] at c
            exact absurd c (by decide)
          · rw [ci] at c
            exact absurd c (by decide)
          · exact ⟨q2, q3⟩
          · exact absurd ci c.2.2.1
        rw [q.1, q.2] at h2
        have p1 : p ((x :: st0).length - 1) = x := L.1
        have ex : (if x = 0 then (1 : Int32) else 0) = 1 - x := by
          rcases V.1 rfl with u | u <;> subst u <;> decide
        rw [p1, ex]
        exact ⟨g, _, h2, rfl, L.2.up _⟩
    · subst e
      match st, V with
      | y :: x :: st0, V => exact bin x y st0 rfl (n02 (by rcases c with u | u | u <;> rw [u] <;> decide)) (opm_n (by rcases c with u | u | u <;> rw [u] <;> decide)) (both_cmb (Or.inl c))
      | [y], V => exact V.2.elim
    · subst e
      match st, V with
      | y :: x :: st0, V => exact bin x y st0 rfl (n02 (by rcases c with u | u | u <;> rw [u] <;> decide)) (opm_n (by rcases c with u | u | u <;> rw [u] <;> decide)) (both_cmb (Or.inr (Or.inl c)))
      | [y], V => exact V.2.elim
    · subst e
      match st, V with
      | y :: x :: st0, V => exact bin x y st0 rfl (n02 (by rcases c with u | u <;> rw [u] <;> decide)) (opm_n (by rcases c with u | u <;> rw [u] <;> decide)) (both_cmb (Or.inr (Or.inr ⟨c, V.2.1 rfl, V.1 rfl⟩)))
      | [y], V => exact V.2.elim
theorem rt_tok {s : Nat} {cd lt : Nat → Int32} {j : Nat} (hj : cd j = 2 ∨ cd j = 3) : ∀ (E : List Tk2) {g i m : Nat} {p : Nat → Int32} {st : List Int32} {ts ts' : List Bool}, prun s cd g i st.length j m → Pil p st → tyL E ts = some ts' → Vty ts st → At_ cd i (E.flatMap tkm) → ∃ g' p', prun s cd g' (i + (E.flatMap tkm).length) (run2 (fun c => lt c.toNatClampNeg) E st).length j m ∧ wev cd lt g i st.length p = wev cd lt g' (i + (E.flatMap tkm).length) (run2 (fun c => lt c.toNatClampNeg) E st).length p' ∧ Pil p' (run2 (fun c => lt c.toNatClampNeg) E st)
  | [], g, i, m, p, st, ts, ts', P, L, _, _, _ => ⟨g, p, P, rfl, L⟩
  | t :: E, g, i, m, p, st, ts, ts', P, L, h, V, a => by
    have h : (match ty1 t ts with | some s' => tyL E s' | none => none) = some ts' := h
    have ef : (t :: E).flatMap tkm = tkm t ++ E.flatMap tkm := List.flatMap_cons
    rw [ef] at a ⊢
    cases e : ty1 t ts with
    | none =>
      rw [e] at h
      cases h
    | some q =>
      rw [e] at h
      obtain ⟨g1, p1, P1, e1, L1⟩ := rt_one (lt := lt) hj P L e V a.l
      obtain ⟨g2, p2, P2, e2, L2⟩ := rt_tok hj E P1 L1 h (skt_t e V) a.r
      refine ⟨g2, p2, ?_, ?_, L2⟩
      · rw [List.length_append, ← Nat.add_assoc]
        exact P2
      · rw [List.length_append, ← Nat.add_assoc, e1]
        exact e2
/-- a whole sum or condition -/
theorem rt_all {s : Nat} {cd lt : Nat → Int32} {j : Nat} (hj : cd j = 2 ∨ cd j = 3) {y : Bool} {E : List Tk2} (p : Put1 y E) {g i : Nat} (P : prun s cd g i 0 j 1) (a : At_ cd i (E.flatMap tkm)) (en : cd (i + (E.flatMap tkm).length) = 2 ∨ cd (i + (E.flatMap tkm).length) = 3) (q : Nat → Int32) : j = i + (E.flatMap tkm).length ∧ wev cd lt g i 0 q = top2 (run2 (fun c => lt c.toNatClampNeg) E []) := by
  obtain ⟨g', p', P', e', L'⟩ := rt_tok (lt := lt) hj E (st := []) (p := q) P trivial (p []) trivial a
  obtain ⟨x, ex⟩ := run2_1 (v := fun c => lt c.toNatClampNeg) p
  rw [ex] at P' e' L'
  cases g' with
  | zero =>
    refine ⟨P'.1.symm, ?_⟩
    rw [ex]
    refine e'.trans ?_
    show p' 0 = x
    exact L'.1
  | succ g' =>
    obtain ⟨i1, n1, h1, _⟩ := P'
    rcases pst_0 h1 with ⟨c, _⟩ | ⟨c, _⟩ | ⟨c, _⟩ | ⟨c, _⟩
    · rw [c] at en
      exact absurd en (by decide)
    · rw [c] at en
      exact absurd en (by decide)
    · rw [c] at en
      exact absurd en (by decide)
    · exact (en.elim c.2.2.2.1 c.2.2.2.2).elim
/-- the condition of a clause, also of one that has none -/
def cnE (c : Cl2) : List Tk2 := if c.1.length = 0 then [(0, 1)] else c.1
theorem clM_e (c : Cl2) : clM c = (cnE c).flatMap tkm ++ 2 :: (c.2.flatMap tkm ++ [3]) := by
  unfold clM cnE
  split
  · rfl
  · rfl
theorem cnE_p {s : Nat} {c : Cl2} (o : clO s c) : ∃ y, Put1 y (cnE c) := by
  unfold cnE
  split
  · exact ⟨false, fun _ => rfl⟩
  · rename_i n
    rcases o.1 with e | e
    · exact absurd e n
    · exact ⟨true, e⟩
theorem cnE_t {v : Int32 → Int32} (c : Cl2) : (c.1.length = 0 ∨ ¬ top2 (run2 v c.1 []) = 0) ↔ ¬ top2 (run2 v (cnE c) []) = 0 := by
  unfold cnE
  split
  · rename_i e
    exact ⟨fun _ => (show ¬ (1 : Int32) = 0 from by decide), fun _ => Or.inl e⟩
  · rename_i n
    exact ⟨fun h => h.elim (fun e => absurd e n) id, Or.inr⟩
theorem clM_2 (c : Cl2) : 2 ≤ (clM c).length := by
  rw [clM_e, List.length_append, List.length_cons, List.length_append]
  show 2 ≤ _ + (_ + 1 + 1)
  omega
theorem tel_ev {s : Nat} {cd lt : Nat → Int32} : ∀ (C : List Cl2) (f i e : Nat) (r : Int32), pcl s cd f i e → tel s cd lt f i e r → At_ cd i (rlM C) → e = i + (rlM C).length → (∀ c ∈ C, clO s c) → r = evC (fun c => lt c.toNatClampNeg) C
  | [], 0, i, e, r, _, t, _, _, _ => t
  | [], f + 1, i, e, r, p, _, _, ee, _ => by
    obtain ⟨j, k, ⟨g1, p1⟩, _, ⟨g2, p2⟩, _, h2⟩ := p
    have l1 := prun_le p1
    have l2 := prun_le p2
    have l3 := pcl_le h2
    have ee : e = i + 0 := ee
    omega
  | c :: C, 0, i, e, r, p, _, _, ee, _ => by
    have p : i = e := p
    have l := clM_2 c
    have q : (rlM (c :: C)).length = (clM c).length + (rlM C).length := by
      rw [show c :: C = [c] ++ C from rfl, rlM_a, rlM_1, List.length_append]
    omega
  | c :: C, f + 1, i, e, r, p, t, a, ee, o => by
    have oc := o c (List.mem_cons_self ..)
    have eq : rlM (c :: C) = clM c ++ rlM C := by rw [show c :: C = [c] ++ C from rfl, rlM_a, rlM_1]
    rw [eq] at a ee
    have ac := a.l
    have aC := a.r
    rw [clM_e] at ac
    have a1 := ac.l
    have a2 := ac.r
    have m2 : cd (i + ((cnE c).flatMap tkm).length) = 2 := a2.h
    have a3 : At_ cd (i + ((cnE c).flatMap tkm).length + 1) (c.2.flatMap tkm ++ [3]) := fun k v e => by
      have z := a2 (k + 1) v e
      rw [show i + ((cnE c).flatMap tkm).length + (k + 1) = i + ((cnE c).flatMap tkm).length + 1 + k by omega] at z
      exact z
    have m3 : cd (i + ((cnE c).flatMap tkm).length + 1 + (c.2.flatMap tkm).length) = 3 := a3.r.h
    have ln : (clM c).length = ((cnE c).flatMap tkm).length + 1 + (c.2.flatMap tkm).length + 1 := by
      rw [clM_e, List.length_append, List.length_cons, List.length_append]
      show _ + (_ + 1 + 1) = _
      omega
    obtain ⟨y, py⟩ := cnE_p oc
    obtain ⟨j', k', ⟨h1, p1⟩, u2, ⟨h2, p2⟩, u3, pC⟩ := p
    obtain ⟨j, k, g1, g2, q1, cj, q2, ck, w⟩ := t
    have r1 := rt_all (lt := lt) (Or.inl cj) py q1 a1 (Or.inl m2) (fun _ => 0)
    have r1' := rt_all (lt := lt) (Or.inl u2) py p1 a1 (Or.inl m2) (fun _ => 0)
    obtain ⟨ej, v1⟩ := r1
    obtain ⟨ej', _⟩ := r1'
    rw [ej] at q2
    rw [ej'] at p2
    have r2 := rt_all (lt := lt) (Or.inr ck) oc.2.1 q2 a3.l (Or.inr m3) (fun _ => 0)
    have r2' := rt_all (lt := lt) (Or.inr u3) oc.2.1 p2 a3.l (Or.inr m3) (fun _ => 0)
    obtain ⟨ek, v2⟩ := r2
    obtain ⟨ek', _⟩ := r2'
    have nx : i + ((cnE c).flatMap tkm).length + 1 + (c.2.flatMap tkm).length + 1 = i + (clM c).length := by omega
    rw [ek', nx] at pC
    rw [v1, ej, v2, ek, nx] at w
    show r = if c.1.length = 0 ∨ ¬ top2 (run2 (fun c => lt c.toNatClampNeg) c.1 []) = 0 then top2 (run2 (fun c => lt c.toNatClampNeg) c.2 []) else evC (fun c => lt c.toNatClampNeg) C
    rcases w with ⟨w1, w2⟩ | ⟨w1, w2⟩
    · rw [if_pos ((cnE_t c).mpr w1)]
      exact w2
    · rw [if_neg (fun z => (cnE_t c).mp z w1)]
      exact tel_ev C f _ e r pC w2 aC (by rw [List.length_append] at ee; omega) (fun c hc => o c (List.mem_cons_of_mem _ hc))
end
section
/-! the class's texts at work -/
theorem nv_p4 {o x : Int32} (ho : 0 ≤ o.toInt ∧ o.toInt ≤ 15) (hx : 0 ≤ x.toInt ∧ x.toInt ≤ 100000) : nv (pk4 o x) = 16 * nv x + nv o ∧ (nv o : Int) = o.toInt ∧ (nv x : Int) = x.toInt := by
  have o1 := (nv_of ho.1).1
  have x1 := (nv_of hx.1).1
  refine ⟨?_, o1.symm, x1.symm⟩
  unfold pk4
  rw [nv_or, nv_shl (by decide) (by decide), show nv 4 = 4 from rfl, Nat.mod_eq_of_lt (show nv x * 2 ^ 4 < 4294967296 by omega), or_add (show nv o < 2 ^ 4 by omega)]
  omega
theorem pk4_15 {o x : Int32} (ho : 0 ≤ o.toInt ∧ o.toInt ≤ 15) (hx : 0 ≤ x.toInt ∧ x.toInt ≤ 100000) : pk4 o x &&& 15 = o := by
  have q := nv_p4 ho hx
  refine nv_i ?_
  rw [nv_and, q.1, show nv 15 = 2 ^ 4 - 1 from rfl, Nat.and_two_pow_sub_one_eq_mod]
  omega
theorem pk4_sh {o x : Int32} (ho : 0 ≤ o.toInt ∧ o.toInt ≤ 15) (hx : 0 ≤ x.toInt ∧ x.toInt ≤ 100000) : pk4 o x >>> ((4 : Int32) &&& 31) = x := by
  have q := nv_p4 ho hx
  have p : 0 ≤ (pk4 o x).toInt := by
    rw [nv_pos (by omega)]
    omega
  refine nv_i ?_
  rw [nv_shr p (by decide) (by decide), q.1, show nv 4 = 4 from rfl]
  omega
theorem c_kbd (d : Nat) (h : Hp_) (x : Int64) : Ci (m_X10_bounded (d + 0) 0 0) [.long x] h (fun r h' => r = kbd x ∧ h' = h) := by
  refine t_X10_bounded d h x _ ⟨fun a => ⟨fun c => ⟨?_, rfl⟩, fun c => ⟨?_, rfl⟩⟩, fun a => ⟨?_, rfl⟩⟩
  · unfold kbd
    rw [if_pos a, if_pos c]
  · unfold kbd
    rw [if_pos a, if_neg c]
  · unfold kbd
    rw [if_neg a]
theorem c_cmb (d : Nat) (h : Hp_) (w : Wf h) (o x y : Int32) : Ci (m_X10_combine (d + 1) 0 0) [.int o, .int x, .int y] h (fun r h' => r = cmb o x y ∧ h' = h) := by
  have bd : ∀ v, Ci (m_X10_bounded (d + 0) 0 0) [.long v] h (fun r h' => Wf h' ∧ r = kbd v ∧ h' = h) := fun v => Ci.mono (c_kbd d h v) (fun r h' e => ⟨by rw [e.2]; exact w, e⟩)
  refine t_X10_combine d h o x y _ ⟨fun e => ?_, fun e => ?_, fun e => ?_, fun e => ⟨fun z => ⟨?_, rfl⟩, fun z => ⟨?_, rfl⟩⟩, fun e => ⟨fun z => ⟨?_, rfl⟩, fun z => ⟨?_, rfl⟩⟩, fun e => ⟨fun z => ⟨?_, rfl⟩, fun z => ⟨?_, rfl⟩⟩, fun e => ⟨?_, rfl⟩, fun e => ⟨?_, rfl⟩⟩
  · subst e
    exact bd _
  · subst e
    exact bd _
  · subst e
    exact bd _
  · subst e
    show (0 : Int32) = if x = y then 1 else 0
    rw [if_neg z]
  · subst e
    show (1 : Int32) = if x = y then 1 else 0
    rw [if_pos z]
  · subst e
    show (0 : Int32) = if y ≤ x then 0 else 1
    rw [if_pos z]
  · subst e
    show (1 : Int32) = if y ≤ x then 0 else 1
    rw [if_neg z]
  · subst e
    show (0 : Int32) = if x ≤ y then 0 else 1
    rw [if_pos z]
  · subst e
    show (1 : Int32) = if x ≤ y then 0 else 1
    rw [if_neg z]
  · subst e
    rfl
  · unfold cmb
    rw [if_neg e.1, if_neg e.2.1, if_neg e.2.2.1, if_neg e.2.2.2.1, if_neg e.2.2.2.2.1, if_neg e.2.2.2.2.2.1, if_neg e.2.2.2.2.2.2]
theorem lt_all : (List.range 256).all (fun j => decide ((ltb 1 (Int32.ofNat j) = true → 0 ≤ (ixq 1 (xch (Int32.ofNat j))).toInt ∧ (ixq 1 (xch (Int32.ofNat j))).toInt ≤ 8) ∧ (ltb 2 (Int32.ofNat j) = true → 0 ≤ (ixq 2 (xch (Int32.ofNat j))).toInt ∧ (ixq 2 (xch (Int32.ofNat j))).toInt ≤ 5))) = true := by decide +kernel
theorem ltb_in {s : Nat} (hs : s = 1 ∨ s = 2) {c : Int32} (h : ltb s c = true) : 0 ≤ c.toInt ∧ c.toInt ≤ 255 := by
  have key : ∀ y : Int32, (y = 107 ∨ y = 119 ∨ y = 112 ∨ y = 104 ∨ y = 100 ∨ y = 99 ∨ y = 110 ∨ y = 101 ∨ y = 116 ∨ y = 121 ∨ y = 109 ∨ y = 120 ∨ y = 97) → 0 ≤ y.toInt ∧ y.toInt ≤ 255 := by
    rintro y (u | u | u | u | u | u | u | u | u | u | u | u | u) <;> rw [u] <;> decide
  rcases hs with u | u <;> subst u
  · have h' := of_decide_eq_true (show decide (c = 107 ∨ c = 119 ∨ c = 112 ∨ c = 104 ∨ c = 100 ∨ c = 99 ∨ c = 110 ∨ c = 101 ∨ c = 116) = true from h)
    rcases h' with u | u | u | u | u | u | u | u | u <;> exact key c (by rw [u]; decide)
  · have h' := of_decide_eq_true (show decide (c = 99 ∨ c = 121 ∨ c = 109 ∨ c = 120 ∨ c = 116 ∨ c = 97) = true from h)
    rcases h' with u | u | u | u | u | u <;> exact key c (by rw [u]; decide)
theorem ix_in {s : Nat} (hs : s = 1 ∨ s = 2) {c : Int32} (h : ltb s c = true) : 0 ≤ (ixq s (xch c)).toInt ∧ (ixq s (xch c)).toInt ≤ (if s = 1 then 8 else 5) := by
  have b := ltb_in hs h
  have e := of_nat32 b.1
  have k := n_nat b.1
  rw [← e] at h ⊢
  have z := of_decide_eq_true (List.all_eq_true.mp lt_all _ (List.mem_range.mpr (show c.toNatClampNeg < 256 by omega)))
  rcases hs with u | u <;> subst u
  · exact z.1 h
  · exact z.2 h
/-- a token's number taken apart -/
theorem tkx_q {s : Nat} (hs : s = 1 ∨ s = 2) {t : Tk2} (h : tkO (ltb s) t) : tkx s t &&& 15 = t.1 ∧ tkx s t >>> ((4 : Int32) &&& 31) = if t.1 = 1 then ixq s (xch t.2) else t.2 := by
  have ho : 0 ≤ t.1.toInt ∧ t.1.toInt ≤ 15 := by
    rcases h.2.2.2 with u | u | u | u | u | u | u | u | u | u | u <;> rw [u] <;> decide
  have hx : 0 ≤ (if t.1 = 1 then ixq s (xch t.2) else t.2).toInt ∧ (if t.1 = 1 then ixq s (xch t.2) else t.2).toInt ≤ 100000 := by
    by_cases c : t.1 = 1
    · rw [if_pos c]
      have z := ix_in hs (h.1 c)
      have b8 : (if s = 1 then (8 : Int) else 5) ≤ 8 := by split <;> decide
      exact ⟨z.1, by omega⟩
    · rw [if_neg c]
      by_cases c0 : t.1 = 0
      · have z := h.2.1 c0
        exact ⟨z.1, by omega⟩
      · rw [h.2.2.1 c0 c]
        decide
  exact ⟨pk4_15 ho hx, pk4_sh ho hx⟩
theorem Vty.u {y : Bool} {s : List Bool} {st : List Int32} (V : Vty (y :: s) st) : ∃ x st0, st = x :: st0 ∧ (y = true → x = 0 ∨ x = 1) ∧ Vty s st0 := match st, V with
  | x :: st0, V => ⟨x, st0, rfl, V.1, V.2⟩
theorem up_41 {a : Nat} (h : Hp_) (k : Nat) (x : Int32) : h_i (h_im h a k x) a = upp (h_i h a) k x := funext (fun j => by
  rw [h_i_im]
  unfold upp
  by_cases e : j = k
  · rw [if_pos ⟨rfl, e⟩, if_pos e]
  · rw [if_neg (fun z => e z.2), if_neg e])
/-- the code of rule r, and what stands while it works -/
def Anc_13 (h0 : Hp_) (r : Nat) (L : List Int32) : Prop := r < 20 ∧ L.length ≤ 164 ∧ h_i h0 39 r = Int32.ofNat L.length ∧ ∀ i v, L[i]? = some v → h_i h0 40 (164 * r + i) = v
def Ans_13 (h0 h : Hp_) (st : List Int32) : Prop := Iv h ∧ Fr [41999] h0 h ∧ Pil (h_i h 41) st
theorem Ans_13.im {h0 h : Hp_} {st : List Int32} (A : Ans_13 h0 h st) (x : Int32) {k : Nat} {st' : List Int32} (ek : k = st'.length) (P : Pil (h_i h 41) st') : Ans_13 h0 (h_im h 41 k x) (x :: st') := ⟨tr_ 41 (by decide +kernel) A.1 _ _ (by decide) (by decide), A.2.1.im (inw_row (by decide +kernel) _), by rw [up_41, ek]; exact P.up x⟩
theorem an_ix_13 {h0 h : Hp_} {st : List Int32} {r i : Nat} {L : List Int32} {w : Int32} (N : Anc_13 h0 r L) (A : Ans_13 h0 h st) (e : L[i]? = some w) : vp_in (Int32.ofNat r) 20 ∧ ¬ h_i h 39 (Int32.ofNat r).toNatClampNeg ≤ Int32.ofNat i ∧ vp_in ((Int32.ofNat r * 164) + Int32.ofNat i) 3280 ∧ h_i h 40 (((Int32.ofNat r * 164) + Int32.ofNat i) : Int32).toNatClampNeg = w := by
  have li : i < L.length := (List.getElem?_eq_some_iff.mp e).1
  obtain ⟨n1, n2, n3, n4⟩ := N
  have t164 : (164 : Int32).toInt = 164 := rfl
  have m1 : (Int32.ofNat r * 164).toInt = (r : Int) * 164 := by rw [tx_mul (by rw [t164, on_j (by omega)]; omega) (by rw [t164, on_j (by omega)]; omega), t164, on_j (by omega)]
  have m2 : (Int32.ofNat r * 164 + Int32.ofNat i).toInt = (r : Int) * 164 + (i : Int) := by rw [tx_add (by rw [m1, on_j (by omega)]; omega) (by rw [m1, on_j (by omega)]; omega), m1, on_j (by omega)]
  have k := n_nat (x := Int32.ofNat r * 164 + Int32.ofNat i) (by omega)
  refine ⟨on_in n1 (by decide), fun z => ?_, dp_in (lo := 0) (hi := 3279) ⟨by show (0 : Int) ≤ _; omega, by show _ ≤ (3279 : Int); omega⟩ (by decide) (by decide), ?_⟩
  · have z := q_le.mp z
    rw [on_k (by omega), fr_i A.2.1 (by decide +kernel), n3, on_j (by omega), on_j (by omega)] at z
    omega
  · rw [fr_i A.2.1 (by decide +kernel), show (Int32.ofNat r * 164 + Int32.ofNat i).toNatClampNeg = 164 * r + i by omega]
    exact n4 i w e
abbrev av_13 (h : Hp_) (x3 : Int32) (c : Int32) : Int32 := h_i h 70 (x3 + ixq 1 (xch c)).toNatClampNeg
theorem an_bin_13 (d : Nat) {h0 : Hp_} {r : Nat} {L : List Int32} (N : Anc_13 h0 r L) (x3 : Int32) {K : Int32 → Hp_ → Prop} {t : Tk2} {i : Nat} {st0 : List Int32} {x y : Int32} {h : Hp_} (A : Ans_13 h0 h (y :: x :: st0)) (nt : ¬ t.1 = 0 ∧ ¬ t.1 = 1 ∧ ¬ t.1 = 2) (g5 : ¬ t.1 < 5) (o : tkO (ltb 1) t) (e : L[i]? = some (tkx 1 t)) (li : (y :: x :: st0).length ≤ i)
    (k : ∀ h', Ans_13 h0 h' (cmb t.1 x y :: st0) → AW (m_X10_answer (d + 2) 0 0) 0 0 22 [(0, .ref 13), (1, .int (Int32.ofNat r)), (2, .ref 70), (3, .int x3), (4, .int (Int32.ofNat (cmb t.1 x y :: st0).length)), (5, .int (Int32.ofNat (i + 1)))] [] h' (kI K)) :
    AW (m_X10_answer (d + 2) 0 0) 0 0 22 [(0, .ref 13), (1, .int (Int32.ofNat r)), (2, .ref 70), (3, .int x3), (4, .int (Int32.ofNat (y :: x :: st0).length)), (5, .int (Int32.ofNat i))] [] h (kI K) := by
  obtain ⟨v1, v2, v3, ew⟩ := an_ix_13 N A e
  have lL : i < L.length := (List.getElem?_eq_some_iff.mp e).1
  have l164 := N.2.1
  have q := tkx_q (s := 1) (by decide) o
  have ll : (y :: x :: st0).length = st0.length + 2 := rfl
  have ll1 : (cmb t.1 x y :: st0).length = st0.length + 1 := rfl
  rw [ll1] at k
  rw [ll] at li ⊢
  have i1 : Int32.ofNat i + 1 = Int32.ofNat (i + 1) := on_s (by omega)
  have t2 : (2 : Int32).toInt = 2 := rfl
  have m1 : Int32.ofNat (st0.length + 2) + (-1) = Int32.ofNat (st0.length + 1) := on_m (by omega)
  have m2 : Int32.ofNat (st0.length + 1) - 1 = Int32.ofNat st0.length := on_p (by omega)
  have ka : (Int32.ofNat (st0.length + 1)).toNatClampNeg = st0.length + 1 := on_k (by omega)
  have kb : (Int32.ofNat st0.length).toNatClampNeg = st0.length := on_k (by omega)
  have py : h_i h 41 (st0.length + 1) = y := A.2.2.1
  have px : h_i h 41 st0.length = x := A.2.2.2.1
  have g2 : (2 : Int32) ≤ Int32.ofNat (st0.length + 2) := q_le.mpr (by rw [on_j (by omega), t2]; omega)
  refine t_X10_answer_13_22 d h A.1.1 _ _ _ _ _ ?_
  rw [ew, q.1, q.2, i1, m1, m2, ka, kb, py, px]
  refine ⟨v1, fun z => absurd z v2, fun _ => ⟨v3, v3, fun e0 => absurd e0 nt.1, fun _ => ⟨fun _ => ⟨fun l5 => absurd l5 g5, fun _ => ⟨fun _ => ⟨on_in (by omega) (by decide), on_in (by omega) (by decide), Ci.mono (c_cmb d h A.1.1 t.1 x y) (fun r31 h29 z => ?_)⟩, fun z => absurd g2 z⟩⟩, fun e1 => absurd e1 nt.2.1⟩⟩⟩
  obtain ⟨er, eh⟩ := z
  subst er eh
  exact ⟨A.1.1, on_in (by omega) (by decide), k _ (A.im _ rfl A.2.2.2.2)⟩
theorem an_not_13 (d : Nat) {h0 : Hp_} {r : Nat} {L : List Int32} (N : Anc_13 h0 r L) (x3 : Int32) {K : Int32 → Hp_ → Prop} {t : Tk2} {i : Nat} {st0 : List Int32} {x : Int32} {h : Hp_} (A : Ans_13 h0 h (x :: st0)) (c : t.1 = 2) (o : tkO (ltb 1) t) (e : L[i]? = some (tkx 1 t)) (li : (x :: st0).length ≤ i)
    (k : ∀ h', Ans_13 h0 h' ((1 - x) :: st0) → AW (m_X10_answer (d + 2) 0 0) 0 0 22 [(0, .ref 13), (1, .int (Int32.ofNat r)), (2, .ref 70), (3, .int x3), (4, .int (Int32.ofNat ((1 - x) :: st0).length)), (5, .int (Int32.ofNat (i + 1)))] [] h' (kI K)) :
    AW (m_X10_answer (d + 2) 0 0) 0 0 22 [(0, .ref 13), (1, .int (Int32.ofNat r)), (2, .ref 70), (3, .int x3), (4, .int (Int32.ofNat (x :: st0).length)), (5, .int (Int32.ofNat i))] [] h (kI K) := by
  obtain ⟨v1, v2, v3, ew⟩ := an_ix_13 N A e
  have lL : i < L.length := (List.getElem?_eq_some_iff.mp e).1
  have l164 := N.2.1
  have q := tkx_q (s := 1) (by decide) o
  have ll : (x :: st0).length = st0.length + 1 := rfl
  have ll1 : ((1 - x) :: st0).length = st0.length + 1 := rfl
  rw [ll1] at k
  rw [ll] at li ⊢
  have i1 : Int32.ofNat i + 1 = Int32.ofNat (i + 1) := on_s (by omega)
  have t1 : (1 : Int32).toInt = 1 := rfl
  have m1 : Int32.ofNat (st0.length + 1) - 1 = Int32.ofNat st0.length := on_p (by omega)
  have kb : (Int32.ofNat st0.length).toNatClampNeg = st0.length := on_k (by omega)
  have px : h_i h 41 st0.length = x := A.2.2.1
  have n0 : ¬ t.1 = 0 := by rw [c]; decide
  have n1 : ¬ t.1 = 1 := by rw [c]; decide
  have l5 : t.1 < 5 := by rw [c]; decide
  have g1 : (1 : Int32) ≤ Int32.ofNat (st0.length + 1) := q_le.mpr (by rw [on_j (by omega), t1]; omega)
  refine t_X10_answer_13_22 d h A.1.1 _ _ _ _ _ ?_
  rw [ew, q.1, q.2, i1, m1, kb, px]
  exact ⟨v1, fun z => absurd z v2, fun _ => ⟨v3, v3, fun e0 => absurd e0 n0, fun _ => ⟨fun _ => ⟨fun _ => ⟨fun _ => ⟨fun n2 => absurd c n2, fun _ => ⟨on_in (by omega) (by decide), on_in (by omega) (by decide), k _ (A.im _ rfl A.2.2.2)⟩⟩, fun z => absurd g1 z⟩, fun g5 => absurd l5 g5⟩, fun e1 => absurd e1 n1⟩⟩⟩
theorem an_one_13 (d : Nat) {h0 : Hp_} {r : Nat} {L : List Int32} (N : Anc_13 h0 r L) (x3 : Int32) (b3 : ∀ c, ltb 1 c = true → 0 ≤ x3 + ixq 1 (xch c) ∧ x3 + ixq 1 (xch c) ≤ ((2700 : Int32) - 1)) (b3' : ∀ c, ltb 1 c = true → vp_in (x3 + ixq 1 (xch c)) 2700) {K : Int32 → Hp_ → Prop} {t : Tk2} {i : Nat} {st : List Int32} {ts ts' : List Bool} {h : Hp_} (A : Ans_13 h0 h st) (ht : ty1 t ts = some ts') (V : Vty ts st) (o : tkO (ltb 1) t) (e : L[i]? = some (tkx 1 t)) (li : st.length ≤ i)
    (k : ∀ h', Ans_13 h0 h' (skt (av_13 h0 x3) t st) → AW (m_X10_answer (d + 2) 0 0) 0 0 22 [(0, .ref 13), (1, .int (Int32.ofNat r)), (2, .ref 70), (3, .int x3), (4, .int (Int32.ofNat (skt (av_13 h0 x3) t st).length)), (5, .int (Int32.ofNat (i + 1)))] [] h' (kI K)) :
    AW (m_X10_answer (d + 2) 0 0) 0 0 22 [(0, .ref 13), (1, .int (Int32.ofNat r)), (2, .ref 70), (3, .int x3), (4, .int (Int32.ofNat st.length)), (5, .int (Int32.ofNat i))] [] h (kI K) := by
  rcases ty1_c ht with ⟨c, _⟩ | ⟨c, qq, es, _⟩ | ⟨c, qq, es, _⟩ | ⟨c, qq, es, _⟩ | ⟨c, qq, es, _⟩
  · obtain ⟨v1, v2, v3, ew⟩ := an_ix_13 N A e
    have lL : i < L.length := (List.getElem?_eq_some_iff.mp e).1
    have l164 := N.2.1
    have q := tkx_q (s := 1) (by decide) o
    have i1 : Int32.ofNat i + 1 = Int32.ofNat (i + 1) := on_s (by omega)
    have t164 : (164 : Int32).toInt = 164 := rfl
    have lt4 : Int32.ofNat st.length < 164 := q_lt.mpr (by rw [on_j (by omega), t164]; omega)
    have v4 : vp_in (Int32.ofNat st.length) 164 := on_in (by omega) (by decide)
    have k4 : (Int32.ofNat st.length).toNatClampNeg = st.length := on_k (by omega)
    rw [skt_p c] at k
    refine t_X10_answer_13_22 d h A.1.1 _ _ _ _ _ ?_
    rw [ew, q.1, q.2, i1, k4, on_s (show st.length < 1000000 by omega)]
    rcases c with c | c
    · have n1 : ¬ t.1 = 1 := by rw [c]; decide
      rw [if_pos c] at k
      rw [if_neg n1]
      exact ⟨v1, fun z => absurd z v2, fun _ => ⟨v3, v3, fun _ => ⟨fun _ => ⟨fun n => absurd c n, fun _ => ⟨v4, k _ (A.im t.2 rfl A.2.2)⟩⟩, fun z => absurd lt4 z⟩, fun n => absurd c n⟩⟩
    · have n0 : ¬ t.1 = 0 := by rw [c]; decide
      rw [if_neg n0] at k
      rw [if_pos c]
      refine ⟨v1, fun z => absurd z v2, fun _ => ⟨v3, v3, fun e0 => absurd e0 n0, fun _ => ⟨fun n1 => absurd c n1, fun _ => ⟨fun _ => ⟨fun _ => t_X10_valueOf_70 d h A.1.1 _ _ ⟨fun z => absurd (b3 _ (o.1 c)) z, fun _ => ⟨b3' _ (o.1 c), A.1.1, v4, ?_⟩⟩, fun e0 => absurd e0 n0⟩, fun z => absurd lt4 z⟩⟩⟩⟩
      have ev : h_i h 70 (x3 + ixq 1 (xch t.2)).toNatClampNeg = av_13 h0 x3 t.2 := fr_i A.2.1 (by decide +kernel) _
      rw [ev]
      exact k _ (A.im _ rfl A.2.2)
  · subst es
    obtain ⟨x, st0, e1, _, _⟩ := V.u
    subst e1
    rw [skt_n c] at k
    exact an_not_13 d N x3 A c o e li k
  · subst es
    obtain ⟨y, st1, e1, _, V1⟩ := V.u
    obtain ⟨x, st0, e2, _, _⟩ := V1.u
    subst e1 e2
    have nt := n02 (x := t.1) (by rcases c with u | u | u <;> rw [u] <;> decide)
    rw [skt_b nt] at k
    exact an_bin_13 d N x3 A nt (by rcases c with u | u | u <;> rw [u] <;> decide) o e li k
  · subst es
    obtain ⟨y, st1, e1, _, V1⟩ := V.u
    obtain ⟨x, st0, e2, _, _⟩ := V1.u
    subst e1 e2
    have nt := n02 (x := t.1) (by rcases c with u | u | u <;> rw [u] <;> decide)
    rw [skt_b nt] at k
    exact an_bin_13 d N x3 A nt (by rcases c with u | u | u <;> rw [u] <;> decide) o e li k
  · subst es
    obtain ⟨y, st1, e1, _, V1⟩ := V.u
    obtain ⟨x, st0, e2, _, _⟩ := V1.u
    subst e1 e2
    have nt := n02 (x := t.1) (by rcases c with u | u <;> rw [u] <;> decide)
    rw [skt_b nt] at k
    exact an_bin_13 d N x3 A nt (by rcases c with u | u <;> rw [u] <;> decide) o e li k
theorem an_tok_13 (d : Nat) {h0 : Hp_} {r : Nat} {L : List Int32} (N : Anc_13 h0 r L) (x3 : Int32) (b3 : ∀ c, ltb 1 c = true → 0 ≤ x3 + ixq 1 (xch c) ∧ x3 + ixq 1 (xch c) ≤ ((2700 : Int32) - 1)) (b3' : ∀ c, ltb 1 c = true → vp_in (x3 + ixq 1 (xch c)) 2700) {K : Int32 → Hp_ → Prop} : ∀ (E : List Tk2) {i : Nat} {st : List Int32} {ts ts' : List Bool} {h : Hp_}, Ans_13 h0 h st → tyL E ts = some ts' → Vty ts st → (∀ t ∈ E, tkO (ltb 1) t) → (∀ k w, (E.map (tkx 1))[k]? = some w → L[i + k]? = some w) → st.length ≤ i →
    (∀ h', Ans_13 h0 h' (run2 (av_13 h0 x3) E st) → (run2 (av_13 h0 x3) E st).length ≤ i + E.length → AW (m_X10_answer (d + 2) 0 0) 0 0 22 [(0, .ref 13), (1, .int (Int32.ofNat r)), (2, .ref 70), (3, .int x3), (4, .int (Int32.ofNat (run2 (av_13 h0 x3) E st).length)), (5, .int (Int32.ofNat (i + E.length)))] [] h' (kI K)) →
    AW (m_X10_answer (d + 2) 0 0) 0 0 22 [(0, .ref 13), (1, .int (Int32.ofNat r)), (2, .ref 70), (3, .int x3), (4, .int (Int32.ofNat st.length)), (5, .int (Int32.ofNat i))] [] h (kI K)
  | [], i, st, ts, ts', h, A, _, _, _, _, li, k => k h A li
  | t :: E, i, st, ts, ts', h, A, hE, V, o, c, li, k => by
    have hE : (match ty1 t ts with | some s' => tyL E s' | none => none) = some ts' := hE
    cases e : ty1 t ts with
    | none =>
      rw [e] at hE
      cases hE
    | some q =>
      rw [e] at hE
      have V' := skt_t (v := av_13 h0 x3) e V
      have sl : (skt (av_13 h0 x3) t st).length ≤ i + 1 := by
        have a := V'.l
        have b := V.l
        rcases ty1_c e with ⟨_, u⟩ | ⟨_, w, u, u'⟩ | ⟨_, w, u, u'⟩ | ⟨_, w, u, u'⟩ | ⟨_, w, u, u'⟩
        · rw [u] at a
          have : (false :: ts).length = ts.length + 1 := rfl
          omega
        all_goals
          subst u u'
          simp only [List.length_cons] at a b
          omega
      refine an_one_13 d N x3 b3 b3' A e V (o t (List.mem_cons_self ..)) (c 0 _ rfl) li (fun h' A' => ?_)
      refine an_tok_13 d N x3 b3 b3' E A' hE V' (fun t ht => o t (List.mem_cons_of_mem _ ht)) (fun k w z => ?_) sl (fun h2 A2 l2 => ?_)
      · have y := c (k + 1) w z
        rw [show i + (k + 1) = i + 1 + k by omega] at y
        exact y
      · have y := k h2 A2 (by show _ ≤ i + (E.length + 1); have : (run2 (av_13 h0 x3) E (skt (av_13 h0 x3) t st)).length ≤ i + 1 + E.length := l2; show (run2 (av_13 h0 x3) E (skt (av_13 h0 x3) t st)).length ≤ _; omega)
        rw [show i + (t :: E).length = i + 1 + E.length by show i + (E.length + 1) = _; omega] at y
        exact y
/-- all clauses from one on -/
theorem an_cls_13 (d : Nat) {h0 : Hp_} {r : Nat} {L : List Int32} (N : Anc_13 h0 r L) (x3 : Int32) (b3 : ∀ c, ltb 1 c = true → 0 ≤ x3 + ixq 1 (xch c) ∧ x3 + ixq 1 (xch c) ≤ ((2700 : Int32) - 1)) (b3' : ∀ c, ltb 1 c = true → vp_in (x3 + ixq 1 (xch c)) 2700) : ∀ (C : List Cl2) {i : Nat} {h : Hp_}, Ans_13 h0 h [] → (∀ c ∈ C, clO 1 c) → (∀ k w, (rlX 1 i C)[k]? = some w → L[i + k]? = some w) → i + rlN C = L.length →
    AW (m_X10_answer (d + 2) 0 0) 0 0 22 [(0, .ref 13), (1, .int (Int32.ofNat r)), (2, .ref 70), (3, .int x3), (4, .int (Int32.ofNat 0)), (5, .int (Int32.ofNat i))] [] h (kI (fun q h' => Iv h' ∧ Fr [41999] h0 h' ∧ q = evC (av_13 h0 x3) C))
  | [], i, h, A, _, _, le => by
    have le : i + 0 = L.length := le
    have l164 := N.2.1
    refine t_X10_answer_13_22 d h A.1.1 _ _ _ _ _ ⟨on_in N.1 (by decide), fun _ => ⟨A.1, A.2.1, rfl⟩, fun z => ?_⟩
    have n1 := N.1
    have z := q_nle z
    rw [on_k (by omega), fr_i A.2.1 (by decide +kernel), N.2.2.1, on_j (by omega), on_j (by omega)] at z
    omega
  | c :: C, i, h, A, o, cd, le => by
    have oc := o c (List.mem_cons_self ..)
    have l164 := N.2.1
    have t1 : (1 : Int32).toInt = 1 := rfl
    have t0 : (0 : Int32).toInt = 0 := rfl
    have le : i + (clN c + rlN C) = L.length := le
    have cd : ∀ k w, (clX 1 i c ++ rlX 1 (i + clN c) C)[k]? = some w → L[i + k]? = some w := cd
    have cc : ∀ k w, (clX 1 i c)[k]? = some w → L[i + k]? = some w := fun k w e => cd k w (by
      rw [List.getElem?_append_left ((List.getElem?_eq_some_iff.mp e).1)]
      exact e)
    have cC : ∀ k w, (rlX 1 (i + clN c) C)[k]? = some w → L[i + clN c + k]? = some w := fun k w e => by
      have z := cd (clN c + k) w (by
        rw [List.getElem?_append_right (by rw [clX_l]; omega), clX_l, show clN c + k - clN c = k by omega]
        exact e)
      rw [show i + (clN c + k) = i + clN c + k by omega] at z
      exact z
    obtain ⟨xa_, ea⟩ := run2_1 (v := av_13 h0 x3) oc.2.1
    have ans : ∀ (j : Nat) (h' : Hp_), Ans_13 h0 h' [] → (∀ k w, (c.2.map (tkx 1) ++ [pk4 4 0])[k]? = some w → L[j + k]? = some w) → AW (m_X10_answer (d + 2) 0 0) 0 0 22 [(0, .ref 13), (1, .int (Int32.ofNat r)), (2, .ref 70), (3, .int x3), (4, .int (Int32.ofNat 0)), (5, .int (Int32.ofNat j))] [] h' (kI (fun q h' => Iv h' ∧ Fr [41999] h0 h' ∧ q = top2 (run2 (av_13 h0 x3) c.2 []))) := fun j h' A' cj => by
      refine an_tok_13 d N x3 b3 b3' c.2 (st := []) A' (oc.2.1 []) trivial oc.2.2.2 (fun k w e => cj k w (by
        rw [List.getElem?_append_left ((List.getElem?_eq_some_iff.mp e).1)]
        exact e)) (Nat.zero_le _) (fun h2 A2 l2 => ?_)
      rw [ea] at A2 l2 ⊢
      have ce : L[j + c.2.length]? = some (pk4 4 0) := by
        have z := cj c.2.length (pk4 4 0) (by
          rw [List.getElem?_append_right (by rw [List.length_map]; exact Nat.le_refl _), List.length_map, Nat.sub_self]
          rfl)
        exact z
      obtain ⟨v1, v2, v3, ew⟩ := an_ix_13 N A2 ce
      rw [show Int32.ofNat [xa_].length = 1 from rfl]
      refine t_X10_answer_13_22 d h2 A2.1.1 _ _ _ _ _ ?_
      rw [ew, show pk4 4 0 &&& 15 = 4 from by decide, show (1 : Int32) - 1 = 0 from rfl]
      have z0 : (0 : Int32).toNatClampNeg = 0 := by simp
      have px : h_i h2 41 0 = xa_ := A2.2.2.1
      rw [z0]
      exact ⟨v1, fun z => absurd z v2, fun _ => ⟨v3, v3, fun e0 => absurd e0 (by decide), fun _ => ⟨fun _ => ⟨fun _ => ⟨fun _ => ⟨fun _ => ⟨fun n4 => absurd rfl n4, fun _ => ⟨(show vp_in (Int32.ofNat 0) 164 from on_in (by decide) (by decide)), A2.1, A2.2.1, px⟩⟩, fun e2 => absurd e2 (by decide)⟩, fun z => absurd (by decide) z⟩, fun g5 => absurd (by decide) g5⟩, fun e1 => absurd e1 (by decide)⟩⟩⟩
    show AW _ 0 0 22 _ [] h (kI (fun q h' => Iv h' ∧ Fr [41999] h0 h' ∧ q = if c.1.length = 0 ∨ ¬ top2 (run2 (av_13 h0 x3) c.1 []) = 0 then top2 (run2 (av_13 h0 x3) c.2 []) else evC (av_13 h0 x3) C))
    by_cases n0 : c.1.length = 0
    · rw [if_pos (Or.inl n0)]
      refine ans i h A (fun k w e => cc k w ?_)
      unfold clX
      rw [if_pos n0]
      exact e
    · have eX : clX 1 i c = c.1.map (tkx 1) ++ anX 1 (i + c.1.length) c.2 := by
        unfold clX
        rw [if_neg n0]
      have nN : clN c = c.1.length + (c.2.length + 2) := by
        unfold clN
        rw [if_neg n0]
      rw [eX] at cc
      have p1 : Put1 true c.1 := oc.1.elim (fun e => absurd e n0) id
      obtain ⟨xc_, ec⟩ := run2_1 (v := av_13 h0 x3) p1
      refine an_tok_13 d N x3 b3 b3' c.1 (st := []) A (p1 []) trivial oc.2.2.1 (fun k w e => cc k w (by
        rw [List.getElem?_append_left ((List.getElem?_eq_some_iff.mp e).1)]
        exact e)) (Nat.zero_le _) (fun h2 A2 l2 => ?_)
      rw [ec] at A2 l2 ⊢
      have cu : ∀ k w, (anX 1 (i + c.1.length) c.2)[k]? = some w → L[i + c.1.length + k]? = some w := fun k w e => by
        have z := cc (c.1.length + k) w (by
          rw [List.getElem?_append_right (by rw [List.length_map]; omega), List.length_map, show c.1.length + k - c.1.length = k by omega]
          exact e)
        rw [show i + (c.1.length + k) = i + c.1.length + k by omega] at z
        exact z
      have ce : L[i + c.1.length]? = some (pk4 3 (Int32.ofNat (i + c.1.length + 1 + c.2.length + 1))) := cu 0 _ rfl
      have tg : 0 ≤ (Int32.ofNat (i + c.1.length + 1 + c.2.length + 1)).toInt ∧ (Int32.ofNat (i + c.1.length + 1 + c.2.length + 1)).toInt ≤ 100000 := by
        rw [on_j (by omega)]
        omega
      have w15 := pk4_15 (o := 3) (by decide) tg
      have wsh := pk4_sh (o := 3) (by decide) tg
      obtain ⟨v1, v2, v3, ew⟩ := an_ix_13 N A2 ce
      rw [show Int32.ofNat [xc_].length = 1 from rfl]
      refine t_X10_answer_13_22 d h2 A2.1.1 _ _ _ _ _ ?_
      rw [ew, w15, wsh, show (1 : Int32) + (-1) = 0 from rfl]
      have z0 : (0 : Int32).toNatClampNeg = 0 := by simp
      have px : h_i h2 41 0 = xc_ := A2.2.2.1
      rw [z0]
      have i1 : Int32.ofNat (i + c.1.length) + 1 = Int32.ofNat (i + c.1.length + 1) := on_s (by omega)
      have A3 : Ans_13 h0 h2 [] := ⟨A2.1, A2.2.1, trivial⟩
      refine ⟨v1, fun z => absurd z v2, fun _ => ⟨v3, v3, fun e0 => absurd e0 (by decide), fun _ => ⟨fun _ => ⟨fun _ => ⟨fun _ => ⟨fun _ => ⟨fun _ => ⟨(show vp_in (Int32.ofNat 0) 164 from on_in (by decide) (by decide)), fun nx => ?_, fun ex => ?_⟩, fun e4 => absurd e4 (by decide)⟩, fun e2 => absurd e2 (by decide)⟩, fun z => absurd (by decide) z⟩, fun g5 => absurd (by decide) g5⟩, fun e1 => absurd e1 (by decide)⟩⟩⟩
      · have nx : ¬ xc_ = 0 := fun y => nx (px.trans y)
        rw [if_pos (show c.1.length = 0 ∨ ¬ top2 [xc_] = 0 from Or.inr nx), i1]
        refine ans (i + c.1.length + 1) h2 A3 (fun k w e => ?_)
        have z := cu (k + 1) w e
        rw [show i + c.1.length + (k + 1) = i + c.1.length + 1 + k by omega] at z
        exact z
      · have ex : xc_ = 0 := px.symm.trans ex
        rw [if_neg (show ¬ (c.1.length = 0 ∨ ¬ top2 [xc_] = 0) from fun y => y.elim n0 (fun z => z ex))]
        have jt : (if Int32.ofNat (i + c.1.length) < Int32.ofNat (i + c.1.length + 1 + c.2.length + 1) - 1 then Int32.ofNat (i + c.1.length + 1 + c.2.length + 1) - 1 else Int32.ofNat (i + c.1.length)) + 1 = Int32.ofNat (i + clN c) := by
          rw [on_p (show i + c.1.length + 1 + c.2.length < 1000000 by omega), if_pos (q_lt.mpr (by rw [on_j (by omega), on_j (by omega)]; omega)), on_s (by omega)]
          congr 1
          omega
        rw [jt]
        exact an_cls_13 d N x3 b3 b3' C A3 (fun c hc => o c (List.mem_cons_of_mem _ hc)) cC (by omega)
/-- what a text of the class tells -/
theorem c_an_13 (d : Nat) {h : Hp_} (I : Iv h) {r : Nat} (hr : (r : Int) < (h_i h 13 5).toInt) {C : List Cl2} (o : ∀ c ∈ C, clO 1 c) (len : h_i h 39 r = Int32.ofNat (rlN C)) (l164 : rlN C ≤ 164) (cd : ∀ i v, (rlX 1 0 C)[i]? = some v → h_i h 40 (164 * r + i) = v) (x3 : Int32) (b3 : ∀ c, ltb 1 c = true → 0 ≤ x3 + ixq 1 (xch c) ∧ x3 + ixq 1 (xch c) ≤ ((2700 : Int32) - 1)) (b3' : ∀ c, ltb 1 c = true → vp_in (x3 + ixq 1 (xch c)) 2700) : Ci (m_X10_answer (d + 2) 0 0) [.ref 13, .int (Int32.ofNat r), .ref 70, .int x3] h (fun q h' => Iv h' ∧ Fr [41999] h h' ∧ q = evC (av_13 h x3) C) := by
  have rg := I.2.1 13 5
  rw [show tf 13 5 = (0, 20) by decide +kernel] at rg
  have r20 : (h_i h 13 5).toInt ≤ 20 := rg.2
  have t1 : (1 : Int32).toInt = 1 := rfl
  have t0 : (0 : Int32).toInt = 0 := rfl
  have m1 : (h_i h 13 5 - 1).toInt = (h_i h 13 5).toInt - 1 := by rw [tx_sub (by rw [t1]; omega) (by rw [t1]; omega), t1]
  refine t_X10_answer_13 d h I.1 _ x3 _ ⟨fun _ => ?_, fun z => absurd ⟨q_le.mpr (by rw [t0, on_j (by omega)]; omega), q_le.mpr (by rw [m1, on_j (by omega)]; omega)⟩ z⟩
  exact an_cls_13 d (L := rlX 1 0 C) ⟨by omega, by rw [rlX_l]; exact l164, by rw [rlX_l]; exact len, cd⟩ x3 b3 b3' C (i := 0) ⟨I, Fr.rf _ _, trivial⟩ o (fun k w e => by rw [Nat.zero_add]; exact e) (by rw [rlX_l, Nat.zero_add])
/-- no text: nothing is told -/
theorem c_an0_13 (d : Nat) {h : Hp_} (I : Iv h) (x3 : Int32) : Ci (m_X10_answer (d + 2) 0 0) [.ref 13, .int (-1), .ref 70, .int x3] h (fun q h' => h' = h ∧ q = 0) := t_X10_answer_13 d h I.1 _ x3 _ ⟨fun z => absurd z.1 (by decide), fun _ => ⟨rfl, rfl⟩⟩
/-- the code of rule r, and what stands while it works -/
def Anc_14 (h0 : Hp_) (r : Nat) (L : List Int32) : Prop := r < 20 ∧ L.length ≤ 164 ∧ h_i h0 44 r = Int32.ofNat L.length ∧ ∀ i v, L[i]? = some v → h_i h0 45 (164 * r + i) = v
def Ans_14 (h0 h : Hp_) (st : List Int32) : Prop := Iv h ∧ Fr [46999] h0 h ∧ Pil (h_i h 46) st
theorem Ans_14.im {h0 h : Hp_} {st : List Int32} (A : Ans_14 h0 h st) (x : Int32) {k : Nat} {st' : List Int32} (ek : k = st'.length) (P : Pil (h_i h 46) st') : Ans_14 h0 (h_im h 46 k x) (x :: st') := ⟨tr_ 46 (by decide +kernel) A.1 _ _ (by decide) (by decide), A.2.1.im (inw_row (by decide +kernel) _), by rw [up_41, ek]; exact P.up x⟩
theorem an_ix_14 {h0 h : Hp_} {st : List Int32} {r i : Nat} {L : List Int32} {w : Int32} (N : Anc_14 h0 r L) (A : Ans_14 h0 h st) (e : L[i]? = some w) : vp_in (Int32.ofNat r) 20 ∧ ¬ h_i h 44 (Int32.ofNat r).toNatClampNeg ≤ Int32.ofNat i ∧ vp_in ((Int32.ofNat r * 164) + Int32.ofNat i) 3280 ∧ h_i h 45 (((Int32.ofNat r * 164) + Int32.ofNat i) : Int32).toNatClampNeg = w := by
  have li : i < L.length := (List.getElem?_eq_some_iff.mp e).1
  obtain ⟨n1, n2, n3, n4⟩ := N
  have t164 : (164 : Int32).toInt = 164 := rfl
  have m1 : (Int32.ofNat r * 164).toInt = (r : Int) * 164 := by rw [tx_mul (by rw [t164, on_j (by omega)]; omega) (by rw [t164, on_j (by omega)]; omega), t164, on_j (by omega)]
  have m2 : (Int32.ofNat r * 164 + Int32.ofNat i).toInt = (r : Int) * 164 + (i : Int) := by rw [tx_add (by rw [m1, on_j (by omega)]; omega) (by rw [m1, on_j (by omega)]; omega), m1, on_j (by omega)]
  have k := n_nat (x := Int32.ofNat r * 164 + Int32.ofNat i) (by omega)
  refine ⟨on_in n1 (by decide), fun z => ?_, dp_in (lo := 0) (hi := 3279) ⟨by show (0 : Int) ≤ _; omega, by show _ ≤ (3279 : Int); omega⟩ (by decide) (by decide), ?_⟩
  · have z := q_le.mp z
    rw [on_k (by omega), fr_i A.2.1 (by decide +kernel), n3, on_j (by omega), on_j (by omega)] at z
    omega
  · rw [fr_i A.2.1 (by decide +kernel), show (Int32.ofNat r * 164 + Int32.ofNat i).toNatClampNeg = 164 * r + i by omega]
    exact n4 i w e
abbrev av_14 (h : Hp_) (x3 : Int32) (c : Int32) : Int32 := h_i h 108 (x3 + ixq 2 (xch c)).toNatClampNeg
theorem an_bin_14 (d : Nat) {h0 : Hp_} {r : Nat} {L : List Int32} (N : Anc_14 h0 r L) (x3 : Int32) {K : Int32 → Hp_ → Prop} {t : Tk2} {i : Nat} {st0 : List Int32} {x y : Int32} {h : Hp_} (A : Ans_14 h0 h (y :: x :: st0)) (nt : ¬ t.1 = 0 ∧ ¬ t.1 = 1 ∧ ¬ t.1 = 2) (g5 : ¬ t.1 < 5) (o : tkO (ltb 2) t) (e : L[i]? = some (tkx 2 t)) (li : (y :: x :: st0).length ≤ i)
    (k : ∀ h', Ans_14 h0 h' (cmb t.1 x y :: st0) → AW (m_X10_answer (d + 2) 0 0) 0 0 22 [(0, .ref 14), (1, .int (Int32.ofNat r)), (2, .ref 108), (3, .int x3), (4, .int (Int32.ofNat (cmb t.1 x y :: st0).length)), (5, .int (Int32.ofNat (i + 1)))] [] h' (kI K)) :
    AW (m_X10_answer (d + 2) 0 0) 0 0 22 [(0, .ref 14), (1, .int (Int32.ofNat r)), (2, .ref 108), (3, .int x3), (4, .int (Int32.ofNat (y :: x :: st0).length)), (5, .int (Int32.ofNat i))] [] h (kI K) := by
  obtain ⟨v1, v2, v3, ew⟩ := an_ix_14 N A e
  have lL : i < L.length := (List.getElem?_eq_some_iff.mp e).1
  have l164 := N.2.1
  have q := tkx_q (s := 2) (by decide) o
  have ll : (y :: x :: st0).length = st0.length + 2 := rfl
  have ll1 : (cmb t.1 x y :: st0).length = st0.length + 1 := rfl
  rw [ll1] at k
  rw [ll] at li ⊢
  have i1 : Int32.ofNat i + 1 = Int32.ofNat (i + 1) := on_s (by omega)
  have t2 : (2 : Int32).toInt = 2 := rfl
  have m1 : Int32.ofNat (st0.length + 2) + (-1) = Int32.ofNat (st0.length + 1) := on_m (by omega)
  have m2 : Int32.ofNat (st0.length + 1) - 1 = Int32.ofNat st0.length := on_p (by omega)
  have ka : (Int32.ofNat (st0.length + 1)).toNatClampNeg = st0.length + 1 := on_k (by omega)
  have kb : (Int32.ofNat st0.length).toNatClampNeg = st0.length := on_k (by omega)
  have py : h_i h 46 (st0.length + 1) = y := A.2.2.1
  have px : h_i h 46 st0.length = x := A.2.2.2.1
  have g2 : (2 : Int32) ≤ Int32.ofNat (st0.length + 2) := q_le.mpr (by rw [on_j (by omega), t2]; omega)
  refine t_X10_answer_14_22 d h A.1.1 _ _ _ _ _ ?_
  rw [ew, q.1, q.2, i1, m1, m2, ka, kb, py, px]
  refine ⟨v1, fun z => absurd z v2, fun _ => ⟨v3, v3, fun e0 => absurd e0 nt.1, fun _ => ⟨fun _ => ⟨fun l5 => absurd l5 g5, fun _ => ⟨fun _ => ⟨on_in (by omega) (by decide), on_in (by omega) (by decide), Ci.mono (c_cmb d h A.1.1 t.1 x y) (fun r31 h29 z => ?_)⟩, fun z => absurd g2 z⟩⟩, fun e1 => absurd e1 nt.2.1⟩⟩⟩
  obtain ⟨er, eh⟩ := z
  subst er eh
  exact ⟨A.1.1, on_in (by omega) (by decide), k _ (A.im _ rfl A.2.2.2.2)⟩
theorem an_not_14 (d : Nat) {h0 : Hp_} {r : Nat} {L : List Int32} (N : Anc_14 h0 r L) (x3 : Int32) {K : Int32 → Hp_ → Prop} {t : Tk2} {i : Nat} {st0 : List Int32} {x : Int32} {h : Hp_} (A : Ans_14 h0 h (x :: st0)) (c : t.1 = 2) (o : tkO (ltb 2) t) (e : L[i]? = some (tkx 2 t)) (li : (x :: st0).length ≤ i)
    (k : ∀ h', Ans_14 h0 h' ((1 - x) :: st0) → AW (m_X10_answer (d + 2) 0 0) 0 0 22 [(0, .ref 14), (1, .int (Int32.ofNat r)), (2, .ref 108), (3, .int x3), (4, .int (Int32.ofNat ((1 - x) :: st0).length)), (5, .int (Int32.ofNat (i + 1)))] [] h' (kI K)) :
    AW (m_X10_answer (d + 2) 0 0) 0 0 22 [(0, .ref 14), (1, .int (Int32.ofNat r)), (2, .ref 108), (3, .int x3), (4, .int (Int32.ofNat (x :: st0).length)), (5, .int (Int32.ofNat i))] [] h (kI K) := by
  obtain ⟨v1, v2, v3, ew⟩ := an_ix_14 N A e
  have lL : i < L.length := (List.getElem?_eq_some_iff.mp e).1
  have l164 := N.2.1
  have q := tkx_q (s := 2) (by decide) o
  have ll : (x :: st0).length = st0.length + 1 := rfl
  have ll1 : ((1 - x) :: st0).length = st0.length + 1 := rfl
  rw [ll1] at k
  rw [ll] at li ⊢
  have i1 : Int32.ofNat i + 1 = Int32.ofNat (i + 1) := on_s (by omega)
  have t1 : (1 : Int32).toInt = 1 := rfl
  have m1 : Int32.ofNat (st0.length + 1) - 1 = Int32.ofNat st0.length := on_p (by omega)
  have kb : (Int32.ofNat st0.length).toNatClampNeg = st0.length := on_k (by omega)
  have px : h_i h 46 st0.length = x := A.2.2.1
  have n0 : ¬ t.1 = 0 := by rw [c]; decide
  have n1 : ¬ t.1 = 1 := by rw [c]; decide
  have l5 : t.1 < 5 := by rw [c]; decide
  have g1 : (1 : Int32) ≤ Int32.ofNat (st0.length + 1) := q_le.mpr (by rw [on_j (by omega), t1]; omega)
  refine t_X10_answer_14_22 d h A.1.1 _ _ _ _ _ ?_
  rw [ew, q.1, q.2, i1, m1, kb, px]
  exact ⟨v1, fun z => absurd z v2, fun _ => ⟨v3, v3, fun e0 => absurd e0 n0, fun _ => ⟨fun _ => ⟨fun _ => ⟨fun _ => ⟨fun n2 => absurd c n2, fun _ => ⟨on_in (by omega) (by decide), on_in (by omega) (by decide), k _ (A.im _ rfl A.2.2.2)⟩⟩, fun z => absurd g1 z⟩, fun g5 => absurd l5 g5⟩, fun e1 => absurd e1 n1⟩⟩⟩
theorem an_one_14 (d : Nat) {h0 : Hp_} {r : Nat} {L : List Int32} (N : Anc_14 h0 r L) (x3 : Int32) (b3 : ∀ c, ltb 2 c = true → 0 ≤ x3 + ixq 2 (xch c) ∧ x3 + ixq 2 (xch c) ≤ ((6 : Int32) - 1)) (b3' : ∀ c, ltb 2 c = true → vp_in (x3 + ixq 2 (xch c)) 6) {K : Int32 → Hp_ → Prop} {t : Tk2} {i : Nat} {st : List Int32} {ts ts' : List Bool} {h : Hp_} (A : Ans_14 h0 h st) (ht : ty1 t ts = some ts') (V : Vty ts st) (o : tkO (ltb 2) t) (e : L[i]? = some (tkx 2 t)) (li : st.length ≤ i)
    (k : ∀ h', Ans_14 h0 h' (skt (av_14 h0 x3) t st) → AW (m_X10_answer (d + 2) 0 0) 0 0 22 [(0, .ref 14), (1, .int (Int32.ofNat r)), (2, .ref 108), (3, .int x3), (4, .int (Int32.ofNat (skt (av_14 h0 x3) t st).length)), (5, .int (Int32.ofNat (i + 1)))] [] h' (kI K)) :
    AW (m_X10_answer (d + 2) 0 0) 0 0 22 [(0, .ref 14), (1, .int (Int32.ofNat r)), (2, .ref 108), (3, .int x3), (4, .int (Int32.ofNat st.length)), (5, .int (Int32.ofNat i))] [] h (kI K) := by
  rcases ty1_c ht with ⟨c, _⟩ | ⟨c, qq, es, _⟩ | ⟨c, qq, es, _⟩ | ⟨c, qq, es, _⟩ | ⟨c, qq, es, _⟩
  · obtain ⟨v1, v2, v3, ew⟩ := an_ix_14 N A e
    have lL : i < L.length := (List.getElem?_eq_some_iff.mp e).1
    have l164 := N.2.1
    have q := tkx_q (s := 2) (by decide) o
    have i1 : Int32.ofNat i + 1 = Int32.ofNat (i + 1) := on_s (by omega)
    have t164 : (164 : Int32).toInt = 164 := rfl
    have lt4 : Int32.ofNat st.length < 164 := q_lt.mpr (by rw [on_j (by omega), t164]; omega)
    have v4 : vp_in (Int32.ofNat st.length) 164 := on_in (by omega) (by decide)
    have k4 : (Int32.ofNat st.length).toNatClampNeg = st.length := on_k (by omega)
    rw [skt_p c] at k
    refine t_X10_answer_14_22 d h A.1.1 _ _ _ _ _ ?_
    rw [ew, q.1, q.2, i1, k4, on_s (show st.length < 1000000 by omega)]
    rcases c with c | c
    · have n1 : ¬ t.1 = 1 := by rw [c]; decide
      rw [if_pos c] at k
      rw [if_neg n1]
      exact ⟨v1, fun z => absurd z v2, fun _ => ⟨v3, v3, fun _ => ⟨fun _ => ⟨fun n => absurd c n, fun _ => ⟨v4, k _ (A.im t.2 rfl A.2.2)⟩⟩, fun z => absurd lt4 z⟩, fun n => absurd c n⟩⟩
    · have n0 : ¬ t.1 = 0 := by rw [c]; decide
      rw [if_neg n0] at k
      rw [if_pos c]
      refine ⟨v1, fun z => absurd z v2, fun _ => ⟨v3, v3, fun e0 => absurd e0 n0, fun _ => ⟨fun n1 => absurd c n1, fun _ => ⟨fun _ => ⟨fun _ => t_X10_valueOf_108 d h A.1.1 _ _ ⟨fun z => absurd (b3 _ (o.1 c)) z, fun _ => ⟨b3' _ (o.1 c), A.1.1, v4, ?_⟩⟩, fun e0 => absurd e0 n0⟩, fun z => absurd lt4 z⟩⟩⟩⟩
      have ev : h_i h 108 (x3 + ixq 2 (xch t.2)).toNatClampNeg = av_14 h0 x3 t.2 := fr_i A.2.1 (by decide +kernel) _
      rw [ev]
      exact k _ (A.im _ rfl A.2.2)
  · subst es
    obtain ⟨x, st0, e1, _, _⟩ := V.u
    subst e1
    rw [skt_n c] at k
    exact an_not_14 d N x3 A c o e li k
  · subst es
    obtain ⟨y, st1, e1, _, V1⟩ := V.u
    obtain ⟨x, st0, e2, _, _⟩ := V1.u
    subst e1 e2
    have nt := n02 (x := t.1) (by rcases c with u | u | u <;> rw [u] <;> decide)
    rw [skt_b nt] at k
    exact an_bin_14 d N x3 A nt (by rcases c with u | u | u <;> rw [u] <;> decide) o e li k
  · subst es
    obtain ⟨y, st1, e1, _, V1⟩ := V.u
    obtain ⟨x, st0, e2, _, _⟩ := V1.u
    subst e1 e2
    have nt := n02 (x := t.1) (by rcases c with u | u | u <;> rw [u] <;> decide)
    rw [skt_b nt] at k
    exact an_bin_14 d N x3 A nt (by rcases c with u | u | u <;> rw [u] <;> decide) o e li k
  · subst es
    obtain ⟨y, st1, e1, _, V1⟩ := V.u
    obtain ⟨x, st0, e2, _, _⟩ := V1.u
    subst e1 e2
    have nt := n02 (x := t.1) (by rcases c with u | u <;> rw [u] <;> decide)
    rw [skt_b nt] at k
    exact an_bin_14 d N x3 A nt (by rcases c with u | u <;> rw [u] <;> decide) o e li k
theorem an_tok_14 (d : Nat) {h0 : Hp_} {r : Nat} {L : List Int32} (N : Anc_14 h0 r L) (x3 : Int32) (b3 : ∀ c, ltb 2 c = true → 0 ≤ x3 + ixq 2 (xch c) ∧ x3 + ixq 2 (xch c) ≤ ((6 : Int32) - 1)) (b3' : ∀ c, ltb 2 c = true → vp_in (x3 + ixq 2 (xch c)) 6) {K : Int32 → Hp_ → Prop} : ∀ (E : List Tk2) {i : Nat} {st : List Int32} {ts ts' : List Bool} {h : Hp_}, Ans_14 h0 h st → tyL E ts = some ts' → Vty ts st → (∀ t ∈ E, tkO (ltb 2) t) → (∀ k w, (E.map (tkx 2))[k]? = some w → L[i + k]? = some w) → st.length ≤ i →
    (∀ h', Ans_14 h0 h' (run2 (av_14 h0 x3) E st) → (run2 (av_14 h0 x3) E st).length ≤ i + E.length → AW (m_X10_answer (d + 2) 0 0) 0 0 22 [(0, .ref 14), (1, .int (Int32.ofNat r)), (2, .ref 108), (3, .int x3), (4, .int (Int32.ofNat (run2 (av_14 h0 x3) E st).length)), (5, .int (Int32.ofNat (i + E.length)))] [] h' (kI K)) →
    AW (m_X10_answer (d + 2) 0 0) 0 0 22 [(0, .ref 14), (1, .int (Int32.ofNat r)), (2, .ref 108), (3, .int x3), (4, .int (Int32.ofNat st.length)), (5, .int (Int32.ofNat i))] [] h (kI K)
  | [], i, st, ts, ts', h, A, _, _, _, _, li, k => k h A li
  | t :: E, i, st, ts, ts', h, A, hE, V, o, c, li, k => by
    have hE : (match ty1 t ts with | some s' => tyL E s' | none => none) = some ts' := hE
    cases e : ty1 t ts with
    | none =>
      rw [e] at hE
      cases hE
    | some q =>
      rw [e] at hE
      have V' := skt_t (v := av_14 h0 x3) e V
      have sl : (skt (av_14 h0 x3) t st).length ≤ i + 1 := by
        have a := V'.l
        have b := V.l
        rcases ty1_c e with ⟨_, u⟩ | ⟨_, w, u, u'⟩ | ⟨_, w, u, u'⟩ | ⟨_, w, u, u'⟩ | ⟨_, w, u, u'⟩
        · rw [u] at a
          have : (false :: ts).length = ts.length + 1 := rfl
          omega
        all_goals
          subst u u'
          simp only [List.length_cons] at a b
          omega
      refine an_one_14 d N x3 b3 b3' A e V (o t (List.mem_cons_self ..)) (c 0 _ rfl) li (fun h' A' => ?_)
      refine an_tok_14 d N x3 b3 b3' E A' hE V' (fun t ht => o t (List.mem_cons_of_mem _ ht)) (fun k w z => ?_) sl (fun h2 A2 l2 => ?_)
      · have y := c (k + 1) w z
        rw [show i + (k + 1) = i + 1 + k by omega] at y
        exact y
      · have y := k h2 A2 (by show _ ≤ i + (E.length + 1); have : (run2 (av_14 h0 x3) E (skt (av_14 h0 x3) t st)).length ≤ i + 1 + E.length := l2; show (run2 (av_14 h0 x3) E (skt (av_14 h0 x3) t st)).length ≤ _; omega)
        rw [show i + (t :: E).length = i + 1 + E.length by show i + (E.length + 1) = _; omega] at y
        exact y
/-- all clauses from one on -/
theorem an_cls_14 (d : Nat) {h0 : Hp_} {r : Nat} {L : List Int32} (N : Anc_14 h0 r L) (x3 : Int32) (b3 : ∀ c, ltb 2 c = true → 0 ≤ x3 + ixq 2 (xch c) ∧ x3 + ixq 2 (xch c) ≤ ((6 : Int32) - 1)) (b3' : ∀ c, ltb 2 c = true → vp_in (x3 + ixq 2 (xch c)) 6) : ∀ (C : List Cl2) {i : Nat} {h : Hp_}, Ans_14 h0 h [] → (∀ c ∈ C, clO 2 c) → (∀ k w, (rlX 2 i C)[k]? = some w → L[i + k]? = some w) → i + rlN C = L.length →
    AW (m_X10_answer (d + 2) 0 0) 0 0 22 [(0, .ref 14), (1, .int (Int32.ofNat r)), (2, .ref 108), (3, .int x3), (4, .int (Int32.ofNat 0)), (5, .int (Int32.ofNat i))] [] h (kI (fun q h' => Iv h' ∧ Fr [46999] h0 h' ∧ q = evC (av_14 h0 x3) C))
  | [], i, h, A, _, _, le => by
    have le : i + 0 = L.length := le
    have l164 := N.2.1
    refine t_X10_answer_14_22 d h A.1.1 _ _ _ _ _ ⟨on_in N.1 (by decide), fun _ => ⟨A.1, A.2.1, rfl⟩, fun z => ?_⟩
    have n1 := N.1
    have z := q_nle z
    rw [on_k (by omega), fr_i A.2.1 (by decide +kernel), N.2.2.1, on_j (by omega), on_j (by omega)] at z
    omega
  | c :: C, i, h, A, o, cd, le => by
    have oc := o c (List.mem_cons_self ..)
    have l164 := N.2.1
    have t1 : (1 : Int32).toInt = 1 := rfl
    have t0 : (0 : Int32).toInt = 0 := rfl
    have le : i + (clN c + rlN C) = L.length := le
    have cd : ∀ k w, (clX 2 i c ++ rlX 2 (i + clN c) C)[k]? = some w → L[i + k]? = some w := cd
    have cc : ∀ k w, (clX 2 i c)[k]? = some w → L[i + k]? = some w := fun k w e => cd k w (by
      rw [List.getElem?_append_left ((List.getElem?_eq_some_iff.mp e).1)]
      exact e)
    have cC : ∀ k w, (rlX 2 (i + clN c) C)[k]? = some w → L[i + clN c + k]? = some w := fun k w e => by
      have z := cd (clN c + k) w (by
        rw [List.getElem?_append_right (by rw [clX_l]; omega), clX_l, show clN c + k - clN c = k by omega]
        exact e)
      rw [show i + (clN c + k) = i + clN c + k by omega] at z
      exact z
    obtain ⟨xa_, ea⟩ := run2_1 (v := av_14 h0 x3) oc.2.1
    have ans : ∀ (j : Nat) (h' : Hp_), Ans_14 h0 h' [] → (∀ k w, (c.2.map (tkx 2) ++ [pk4 4 0])[k]? = some w → L[j + k]? = some w) → AW (m_X10_answer (d + 2) 0 0) 0 0 22 [(0, .ref 14), (1, .int (Int32.ofNat r)), (2, .ref 108), (3, .int x3), (4, .int (Int32.ofNat 0)), (5, .int (Int32.ofNat j))] [] h' (kI (fun q h' => Iv h' ∧ Fr [46999] h0 h' ∧ q = top2 (run2 (av_14 h0 x3) c.2 []))) := fun j h' A' cj => by
      refine an_tok_14 d N x3 b3 b3' c.2 (st := []) A' (oc.2.1 []) trivial oc.2.2.2 (fun k w e => cj k w (by
        rw [List.getElem?_append_left ((List.getElem?_eq_some_iff.mp e).1)]
        exact e)) (Nat.zero_le _) (fun h2 A2 l2 => ?_)
      rw [ea] at A2 l2 ⊢
      have ce : L[j + c.2.length]? = some (pk4 4 0) := by
        have z := cj c.2.length (pk4 4 0) (by
          rw [List.getElem?_append_right (by rw [List.length_map]; exact Nat.le_refl _), List.length_map, Nat.sub_self]
          rfl)
        exact z
      obtain ⟨v1, v2, v3, ew⟩ := an_ix_14 N A2 ce
      rw [show Int32.ofNat [xa_].length = 1 from rfl]
      refine t_X10_answer_14_22 d h2 A2.1.1 _ _ _ _ _ ?_
      rw [ew, show pk4 4 0 &&& 15 = 4 from by decide, show (1 : Int32) - 1 = 0 from rfl]
      have z0 : (0 : Int32).toNatClampNeg = 0 := by simp
      have px : h_i h2 46 0 = xa_ := A2.2.2.1
      rw [z0]
      exact ⟨v1, fun z => absurd z v2, fun _ => ⟨v3, v3, fun e0 => absurd e0 (by decide), fun _ => ⟨fun _ => ⟨fun _ => ⟨fun _ => ⟨fun _ => ⟨fun n4 => absurd rfl n4, fun _ => ⟨(show vp_in (Int32.ofNat 0) 164 from on_in (by decide) (by decide)), A2.1, A2.2.1, px⟩⟩, fun e2 => absurd e2 (by decide)⟩, fun z => absurd (by decide) z⟩, fun g5 => absurd (by decide) g5⟩, fun e1 => absurd e1 (by decide)⟩⟩⟩
    show AW _ 0 0 22 _ [] h (kI (fun q h' => Iv h' ∧ Fr [46999] h0 h' ∧ q = if c.1.length = 0 ∨ ¬ top2 (run2 (av_14 h0 x3) c.1 []) = 0 then top2 (run2 (av_14 h0 x3) c.2 []) else evC (av_14 h0 x3) C))
    by_cases n0 : c.1.length = 0
    · rw [if_pos (Or.inl n0)]
      refine ans i h A (fun k w e => cc k w ?_)
      unfold clX
      rw [if_pos n0]
      exact e
    · have eX : clX 2 i c = c.1.map (tkx 2) ++ anX 2 (i + c.1.length) c.2 := by
        unfold clX
        rw [if_neg n0]
      have nN : clN c = c.1.length + (c.2.length + 2) := by
        unfold clN
        rw [if_neg n0]
      rw [eX] at cc
      have p1 : Put1 true c.1 := oc.1.elim (fun e => absurd e n0) id
      obtain ⟨xc_, ec⟩ := run2_1 (v := av_14 h0 x3) p1
      refine an_tok_14 d N x3 b3 b3' c.1 (st := []) A (p1 []) trivial oc.2.2.1 (fun k w e => cc k w (by
        rw [List.getElem?_append_left ((List.getElem?_eq_some_iff.mp e).1)]
        exact e)) (Nat.zero_le _) (fun h2 A2 l2 => ?_)
      rw [ec] at A2 l2 ⊢
      have cu : ∀ k w, (anX 2 (i + c.1.length) c.2)[k]? = some w → L[i + c.1.length + k]? = some w := fun k w e => by
        have z := cc (c.1.length + k) w (by
          rw [List.getElem?_append_right (by rw [List.length_map]; omega), List.length_map, show c.1.length + k - c.1.length = k by omega]
          exact e)
        rw [show i + (c.1.length + k) = i + c.1.length + k by omega] at z
        exact z
      have ce : L[i + c.1.length]? = some (pk4 3 (Int32.ofNat (i + c.1.length + 1 + c.2.length + 1))) := cu 0 _ rfl
      have tg : 0 ≤ (Int32.ofNat (i + c.1.length + 1 + c.2.length + 1)).toInt ∧ (Int32.ofNat (i + c.1.length + 1 + c.2.length + 1)).toInt ≤ 100000 := by
        rw [on_j (by omega)]
        omega
      have w15 := pk4_15 (o := 3) (by decide) tg
      have wsh := pk4_sh (o := 3) (by decide) tg
      obtain ⟨v1, v2, v3, ew⟩ := an_ix_14 N A2 ce
      rw [show Int32.ofNat [xc_].length = 1 from rfl]
      refine t_X10_answer_14_22 d h2 A2.1.1 _ _ _ _ _ ?_
      rw [ew, w15, wsh, show (1 : Int32) + (-1) = 0 from rfl]
      have z0 : (0 : Int32).toNatClampNeg = 0 := by simp
      have px : h_i h2 46 0 = xc_ := A2.2.2.1
      rw [z0]
      have i1 : Int32.ofNat (i + c.1.length) + 1 = Int32.ofNat (i + c.1.length + 1) := on_s (by omega)
      have A3 : Ans_14 h0 h2 [] := ⟨A2.1, A2.2.1, trivial⟩
      refine ⟨v1, fun z => absurd z v2, fun _ => ⟨v3, v3, fun e0 => absurd e0 (by decide), fun _ => ⟨fun _ => ⟨fun _ => ⟨fun _ => ⟨fun _ => ⟨fun _ => ⟨(show vp_in (Int32.ofNat 0) 164 from on_in (by decide) (by decide)), fun nx => ?_, fun ex => ?_⟩, fun e4 => absurd e4 (by decide)⟩, fun e2 => absurd e2 (by decide)⟩, fun z => absurd (by decide) z⟩, fun g5 => absurd (by decide) g5⟩, fun e1 => absurd e1 (by decide)⟩⟩⟩
      · have nx : ¬ xc_ = 0 := fun y => nx (px.trans y)
        rw [if_pos (show c.1.length = 0 ∨ ¬ top2 [xc_] = 0 from Or.inr nx), i1]
        refine ans (i + c.1.length + 1) h2 A3 (fun k w e => ?_)
        have z := cu (k + 1) w e
        rw [show i + c.1.length + (k + 1) = i + c.1.length + 1 + k by omega] at z
        exact z
      · have ex : xc_ = 0 := px.symm.trans ex
        rw [if_neg (show ¬ (c.1.length = 0 ∨ ¬ top2 [xc_] = 0) from fun y => y.elim n0 (fun z => z ex))]
        have jt : (if Int32.ofNat (i + c.1.length) < Int32.ofNat (i + c.1.length + 1 + c.2.length + 1) - 1 then Int32.ofNat (i + c.1.length + 1 + c.2.length + 1) - 1 else Int32.ofNat (i + c.1.length)) + 1 = Int32.ofNat (i + clN c) := by
          rw [on_p (show i + c.1.length + 1 + c.2.length < 1000000 by omega), if_pos (q_lt.mpr (by rw [on_j (by omega), on_j (by omega)]; omega)), on_s (by omega)]
          congr 1
          omega
        rw [jt]
        exact an_cls_14 d N x3 b3 b3' C A3 (fun c hc => o c (List.mem_cons_of_mem _ hc)) cC (by omega)
/-- what a text of the class tells -/
theorem c_an_14 (d : Nat) {h : Hp_} (I : Iv h) {r : Nat} (hr : (r : Int) < (h_i h 14 5).toInt) {C : List Cl2} (o : ∀ c ∈ C, clO 2 c) (len : h_i h 44 r = Int32.ofNat (rlN C)) (l164 : rlN C ≤ 164) (cd : ∀ i v, (rlX 2 0 C)[i]? = some v → h_i h 45 (164 * r + i) = v) (x3 : Int32) (b3 : ∀ c, ltb 2 c = true → 0 ≤ x3 + ixq 2 (xch c) ∧ x3 + ixq 2 (xch c) ≤ ((6 : Int32) - 1)) (b3' : ∀ c, ltb 2 c = true → vp_in (x3 + ixq 2 (xch c)) 6) : Ci (m_X10_answer (d + 2) 0 0) [.ref 14, .int (Int32.ofNat r), .ref 108, .int x3] h (fun q h' => Iv h' ∧ Fr [46999] h h' ∧ q = evC (av_14 h x3) C) := by
  have rg := I.2.1 14 5
  rw [show tf 14 5 = (0, 20) by decide +kernel] at rg
  have r20 : (h_i h 14 5).toInt ≤ 20 := rg.2
  have t1 : (1 : Int32).toInt = 1 := rfl
  have t0 : (0 : Int32).toInt = 0 := rfl
  have m1 : (h_i h 14 5 - 1).toInt = (h_i h 14 5).toInt - 1 := by rw [tx_sub (by rw [t1]; omega) (by rw [t1]; omega), t1]
  refine t_X10_answer_14 d h I.1 _ x3 _ ⟨fun _ => ?_, fun z => absurd ⟨q_le.mpr (by rw [t0, on_j (by omega)]; omega), q_le.mpr (by rw [m1, on_j (by omega)]; omega)⟩ z⟩
  exact an_cls_14 d (L := rlX 2 0 C) ⟨by omega, by rw [rlX_l]; exact l164, by rw [rlX_l]; exact len, cd⟩ x3 b3 b3' C (i := 0) ⟨I, Fr.rf _ _, trivial⟩ o (fun k w e => by rw [Nat.zero_add]; exact e) (by rw [rlX_l, Nat.zero_add])
/-- no text: nothing is told -/
theorem c_an0_14 (d : Nat) {h : Hp_} (I : Iv h) (x3 : Int32) : Ci (m_X10_answer (d + 2) 0 0) [.ref 14, .int (-1), .ref 108, .int x3] h (fun q h' => h' = h ∧ q = 0) := t_X10_answer_14 d h I.1 _ x3 _ ⟨fun z => absurd z.1 (by decide), fun _ => ⟨rfl, rfl⟩⟩
end
