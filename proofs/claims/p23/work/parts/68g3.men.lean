/-! MEN, the reference: one who is drawn; points; steps -/
theorem fHome_7 {n x : Int32} {w : Int32 → Int32 → Int32} {M : Nat → Int32} : fHome n w (up1 M 7 x) = fHome n w M := by
  have u5 : up1 M 7 x 5 = M 5 := up1_ne (by decide)
  have u3 : up1 M 7 x 3 = M 3 := up1_ne (by decide)
  unfold fHome
  rw [u5, u3]
  funext k
  split
  · unfold sOut
    by_cases a5 : k = 5
    · rw [a5, up1_at, up1_at]
    · rw [up1_ne a5, up1_ne a5]
      by_cases a7 : k = 7
      · rw [a7, up1_at, up1_at]
      · rw [up1_ne a7, up1_ne a7]
        by_cases a6 : k = 6
        · rw [a6, up1_at, up1_at]
        · rw [up1_ne a6, up1_ne a6]
          by_cases a4 : k = 4
          · rw [a4, up1_at, up1_at]
          · rw [up1_ne a4, up1_ne a4, up1_ne a7]
  · unfold fFree
    by_cases a7 : k = 7
    · rw [a7, up1_at, up1_at]
    · rw [up1_ne a7, up1_ne a7]
      by_cases a4 : k = 4
      · rw [a4, up1_at, up1_at]
      · rw [up1_ne a4, up1_ne a4]
        by_cases a5 : k = 5
        · rw [a5, up1_at, up1_at]
        · rw [up1_ne a5, up1_ne a5, up1_ne a4, up1_ne a4, up1_ne a7]
theorem sOut_7 {n m p x : Int32} {M : Nat → Int32} : sOut n m p (up1 M 7 x) = sOut n m p M := by
  funext k
  unfold sOut
  by_cases a5 : k = 5
  · rw [a5, up1_at, up1_at]
  · rw [up1_ne a5, up1_ne a5]
    by_cases a7 : k = 7
    · rw [a7, up1_at, up1_at]
    · rw [up1_ne a7, up1_ne a7]
      by_cases a6 : k = 6
      · rw [a6, up1_at, up1_at]
      · rw [up1_ne a6, up1_ne a6, up1_ne a7]
theorem nm_ {a b : Nat} (ha : a ∈ 206 :: mrL) (hb : b ∉ 206 :: mrL) : a ≠ b := fun e => hb (e ▸ ha)
theorem RMp.im {j a k : Nat} {M : Nat → Int32} {h : Hp_} {x : Int32} (R : RMp j M h) (n : a ∉ 206 :: mrL) : RMp j M (h_im h a k x) := R.cg (fun b hb => im_ne (nm_ hb n))
theorem RMp.i7 {j : Nat} {M : Nat → Int32} {h : Hp_} {x : Int32} (R : RMp j M h) : RMp j (up1 M 7 x) (h_im h 211 j x) := by
  refine ⟨⟨?_, ?_, ?_, ?_⟩, fun e => ?_, fun e => ?_, ?_⟩
  · rw [im_ne (by decide), up1_ne (by decide)]
    exact R.1.1
  · rw [im_ne (by decide), up1_ne (by decide)]
    exact R.1.2.1
  · rw [im_ne (by decide), up1_ne (by decide)]
    exact R.1.2.2.1
  · rw [im_at, up1_at]
  · rw [up1_ne (by decide)] at e
    have q := R.2.1 e
    rw [im_ne (by decide), im_ne (by decide), im_ne (by decide), im_ne (by decide), im_ne (by decide), up1_ne (by decide), up1_ne (by decide), up1_ne (by decide), up1_ne (by decide), up1_ne (by decide)]
    exact q
  · rw [up1_ne (by decide)] at e
    have q := R.2.2.1 e
    rw [im_ne (by decide), im_ne (by decide), up1_ne (by decide), up1_ne (by decide)]
    exact q
  · rw [im_ne (by decide), up1_ne (by decide)]
    exact R.2.2.2
theorem RMp.i9 {j : Nat} {M : Nat → Int32} {h : Hp_} {x : Int32} (R : RMp j M h) : RMp j (up1 M 9 x) (h_im h 213 j x) := by
  refine ⟨⟨?_, ?_, ?_, ?_⟩, fun e => ?_, fun e => ?_, ?_⟩
  · rw [im_ne (by decide), up1_ne (by decide)]
    exact R.1.1
  · rw [im_ne (by decide), up1_ne (by decide)]
    exact R.1.2.1
  · rw [im_ne (by decide), up1_ne (by decide)]
    exact R.1.2.2.1
  · rw [im_ne (by decide), up1_ne (by decide)]
    exact R.1.2.2.2
  · rw [up1_ne (by decide)] at e
    have q := R.2.1 e
    rw [im_ne (by decide), im_at, im_ne (by decide), im_ne (by decide), im_ne (by decide), up1_ne (by decide), up1_at, up1_ne (by decide), up1_ne (by decide), up1_ne (by decide)]
    exact ⟨q.1, rfl, q.2.2⟩
  · rw [up1_ne (by decide)] at e
    have q := R.2.2.1 e
    rw [im_ne (by decide), im_ne (by decide), up1_ne (by decide), up1_ne (by decide)]
    exact q
  · rw [im_ne (by decide), up1_ne (by decide)]
    exact R.2.2.2
theorem RMp.row {j : Nat} {M : Nat → Int32} {h : Hp_} {e : Ev2} (R : RMp j M h) (e4 : M 4 = 1) : RMp j (sRow e M) (h_im h 216 j (M 11 + 1)) := by
  have q := R.2.1 e4
  refine ⟨⟨?_, ?_, ?_, ?_⟩, fun _ => ?_, fun z => ?_, ?_⟩
  · rw [im_ne (by decide), sRow_k (by decide) (by decide) (by decide)]
    exact R.1.1
  · rw [im_ne (by decide), sRow_k (by decide) (by decide) (by decide)]
    exact R.1.2.1
  · rw [im_ne (by decide), sRow_k (by decide) (by decide) (by decide)]
    exact R.1.2.2.1
  · rw [im_ne (by decide), sRow_k (by decide) (by decide) (by decide)]
    exact R.1.2.2.2
  · rw [im_ne (by decide), im_ne (by decide), im_ne (by decide), im_at, im_ne (by decide), sRow_11, sRow_k (by decide) (by decide) (by decide), sRow_k (by decide) (by decide) (by decide), sRow_k (by decide) (by decide) (by decide), sRow_k (by decide) (by decide) (by decide)]
    exact ⟨q.1, q.2.1, q.2.2.1, rfl, q.2.2.2.2⟩
  · rw [sRow_k (by decide) (by decide) (by decide), e4] at z
    exact absurd z (by decide)
  · rw [im_ne (by decide), sRow_k (by decide) (by decide) (by decide)]
    exact R.2.2.2
theorem rq_m {n c : Int32} {r : Nat} {f : Nat → Int32} : rq (gM n) r [(1, c)] f = up1 f r n ∧ rq (gS n) r [(1, c)] f = f ∧ rq gC r [(1, c)] f = f := ⟨rfl, rfl, rfl⟩
theorem rq_s {n c : Int32} {r : Nat} {f : Nat → Int32} : rq (gM n) r [(2, c)] f = f ∧ rq (gS n) r [(2, c)] f = up1 f r n ∧ rq gC r [(2, c)] f = up1 f r c := ⟨rfl, rfl, rfl⟩
/-- a step that takes no time leaves him where he is -/
theorem fOne_n {n : Int32} {w : Int32 → Int32 → Int32} {x : Sp3} {M : Nat → Int32} (t : (fOne n w x M).1 = false) : (fOne n w x M).2.1 5 = M 5 ∧ (fOne n w x M).2.1 6 = M 6 ∧ (fOne n w x M).2.1 7 = M 7 := by
  unfold fOne at t ⊢
  split at t
  · cases t
  · rename_i c1
    rw [if_neg c1]
    split at t
    · cases t
    · rename_i c3
      rw [if_neg c3]
      split at t
      · cases t
      · rename_i cw
        rw [if_neg cw]
        split at t
        · rename_i c2
          rw [if_pos c2]
          split at t
          · rename_i cm
            rw [if_pos cm]
            show sRow (2, 2) M 5 = M 5 ∧ sRow (2, 2) M 6 = M 6 ∧ sRow (2, 2) M 7 = M 7
            exact ⟨sRow_k (by decide) (by decide) (by decide), sRow_k (by decide) (by decide) (by decide), sRow_k (by decide) (by decide) (by decide)⟩
          · rename_i cm
            rw [if_neg cm]
            show (fPt n (M 10 + x.2.2) M).2.1 5 = M 5 ∧ (fPt n (M 10 + x.2.2) M).2.1 6 = M 6 ∧ (fPt n (M 10 + x.2.2) M).2.1 7 = M 7
            have t : (fPt n (M 10 + x.2.2) M).1 = false := t
            refine ⟨fPt_k (by decide) (by decide) (by decide) (by decide), fPt_k (by decide) (by decide) (by decide) (by decide), ?_⟩
            unfold fPt at t ⊢
            split at t
            · rename_i c
              rw [if_pos c]
              split at t
              · rename_i c'
                rw [if_pos c']
                show sRow (1, -1) M 7 = M 7
                exact sRow_k (by decide) (by decide) (by decide)
              · cases t
            · rename_i c
              rw [if_neg c]
              show sRow (2, 1) M 7 = M 7
              exact sRow_k (by decide) (by decide) (by decide)
        · rename_i c2
          rw [if_neg c2]
          exact ⟨rfl, rfl, rfl⟩
theorem fOne_m {n : Int32} {w : Int32 → Int32 → Int32} {x : Sp3} {M : Nat → Int32} {m : Nat} (r0 : 0 ≤ (M 11).toInt) (r4 : (M 11).toInt + (((if x.1 = 2 then 1 else 0) + m : Nat) : Int) ≤ 400) (t : (fOne n w x M).1 = false) : ((fOne n w x M).2.1 11).toNatClampNeg = (M 11).toNatClampNeg + (fOne n w x M).2.2.length ∧ 0 ≤ ((fOne n w x M).2.1 11).toInt ∧ ((fOne n w x M).2.1 11).toInt + (m : Int) ≤ 400 := by
  rcases fOne_11 (n := n) (w := w) (x := x) (M := M) with ⟨a, b, c⟩ | ⟨a, b, c⟩
  · have c := c t
    rw [if_neg c] at r4
    refine ⟨by rw [a, b]; rfl, by rw [b]; exact r0, by rw [b]; omega⟩
  · rw [if_pos a] at r4
    have q := row_n (x := M 11) r0 (by omega)
    refine ⟨by rw [b, c]; exact q.1, by rw [c]; omega, by rw [c]; omega⟩
section MEN
variable {β : Type} {PM : β → Hp_ → Prop} {tB : Int32 → Int32 → β → β} {lM : Nat → Hp_ → β → β}
theorem m_st (P : PMok PM tB lM) (d : Nat) {h : Hp_} (I : Iv h) (X : ExP h) {x1 : Int32} (hx : 0 ≤ x1.toInt ∧ x1.toInt ≤ 11) {M : Nat → Int32} (R : RMp x1.toNatClampNeg M h) {b : β} (B : PM b h) (p : 0 ≤ (M 5).toInt) (p6 : M 6 = -1) (n0 : M 0 = x1) (e4 : M 4 = 3) (r : Nat) (F : Nat → Int32) (hF : F = if h_i h 1 0 < M 14 then up1 M 7 (M 14) else fHome (h_i h 1 0) (wI h) M) : Cv (m_X12_stay (d + 3) 0 0) [.ref 1, .int x1] h (fun h' => Mx PM x1.toNatClampNeg (h_i h 1 0) F r [] (fB tB (h_i h 1 0) F b) h h') := by
  have v := v12 hx
  have e19 := (R.2.2.1 e4).2
  have Tt := t_X12_stay d h I.1 x1
  rw [e19] at Tt
  refine Tt _ ⟨v, fun y => ⟨v, v, ?_⟩, fun n => ?_⟩
  · rw [if_pos y] at hF
    have fb : fB tB (h_i h 1 0) F b = b := by
      unfold fB
      rw [hF, up1_ne (by decide), e4, if_neg (by decide)]
    rw [fb, hF]
    exact (Mx.rf I R B).imj P (im211 I _ _) (by decide) (by decide +kernel) R.i7
  · rw [if_neg n] at hF
    rw [hF]
    exact Cv.mono (m_gh P d I X hx R B p p6 n0 r) (fun h' k => ⟨k.1.1, k⟩)
/-- one drawn who is at a place -/
theorem m_gd (P : PMok PM tB lM) (d : Nat) {h : Hp_} (I : Iv h) (X : ExP h) {x1 : Int32} (hx : 0 ≤ x1.toInt ∧ x1.toInt ≤ 11) {M : Nat → Int32} (R : RMp x1.toNatClampNeg M h) {b : β} (B : PM b h) (p : 0 ≤ (M 5).toInt) (p6 : M 6 = -1) (n0 : M 0 = x1) (e4 : M 4 = 3) (nz : ¬ wI h (M 5) (M 13) = -1) (z0 : wI h (M 5) (M 13) = 0 → M 5 = M 13) (r : Nat) : Cv (m_X12_goDrawn (d + 4) 0 0) [.ref 1, .int x1] h (fun h' => Mx PM x1.toNatClampNeg (h_i h 1 0) (fDr (h_i h 1 0) (wI h) M) r [] (fB tB (h_i h 1 0) (fDr (h_i h 1 0) (wI h) M) b) h h') := by
  have v := v12 hx
  have e18 := (R.2.2.1 e4).1
  have b18 := m218 I x1.toNatClampNeg
  rw [e18] at b18
  have Tt := t_X12_goDrawn d h I.1 x1
  rw [e18] at Tt
  have s1 : Mx PM x1.toNatClampNeg (h_i h 1 0) (up1 M 7 (-1)) r [] b h (h_im h 211 x1.toNatClampNeg (-1)) := (Mx.rf I R B).imj P (im211 I _ _) (by decide) (by decide +kernel) R.i7
  have k1 := s1.2.1.k
  have u5 : up1 M 7 (-1) 5 = M 5 := up1_ne (by decide)
  have z := m_so P d s1.1 (k1.2.2.2.2.2 X) hx s1.2.2.1 s1.2.2.2.2 (M 13) (by rw [u5]; exact p) ⟨b18.1, b18.2⟩ r (by rw [u5, k1.1]; exact nz)
  rw [u5, k1.1, k1.2.1] at z
  refine Tt _ ⟨v, v, Cv.mono z (fun h3 k => ?_)⟩
  by_cases y : 0 < wI h (M 5) (M 13)
  · rw [if_pos y, sOut_7] at k
    have f : fDr (h_i h 1 0) (wI h) M = sOut (h_i h 1 0) (wI h (M 5) (M 13)) (M 13) M := by
      unfold fDr
      rw [if_pos y]
    have fb : fB tB (h_i h 1 0) (sOut (h_i h 1 0) (wI h (M 5) (M 13)) (M 13) M) b = b := by
      unfold fB
      rw [sOut_k (by decide) (by decide) (by decide), e4, if_neg (by decide)]
    have e10 : h_i h3 210 x1.toNatClampNeg = M 13 := by
      rw [k.2.2.1.1.2.2.1]
      unfold sOut
      rw [up1_ne (by decide), up1_ne (by decide), up1_at]
    refine ⟨k.1.1, v, fun _ => ?_, fun e => ?_⟩
    · rw [f, fb]
      exact s1.tr k rfl
    · rw [e10] at e
      rw [e] at b18
      exact absurd b18.1 (by decide)
  · rw [if_neg y] at k
    have w0 : wI h (M 5) (M 13) = 0 := by
      have t0 : (0 : Int32).toInt = 0 := rfl
      rcases wI_p I X (M 5) (M 13) with q | q
      · exact absurd q nz
      · have y' := q_nlt y
        exact Int32.toInt_inj.mp (by omega)
    have s3 := s1.tr k rfl
    have k3 := s3.2.1.k
    have e10 : h_i h3 210 x1.toNatClampNeg = -1 := by
      rw [k.2.2.1.1.2.2.1, up1_ne (by decide)]
      exact p6
    refine ⟨k.1.1, v, fun n => absurd e10 n, fun _ => ?_⟩
    have f : fDr (h_i h 1 0) (wI h) M = if h_i h 1 0 < M 14 then up1 (up1 M 7 (-1)) 7 (M 14) else fHome (h_i h 1 0) (wI h) (up1 M 7 (-1)) := by
      unfold fDr
      rw [if_neg y, fHome_7]
      by_cases c : h_i h 1 0 < M 14
      · rw [if_pos ⟨z0 w0, c⟩, if_pos c]
        funext k
        by_cases a7 : k = 7
        · rw [a7, up1_at, up1_at]
        · rw [up1_ne a7, up1_ne a7, up1_ne a7]
      · rw [if_neg (fun q => c q.2), if_neg c]
    have q := m_st P d s3.1 (k3.2.2.2.2.2 X) hx s3.2.2.1 s3.2.2.2.2 (by rw [u5]; exact p) (by rw [up1_ne (by decide)]; exact p6) (by rw [up1_ne (by decide)]; exact n0) (by rw [up1_ne (by decide)]; exact e4) r (fDr (h_i h 1 0) (wI h) M) (by
      rw [k3.2.1, k3.1, show up1 M 7 (-1) 14 = M 14 from up1_ne (by decide)]
      exact f)
    rw [k3.2.1] at q
    exact Cv.mono q (fun h8 k8 => ⟨k8.1.1, s3.tr k8 rfl⟩)
/-- he came to a point -/
theorem m_cm (P : PMok PM tB lM) (d : Nat) {h : Hp_} (I : Iv h) {x1 : Int32} (hx : 0 ≤ x1.toInt ∧ x1.toInt ≤ 11) {M : Nat → Int32} (R : RMp x1.toNatClampNeg M h) {b : β} (B : PM b h) (e4 : M 4 = 1) (x2 : Int32) (r0 : 0 ≤ (M 11).toInt ∧ (M 11).toInt < 400) : Ci (m_X12_comes (d + 1) 0 0) [.ref 1, .int x1, .int x2] h (fun q h' => q = (if (fPt (h_i h 1 0) (M 10 + x2) M).1 = true then 1 else 0) ∧ Mx PM x1.toNatClampNeg (h_i h 1 0) (fPt (h_i h 1 0) (M 10 + x2) M).2.1 (M 11).toNatClampNeg [(fPt (h_i h 1 0) (M 10 + x2) M).2.2] b h h') := by
  have v := v12 hx
  have q := R.2.1 e4
  have rn := row_n (x := M 11) r0.1 (by omega)
  have vr : vp_in (M 11) 400 := dp_in (lo := 0) (hi := 399) ⟨r0.1, by show _ ≤ (399 : Int); omega⟩ (by decide) (by decide)
  have I1 : Iv (h_im h 216 x1.toNatClampNeg (M 11 + 1)) := im216 I _ _ ⟨by omega, by omega⟩
  have G1 : Gmm x1.toNatClampNeg h (h_im h 216 x1.toNatClampNeg (M 11 + 1)) := (Gmm.rf _ _).imj (by decide +kernel)
  have B1 : PM b (h_im h 216 x1.toNatClampNeg (M 11 + 1)) := P.1 _ _ _ _ _ (Or.inl (by decide)) B
  have Tt := t_X12_comes d h I.1 x1 x2
  rw [q.2.2.1, q.2.2.2.1] at Tt
  refine Tt _ ⟨v, v, v, v, fun y => ⟨vr, fun z => ?_, fun z => ⟨v, ?_⟩⟩, fun y => t_X12_miss d _ I1.1 (M 11) 1 _ ⟨vr, vr, ?_⟩⟩
  · have fo : fPt (h_i h 1 0) (M 10 + x2) M = (false, sRow (1, -1) M, (1, -1)) := by
      unfold fPt
      rw [if_pos y, if_pos z]
    rw [fo]
    exact ⟨rfl, i24 I1 241 _ _ (Or.inl rfl), G1.imo (by decide +kernel) (by decide), (R.row e4).im (by decide), ⟨by rw [im_row, im_oth (by decide)]; rfl, by rw [im_oth (by decide), im_oth (by decide)]; rfl, by rw [im_oth (by decide), im_oth (by decide)]; rfl⟩, P.1 _ _ _ _ _ (Or.inr (Or.inl (by decide))) B1⟩
  · have fo : fPt (h_i h 1 0) (M 10 + x2) M = (true, up1 (sRow (1, -1) M) 7 (M 10 + x2), (1, -1)) := by
      unfold fPt
      rw [if_pos y, if_neg z]
    rw [fo]
    exact ⟨rfl, im211 (i24 I1 241 _ _ (Or.inl rfl)) _ _, (G1.imo (by decide +kernel) (by decide)).imj (by decide +kernel), ((R.row e4).im (by decide)).i7, ⟨by rw [im_oth (by decide), im_row, im_oth (by decide)]; rfl, by rw [im_oth (by decide), im_oth (by decide), im_oth (by decide)]; rfl, by rw [im_oth (by decide), im_oth (by decide), im_oth (by decide)]; rfl⟩, P.1 _ _ _ _ _ (Or.inl (by decide)) (P.1 _ _ _ _ _ (Or.inr (Or.inl (by decide))) B1)⟩
  · have fo : fPt (h_i h 1 0) (M 10 + x2) M = (false, sRow (2, 1) M, (2, 1)) := by
      unfold fPt
      rw [if_neg y]
    have e0 : h_i (h_im h 216 x1.toNatClampNeg (M 11 + 1)) 1 0 = h_i h 1 0 := im_ne (by decide)
    rw [fo, e0]
    have I3 := i24 (i24 I1 242 (M 11).toNatClampNeg (h_i h 1 0) (Or.inr (Or.inl rfl))) 243 (M 11).toNatClampNeg 1 (Or.inr (Or.inr rfl))
    exact ⟨I3.1, rfl, I3, (G1.imo (by decide +kernel) (by decide)).imo (by decide +kernel) (by decide), ((R.row e4).im (by decide)).im (by decide), ⟨by rw [im_oth (by decide), im_oth (by decide), im_oth (by decide)]; rfl, by rw [im_oth (by decide), im_row, im_oth (by decide)]; rfl, by rw [im_row, im_oth (by decide), im_oth (by decide)]; rfl⟩, P.1 _ _ _ _ _ (Or.inr (Or.inl (by decide))) (P.1 _ _ _ _ _ (Or.inr (Or.inl (by decide))) B1)⟩
/-- the steps of a beat from the i-th on, in the reference -/
def Stm (h : Hp_) (b0 : Int32) (i : Nat) (L : List Sp3) : Prop := (0 ≤ b0.toInt ∧ b0.toInt ≤ 11) ∧ i + L.length ≤ 150 ∧ ∀ k x, L[k]? = some x → sB h b0.toNatClampNeg (i + k) = x ∧ stR x
theorem Stm.hd {h : Hp_} {b0 : Int32} {i : Nat} {x : Sp3} {L : List Sp3} (s : Stm h b0 i (x :: L)) : sB h b0.toNatClampNeg i = x ∧ stR x := s.2.2 0 x rfl
theorem Stm.tl {h : Hp_} {b0 : Int32} {i : Nat} {x : Sp3} {L : List Sp3} (s : Stm h b0 i (x :: L)) : Stm h b0 (i + 1) L := ⟨s.1, by
  have q : i + (L.length + 1) ≤ 150 := s.2.1
  omega, fun k y e => by
  have q := s.2.2 (k + 1) y e
  rw [show i + 1 + k = i + (k + 1) by omega]
  exact q⟩
theorem Stm.cg {h h' : Hp_} {b0 : Int32} {i : Nat} {L : List Sp3} (s : Stm h b0 i L) (e : ∀ k, sB h' k = sB h k) : Stm h' b0 i L := ⟨s.1, s.2.1, fun k x q => by rw [e]; exact s.2.2 k x q⟩
theorem mgo_1 (P : PMok PM tB lM) (d : Nat) {h : Hp_} (I : Iv h) (X : ExP h) {x1 : Int32} (hx : 0 ≤ x1.toInt ∧ x1.toInt ≤ 11) {M : Nat → Int32} (R : RMp x1.toNatClampNeg M h) {b : β} (B : PM b h) (e4 : M 4 = 1) (p5 : 0 ≤ (M 5).toInt) (p7 : M 7 = -1) {i : Nat} {x : Sp3} {L : List Sp3} (S : Stm h (M 8) i (x :: L)) (e9 : M 9 = Int32.ofNat i) (e227 : h_i h 227 (M 8).toNatClampNeg = Int32.ofNat (i + (L.length + 1))) (r0 : 0 ≤ (M 11).toInt) (r4 : (M 11).toInt + (if x.1 = 2 then 1 else 0) ≤ 400) (K : Hp_ → Prop)
    (hY : (fOne (h_i h 1 0) (wI h) x M).1 = true → ∀ h', Mx PM x1.toNatClampNeg (h_i h 1 0) (fOne (h_i h 1 0) (wI h) x M).2.1 (M 11).toNatClampNeg (fOne (h_i h 1 0) (wI h) x M).2.2 b h h' → K h')
    (hN : (fOne (h_i h 1 0) (wI h) x M).1 = false → ∀ h', Mx PM x1.toNatClampNeg (h_i h 1 0) (up1 (fOne (h_i h 1 0) (wI h) x M).2.1 9 ((fOne (h_i h 1 0) (wI h) x M).2.1 9 + 1)) (M 11).toNatClampNeg (fOne (h_i h 1 0) (wI h) x M).2.2 b h h' → AW (m_X12_goOn (d + 3) 0 0) 0 0 0 [(0, .ref 1), (1, .int x1)] [] h' (kV K)) : AW (m_X12_goOn (d + 3) 0 0) 0 0 0 [(0, .ref 1), (1, .int x1)] [] h (kV K) := by
  have v := v12 hx
  have q := R.2.1 e4
  have t0 : (0 : Int32).toInt = 0 := rfl
  have t150 : (150 : Int32).toInt = 150 := rfl
  have b8 := S.1
  have sr := S.hd.2
  have ll : i + (L.length + 1) ≤ 150 := S.2.1
  have oi := on_j (n := i) (by omega)
  have ol := on_j (n := i + (L.length + 1)) (by omega)
  have n8 := n_nat b8.1
  have b9 := m209 I x1.toNatClampNeg
  rw [R.1.2.1] at b9
  have m1 : (150 * M 8).toInt = 150 * (M 8).toInt := by rw [tx_mul (by rw [t150]; omega) (by rw [t150]; omega), t150]
  have m2 : (150 * M 8 + Int32.ofNat i).toInt = 150 * (M 8).toInt + (i : Int) := by rw [tx_add (by omega) (by omega), m1, oi]
  have nm := n_nat (x := 150 * M 8 + Int32.ofNat i) (by omega)
  have km : (150 * M 8 + Int32.ofNat i).toNatClampNeg = 150 * (M 8).toNatClampNeg + i := by omega
  have vi : vp_in (150 * M 8 + Int32.ofNat i) 1800 := dp_in (lo := 0) (hi := 1799) ⟨by show (0 : Int) ≤ _; omega, by show _ ≤ (1799 : Int); omega⟩ (by decide) (by decide)
  have v8 : vp_in (M 8) 12 := dp_in (lo := 0) (hi := 11) ⟨b8.1, b8.2⟩ (by decide) (by decide)
  have sb := S.hd.1
  have a8 : h_i h 228 (150 * (M 8).toNatClampNeg + i) = x.1 := congrArg (fun z => z.1) sb
  have a9 : h_i h 229 (150 * (M 8).toNatClampNeg + i) = x.2.1 := congrArg (fun z => z.2.1) sb
  have Tt := t_X12_goOn_0 d h I.1 x1
  rw [R.1.1, e4, q.1, q.2.1, e9, km, e227, a8, a9, R.1.2.1] at Tt
  have s1 : Mx PM x1.toNatClampNeg (h_i h 1 0) M (M 11).toNatClampNeg [] b h (h_im h 211 x1.toNatClampNeg (-1)) := (Mx.rf I R B).imj P (im211 I _ _) (by decide) (by decide +kernel) (by
    have z := R.i7 (x := -1)
    have e : up1 M 7 (-1) = M := funext (fun k => by
      by_cases c : k = 7
      · rw [c, up1_at, p7]
      · rw [up1_ne c])
    rw [e] at z
    exact z)
  have k1 := s1.2.1.k
  have W : 0 ≤ x.2.1.toInt → x.2.1.toInt ≤ 15 → Ci (m_X12_walkOf (d + 0) 0 0) [.ref 1, .int (M 5), .int x.2.1] (h_im h 211 x1.toNatClampNeg (-1)) (fun r h' => Iv h' ∧ Fr [203999] (h_im h 211 x1.toNatClampNeg (-1)) h' ∧ r = wI h (M 5) x.2.1) := fun l1 l2 => by
    have z := c_woI d s1.1 (k1.2.2.2.2.2 X) (M 5) x.2.1 ⟨p5, by omega⟩ ⟨l1, by omega⟩
    rw [k1.1] at z
    exact z
  refine Tt _ ⟨v, fun n => absurd rfl n, fun _ => ⟨v, v, v8, fun _ => ⟨v, v, vi, v, fun y0 => ⟨v, vi, ?_⟩, fun n0 => ⟨fun n2 => ⟨fun n1 => ⟨v, ?_⟩, fun y1 => ⟨vi, v, ?_⟩⟩, fun y2 => ⟨v, vi, ?_⟩⟩⟩, fun e => ?_⟩⟩
  · have n1 : ¬ x.1 = 1 := by rw [y0]; decide
    have n3 : ¬ x.1 = 3 := by rw [y0]; decide
    have p2 : 0 ≤ x.2.1.toInt ∧ x.2.1.toInt ≤ 15 := by
      rcases sr with q | q | q | q
      · exact ⟨q.2.1, q.2.2.1⟩
      · exact absurd q.1 n1
      · exact ⟨q.2.1, q.2.2.1⟩
      · exact absurd q.1 n3
    refine Ci.mono (W p2.1 p2.2) (fun q2 h2 k => ?_)
    obtain ⟨I2, F2, er⟩ := k
    subst er
    have B2 : PM b h2 := P.2.1 b _ h2 F2 s1.2.2.2.2
    have s2 : Mx PM x1.toNatClampNeg (h_i h 1 0) M (M 11).toNatClampNeg [] b h h2 := s1.fr I2 F2 B2 (by decide +kernel) (by decide +kernel) (by decide +kernel)
    have k2 := s2.2.1.k
    have sb2 : sB h2 (M 8).toNatClampNeg i = x := by rw [k2.2.2.2.2.1]; exact sb
    have c9 : h_i h2 229 (150 * (M 8).toNatClampNeg + i) = x.2.1 := congrArg (fun z => z.2.1) sb2
    have c10 : h_i h2 230 (150 * (M 8).toNatClampNeg + i) = x.2.2 := congrArg (fun z => z.2.2) sb2
    have q2 := s2.2.2.1.2.1 e4
    have e13 : h_i h2 213 x1.toNatClampNeg = Int32.ofNat i := q2.2.1.trans e9
    rw [c9, c10, e13, q2.2.2.2.1]
    have b13 : ∀ g, Iv g → Iv (h_im g 213 x1.toNatClampNeg (Int32.ofNat i + 1)) := fun g Ig => by
      rw [on_s (by omega)]
      exact im213 Ig _ _ (by rw [on_j (by omega)]; omega)
    refine ⟨I2.1, fun le => ⟨fun n2 => ⟨fun _ => ⟨v, v, ?_⟩, fun y2 => absurd y2 n2⟩, fun y2 => ⟨fun nmn => ⟨fun n2 => absurd y2 n2, fun _ => ⟨vi, ?_⟩⟩, fun em => ⟨v, ?_⟩⟩⟩, fun gt => ⟨vi, ?_⟩⟩
    · have le := q_le.mp le
      have nw : ¬ 0 < wI h (M 5) x.2.1 := fun z => by have := q_lt.mp z; omega
      have fo : fOne (h_i h 1 0) (wI h) x M = (false, M, []) := by
        unfold fOne
        rw [if_neg n1, if_neg n3, if_neg nw, if_neg n2]
      rw [fo] at hN
      refine hN rfl _ ?_
      show Mx PM x1.toNatClampNeg (h_i h 1 0) (up1 M 9 (M 9 + 1)) (M 11).toNatClampNeg [] b h _
      rw [e9]
      exact s2.imj P (b13 _ I2) (by decide) (by decide +kernel) s2.2.2.1.i9
    · have le := q_le.mp le
      have nw : ¬ 0 < wI h (M 5) x.2.1 := fun z => by have := q_lt.mp z; omega
      have fo : fOne (h_i h 1 0) (wI h) x M = ((fPt (h_i h 1 0) (M 10 + x.2.2) M).1, (fPt (h_i h 1 0) (M 10 + x.2.2) M).2.1, [(fPt (h_i h 1 0) (M 10 + x.2.2) M).2.2]) := by
        unfold fOne
        rw [if_neg n1, if_neg n3, if_neg nw, if_pos y2, if_neg nmn]
      rw [if_pos y2] at r4
      have z := m_cm P d I2 hx s2.2.2.1 B2 e4 x.2.2 ⟨r0, by omega⟩
      rw [k2.2.1] at z
      rw [fo] at hY hN
      refine Ci.mono z (fun q3 h4 k => ?_)
      obtain ⟨eq, k⟩ := k
      have k4 := s2.tr k rfl
      refine ⟨k.1.1, fun e0 => ⟨v, v, ?_⟩, fun ne => hY ?_ _ k4⟩
      · have t : (fPt (h_i h 1 0) (M 10 + x.2.2) M).1 = false := by
          cases z : (fPt (h_i h 1 0) (M 10 + x.2.2) M).1 with
          | true =>
            rw [z, if_pos rfl] at eq
            rw [eq] at e0
            exact absurd e0 (by decide)
          | false => rfl
        refine hN t _ ?_
        have f9 : (fPt (h_i h 1 0) (M 10 + x.2.2) M).2.1 9 = Int32.ofNat i := by rw [fPt_k (by decide) (by decide) (by decide) (by decide)]; exact e9
        have f4 : (fPt (h_i h 1 0) (M 10 + x.2.2) M).2.1 4 = 1 := by rw [fPt_k (by decide) (by decide) (by decide) (by decide)]; exact e4
        have g13 : h_i h4 213 x1.toNatClampNeg = Int32.ofNat i := (k4.2.2.1.2.1 f4).2.1.trans f9
        rw [g13]
        show Mx PM x1.toNatClampNeg (h_i h 1 0) (up1 (fPt (h_i h 1 0) (M 10 + x.2.2) M).2.1 9 ((fPt (h_i h 1 0) (M 10 + x.2.2) M).2.1 9 + 1)) (M 11).toNatClampNeg [(fPt (h_i h 1 0) (M 10 + x.2.2) M).2.2] b h _
        rw [f9]
        exact k4.imj P (b13 _ k4.1) (by decide) (by decide +kernel) k4.2.2.1.i9
      · cases z : (fPt (h_i h 1 0) (M 10 + x.2.2) M).1 with
        | true => rfl
        | false =>
          rw [z, if_neg (by decide)] at eq
          exact absurd eq ne
    · have nw : ¬ 0 < wI h (M 5) x.2.1 := by rw [em]; decide
      have fo : fOne (h_i h 1 0) (wI h) x M = (false, sRow (2, 2) M, [(2, 2)]) := by
        unfold fOne
        rw [if_neg n1, if_neg n3, if_neg nw, if_pos y2, if_pos em]
      rw [if_pos y2] at r4
      rw [fo] at hN
      have vr : vp_in (M 11) 400 := dp_in (lo := 0) (hi := 399) ⟨r0, by show _ ≤ (399 : Int); omega⟩ (by decide) (by decide)
      have I3 := i24 (i24 I2 242 (M 11).toNatClampNeg (h_i h2 1 0) (Or.inr (Or.inl rfl))) 243 (M 11).toNatClampNeg 2 (Or.inr (Or.inr rfl))
      have rn := row_n (x := M 11) r0 (by omega)
      refine t_X12_miss d h2 I2.1 (M 11) 2 _ ⟨vr, vr, I3.1, v, v, v, v, hN rfl _ ?_⟩
      have g16 : h_i (h_im (h_im h2 242 (M 11).toNatClampNeg (h_i h2 1 0)) 243 (M 11).toNatClampNeg 2) 216 x1.toNatClampNeg = M 11 := by rw [im_ne (by decide), im_ne (by decide)]; exact q2.2.2.2.1
      have g13 : h_i (h_im (h_im h2 242 (M 11).toNatClampNeg (h_i h2 1 0)) 243 (M 11).toNatClampNeg 2) 213 x1.toNatClampNeg = Int32.ofNat i := by rw [im_ne (by decide), im_ne (by decide)]; exact e13
      rw [g16, g13]
      show Mx PM x1.toNatClampNeg (h_i h 1 0) (up1 (sRow (2, 2) M) 9 (sRow (2, 2) M 9 + 1)) (M 11).toNatClampNeg [(2, 2)] b h _
      rw [sRow_k (by decide) (by decide) (by decide), e9]
      have R3 : RMp x1.toNatClampNeg M (h_im (h_im h2 242 (M 11).toNatClampNeg (h_i h2 1 0)) 243 (M 11).toNatClampNeg 2) := (s2.2.2.1.im (by decide)).im (by decide)
      have I4 : Iv (h_im (h_im (h_im h2 242 (M 11).toNatClampNeg (h_i h2 1 0)) 243 (M 11).toNatClampNeg 2) 216 x1.toNatClampNeg (M 11 + 1)) := im216 I3 _ _ ⟨by omega, by omega⟩
      have s4 : Mx PM x1.toNatClampNeg (h_i h 1 0) (sRow (2, 2) M) (M 11).toNatClampNeg [(2, 2)] b h (h_im (h_im (h_im h2 242 (M 11).toNatClampNeg (h_i h2 1 0)) 243 (M 11).toNatClampNeg 2) 216 x1.toNatClampNeg (M 11 + 1)) := ⟨I4, ((s2.2.1.imo (by decide +kernel) (by decide)).imo (by decide +kernel) (by decide)).imj (by decide +kernel), R3.row e4, ⟨by rw [im_oth (by decide), im_oth (by decide), im_oth (by decide), s2.2.2.2.1.1]; rfl, by rw [im_oth (by decide), im_oth (by decide), im_row, s2.2.2.2.1.2.1, k2.2.1]; rfl, by rw [im_oth (by decide), im_row, im_oth (by decide), s2.2.2.2.1.2.2]; rfl⟩, P.1 _ _ _ _ _ (Or.inl (by decide)) (P.1 _ _ _ _ _ (Or.inr (Or.inl (by decide))) (P.1 _ _ _ _ _ (Or.inr (Or.inl (by decide))) B2))⟩
      exact s4.imj P (b13 _ I4) (by decide) (by decide +kernel) s4.2.2.1.i9
    · have gt := q_nle gt
      have yw : 0 < wI h (M 5) x.2.1 := q_lt.mpr gt
      have nmn : ¬ wI h (M 5) x.2.1 = -1 := fun z => by rw [z] at yw; exact absurd yw (by decide)
      have fo : fOne (h_i h 1 0) (wI h) x M = (true, sOut (h_i h 1 0) (wI h (M 5) x.2.1) x.2.1 M, []) := by
        unfold fOne
        rw [if_neg n1, if_neg n3, if_pos yw]
      rw [fo] at hY
      have z := m_so P d I2 (k2.2.2.2.2.2 X) hx s2.2.2.1 B2 x.2.1 p5 p2 (M 11).toNatClampNeg (by rw [k2.1]; exact nmn)
      rw [k2.1, k2.2.1, if_pos yw] at z
      exact Cv.mono z (fun h9 k => ⟨k.1.1, hY rfl _ (s2.tr k rfl)⟩)
  · have y3 : x.1 = 3 := by
      rcases stR_k sr with z | z | z | z
      · exact absurd z n0
      · exact absurd z n1
      · exact absurd z n2
      · exact z
    have fo : fOne (h_i h 1 0) (wI h) x M = (true, up1 M 7 (h_i h 1 0 + 1), []) := by
      unfold fOne
      rw [if_neg n1, if_pos y3]
    rw [fo] at hY
    refine hY rfl _ (s1.imj P (im211 s1.1 _ _) (by decide) (by decide +kernel) s1.2.2.1.i7)
  · have fo : fOne (h_i h 1 0) (wI h) x M = (true, up1 M 7 (h_i h 1 0 + x.2.1), []) := by
      unfold fOne
      rw [if_pos y1]
    rw [fo] at hY
    refine hY rfl _ (s1.imj P (im211 s1.1 _ _) (by decide) (by decide +kernel) s1.2.2.1.i7)
  · have n1 : ¬ x.1 = 1 := by rw [y2]; decide
    have n3 : ¬ x.1 = 3 := by rw [y2]; decide
    have p2 : 0 ≤ x.2.1.toInt ∧ x.2.1.toInt ≤ 15 := by
      rcases sr with q | q | q | q
      · exact ⟨q.2.1, q.2.2.1⟩
      · exact absurd q.1 n1
      · exact ⟨q.2.1, q.2.2.1⟩
      · exact absurd q.1 n3
    refine Ci.mono (W p2.1 p2.2) (fun q2 h2 k => ?_)
    obtain ⟨I2, F2, er⟩ := k
    subst er
    have B2 : PM b h2 := P.2.1 b _ h2 F2 s1.2.2.2.2
    have s2 : Mx PM x1.toNatClampNeg (h_i h 1 0) M (M 11).toNatClampNeg [] b h h2 := s1.fr I2 F2 B2 (by decide +kernel) (by decide +kernel) (by decide +kernel)
    have k2 := s2.2.1.k
    have sb2 : sB h2 (M 8).toNatClampNeg i = x := by rw [k2.2.2.2.2.1]; exact sb
    have c9 : h_i h2 229 (150 * (M 8).toNatClampNeg + i) = x.2.1 := congrArg (fun z => z.2.1) sb2
    have c10 : h_i h2 230 (150 * (M 8).toNatClampNeg + i) = x.2.2 := congrArg (fun z => z.2.2) sb2
    have q2 := s2.2.2.1.2.1 e4
    have e13 : h_i h2 213 x1.toNatClampNeg = Int32.ofNat i := q2.2.1.trans e9
    rw [c9, c10, e13, q2.2.2.2.1]
    have b13 : ∀ g, Iv g → Iv (h_im g 213 x1.toNatClampNeg (Int32.ofNat i + 1)) := fun g Ig => by
      rw [on_s (by omega)]
      exact im213 Ig _ _ (by rw [on_j (by omega)]; omega)
    refine ⟨I2.1, fun le => ⟨fun n2 => ⟨fun _ => ⟨v, v, ?_⟩, fun y2 => absurd y2 n2⟩, fun y2 => ⟨fun nmn => ⟨fun n2 => absurd y2 n2, fun _ => ⟨vi, ?_⟩⟩, fun em => ⟨v, ?_⟩⟩⟩, fun gt => ⟨vi, ?_⟩⟩
    · have le := q_le.mp le
      have nw : ¬ 0 < wI h (M 5) x.2.1 := fun z => by have := q_lt.mp z; omega
      have fo : fOne (h_i h 1 0) (wI h) x M = (false, M, []) := by
        unfold fOne
        rw [if_neg n1, if_neg n3, if_neg nw, if_neg n2]
      rw [fo] at hN
      refine hN rfl _ ?_
      show Mx PM x1.toNatClampNeg (h_i h 1 0) (up1 M 9 (M 9 + 1)) (M 11).toNatClampNeg [] b h _
      rw [e9]
      exact s2.imj P (b13 _ I2) (by decide) (by decide +kernel) s2.2.2.1.i9
    · have le := q_le.mp le
      have nw : ¬ 0 < wI h (M 5) x.2.1 := fun z => by have := q_lt.mp z; omega
      have fo : fOne (h_i h 1 0) (wI h) x M = ((fPt (h_i h 1 0) (M 10 + x.2.2) M).1, (fPt (h_i h 1 0) (M 10 + x.2.2) M).2.1, [(fPt (h_i h 1 0) (M 10 + x.2.2) M).2.2]) := by
        unfold fOne
        rw [if_neg n1, if_neg n3, if_neg nw, if_pos y2, if_neg nmn]
      rw [if_pos y2] at r4
      have z := m_cm P d I2 hx s2.2.2.1 B2 e4 x.2.2 ⟨r0, by omega⟩
      rw [k2.2.1] at z
      rw [fo] at hY hN
      refine Ci.mono z (fun q3 h4 k => ?_)
      obtain ⟨eq, k⟩ := k
      have k4 := s2.tr k rfl
      refine ⟨k.1.1, fun e0 => ⟨v, v, ?_⟩, fun ne => hY ?_ _ k4⟩
      · have t : (fPt (h_i h 1 0) (M 10 + x.2.2) M).1 = false := by
          cases z : (fPt (h_i h 1 0) (M 10 + x.2.2) M).1 with
          | true =>
            rw [z, if_pos rfl] at eq
            rw [eq] at e0
            exact absurd e0 (by decide)
          | false => rfl
        refine hN t _ ?_
        have f9 : (fPt (h_i h 1 0) (M 10 + x.2.2) M).2.1 9 = Int32.ofNat i := by rw [fPt_k (by decide) (by decide) (by decide) (by decide)]; exact e9
        have f4 : (fPt (h_i h 1 0) (M 10 + x.2.2) M).2.1 4 = 1 := by rw [fPt_k (by decide) (by decide) (by decide) (by decide)]; exact e4
        have g13 : h_i h4 213 x1.toNatClampNeg = Int32.ofNat i := (k4.2.2.1.2.1 f4).2.1.trans f9
        rw [g13]
        show Mx PM x1.toNatClampNeg (h_i h 1 0) (up1 (fPt (h_i h 1 0) (M 10 + x.2.2) M).2.1 9 ((fPt (h_i h 1 0) (M 10 + x.2.2) M).2.1 9 + 1)) (M 11).toNatClampNeg [(fPt (h_i h 1 0) (M 10 + x.2.2) M).2.2] b h _
        rw [f9]
        exact k4.imj P (b13 _ k4.1) (by decide) (by decide +kernel) k4.2.2.1.i9
      · cases z : (fPt (h_i h 1 0) (M 10 + x.2.2) M).1 with
        | true => rfl
        | false =>
          rw [z, if_neg (by decide)] at eq
          exact absurd eq ne
    · have nw : ¬ 0 < wI h (M 5) x.2.1 := by rw [em]; decide
      have fo : fOne (h_i h 1 0) (wI h) x M = (false, sRow (2, 2) M, [(2, 2)]) := by
        unfold fOne
        rw [if_neg n1, if_neg n3, if_neg nw, if_pos y2, if_pos em]
      rw [if_pos y2] at r4
      rw [fo] at hN
      have vr : vp_in (M 11) 400 := dp_in (lo := 0) (hi := 399) ⟨r0, by show _ ≤ (399 : Int); omega⟩ (by decide) (by decide)
      have I3 := i24 (i24 I2 242 (M 11).toNatClampNeg (h_i h2 1 0) (Or.inr (Or.inl rfl))) 243 (M 11).toNatClampNeg 2 (Or.inr (Or.inr rfl))
      have rn := row_n (x := M 11) r0 (by omega)
      refine t_X12_miss d h2 I2.1 (M 11) 2 _ ⟨vr, vr, I3.1, v, v, v, v, hN rfl _ ?_⟩
      have g16 : h_i (h_im (h_im h2 242 (M 11).toNatClampNeg (h_i h2 1 0)) 243 (M 11).toNatClampNeg 2) 216 x1.toNatClampNeg = M 11 := by rw [im_ne (by decide), im_ne (by decide)]; exact q2.2.2.2.1
      have g13 : h_i (h_im (h_im h2 242 (M 11).toNatClampNeg (h_i h2 1 0)) 243 (M 11).toNatClampNeg 2) 213 x1.toNatClampNeg = Int32.ofNat i := by rw [im_ne (by decide), im_ne (by decide)]; exact e13
      rw [g16, g13]
      show Mx PM x1.toNatClampNeg (h_i h 1 0) (up1 (sRow (2, 2) M) 9 (sRow (2, 2) M 9 + 1)) (M 11).toNatClampNeg [(2, 2)] b h _
      rw [sRow_k (by decide) (by decide) (by decide), e9]
      have R3 : RMp x1.toNatClampNeg M (h_im (h_im h2 242 (M 11).toNatClampNeg (h_i h2 1 0)) 243 (M 11).toNatClampNeg 2) := (s2.2.2.1.im (by decide)).im (by decide)
      have I4 : Iv (h_im (h_im (h_im h2 242 (M 11).toNatClampNeg (h_i h2 1 0)) 243 (M 11).toNatClampNeg 2) 216 x1.toNatClampNeg (M 11 + 1)) := im216 I3 _ _ ⟨by omega, by omega⟩
      have s4 : Mx PM x1.toNatClampNeg (h_i h 1 0) (sRow (2, 2) M) (M 11).toNatClampNeg [(2, 2)] b h (h_im (h_im (h_im h2 242 (M 11).toNatClampNeg (h_i h2 1 0)) 243 (M 11).toNatClampNeg 2) 216 x1.toNatClampNeg (M 11 + 1)) := ⟨I4, ((s2.2.1.imo (by decide +kernel) (by decide)).imo (by decide +kernel) (by decide)).imj (by decide +kernel), R3.row e4, ⟨by rw [im_oth (by decide), im_oth (by decide), im_oth (by decide), s2.2.2.2.1.1]; rfl, by rw [im_oth (by decide), im_oth (by decide), im_row, s2.2.2.2.1.2.1, k2.2.1]; rfl, by rw [im_oth (by decide), im_row, im_oth (by decide), s2.2.2.2.1.2.2]; rfl⟩, P.1 _ _ _ _ _ (Or.inl (by decide)) (P.1 _ _ _ _ _ (Or.inr (Or.inl (by decide))) (P.1 _ _ _ _ _ (Or.inr (Or.inl (by decide))) B2))⟩
      exact s4.imj P (b13 _ I4) (by decide) (by decide +kernel) s4.2.2.1.i9
    · have gt := q_nle gt
      have yw : 0 < wI h (M 5) x.2.1 := q_lt.mpr gt
      have nmn : ¬ wI h (M 5) x.2.1 = -1 := fun z => by rw [z] at yw; exact absurd yw (by decide)
      have fo : fOne (h_i h 1 0) (wI h) x M = (true, sOut (h_i h 1 0) (wI h (M 5) x.2.1) x.2.1 M, []) := by
        unfold fOne
        rw [if_neg n1, if_neg n3, if_pos yw]
      rw [fo] at hY
      have z := m_so P d I2 (k2.2.2.2.2.2 X) hx s2.2.2.1 B2 x.2.1 p5 p2 (M 11).toNatClampNeg (by rw [k2.1]; exact nmn)
      rw [k2.1, k2.2.1, if_pos yw] at z
      exact Cv.mono z (fun h9 k => ⟨k.1.1, hY rfl _ (s2.tr k rfl)⟩)
  · have z := congrArg Int32.toInt e
    omega
/-- steps one behind the other -/
theorem mgo_lp (P : PMok PM tB lM) (d : Nat) {x1 : Int32} (hx : 0 ≤ x1.toInt ∧ x1.toInt ≤ 11) : ∀ (L : List Sp3) {h : Hp_} {b : β} {M : Nat → Int32} (i : Nat), Iv h → ExP h → RMp x1.toNatClampNeg M h → PM b h → M 4 = 1 → M 6 = -1 → 0 ≤ (M 5).toInt → M 7 = -1 → M 0 = x1 → Stm h (M 8) i L → M 9 = Int32.ofNat i → h_i h 227 (M 8).toNatClampNeg = Int32.ofNat (i + L.length) → 0 ≤ (M 11).toInt → (M 11).toInt + (mts L : Int) ≤ 400 → AW (m_X12_goOn (d + 3) 0 0) 0 0 0 [(0, .ref 1), (1, .int x1)] [] h (kV (fun h' => Mx PM x1.toNatClampNeg (h_i h 1 0) (fSt (h_i h 1 0) (wI h) L M).1 (M 11).toNatClampNeg (fSt (h_i h 1 0) (wI h) L M).2 (fB tB (h_i h 1 0) (fSt (h_i h 1 0) (wI h) L M).1 b) h h'))
  | [], h, b, M, i, I, X, R, B, e4, p6, p5, p7, n0, S, e9, e227, r0, r4 => by
    have v := v12 hx
    have q := R.2.1 e4
    have Tt := t_X12_goOn_0 d h I.1 x1
    rw [R.1.1, e4, q.1, q.2.1, e9, e227] at Tt
    exact Tt _ ⟨v, fun n => absurd rfl n, fun _ => ⟨v, v, dp_in (lo := 0) (hi := 11) ⟨S.1.1, S.1.2⟩ (by decide) (by decide), fun n => absurd rfl n, fun _ => Cv.mono (m_gh P d I X hx R B p5 p6 n0 (M 11).toNatClampNeg) (fun h' k => ⟨k.1.1, k⟩)⟩⟩
  | x :: L, h, b, M, i, I, X, R, B, e4, p6, p5, p7, n0, S, e9, e227, r0, r4 => by
    have m : mts (x :: L) = (if x.1 = 2 then 1 else 0) + mts L := rfl
    rw [m] at r4
    have ll : i + (L.length + 1) ≤ 150 := S.2.1
    have f4 : (fOne (h_i h 1 0) (wI h) x M).2.1 4 = 1 := by rw [fOne_k (by decide) (by decide) (by decide) (by decide) (by decide) (by decide)]; exact e4
    refine mgo_1 P d I X hx R B e4 p5 p7 S e9 e227 r0 (by split at r4 <;> (rename_i c; first | rw [if_pos c] | rw [if_neg c]) <;> omega) _ (fun t h' k => ?_) (fun t h' k => ?_)
    · have f : fSt (h_i h 1 0) (wI h) (x :: L) M = ((fOne (h_i h 1 0) (wI h) x M).2.1, (fOne (h_i h 1 0) (wI h) x M).2.2) := by
        show (if (fOne (h_i h 1 0) (wI h) x M).1 = true then _ else _) = _
        rw [if_pos t]
      have fb : fB tB (h_i h 1 0) (fOne (h_i h 1 0) (wI h) x M).2.1 b = b := by
        unfold fB
        rw [f4, if_neg (by decide)]
      rw [f]
      show Mx PM x1.toNatClampNeg (h_i h 1 0) (fOne (h_i h 1 0) (wI h) x M).2.1 (M 11).toNatClampNeg (fOne (h_i h 1 0) (wI h) x M).2.2 (fB tB (h_i h 1 0) (fOne (h_i h 1 0) (wI h) x M).2.1 b) h h'
      rw [fb]
      exact k
    · have f : fSt (h_i h 1 0) (wI h) (x :: L) M = ((fSt (h_i h 1 0) (wI h) L (up1 (fOne (h_i h 1 0) (wI h) x M).2.1 9 ((fOne (h_i h 1 0) (wI h) x M).2.1 9 + 1))).1, (fOne (h_i h 1 0) (wI h) x M).2.2 ++ (fSt (h_i h 1 0) (wI h) L (up1 (fOne (h_i h 1 0) (wI h) x M).2.1 9 ((fOne (h_i h 1 0) (wI h) x M).2.1 9 + 1))).2) := by
        show (if (fOne (h_i h 1 0) (wI h) x M).1 = true then _ else _) = _
        rw [if_neg (by rw [t]; decide)]
      rw [f]
      have f9 : (fOne (h_i h 1 0) (wI h) x M).2.1 9 = Int32.ofNat i := by rw [fOne_k (by decide) (by decide) (by decide) (by decide) (by decide) (by decide)]; exact e9
      have f8 : (fOne (h_i h 1 0) (wI h) x M).2.1 8 = M 8 := fOne_k (by decide) (by decide) (by decide) (by decide) (by decide) (by decide)
      have f0 : (fOne (h_i h 1 0) (wI h) x M).2.1 0 = x1 := by rw [fOne_k (by decide) (by decide) (by decide) (by decide) (by decide) (by decide)]; exact n0
      have fN := fOne_n (n := h_i h 1 0) (w := wI h) (x := x) (M := M) t
      have fr := fOne_m (n := h_i h 1 0) (w := wI h) (x := x) (M := M) (m := mts L) r0 r4 t
      have kk := k.2.1.k
      have ih := mgo_lp P d hx L (h := h') (b := b) (M := up1 (fOne (h_i h 1 0) (wI h) x M).2.1 9 ((fOne (h_i h 1 0) (wI h) x M).2.1 9 + 1)) (i + 1) k.1 (kk.2.2.2.2.2 X) k.2.2.1 k.2.2.2.2 (by rw [up1_ne (by decide)]; exact f4) (by rw [up1_ne (by decide), fN.2.1]; exact p6) (by rw [up1_ne (by decide), fN.1]; exact p5) (by rw [up1_ne (by decide), fN.2.2]; exact p7) (by rw [up1_ne (by decide)]; exact f0) (by rw [up1_ne (by decide), f8]; exact S.tl.cg kk.2.2.2.2.1) (by rw [up1_at, f9, on_s (by omega)]) (by rw [up1_ne (by decide), f8, kk.2.2.2.1, e227]; show Int32.ofNat (i + (L.length + 1)) = Int32.ofNat (i + 1 + L.length); rw [show i + (L.length + 1) = i + 1 + L.length by omega]) (by rw [up1_ne (by decide)]; exact fr.2.1) (by rw [up1_ne (by decide)]; exact fr.2.2)
      rw [kk.2.1, kk.1] at ih
      refine AW.mono ih (fun w h2 z => ⟨z.1, k.tr z.2 ?_⟩)
      rw [up1_ne (by decide)]
      exact fr.1
end MEN
/-! MEN, the reference: one who wakes -/
theorem wI_s {h : Hp_} (I : Iv h) (X : ExP h) (a : Int32) : wI h a a = 0 ∨ wI h a a = -1 := by
  rcases wI_p I X a a with q | q
  · exact Or.inr q
  · refine Or.inl (Int32.toInt_inj.mp ?_)
    have na := n_nat q.2.2.1.1
    have z := (X.2 a.toNatClampNeg (by omega) a.toNatClampNeg (by omega)).2.1 0 0 ⟨rfl, rfl⟩
    have e := q.2.2.2.2
    unfold wX at e
    split at e
    · have e := Option.some.inj e
      have t0 : (0 : Int32).toInt = 0 := rfl
      omega
    · cases e
theorem im248 {h : Hp_} (I : Iv h) (k : Nat) (x : Int32) (b : x = 0 ∨ x = 1) : Iv (h_im h 248 k (vp_nar .boolean x)) := I.im (by
  rw [tfa_tf (show tfa 248 = some (0, 1) by decide +kernel)]
  rcases b with e | e <;> subst e <;> exact ⟨by decide, by decide⟩) (jw_jr (by decide) (by decide) _)
theorem RMp.i8 {j : Nat} {M : Nat → Int32} {h : Hp_} {x : Int32} (R : RMp j M h) : RMp j M (h_im h 248 j x) := by
  unfold RMp
  rw [im_ne (by decide), im_ne (by decide), im_ne (by decide), im_ne (by decide), im_ne (by decide), im_ne (by decide), im_ne (by decide), im_ne (by decide), im_ne (by decide), im_ne (by decide), im_ne (by decide), im_ne (by decide)]
  exact R
section MEN
variable {β : Type} {PM : β → Hp_ → Prop} {tB : Int32 → Int32 → β → β} {lM : Nat → Hp_ → β → β}
theorem cv_goOn {d : Nat} {x1 : Int32} {h : Hp_} {K : Hp_ → Prop} (k : AW (m_X12_goOn (d + 3) 0 0) 0 0 0 [(0, .ref 1), (1, .int x1)] [] h (kV K)) : Cv (m_X12_goOn (d + 3) 0 0) [.ref 1, .int x1] h K := by
  refine Ct.of (fun _ _ _ => trivial) rfl (Nat.le_of_ble_eq_true rfl) ?_
  exact k
/-- the step is over: those behind it -/
theorem mgo_c (P : PMok PM tB lM) (d : Nat) {h h1 : Hp_} (X : ExP h) {x1 : Int32} (hx : 0 ≤ x1.toInt ∧ x1.toInt ≤ 11) {M1 : Nat → Int32} {r : Nat} {E : List Ev2} {b1 : β} (s : Mx PM x1.toNatClampNeg (h_i h 1 0) M1 r E b1 h h1) (er : (M1 11).toNatClampNeg = r + E.length) (e4 : M1 4 = 1) (p6 : M1 6 = -1) (p5 : 0 ≤ (M1 5).toInt) (p7 : M1 7 = -1) (n0 : M1 0 = x1) {i : Nat} {x : Sp3} {L : List Sp3} (S : Stm h (M1 8) i (x :: L)) (e9 : M1 9 = Int32.ofNat i) (e227 : h_i h 227 (M1 8).toNatClampNeg = Int32.ofNat (i + (L.length + 1))) (r0 : 0 ≤ (M1 11).toInt) (r4 : (M1 11).toInt + (mts L : Int) ≤ 400) (K : Hp_ → Prop) (hK : ∀ h', Mx PM x1.toNatClampNeg (h_i h 1 0) (fSt (h_i h 1 0) (wI h) L (up1 M1 9 (M1 9 + 1))).1 r (E ++ (fSt (h_i h 1 0) (wI h) L (up1 M1 9 (M1 9 + 1))).2) (fB tB (h_i h 1 0) (fSt (h_i h 1 0) (wI h) L (up1 M1 9 (M1 9 + 1))).1 b1) h h' → K h') : Cv (m_X12_goOn (d + 3) 0 0) [.ref 1, .int x1] (h_im h1 213 x1.toNatClampNeg ((h_i h1 213 x1.toNatClampNeg) + 1)) (fun h' => Wf h' ∧ (K h')) := by
  have ll : i + (L.length + 1) ≤ 150 := S.2.1
  have g13 : h_i h1 213 x1.toNatClampNeg = M1 9 := (s.2.2.1.2.1 e4).2.1
  rw [g13]
  have I2 : Iv (h_im h1 213 x1.toNatClampNeg (M1 9 + 1)) := by
    rw [e9, on_s (by omega)]
    exact im213 s.1 _ _ (by rw [on_j (by omega)]; omega)
  have s2 := s.imj P I2 (by decide) (by decide +kernel) s.2.2.1.i9
  have kk := s2.2.1.k
  generalize h_im h1 213 x1.toNatClampNeg (M1 9 + 1) = g at *
  have z := mgo_lp P d hx L (h := g) (b := b1) (M := up1 M1 9 (M1 9 + 1)) (i + 1) I2 (kk.2.2.2.2.2 X) s2.2.2.1 s2.2.2.2.2 (by rw [up1_ne (by decide)]; exact e4) (by rw [up1_ne (by decide)]; exact p6) (by rw [up1_ne (by decide)]; exact p5) (by rw [up1_ne (by decide)]; exact p7) (by rw [up1_ne (by decide)]; exact n0) (by rw [up1_ne (by decide)]; exact S.tl.cg kk.2.2.2.2.1) (by rw [up1_at, e9, on_s (by omega)]) (by rw [up1_ne (by decide), kk.2.2.2.1, e227, show i + (L.length + 1) = i + 1 + L.length by omega]) (by rw [up1_ne (by decide)]; exact r0) (by rw [up1_ne (by decide)]; exact r4)
  rw [kk.2.1, kk.1, show up1 M1 9 (M1 9 + 1) 11 = M1 11 from up1_ne (by decide)] at z
  exact cv_goOn (AW.mono z (fun v h' k => ⟨k.1, k.2.1.1, hK h' (s2.tr k.2 er)⟩))
theorem m_wb (P : PMok PM tB lM) (d : Nat) {h : Hp_} (I : Iv h) (X : ExP h) {x1 : Int32} (hx : 0 ≤ x1.toInt ∧ x1.toInt ≤ 11) {M : Nat → Int32} (R : RMp x1.toNatClampNeg M h) {b : β} (B : PM b h) (e4 : M 4 = 1) (p6 : M 6 = -1) (p5 : 0 ≤ (M 5).toInt) (p7 : M 7 = -1) (n0 : M 0 = x1) {i : Nat} {x : Sp3} {L : List Sp3} (S : Stm h (M 8) i (x :: L)) (e9 : M 9 = Int32.ofNat i) (e227 : h_i h 227 (M 8).toNatClampNeg = Int32.ofNat (i + (L.length + 1))) (came : Bool) (x2 : Int32) (ec : came = true ↔ ¬ x2 = 0) (r0 : 0 ≤ (M 11).toInt) (r4 : (M 11).toInt + (((if x.1 = 2 ∧ came = true then 1 else 0) + mts L : Nat) : Int) ≤ 400) (lk : x.1 = 3 → came = false) : Cv (m_X12_wakeBeat (d + 8) 0 0) [.ref 1, .int x1, .int x2] h (fun h' => Mx PM x1.toNatClampNeg (h_i h 1 0) (fNx (h_i h 1 0) (wI h) L (fEn (h_i h 1 0) x came M)).1 (M 11).toNatClampNeg (fNx (h_i h 1 0) (wI h) L (fEn (h_i h 1 0) x came M)).2 (fB tB (h_i h 1 0) (fNx (h_i h 1 0) (wI h) L (fEn (h_i h 1 0) x came M)).1 (if x.1 = 3 then lM x1.toNatClampNeg h b else b)) h h') := by
  have v := v12 hx
  have q := R.2.1 e4
  have t0 : (0 : Int32).toInt = 0 := rfl
  have t150 : (150 : Int32).toInt = 150 := rfl
  have b8 := S.1
  have sr := S.hd.2
  have ll : i + (L.length + 1) ≤ 150 := S.2.1
  have oi := on_j (n := i) (by omega)
  have n8 := n_nat b8.1
  have m1 : (150 * M 8).toInt = 150 * (M 8).toInt := by rw [tx_mul (by rw [t150]; omega) (by rw [t150]; omega), t150]
  have m2 : (150 * M 8 + Int32.ofNat i).toInt = 150 * (M 8).toInt + (i : Int) := by rw [tx_add (by omega) (by omega), m1, oi]
  have nm := n_nat (x := 150 * M 8 + Int32.ofNat i) (by omega)
  have km : (150 * M 8 + Int32.ofNat i).toNatClampNeg = 150 * (M 8).toNatClampNeg + i := by omega
  have vi : vp_in (150 * M 8 + Int32.ofNat i) 1800 := dp_in (lo := 0) (hi := 1799) ⟨by show (0 : Int) ≤ _; omega, by show _ ≤ (1799 : Int); omega⟩ (by decide) (by decide)
  have sb := S.hd.1
  have a8 : h_i h 228 (150 * (M 8).toNatClampNeg + i) = x.1 := congrArg (fun z => z.1) sb
  have a10 : h_i h 230 (150 * (M 8).toNatClampNeg + i) = x.2.2 := congrArg (fun z => z.2.2) sb
  have e13 : h_i h 213 x1.toNatClampNeg = Int32.ofNat i := q.2.1.trans e9
  have Tt := t_X12_wakeBeat d h I.1 x1 x2
  rw [q.1, e13, km, a8, a10] at Tt
  rw [← e13] at Tt
  rw [← e13] at vi
  have on : ∀ (h1 : Hp_) (b1 : β), ¬ (x.1 = 2 ∧ came = true) → b1 = (if x.1 = 3 then lM x1.toNatClampNeg h b else b) → Mx PM x1.toNatClampNeg (h_i h 1 0) M (M 11).toNatClampNeg [] b1 h h1 → Cv (m_X12_goOn (d + 3) 0 0) [.ref 1, .int x1] (h_im h1 213 x1.toNatClampNeg ((h_i h1 213 x1.toNatClampNeg) + 1)) (fun h' => Wf h' ∧ Mx PM x1.toNatClampNeg (h_i h 1 0) (fNx (h_i h 1 0) (wI h) L (fEn (h_i h 1 0) x came M)).1 (M 11).toNatClampNeg (fNx (h_i h 1 0) (wI h) L (fEn (h_i h 1 0) x came M)).2 (fB tB (h_i h 1 0) (fNx (h_i h 1 0) (wI h) L (fEn (h_i h 1 0) x came M)).1 (if x.1 = 3 then lM x1.toNatClampNeg h b else b)) h h') := fun h1 b1 ny eb s => by
    have fo : fEn (h_i h 1 0) x came M = (false, M, []) := if_neg ny
    have fx : fNx (h_i h 1 0) (wI h) L (false, M, []) = ((fSt (h_i h 1 0) (wI h) L (up1 M 9 (M 9 + 1))).1, [] ++ (fSt (h_i h 1 0) (wI h) L (up1 M 9 (M 9 + 1))).2) := by
      unfold fNx
      rw [if_neg (show ¬ (false : Bool) = true by decide)]
    rw [if_neg ny] at r4
    rw [fo, fx, ← eb]
    exact mgo_c P d X hx s rfl e4 p6 p5 p7 n0 S e9 e227 r0 (by omega) _ (fun h' k => k)
  refine Tt _ ⟨v, v, fun y0 => ⟨vi, fun n3 => ⟨v, v, ?_⟩, fun y3 => ?_⟩, fun n0' => ⟨vi, fun n2 => ⟨v, v, ?_⟩, fun y2 => ⟨vi, ?_⟩⟩⟩
  · have nc : ¬ (x.1 = 2 ∧ came = true) := fun z => ec.mp z.2 y0
    exact on h b nc (by rw [if_neg n3]) (Mx.rf I R B)
  · have nc : ¬ (x.1 = 2 ∧ came = true) := fun z => ec.mp z.2 y0
    refine Cv.mono (P.2.2.2 d b h x1 I hx B) (fun h1 k => ⟨k.1.1, v, v, on h1 _ nc (by rw [if_pos y3]) ((Mx.rf I R B).fr k.1 k.2.1 k.2.2 (by decide +kernel) (by decide +kernel) (by decide +kernel))⟩)
  · have n3 : ¬ x.1 = 3 := fun z => by
      have c1 := lk z
      have c2 := ec.mpr n0'
      rw [c1] at c2
      cases c2
    exact on h b (fun z => n2 z.1) (by rw [if_neg n3]) (Mx.rf I R B)
  · have yc := ec.mpr n0'
    have n3 : ¬ x.1 = 3 := by rw [y2]; decide
    rw [if_pos ⟨y2, yc⟩] at r4
    have fo : fEn (h_i h 1 0) x came M = ((fPt (h_i h 1 0) (M 10 + x.2.2) M).1, (fPt (h_i h 1 0) (M 10 + x.2.2) M).2.1, [(fPt (h_i h 1 0) (M 10 + x.2.2) M).2.2]) := if_pos ⟨y2, yc⟩
    rw [fo, if_neg n3]
    have fk : ∀ k, k ≠ 7 → k ≠ 11 → k ≠ 15 → k ≠ 16 → (fPt (h_i h 1 0) (M 10 + x.2.2) M).2.1 k = M k := fun k a b c d => fPt_k a b c d
    have rn := row_n (x := M 11) r0 (by omega)
    refine Ci.mono (m_cm P d I hx R B e4 x.2.2 ⟨r0, by omega⟩) (fun q3 h4 k => ?_)
    obtain ⟨eq, k⟩ := k
    refine ⟨k.1.1, fun e0 => ⟨v, v, ?_⟩, fun ne => ?_⟩
    · have t : (fPt (h_i h 1 0) (M 10 + x.2.2) M).1 = false := by
        cases z : (fPt (h_i h 1 0) (M 10 + x.2.2) M).1 with
        | true =>
          rw [z, if_pos rfl] at eq
          rw [eq] at e0
          exact absurd e0 (by decide)
        | false => rfl
      have fx : fNx (h_i h 1 0) (wI h) L ((fPt (h_i h 1 0) (M 10 + x.2.2) M).1, (fPt (h_i h 1 0) (M 10 + x.2.2) M).2.1, [(fPt (h_i h 1 0) (M 10 + x.2.2) M).2.2]) = ((fSt (h_i h 1 0) (wI h) L (up1 (fPt (h_i h 1 0) (M 10 + x.2.2) M).2.1 9 ((fPt (h_i h 1 0) (M 10 + x.2.2) M).2.1 9 + 1))).1, [(fPt (h_i h 1 0) (M 10 + x.2.2) M).2.2] ++ (fSt (h_i h 1 0) (wI h) L (up1 (fPt (h_i h 1 0) (M 10 + x.2.2) M).2.1 9 ((fPt (h_i h 1 0) (M 10 + x.2.2) M).2.1 9 + 1))).2) := by
        unfold fNx
        rw [if_neg (by rw [t]; decide)]
      rw [fx]
      have f7 : (fPt (h_i h 1 0) (M 10 + x.2.2) M).2.1 7 = -1 := by
        rw [← p7]
        unfold fPt at t ⊢
        split at t
        · rename_i c
          rw [if_pos c]
          split at t
          · rename_i c'
            rw [if_pos c']
            show sRow (1, -1) M 7 = M 7
            exact sRow_k (by decide) (by decide) (by decide)
          · cases t
        · rename_i c
          rw [if_neg c]
          show sRow (2, 1) M 7 = M 7
          exact sRow_k (by decide) (by decide) (by decide)
      exact mgo_c P d X hx k (by rw [fPt_11]; exact rn.1) (by rw [fk 4 (by decide) (by decide) (by decide) (by decide)]; exact e4) (by rw [fk 6 (by decide) (by decide) (by decide) (by decide)]; exact p6) (by rw [fk 5 (by decide) (by decide) (by decide) (by decide)]; exact p5) f7 (by rw [fk 0 (by decide) (by decide) (by decide) (by decide)]; exact n0) (by rw [fk 8 (by decide) (by decide) (by decide) (by decide)]; exact S) (by rw [fk 9 (by decide) (by decide) (by decide) (by decide)]; exact e9) (by rw [fk 8 (by decide) (by decide) (by decide) (by decide)]; exact e227) (by rw [fPt_11]; omega) (by rw [fPt_11]; omega) _ (fun h' k => k)
    · have t : (fPt (h_i h 1 0) (M 10 + x.2.2) M).1 = true := by
        cases z : (fPt (h_i h 1 0) (M 10 + x.2.2) M).1 with
        | true => rfl
        | false =>
          rw [z, if_neg (by decide)] at eq
          exact absurd eq ne
      have fx : fNx (h_i h 1 0) (wI h) L ((fPt (h_i h 1 0) (M 10 + x.2.2) M).1, (fPt (h_i h 1 0) (M 10 + x.2.2) M).2.1, [(fPt (h_i h 1 0) (M 10 + x.2.2) M).2.2]) = ((fPt (h_i h 1 0) (M 10 + x.2.2) M).2.1, [(fPt (h_i h 1 0) (M 10 + x.2.2) M).2.2]) := by
        unfold fNx
        rw [if_pos t]
      rw [fx]
      have fb : fB tB (h_i h 1 0) (fPt (h_i h 1 0) (M 10 + x.2.2) M).2.1 b = b := by
        unfold fB
        rw [fk 4 (by decide) (by decide) (by decide) (by decide), e4, if_neg (by decide)]
      show Mx PM x1.toNatClampNeg (h_i h 1 0) (fPt (h_i h 1 0) (M 10 + x.2.2) M).2.1 (M 11).toNatClampNeg [(fPt (h_i h 1 0) (M 10 + x.2.2) M).2.2] (fB tB (h_i h 1 0) (fPt (h_i h 1 0) (M 10 + x.2.2) M).2.1 b) h h4
      rw [fb]
      exact k
/-- what holds of a man at any time: w the walks, at minute n -/
def KmA (w : Int32 → Int32 → Int32) (M : Nat → Int32) : Prop := (0 ≤ (M 3).toInt ∧ (M 3).toInt ≤ 15) ∧ (M 6 = -1 → 0 ≤ (M 5).toInt) ∧ (¬ M 6 = -1 → 0 ≤ (M 6).toInt) ∧ (M 4 = 0 → M 6 = -1 ∧ M 7 = -1) ∧ (M 4 = 4 → M 6 = -1 ∧ M 5 = M 3) ∧ (M 4 = 2 → M 6 = M 3) ∧ (M 4 = 3 → (0 ≤ (M 13).toInt ∧ (M 13).toInt ≤ 15) ∧ ¬ w (M 3) (M 13) = -1 ∧ (M 6 = -1 → M 5 = M 13 ∧ M 7 = M 14)) ∧ ¬ w (M 3) (if M 6 = -1 then M 5 else M 6) = -1
theorem m_wk (P : PMok PM tB lM) (d : Nat) {h : Hp_} (I : Iv h) (X : ExP h) {x1 : Int32} (hx : 0 ≤ x1.toInt ∧ x1.toInt ≤ 11) {M : Nat → Int32} (R : RMp x1.toNatClampNeg M h) {b : β} (B : PM b h) (n0 : M 0 = x1) (ka : KmA (wI h) M) (wt : ∀ p q, ¬ wI h (M 3) p = -1 → ¬ wI h (M 3) q = -1 → ¬ wI h p q = -1) (wz : ∀ p q, wI h p q = 0 → p = q) {i : Nat} {x : Sp3} {L : List Sp3} (T : M 4 = 1 → (Stm h (M 8) i (x :: L) ∧ M 9 = Int32.ofNat i ∧ h_i h 227 (M 8).toNatClampNeg = Int32.ofNat (i + (L.length + 1)) ∧ 0 ≤ (M 11).toInt ∧ (M 11).toInt + (((if x.1 = 2 ∧ decide (¬ M 6 = -1) = true then 1 else 0) + mts L : Nat) : Int) ≤ 400) ∧ (x.1 = 3 → M 6 = -1)) (yt : M 7 = h_i h 1 0) : Cv (m_X12_wake (d + 9) 0 0) [.ref 1, .int x1] h (fun h' => Mx PM x1.toNatClampNeg (h_i h 1 0) (fGo (h_i h 1 0) (wI h) x L M).1 (M 11).toNatClampNeg (fGo (h_i h 1 0) (wI h) x L M).2 (fB tB (h_i h 1 0) (fGo (h_i h 1 0) (wI h) x L M).1 (if M 4 = 1 ∧ x.1 = 3 then lM x1.toNatClampNeg (h_im h 211 x1.toNatClampNeg (-1)) b else b)) h h') := by
  have v := v12 hx
  have t0 : (0 : Int32).toInt = 0 := rfl
  have tm : (-1 : Int32).toInt = -1 := rfl
  obtain ⟨k3, k5, k6, kf, _, k2, kd, kc⟩ := ka
  have bn := I.2.1 1 0
  rw [show tf 1 0 = (0, 20000) by decide +kernel] at bn
  have bn0 : 0 ≤ (h_i h 1 0).toInt := bn.1
  have n00 : ¬ M 4 = 0 := fun e => by
    have z := congrArg Int32.toInt ((kf e).2.symm.trans yt)
    omega
  have Tt := t_X12_wake d h I.1 x1
  rw [R.1.2.2.2, R.1.2.2.1] at Tt
  have E29 : ∀ s0 : Int32, (decide (¬ M 6 = -1) = true ↔ ¬ s0 = 0) → AW (m_X12_wake (d + 9) 0 0) 0 0 29 [(0, .ref 1), (1, .int x1)] [.int s0] h (kV (fun h' => Mx PM x1.toNatClampNeg (h_i h 1 0) (fGo (h_i h 1 0) (wI h) x L M).1 (M 11).toNatClampNeg (fGo (h_i h 1 0) (wI h) x L M).2 (fB tB (h_i h 1 0) (fGo (h_i h 1 0) (wI h) x L M).1 (if M 4 = 1 ∧ x.1 = 3 then lM x1.toNatClampNeg (h_im h 211 x1.toNatClampNeg (-1)) b else b)) h h')) := fun s0 ec => by
    have e208 := R.1.1
    have T2 := t_X12_wake_29 d h I.1 x1 s0
    rw [e208, R.1.2.1, R.1.2.2.1] at T2
    refine T2 _ ⟨fun y => ?_, fun n => ?_⟩
    · have e6 : M 6 = -1 := Decidable.byContradiction (fun z => ec.mp (decide_eq_true z) y)
      have fc : fCm M = up1 M 7 (-1) := by
        unfold fCm
        rw [if_pos e6]
      have s : Mx PM x1.toNatClampNeg (h_i h 1 0) (fCm M) (M 11).toNatClampNeg [] b h (h_im h 211 x1.toNatClampNeg (-1)) := by
        rw [fc]
        exact (Mx.rf I R B).imj P (im211 I _ _) (by decide) (by decide +kernel) R.i7
      have ck : ∀ k, k ≠ 7 → fCm M k = M k := fun k a => by rw [fc, up1_ne a]
      have kk := s.2.1.k
      refine ⟨v, v, fun n2 => ⟨v, fun n3 => ⟨v, fun n1 => ?_, fun y1 => ?_⟩, fun y3 => ⟨fun z => absurd y z, fun _ => ?_⟩⟩, fun y2 => ?_⟩
      · have f : fGo (h_i h 1 0) (wI h) x L M = (fCm M, []) := by
          unfold fGo
          rw [if_neg n1, if_neg n2, if_neg n3]
        rw [f, if_neg (fun z => n1 z.1)]
        unfold fB
        show Mx PM x1.toNatClampNeg (h_i h 1 0) (fCm M) (M 11).toNatClampNeg [] (if fCm M 4 = 0 then _ else _) h _
        rw [ck 4 (by decide), if_neg n00]
        exact s
      · have f : fGo (h_i h 1 0) (wI h) x L M = fNx (h_i h 1 0) (wI h) L (fEn (h_i h 1 0) x (decide (¬ M 6 = -1)) (fCm M)) := by
          unfold fGo
          rw [if_pos y1]
        have T1 := T y1
        rw [f]
        have z := m_wb P d s.1 (kk.2.2.2.2.2 X) hx s.2.2.1 s.2.2.2.2 (by rw [ck 4 (by decide)]; exact y1) (by rw [ck 6 (by decide)]; exact e6) (by rw [ck 5 (by decide)]; exact k5 e6) (by rw [fc, up1_at]) (by rw [ck 0 (by decide)]; exact n0) (i := i) (x := x) (L := L) (by rw [ck 8 (by decide)]; exact T1.1.1.cg kk.2.2.2.2.1) (by rw [ck 9 (by decide)]; exact T1.1.2.1) (by rw [ck 8 (by decide), kk.2.2.2.1]; exact T1.1.2.2.1) (decide (¬ M 6 = -1)) s0 ec (by rw [ck 11 (by decide)]; exact T1.1.2.2.2.1) (by rw [ck 11 (by decide)]; exact T1.1.2.2.2.2) (fun _ => decide_eq_false (fun z => z e6))
        rw [kk.2.1, kk.1, ck 11 (by decide)] at z
        have eb : (if M 4 = 1 ∧ x.1 = 3 then lM x1.toNatClampNeg (h_im h 211 x1.toNatClampNeg (-1)) b else b) = (if x.1 = 3 then lM x1.toNatClampNeg (h_im h 211 x1.toNatClampNeg (-1)) b else b) := by
          by_cases c : x.1 = 3
          · rw [if_pos c, if_pos ⟨y1, c⟩]
          · rw [if_neg c, if_neg (fun u => c u.2)]
        rw [eb]
        exact Cv.mono z (fun h' k => ⟨k.1.1, s.tr k rfl⟩)
      · have f : fGo (h_i h 1 0) (wI h) x L M = (fDr (h_i h 1 0) (wI h) (fCm M), []) := by
          unfold fGo
          rw [if_neg (by rw [y3]; decide), if_neg (by rw [y3]; decide), if_pos y3]
        have q := kd y3
        have q6 := q.2.2 e6
        have z0 : wI h (M 5) (M 13) = 0 ∨ ¬ 0 < wI h (M 5) (M 13) := Or.inr (fun z => by
          have e := q6.1
          rw [e] at z
          rcases wI_s I X (M 13) with w0 | w0 <;> rw [w0] at z <;> exact absurd z (by decide))
        have nw : ¬ 0 < wI h (M 5) (M 13) := z0.elim (fun z => by rw [z]; decide) id
        have fd : fDr (h_i h 1 0) (wI h) (fCm M) = fHome (h_i h 1 0) (wI h) (fCm M) := by
          unfold fDr
          rw [ck 5 (by decide), ck 13 (by decide), ck 14 (by decide), if_neg nw, if_neg (fun z => by
            have l := q_lt.mp z.2
            rw [← q6.2, yt] at l
            omega)]
        rw [f, fd, if_neg (fun z => by rw [y3] at z; exact absurd z.1 (by decide))]
        have z := m_gh P d s.1 (kk.2.2.2.2.2 X) hx s.2.2.1 s.2.2.2.2 (by rw [ck 5 (by decide)]; exact k5 e6) (by rw [ck 6 (by decide)]; exact e6) (by rw [ck 0 (by decide)]; exact n0) (M 11).toNatClampNeg
        rw [kk.2.1, kk.1] at z
        exact Cv.mono z (fun h' k => ⟨k.1.1, s.tr k rfl⟩)
      · have z := k2 y2
        rw [e6] at z
        rw [← z] at k3
        exact absurd k3.1 (by decide)
    · have n6 : ¬ M 6 = -1 := of_decide_eq_true (ec.mpr n)
      have fc : fCm M = up1 (up1 (up1 M 6 (-1)) 5 (M 6)) 7 (-1) := by
        unfold fCm
        rw [if_neg n6]
      have b10 := m210 I x1.toNatClampNeg
      rw [R.1.2.2.1] at b10
      have ck : ∀ k, k ≠ 5 → k ≠ 6 → k ≠ 7 → fCm M k = M k := fun k a b c => by rw [fc, up1_ne c, up1_ne a, up1_ne b]
      have c5 : fCm M 5 = M 6 := by rw [fc, up1_ne (by decide), up1_at]
      have c6 : fCm M 6 = -1 := by rw [fc, up1_ne (by decide), up1_ne (by decide), up1_at]
      have c7 : fCm M 7 = -1 := by rw [fc, up1_at]
      have I3 : Iv (h_im (h_im (h_im h 209 x1.toNatClampNeg (M 6)) 210 x1.toNatClampNeg (-1)) 211 x1.toNatClampNeg (-1)) := im211 (im210 (im209 I _ _ b10) _ _ (by decide)) _ _
      have R3 : RMp x1.toNatClampNeg (fCm M) (h_im (h_im (h_im h 209 x1.toNatClampNeg (M 6)) 210 x1.toNatClampNeg (-1)) 211 x1.toNatClampNeg (-1)) := by
        refine ⟨⟨?_, ?_, ?_, ?_⟩, fun e => ?_, fun e => ?_, ?_⟩
        · rw [im_ne (by decide), im_ne (by decide), im_ne (by decide), ck 4 (by decide) (by decide) (by decide)]
          exact e208
        · rw [im_ne (by decide), im_ne (by decide), im_at, c5]
        · rw [im_ne (by decide), im_at, c6]
        · rw [im_at, c7]
        · rw [ck 4 (by decide) (by decide) (by decide)] at e
          have u := R.2.1 e
          rw [im_ne (by decide), im_ne (by decide), im_ne (by decide), im_ne (by decide), im_ne (by decide), im_ne (by decide), im_ne (by decide), im_ne (by decide), im_ne (by decide), im_ne (by decide), im_ne (by decide), im_ne (by decide), im_ne (by decide), im_ne (by decide), im_ne (by decide), ck 8 (by decide) (by decide) (by decide), ck 9 (by decide) (by decide) (by decide), ck 10 (by decide) (by decide) (by decide), ck 11 (by decide) (by decide) (by decide), ck 12 (by decide) (by decide) (by decide)]
          exact u
        · rw [ck 4 (by decide) (by decide) (by decide)] at e
          have u := R.2.2.1 e
          rw [im_ne (by decide), im_ne (by decide), im_ne (by decide), im_ne (by decide), im_ne (by decide), im_ne (by decide), ck 13 (by decide) (by decide) (by decide), ck 14 (by decide) (by decide) (by decide)]
          exact u
        · rw [im_ne (by decide), im_ne (by decide), im_ne (by decide), ck 3 (by decide) (by decide) (by decide)]
          exact R.2.2.2
      have s : Mx PM x1.toNatClampNeg (h_i h 1 0) (fCm M) (M 11).toNatClampNeg [] b h (h_im (h_im (h_im h 209 x1.toNatClampNeg (M 6)) 210 x1.toNatClampNeg (-1)) 211 x1.toNatClampNeg (-1)) := ⟨I3, (((Gmm.rf _ _).imj (by decide +kernel)).imj (by decide +kernel)).imj (by decide +kernel), R3, ⟨by rw [im_oth (by decide), im_oth (by decide), im_oth (by decide)]; rfl, by rw [im_oth (by decide), im_oth (by decide), im_oth (by decide)]; rfl, by rw [im_oth (by decide), im_oth (by decide), im_oth (by decide)]; rfl⟩, P.1 _ _ _ _ _ (Or.inl (by decide)) (P.1 _ _ _ _ _ (Or.inl (by decide)) (P.1 _ _ _ _ _ (Or.inl (by decide)) B))⟩
      have s8 : Mx PM x1.toNatClampNeg (h_i h 1 0) (fCm M) (M 11).toNatClampNeg [] b h (h_im (h_im (h_im (h_im h 209 x1.toNatClampNeg (M 6)) 210 x1.toNatClampNeg (-1)) 211 x1.toNatClampNeg (-1)) 248 x1.toNatClampNeg (vp_nar .boolean 1)) := ⟨im248 I3 _ 1 (Or.inr rfl), s.2.1.imj (by decide +kernel), R3.i8, ⟨by rw [im_oth (by decide)]; exact s.2.2.2.1.1, by rw [im_oth (by decide)]; exact s.2.2.2.1.2.1, by rw [im_oth (by decide)]; exact s.2.2.2.1.2.2⟩, P.1 _ _ _ _ _ (Or.inr (Or.inr (Or.inl rfl))) s.2.2.2.2⟩
      have kk := s.2.1.k
      have p6 := k6 n6
      rw [if_neg n6] at kc
      have gd : ∀ (g : Hp_), M 4 = 3 → Mx PM x1.toNatClampNeg (h_i h 1 0) (fCm M) (M 11).toNatClampNeg [] b h g → Cv (m_X12_goDrawn (d + 4) 0 0) [.ref 1, .int x1] g (fun h' => Wf h' ∧ Mx PM x1.toNatClampNeg (h_i h 1 0) (fDr (h_i h 1 0) (wI h) (fCm M)) (M 11).toNatClampNeg [] (fB tB (h_i h 1 0) (fDr (h_i h 1 0) (wI h) (fCm M)) b) h h') := fun g y3 sg => by
        have kg := sg.2.1.k
        have q := kd y3
        have z := m_gd P d sg.1 (kg.2.2.2.2.2 X) hx sg.2.2.1 sg.2.2.2.2 (by rw [c5]; exact p6) c6 (by rw [ck 0 (by decide) (by decide) (by decide)]; exact n0) (by rw [ck 4 (by decide) (by decide) (by decide)]; exact y3) (by rw [c5, ck 13 (by decide) (by decide) (by decide), kg.1]; exact wt _ _ kc q.2.1) (by rw [c5, ck 13 (by decide) (by decide) (by decide), kg.1]; exact wz _ _) (M 11).toNatClampNeg
        rw [kg.2.1, kg.1] at z
        exact Cv.mono z (fun h' k => ⟨k.1.1, sg.tr k rfl⟩)
      refine ⟨v, v, v, v, v, fun n2 => ⟨v, fun n3 => ⟨v, fun n1 => ?_, fun y1 => ?_⟩, fun y3 => ⟨fun _ => ?_, fun z => absurd z n⟩⟩, fun y2 => ?_⟩
      · have f : fGo (h_i h 1 0) (wI h) x L M = (fCm M, []) := by
          unfold fGo
          rw [if_neg n1, if_neg n2, if_neg n3]
        rw [f, if_neg (fun z => n1 z.1)]
        unfold fB
        show Mx PM x1.toNatClampNeg (h_i h 1 0) (fCm M) (M 11).toNatClampNeg [] (if fCm M 4 = 0 then _ else _) h _
        rw [ck 4 (by decide) (by decide) (by decide), if_neg n00]
        exact s
      · have f : fGo (h_i h 1 0) (wI h) x L M = fNx (h_i h 1 0) (wI h) L (fEn (h_i h 1 0) x (decide (¬ M 6 = -1)) (fCm M)) := by
          unfold fGo
          rw [if_pos y1]
        have T1 := T y1
        rw [f]
        have n3x : ¬ x.1 = 3 := fun z => n6 (T1.2 z)
        have z := m_wb P d s.1 (kk.2.2.2.2.2 X) hx s.2.2.1 s.2.2.2.2 (by rw [ck 4 (by decide) (by decide) (by decide)]; exact y1) c6 (by rw [c5]; exact p6) c7 (by rw [ck 0 (by decide) (by decide) (by decide)]; exact n0) (i := i) (x := x) (L := L) (by rw [ck 8 (by decide) (by decide) (by decide)]; exact T1.1.1.cg kk.2.2.2.2.1) (by rw [ck 9 (by decide) (by decide) (by decide)]; exact T1.1.2.1) (by rw [ck 8 (by decide) (by decide) (by decide), kk.2.2.2.1]; exact T1.1.2.2.1) (decide (¬ M 6 = -1)) s0 ec (by rw [ck 11 (by decide) (by decide) (by decide)]; exact T1.1.2.2.2.1) (by rw [ck 11 (by decide) (by decide) (by decide)]; exact T1.1.2.2.2.2) (fun z => absurd z n3x)
        rw [kk.2.1, kk.1, ck 11 (by decide) (by decide) (by decide), if_neg n3x] at z
        rw [if_neg (fun u => n3x u.2)]
        exact Cv.mono z (fun h' k => ⟨k.1.1, s.tr k rfl⟩)
      · have f : fGo (h_i h 1 0) (wI h) x L M = (fDr (h_i h 1 0) (wI h) (fCm M), []) := by
          unfold fGo
          rw [if_neg (by rw [y3]; decide), if_neg (by rw [y3]; decide), if_pos y3]
        rw [f, if_neg (fun z => by rw [y3] at z; exact absurd z.1 (by decide))]
        have e18 := (R.2.2.1 y3).1
        rw [e18]
        refine ⟨v, v, fun ne => ⟨v, gd _ y3 s8⟩, fun e => ⟨v, fun z => ⟨v, gd _ y3 s8⟩, fun z => ?_⟩⟩
        have w0 : ¬ 0 < wI h (fCm M 5) (fCm M 13) := by
          rw [c5, ck 13 (by decide) (by decide) (by decide), e]
          rcases wI_s I X (M 13) with w0 | w0 <;> rw [w0] <;> decide
        have fd : fDr (h_i h 1 0) (wI h) (fCm M) = if h_i h 1 0 < fCm M 14 then up1 (fCm M) 7 (fCm M 14) else fHome (h_i h 1 0) (wI h) (fCm M) := by
          unfold fDr
          rw [if_neg w0]
          by_cases c : h_i h 1 0 < fCm M 14
          · rw [if_pos ⟨by rw [c5, ck 13 (by decide) (by decide) (by decide)]; exact e, c⟩, if_pos c]
          · rw [if_neg (fun u => c u.2), if_neg c]
        have z := m_st P d s.1 (kk.2.2.2.2.2 X) hx s.2.2.1 s.2.2.2.2 (by rw [c5]; exact p6) c6 (by rw [ck 0 (by decide) (by decide) (by decide)]; exact n0) (by rw [ck 4 (by decide) (by decide) (by decide)]; exact y3) (M 11).toNatClampNeg (fDr (h_i h 1 0) (wI h) (fCm M)) (by rw [kk.2.1, kk.1]; exact fd)
        rw [kk.2.1] at z
        exact Cv.mono z (fun h' k => ⟨k.1.1, s.tr k rfl⟩)
      · have f : fGo (h_i h 1 0) (wI h) x L M = (fFree (fCm M), []) := by
          unfold fGo
          rw [if_neg (by rw [y2]; decide), if_pos y2]
        have z0 : fFree (fCm M) 4 = 0 := by
          unfold fFree
          rw [up1_ne (by decide), up1_at]
        have z1 : fFree (fCm M) 0 = x1 := by
          rw [fFree_k (by decide) (by decide), ck 0 (by decide) (by decide) (by decide)]
          exact n0
        have fb : fB tB (h_i h 1 0) (fFree (fCm M)) b = tB x1 (h_i h 1 0) b := by
          unfold fB
          rw [if_pos z0, z1]
        have h206 : h_i (h_im (h_im (h_im h 209 x1.toNatClampNeg (M 6)) 210 x1.toNatClampNeg (-1)) 211 x1.toNatClampNeg (-1)) 206 x1.toNatClampNeg = M 3 := by
          rw [R3.2.2.2]
          exact ck 3 (by decide) (by decide) (by decide)
        rw [f, if_neg (fun z => by rw [y2] at z; exact absurd z.1 (by decide))]
        show Cv _ _ _ (fun h72 => Wf h72 ∧ Mx PM x1.toNatClampNeg (h_i h 1 0) (fFree (fCm M)) (M 11).toNatClampNeg [] (fB tB (h_i h 1 0) (fFree (fCm M)) b) h h72)
        rw [fb]
        have z := m_fr P d s.1 hx s.2.2.2.2 (M 11).toNatClampNeg (fFree (fCm M)) z0 (by rw [fFree_k (by decide) (by decide), c5, h206]; exact k2 y2) (by rw [fFree_k (by decide) (by decide)]; exact c6) (by unfold fFree; rw [up1_at]) (by rw [fFree_k (by decide) (by decide), h206]; exact ck 3 (by decide) (by decide) (by decide))
        rw [kk.2.1] at z
        exact Cv.mono z (fun h' k => ⟨k.1.1, s.tr k rfl⟩)
  refine Tt _ ⟨v, fun _ => ⟨v, fun e6 => E29 0 ?_, fun n6 => E29 1 ?_⟩, fun n => absurd yt n⟩
  · rw [decide_eq_true_iff]
    exact ⟨fun z => absurd e6 z, fun z => absurd rfl z⟩
  · rw [decide_eq_true_iff]
    exact ⟨fun _ => by decide, fun _ => n6⟩
end MEN
