section
/-! MEN, the reference: begin -/
section MEN
variable {β : Type} {PM : β → Hp_ → Prop} {tB : Int32 → Int32 → β → β} {lM : Nat → Hp_ → β → β}
noncomputable def mwB : List Nat := 1063 :: 212999 :: 214999 :: 215999 :: 217999 :: 238999 :: 239999 :: 240999 :: 244999 :: mwR
noncomputable def Bym (PM : β → Hp_ → Prop) (j : Nat) (m n : Int32) (M' : Nat → Int32) (r : Nat) (Q E : List Ev2) (b' : β) (h h' : Hp_) : Prop := Iv h' ∧ (Fr mwB h h' ∧ ∀ a, a ∈ mrL → ∀ k, k ≠ j → h_i h' a k = h_i h a k) ∧ RMp j M' h' ∧ (h_i h' 238 = rz (fun _ => m) r Q (h_i h 238) ∧ h_i h' 239 = rz Prod.fst r Q (h_i h 239) ∧ h_i h' 240 = rz (fun e => n + e.2) r Q (h_i h 240) ∧ h_i h' 244 = rz (fun _ => n) r Q (h_i h 244)) ∧ (h_i h' 1 63 = Int32.ofNat (r + Q.length) ∧ h_i h' 215 j = Int32.ofNat r) ∧ (h_i h' 241 = rq (gM n) r E (rz (fun _ => -1) r Q (h_i h 241)) ∧ h_i h' 242 = rq (gS n) r E (rz (fun _ => -1) r Q (h_i h 242)) ∧ h_i h' 243 = rq gC r E (h_i h 243)) ∧ PM b' h'
theorem m_bg (P : PMok PM tB lM) (d : Nat) {h : Hp_} (I : Iv h) (X : ExP h) (x1 x2 : Int32) {b : β} (B : PM b h) (M : Nat → Int32) (H : isN h x1 → RMp x1.toNatClampNeg M h ∧ M 0 = x1 ∧ (M 4 = 0 → M 6 = -1 ∧ M 7 = -1) ∧ (M 6 = -1 → 0 ≤ (M 5).toInt)) (L : List Sp3) (S : (0 ≤ x2.toInt ∧ x2.toInt < (h_i h 1 42).toInt) → Stm h x2 0 L ∧ h_i h 227 x2.toNatClampNeg = Int32.ofNat L.length ∧ mP (h_i h 228) x2.toNatClampNeg (h_i h 227 x2.toNatClampNeg).toNatClampNeg 0 = mts L) : Ci (m_X12_begin (d + 4) 0 0) [.ref 1, .int x1, .int x2] h (fun r h' => ((isN h x1 ∧ (0 ≤ x2.toInt ∧ x2.toInt < (h_i h 1 42).toInt) ∧ M 4 = 0 ∧ (h_i h 1 63).toInt + (mts L : Int) ≤ 400) → r = 1 ∧ Bym PM x1.toNatClampNeg x1 (h_i h 1 0) (fBg (h_i h 1 0) (wI h) x2 (h_i h 1 63).toNatClampNeg ((h_i h 1 63).toNatClampNeg + mts L) L M).1 (h_i h 1 63).toNatClampNeg (ptL L) (fBg (h_i h 1 0) (wI h) x2 (h_i h 1 63).toNatClampNeg ((h_i h 1 63).toNatClampNeg + mts L) L M).2 (fB tB (h_i h 1 0) (fBg (h_i h 1 0) (wI h) x2 (h_i h 1 63).toNatClampNeg ((h_i h 1 63).toNatClampNeg + mts L) L M).1 b) h h') ∧ (¬ (isN h x1 ∧ (0 ≤ x2.toInt ∧ x2.toInt < (h_i h 1 42).toInt) ∧ M 4 = 0 ∧ (h_i h 1 63).toInt + (mts L : Int) ≤ 400) → r = 0 ∧ h' = h)) := by
  have t0 : (0 : Int32).toInt = 0 := rfl
  have t1 : (1 : Int32).toInt = 1 := rfl
  have t400 : (400 : Int32).toInt = 400 := rfl
  have bm := menM_in I
  have r42 := I.2.1 1 42
  rw [show tf 1 42 = (0, 12) by decide +kernel] at r42
  have b0 : 0 ≤ (h_i h 1 42).toInt := r42.1
  have b1 : (h_i h 1 42).toInt ≤ 12 := r42.2
  have rg := rows_in I
  have r4 : (h_i h 1 63).toInt ≤ 400 := rg.2
  have r0 : 0 ≤ (h_i h 1 63).toInt := rg.1
  have s42 : (h_i h 1 42 - 1).toInt = (h_i h 1 42).toInt - 1 := by rw [tx_sub (by rw [t1]; omega) (by rw [t1]; omega), t1]
  refine t_X12_begin d h I.1 x1 x2 _ ⟨fun n => ⟨fun y => absurd ((isN_q I).mpr y.1) n, fun _ => ⟨rfl, rfl⟩⟩, fun y1 => ⟨fun n => ⟨fun y => absurd ⟨q_le.mpr (by have := y.2.1.1; omega), q_le.mpr (by have := y.2.1.2; omega)⟩ n, fun _ => ⟨rfl, rfl⟩⟩, fun y2 => ?_⟩⟩
  have ym := (isN_q I).mp y1
  obtain ⟨R, n0, k0, p5⟩ := H ym
  have hx : 0 ≤ x1.toInt ∧ x1.toInt ≤ 11 := ⟨ym.1, by have := ym.2; omega⟩
  have v := v12 hx
  have u1 := q_le.mp y2.1
  have u2 := q_le.mp y2.2
  have yb : 0 ≤ x2.toInt ∧ x2.toInt < (h_i h 1 42).toInt := ⟨by omega, by omega⟩
  obtain ⟨S, e227, em⟩ := S yb
  have ll : 0 + L.length ≤ 150 := S.2.1
  have ml := mts_l L
  have b2 : 0 ≤ x2.toInt ∧ x2.toInt ≤ 11 := ⟨yb.1, by omega⟩
  rw [R.1.1]
  refine ⟨v, fun nf => ⟨fun y => absurd y.2.2.1 nf, fun _ => ⟨rfl, rfl⟩⟩, fun yf => Ci.mono (c_pointsOf d I x2 ⟨by show (0 : Int) ≤ _; omega, by show _ ≤ (11 : Int); omega⟩) (fun r11 h9 k => ?_)⟩
  obtain ⟨eh, k⟩ := k
  subst eh
  rw [em] at k
  have sm : (h_i h9 1 63 + r11).toInt = (h_i h9 1 63).toInt + (mts L : Int) := by rw [tx_add (by omega) (by omega), k]
  refine ⟨I.1, fun l => ⟨v, v, v, v, v, v, ?_⟩, fun l => ⟨fun y => ?_, fun _ => ⟨rfl, rfl⟩⟩⟩
  · have l := q_le.mp l
    have lr : (h_i h9 1 63).toInt + (mts L : Int) ≤ 400 := by omega
    have ok : isN h9 x1 ∧ (0 ≤ x2.toInt ∧ x2.toInt < (h_i h9 1 42).toInt) ∧ M 4 = 0 ∧ (h_i h9 1 63).toInt + (mts L : Int) ≤ 400 := ⟨ym, yb, yf, lr⟩
    have I6 := im216 ((((im213 ((im208 I x1.toNatClampNeg 1).im (a := 212) (k := x1.toNatClampNeg) (x := x2) (by rw [tfa_tf (show tfa 212 = some (0, 11) by decide +kernel)]; exact ⟨b2.1, b2.2⟩) (jw_jr (by decide) (by decide) _)) x1.toNatClampNeg 0 (by decide)) |> fun z => tr_ 214 (by decide +kernel) z x1.toNatClampNeg (h_i h9 1 0) (by decide) (by decide)).im (a := 215) (k := x1.toNatClampNeg) (x := h_i h9 1 63) (by rw [tfa_tf (show tfa 215 = some (0, 400) by decide +kernel)]; exact rg) (jw_jr (by decide) (by decide) _))) x1.toNatClampNeg (h_i h9 1 63) ⟨r0, r4⟩
    have F6 : Fr mwB h9 (h_im (h_im (h_im (h_im (h_im (h_im h9 208 x1.toNatClampNeg 1) 212 x1.toNatClampNeg x2) 213 x1.toNatClampNeg 0) 214 x1.toNatClampNeg (h_i h9 1 0)) 215 x1.toNatClampNeg (h_i h9 1 63)) 216 x1.toNatClampNeg (h_i h9 1 63)) := ((((((Fr.rf _ _).im (inw_row (by decide +kernel) _)).im (inw_row (by decide +kernel) _)).im (inw_row (by decide +kernel) _)).im (inw_row (by decide +kernel) _)).im (inw_row (by decide +kernel) _)).im (inw_row (by decide +kernel) _)
    have B6 : PM b (h_im (h_im (h_im (h_im (h_im (h_im h9 208 x1.toNatClampNeg 1) 212 x1.toNatClampNeg x2) 213 x1.toNatClampNeg 0) 214 x1.toNatClampNeg (h_i h9 1 0)) 215 x1.toNatClampNeg (h_i h9 1 63)) 216 x1.toNatClampNeg (h_i h9 1 63)) := P.1 _ _ _ _ _ (Or.inl (by decide)) (P.1 _ _ _ _ _ (Or.inl (by decide)) (P.1 _ _ _ _ _ (Or.inl (by decide)) (P.1 _ _ _ _ _ (Or.inl (by decide)) (P.1 _ _ _ _ _ (Or.inl (by decide)) (P.1 _ _ _ _ _ (Or.inl (by decide)) B)))))
    have q8 : h_i (h_im (h_im (h_im (h_im (h_im (h_im h9 208 x1.toNatClampNeg 1) 212 x1.toNatClampNeg x2) 213 x1.toNatClampNeg 0) 214 x1.toNatClampNeg (h_i h9 1 0)) 215 x1.toNatClampNeg (h_i h9 1 63)) 216 x1.toNatClampNeg (h_i h9 1 63)) 208 x1.toNatClampNeg = 1 := by rw [im_ne (by decide), im_ne (by decide), im_ne (by decide), im_ne (by decide), im_ne (by decide), im_at]
    have q12 : h_i (h_im (h_im (h_im (h_im (h_im (h_im h9 208 x1.toNatClampNeg 1) 212 x1.toNatClampNeg x2) 213 x1.toNatClampNeg 0) 214 x1.toNatClampNeg (h_i h9 1 0)) 215 x1.toNatClampNeg (h_i h9 1 63)) 216 x1.toNatClampNeg (h_i h9 1 63)) 212 x1.toNatClampNeg = x2 := by rw [im_ne (by decide), im_ne (by decide), im_ne (by decide), im_ne (by decide), im_at]
    have q13 : h_i (h_im (h_im (h_im (h_im (h_im (h_im h9 208 x1.toNatClampNeg 1) 212 x1.toNatClampNeg x2) 213 x1.toNatClampNeg 0) 214 x1.toNatClampNeg (h_i h9 1 0)) 215 x1.toNatClampNeg (h_i h9 1 63)) 216 x1.toNatClampNeg (h_i h9 1 63)) 213 x1.toNatClampNeg = 0 := by rw [im_ne (by decide), im_ne (by decide), im_ne (by decide), im_at]
    have q14 : h_i (h_im (h_im (h_im (h_im (h_im (h_im h9 208 x1.toNatClampNeg 1) 212 x1.toNatClampNeg x2) 213 x1.toNatClampNeg 0) 214 x1.toNatClampNeg (h_i h9 1 0)) 215 x1.toNatClampNeg (h_i h9 1 63)) 216 x1.toNatClampNeg (h_i h9 1 63)) 214 x1.toNatClampNeg = h_i h9 1 0 := by rw [im_ne (by decide), im_ne (by decide), im_at]
    have q15 : h_i (h_im (h_im (h_im (h_im (h_im (h_im h9 208 x1.toNatClampNeg 1) 212 x1.toNatClampNeg x2) 213 x1.toNatClampNeg 0) 214 x1.toNatClampNeg (h_i h9 1 0)) 215 x1.toNatClampNeg (h_i h9 1 63)) 216 x1.toNatClampNeg (h_i h9 1 63)) 215 x1.toNatClampNeg = h_i h9 1 63 := by rw [im_ne (by decide), im_at]
    have q16 : h_i (h_im (h_im (h_im (h_im (h_im (h_im h9 208 x1.toNatClampNeg 1) 212 x1.toNatClampNeg x2) 213 x1.toNatClampNeg 0) 214 x1.toNatClampNeg (h_i h9 1 0)) 215 x1.toNatClampNeg (h_i h9 1 63)) 216 x1.toNatClampNeg (h_i h9 1 63)) 216 x1.toNatClampNeg = h_i h9 1 63 := im_at
    have qo : ∀ a, a ≠ 208 → a ≠ 212 → a ≠ 213 → a ≠ 214 → a ≠ 215 → a ≠ 216 → h_i (h_im (h_im (h_im (h_im (h_im (h_im h9 208 x1.toNatClampNeg 1) 212 x1.toNatClampNeg x2) 213 x1.toNatClampNeg 0) 214 x1.toNatClampNeg (h_i h9 1 0)) 215 x1.toNatClampNeg (h_i h9 1 63)) 216 x1.toNatClampNeg (h_i h9 1 63)) a = h_i h9 a := fun a n1 n2 n3 n4 n5 n6 => by rw [im_oth n6, im_oth n5, im_oth n4, im_oth n3, im_oth n2, im_oth n1]
    have ql : ∀ a, a ∈ mrL → ∀ k, k ≠ x1.toNatClampNeg → h_i (h_im (h_im (h_im (h_im (h_im (h_im h9 208 x1.toNatClampNeg 1) 212 x1.toNatClampNeg x2) 213 x1.toNatClampNeg 0) 214 x1.toNatClampNeg (h_i h9 1 0)) 215 x1.toNatClampNeg (h_i h9 1 63)) 216 x1.toNatClampNeg (h_i h9 1 63)) a k = h_i h9 a k := fun a _ k n => by
      rw [h_i_im, if_neg (fun e => n e.2), h_i_im, if_neg (fun e => n e.2), h_i_im, if_neg (fun e => n e.2), h_i_im, if_neg (fun e => n e.2), h_i_im, if_neg (fun e => n e.2), h_i_im, if_neg (fun e => n e.2)]
    generalize h_im (h_im (h_im (h_im (h_im (h_im h9 208 x1.toNatClampNeg 1) 212 x1.toNatClampNeg x2) 213 x1.toNatClampNeg 0) 214 x1.toNatClampNeg (h_i h9 1 0)) 215 x1.toNatClampNeg (h_i h9 1 63)) 216 x1.toNatClampNeg (h_i h9 1 63) = g at *
    have g0 : h_i g 1 = h_i h9 1 := qo 1 (by decide) (by decide) (by decide) (by decide) (by decide) (by decide)
    have gs : ∀ k, sB g k = sB h9 k := fun k => by
      funext i
      unfold sB
      rw [qo 228 (by decide) (by decide) (by decide) (by decide) (by decide) (by decide), qo 229 (by decide) (by decide) (by decide) (by decide) (by decide) (by decide), qo 230 (by decide) (by decide) (by decide) (by decide) (by decide) (by decide)]
    have g227 : h_i g 227 = h_i h9 227 := qo 227 (by decide) (by decide) (by decide) (by decide) (by decide) (by decide)
    have e3 : 150 * x2 = 150 * x2 + Int32.ofNat 0 := (i_0 _).symm
    rw [e3]
    refine mb_lp P d b2 _ hx L (h := g) (b := b) 0 I6 B6 (S.cg gs) (by rw [g227, Nat.zero_add]; exact e227) (by rw [g0]; exact lr) (fun h' w => ?_)
    obtain ⟨Iw, Fw, ⟨w8, w9, w10, w11, w12, w14⟩, w63, Bw⟩ := w
    rw [g0] at w8 w9 w10 w11 w12 w14 w63
    have oo : ∀ a, off wwM a = true → ∀ k, h_i h' a k = h_i g a k := fun a o k => fr_i Fw o k
    have nr := n_nat r0
    have I7 : Iv (h_im h' 217 x1.toNatClampNeg (h_i h' 1 63)) := Iw.im (by rw [tfa_tf (show tfa 217 = some (0, 400) by decide +kernel), w63, ptL_l]; exact ⟨by show (0 : Int) ≤ _; rw [on_j (by omega)]; omega, by show _ ≤ (400 : Int); rw [on_j (by omega)]; omega⟩) (jw_jr (by decide) (by decide) _)
    have B7 : PM b (h_im h' 217 x1.toNatClampNeg (h_i h' 1 63)) := P.1 _ _ _ _ _ (Or.inl (by decide)) Bw
    have F7 : Fr mwB h9 (h_im h' 217 x1.toNatClampNeg (h_i h' 1 63)) := (F6.tr (Fw.more (by decide +kernel))).im (inw_row (by decide +kernel) _)
    have R7 : RMp x1.toNatClampNeg (up1 (up1 (up1 (up1 (up1 (up1 M 4 1) 8 x2) 9 0) 10 (h_i h9 1 0)) 11 (Int32.ofNat (h_i h9 1 63).toNatClampNeg)) 12 (Int32.ofNat ((h_i h9 1 63).toNatClampNeg + mts L))) (h_im h' 217 x1.toNatClampNeg (h_i h' 1 63)) := by
      refine ⟨⟨?_, ?_, ?_, ?_⟩, fun _ => ⟨?_, ?_, ?_, ?_, ?_⟩, fun e => absurd (show (1 : Int32) = 3 from e) (by decide), ?_⟩
      · rw [im_ne (by decide), oo 208 (by decide +kernel), q8]
        rfl
      · rw [im_ne (by decide), oo 209 (by decide +kernel), qo 209 (by decide) (by decide) (by decide) (by decide) (by decide) (by decide)]
        exact R.1.2.1
      · rw [im_ne (by decide), oo 210 (by decide +kernel), qo 210 (by decide) (by decide) (by decide) (by decide) (by decide) (by decide)]
        exact R.1.2.2.1
      · rw [im_ne (by decide), oo 211 (by decide +kernel), qo 211 (by decide) (by decide) (by decide) (by decide) (by decide) (by decide)]
        exact R.1.2.2.2
      · rw [im_ne (by decide), oo 212 (by decide +kernel), q12]
        rfl
      · rw [im_ne (by decide), oo 213 (by decide +kernel), q13]
        rfl
      · rw [im_ne (by decide), oo 214 (by decide +kernel), q14]
        rfl
      · rw [im_ne (by decide), oo 216 (by decide +kernel), q16]
        show h_i h9 1 63 = Int32.ofNat (h_i h9 1 63).toNatClampNeg
        exact (of_nat32 r0).symm
      · rw [im_at, w63, ptL_l]
        rfl
      · rw [im_ne (by decide), oo 206 (by decide +kernel), qo 206 (by decide) (by decide) (by decide) (by decide) (by decide) (by decide)]
        exact R.2.2.2
    have X7 : ExP (h_im h' 217 x1.toNatClampNeg (h_i h' 1 63)) := X.fr F7 (by decide +kernel)
    have w7 : wI (h_im h' 217 x1.toNatClampNeg (h_i h' 1 63)) = wI h9 := by
      funext p q
      unfold wI
      rw [fr_i F7 (by decide +kernel)]
    have n7 : h_i (h_im h' 217 x1.toNatClampNeg (h_i h' 1 63)) 1 0 = h_i h9 1 0 := (F7.2 1 0 (by decide +kernel)).1
    have s7 : ∀ k, sB (h_im h' 217 x1.toNatClampNeg (h_i h' 1 63)) k = sB h9 k := fun k => by
      funext i
      unfold sB
      rw [fr_i F7 (by decide +kernel), fr_i F7 (by decide +kernel), fr_i F7 (by decide +kernel)]
    have z27 : h_i (h_im h' 217 x1.toNatClampNeg (h_i h' 1 63)) 227 x2.toNatClampNeg = Int32.ofNat L.length := by
      rw [fr_i F7 (by decide +kernel)]
      exact e227
    have l7 : ∀ a, a ∈ mrL → ∀ k, k ≠ x1.toNatClampNeg → h_i (h_im h' 217 x1.toNatClampNeg (h_i h' 1 63)) a k = h_i h9 a k := fun a ha k n => by
      rw [h_i_im, if_neg (fun e => n e.2)]
      have o : off wwM a = true := by
        simp only [mrL, List.mem_cons, List.not_mem_nil, or_false] at ha
        rcases ha with e | e | e | e | e | e | e | e | e | e | e | e | e <;> subst e <;> decide +kernel
      rw [oo a o]
      exact ql a ha k n
    have q41 : h_i (h_im h' 217 x1.toNatClampNeg (h_i h' 1 63)) 241 = rz (fun _ => -1) (h_i h9 1 63).toNatClampNeg (ptL L) (h_i h9 241) := by rw [im_oth (by decide), w11, qo 241 (by decide) (by decide) (by decide) (by decide) (by decide) (by decide)]
    have q42 : h_i (h_im h' 217 x1.toNatClampNeg (h_i h' 1 63)) 242 = rz (fun _ => -1) (h_i h9 1 63).toNatClampNeg (ptL L) (h_i h9 242) := by rw [im_oth (by decide), w12, qo 242 (by decide) (by decide) (by decide) (by decide) (by decide) (by decide)]
    have q43 : h_i (h_im h' 217 x1.toNatClampNeg (h_i h' 1 63)) 243 = h_i h9 243 := by
      rw [im_oth (by decide), show h_i h' 243 = h_i g 243 from funext (fun k => oo 243 (by decide +kernel) k), qo 243 (by decide) (by decide) (by decide) (by decide) (by decide) (by decide)]
    have q38 : h_i (h_im h' 217 x1.toNatClampNeg (h_i h' 1 63)) 238 = rz (fun _ => x1) (h_i h9 1 63).toNatClampNeg (ptL L) (h_i h9 238) := by rw [im_oth (by decide), w8, qo 238 (by decide) (by decide) (by decide) (by decide) (by decide) (by decide)]
    have q39 : h_i (h_im h' 217 x1.toNatClampNeg (h_i h' 1 63)) 239 = rz Prod.fst (h_i h9 1 63).toNatClampNeg (ptL L) (h_i h9 239) := by rw [im_oth (by decide), w9, qo 239 (by decide) (by decide) (by decide) (by decide) (by decide) (by decide)]
    have q40 : h_i (h_im h' 217 x1.toNatClampNeg (h_i h' 1 63)) 240 = rz (fun e => h_i h9 1 0 + e.2) (h_i h9 1 63).toNatClampNeg (ptL L) (h_i h9 240) := by rw [im_oth (by decide), w10, qo 240 (by decide) (by decide) (by decide) (by decide) (by decide) (by decide)]
    have q44 : h_i (h_im h' 217 x1.toNatClampNeg (h_i h' 1 63)) 244 = rz (fun _ => h_i h9 1 0) (h_i h9 1 63).toNatClampNeg (ptL L) (h_i h9 244) := by rw [im_oth (by decide), w14, qo 244 (by decide) (by decide) (by decide) (by decide) (by decide) (by decide)]
    have q63 : h_i (h_im h' 217 x1.toNatClampNeg (h_i h' 1 63)) 1 63 = Int32.ofNat ((h_i h9 1 63).toNatClampNeg + (ptL L).length) := by rw [im_ne (by decide)]; exact w63
    have q215 : h_i (h_im h' 217 x1.toNatClampNeg (h_i h' 1 63)) 215 x1.toNatClampNeg = Int32.ofNat (h_i h9 1 63).toNatClampNeg := by
      rw [im_ne (by decide), oo 215 (by decide +kernel), q15]
      exact (of_nat32 r0).symm
    generalize h_im h' 217 x1.toNatClampNeg (h_i h' 1 63) = g7 at *
    have k00 := k0 yf
    have z := mgo_lp P d hx L (h := g7) (b := b) (M := up1 (up1 (up1 (up1 (up1 (up1 M 4 1) 8 x2) 9 0) 10 (h_i h9 1 0)) 11 (Int32.ofNat (h_i h9 1 63).toNatClampNeg)) 12 (Int32.ofNat ((h_i h9 1 63).toNatClampNeg + mts L))) 0 I7 X7 R7 B7 rfl k00.1 (p5 k00.1) k00.2 n0 (S.cg s7) rfl (by rw [Nat.zero_add]; exact z27) (by show 0 ≤ (Int32.ofNat (h_i h9 1 63).toNatClampNeg).toInt; rw [on_j (by omega)]; omega) (by show (Int32.ofNat (h_i h9 1 63).toNatClampNeg).toInt + (mts L : Int) ≤ 400; rw [on_j (by omega)]; omega)
    rw [n7, w7] at z
    have e11 : (up1 (up1 (up1 (up1 (up1 (up1 M 4 1) 8 x2) 9 0) 10 (h_i h9 1 0)) 11 (Int32.ofNat (h_i h9 1 63).toNatClampNeg)) 12 (Int32.ofNat ((h_i h9 1 63).toNatClampNeg + mts L)) 11).toNatClampNeg = (h_i h9 1 63).toNatClampNeg := by
      rw [up1_ne (by decide), up1_at, of_nat32 r0]
    rw [e11] at z
    refine cv_goOn (AW.mono z (fun u h22 k => ⟨k.1, k.2.1.1, fun _ => ⟨rfl, k.2.1, ⟨F7.tr (k.2.2.1.1.more (by decide +kernel)), fun a ha i n => (k.2.2.1.2 a ha i n).trans (l7 a ha i n)⟩, k.2.2.2.1, ⟨?_, ?_, ?_, ?_⟩, ⟨?_, ?_⟩, ⟨?_, ?_, ?_⟩, k.2.2.2.2.2⟩, fun y => absurd ok y⟩))
    · rw [show h_i h22 238 = h_i g7 238 from funext (fun i => fr_i k.2.2.1.1 (by decide +kernel) i)]
      exact q38
    · rw [show h_i h22 239 = h_i g7 239 from funext (fun i => fr_i k.2.2.1.1 (by decide +kernel) i)]
      exact q39
    · rw [show h_i h22 240 = h_i g7 240 from funext (fun i => fr_i k.2.2.1.1 (by decide +kernel) i)]
      exact q40
    · rw [show h_i h22 244 = h_i g7 244 from funext (fun i => fr_i k.2.2.1.1 (by decide +kernel) i)]
      exact q44
    · rw [(k.2.2.1.1.2 1 63 (by decide +kernel)).1]
      exact q63
    · rw [fr_i k.2.2.1.1 (by decide +kernel)]
      exact q215
    · rw [k.2.2.2.2.1.1, q41]
      rfl
    · rw [k.2.2.2.2.1.2.1, q42]
      rfl
    · rw [k.2.2.2.2.1.2.2, q43]
      rfl
  · have := y.2.2.2
    exact absurd (q_le.mpr (by omega)) l
end MEN
/-! MEN: the minutes -/
noncomputable abbrev Pst (β : Type) : Type := (Nat → Nat → Int32) × (Nat → Int32) × (Nat → Int32) × (Nat → Int32) × β
noncomputable def pX (BL : Nat → List Sp3) (M : Nat → Int32) : Sp3 × List Sp3 := match (BL (M 8).toNatClampNeg).drop (M 9).toNatClampNeg with
  | [] => ((0, 0, 0), [])
  | x :: L => (x, L)
noncomputable def pGo (n : Int32) (w : Int32 → Int32 → Int32) (BL : Nat → List Sp3) (M : Nat → Int32) : (Nat → Int32) × List Ev2 := fGo n w (pX BL M).1 (pX BL M).2 M
section MEN
variable {β : Type}
/-- man j at minute n -/
noncomputable def pMan (lP : Nat → Int32 → (Nat → Int32) → β → β) (tB : Int32 → Int32 → β → β) (n : Int32) (w : Int32 → Int32 → Int32) (BL : Nat → List Sp3) (j : Nat) (s : Pst β) : Pst β := if s.1 j 7 = n then (fun k => if k = j then (pGo n w BL (s.1 j)).1 else s.1 k, rz Prod.fst (s.1 j 11).toNatClampNeg (pGo n w BL (s.1 j)).2 s.2.1, rz (fun _ => n) (s.1 j 11).toNatClampNeg (pGo n w BL (s.1 j)).2 s.2.2.1, rz Prod.snd (s.1 j 11).toNatClampNeg (pGo n w BL (s.1 j)).2 s.2.2.2.1, fB tB n (pGo n w BL (s.1 j)).1 (if s.1 j 4 = 1 ∧ (pX BL (s.1 j)).1.1 = 3 then lP j n (fun k => s.1 k 5) s.2.2.2.2 else s.2.2.2.2)) else s
noncomputable def pMen (lP : Nat → Int32 → (Nat → Int32) → β → β) (tB : Int32 → Int32 → β → β) (n : Int32) (w : Int32 → Int32 → Int32) (BL : Nat → List Sp3) : Nat → Pst β → Pst β
  | 0, s => s
  | j + 1, s => pMan lP tB n w BL j (pMen lP tB n w BL j s)
/-- a minute is over -/
noncomputable def pOv (nB : Int32 → (Nat → Int32) → β → β) (n : Int32) (s : Pst β) : Pst β := (s.1, s.2.1, s.2.2.1, s.2.2.2.1, nB n (fun k => s.1 k 5) s.2.2.2.2)
/-- i minutes behind n -/
noncomputable def pTk (lP : Nat → Int32 → (Nat → Int32) → β → β) (tB : Int32 → Int32 → β → β) (nB : Int32 → (Nat → Int32) → β → β) (w : Int32 → Int32 → Int32) (BL : Nat → List Sp3) (m : Nat) (n : Int32) : Nat → Pst β → Pst β
  | 0, s => s
  | i + 1, s => pMen lP tB (n + Int32.ofNat (i + 1)) w BL m (pOv nB (n + Int32.ofNat i) (pTk lP tB nB w BL m n i s))
/-- what holds of all men, and of the rows that are theirs -/
noncomputable def pI (w : Int32 → Int32 → Int32) (BL : Nat → List Sp3) (nb rw : Nat) (own : Nat → Int32) (m : Nat) (s : Pst β) : Prop := ∀ j, j < m → Km w BL nb rw (s.1 j) ∧ s.1 j 0 = Int32.ofNat j ∧ (s.1 j 4 = 1 → ∀ k : Nat, (s.1 j 11).toInt ≤ (k : Int) → (k : Int) < (s.1 j 12).toInt → s.2.1 k = 0 ∧ own k = Int32.ofNat j)
theorem pX_of {BL : Nat → List Sp3} {M : Nat → Int32} {i : Nat} {x : Sp3} {L : List Sp3} (l : i ≤ 1000) (e9 : M 9 = Int32.ofNat i) (hd : (BL (M 8).toNatClampNeg).drop i = x :: L) : pX BL M = (x, L) := by
  unfold pX
  rw [e9, on_k (by omega), hd]
theorem fGo_e {n : Int32} {w : Int32 → Int32 → Int32} {x : Sp3} {L : List Sp3} {M : Nat → Int32} (n1 : ¬ M 4 = 1) : (fGo n w x L M).2 = [] := by
  unfold fGo
  rw [if_neg n1]
  split
  · rfl
  · split <;> rfl
/-- the parts of KmB, with the step and those behind it as they are found -/
theorem kmb_x {BL : Nat → List Sp3} {nb rw : Nat} {M : Nat → Int32} (hl : ∀ k, k < nb → (BL k).length ≤ 150) (B : KmB BL nb rw M) : ∃ i, i + ((pX BL M).2.length + 1) = (BL (M 8).toNatClampNeg).length ∧ i ≤ 150 ∧ (0 ≤ (M 8).toInt ∧ (M 8).toNatClampNeg < nb) ∧ (BL (M 8).toNatClampNeg).drop i = (pX BL M).1 :: (pX BL M).2 ∧ M 9 = Int32.ofNat i ∧ (((pX BL M).1.1 = 1 ∨ (pX BL M).1.1 = 3) → M 6 = -1) ∧ 0 ≤ (M 11).toInt ∧ (M 11).toInt + (((if (pX BL M).1.1 = 2 ∧ decide (¬ M 6 = -1) = true then 1 else 0) + mts (pX BL M).2 : Nat) : Int) = (M 12).toInt ∧ (M 12).toInt ≤ (rw : Int) := by
  obtain ⟨i, x, L, b8, hd, e9, h6, r0, r1, r2⟩ := B
  have ln := congrArg List.length hd
  rw [List.length_drop] at ln
  have ln : (BL (M 8).toNatClampNeg).length - i = L.length + 1 := ln
  have hb := hl _ b8.2
  have e := pX_of (BL := BL) (M := M) (i := i) (by omega) e9 hd
  rw [e]
  exact ⟨i, by show i + (L.length + 1) = _; omega, by omega, b8, hd, e9, h6, r0, r1, r2⟩
theorem pI_man {lP : Nat → Int32 → (Nat → Int32) → β → β} {tB : Int32 → Int32 → β → β} {n : Int32} {w : Int32 → Int32 → Int32} {BL : Nat → List Sp3} {nb rw m : Nat} {own : Nat → Int32} {s : Pst β} (W : WOk w) (hb : ∀ k x, k < nb → x ∈ BL k → stR x) (hl : ∀ k, k < nb → (BL k).length ≤ 150) (r4 : rw ≤ 400) (p0 : 0 ≤ n.toInt) (H : pI w BL nb rw own m s) {j : Nat} (hj : j < m) (m12 : m ≤ 12) : pI w BL nb rw own m (pMan lP tB n w BL j s) := by
  unfold pMan
  by_cases y : s.1 j 7 = n
  · rw [if_pos y]
    obtain ⟨K, e0, O⟩ := H j hj
    have n0 : ¬ s.1 j 4 = 0 := fun e => by
      have z := (K.1.2.2.2.1 e).2
      rw [z] at y
      rw [← y] at p0
      exact absurd p0 (by decide)
    have Rg := Rk.go (n := n) (w := w) (x := (pX BL (s.1 j)).1) (L := (pX BL (s.1 j)).2) (M := s.1 j)
    have KG : Km w BL nb rw (pGo n w BL (s.1 j)).1 := by
      by_cases y1 : s.1 j 4 = 1
      · obtain ⟨i, _, _, b8, hd, e9, _, r0, r1, r2⟩ := kmb_x hl (K.2 y1)
        exact km_go W hb hl r4 n0 K (i := i) (fun _ => ⟨hd, e9, b8, r0, r1, r2⟩)
      · exact km_go W hb hl r4 n0 K (i := 0) (fun e => absurd e y1)
    have e11 : (pGo n w BL (s.1 j)).1 11 = s.1 j 11 + Int32.ofNat (pGo n w BL (s.1 j)).2.length := Rg.2.2.2.1
    have e12 : (pGo n w BL (s.1 j)).1 12 = s.1 j 12 := Rg.1 12 (by decide)
    have own' : ∀ k : Nat, (s.1 j 11).toNatClampNeg ≤ k → k < (s.1 j 11).toNatClampNeg + (pGo n w BL (s.1 j)).2.length → own k = Int32.ofNat j ∧ 0 ≤ (s.1 j 11).toInt := fun k a b => by
      by_cases y1 : s.1 j 4 = 1
      · obtain ⟨i, _, _, b8, hd, e9, _, r0, r1, r2⟩ := kmb_x hl (K.2 y1)
        have n11 := n_nat r0
        have ll : (pGo n w BL (s.1 j)).2.length ≤ _ := Rg.2.2.1
        exact ⟨(O y1 k (by omega) (by omega)).2, r0⟩
      · have e : (pGo n w BL (s.1 j)).2 = [] := fGo_e y1
        rw [e] at b
        exact absurd b (by show ¬ k < _ + 0; omega)
    intro i hi
    by_cases c : i = j
    · subst c
      refine ⟨?_, ?_, ?_⟩
      · show Km w BL nb rw (if i = i then _ else _)
        rw [if_pos rfl]
        exact KG
      · show (if i = i then (pGo n w BL (s.1 i)).1 else s.1 i) 0 = _
        rw [if_pos rfl]
        exact (Rg.1 0 (by decide)).trans e0
      · show (if i = i then (pGo n w BL (s.1 i)).1 else s.1 i) 4 = 1 → ∀ k : Nat, ((if i = i then (pGo n w BL (s.1 i)).1 else s.1 i) 11).toInt ≤ (k : Int) → (k : Int) < ((if i = i then (pGo n w BL (s.1 i)).1 else s.1 i) 12).toInt → rz Prod.fst (s.1 i 11).toNatClampNeg (pGo n w BL (s.1 i)).2 s.2.1 k = 0 ∧ own k = Int32.ofNat i
        rw [if_pos rfl]
        intro z4 k ka kb
        rw [e12] at kb
        by_cases y1 : s.1 i 4 = 1
        · obtain ⟨i', _, _, b8, hd, e9, _, r0, r1, r2⟩ := kmb_x hl (K.2 y1)
          have ll : (pGo n w BL (s.1 i)).2.length ≤ _ := Rg.2.2.1
          have n11 := n_nat r0
          have z : (s.1 i 11 + Int32.ofNat (pGo n w BL (s.1 i)).2.length).toInt = (s.1 i 11).toInt + ((pGo n w BL (s.1 i)).2.length : Int) := by rw [tx_add (by rw [on_j (by omega)]; omega) (by rw [on_j (by omega)]; omega), on_j (by omega)]
          rw [e11, z] at ka
          rw [rz_o Prod.fst _ _ _ k (Or.inr (by omega))]
          exact O y1 k (by omega) kb
        · exfalso
          have q := (KG.2 z4)
          have f : (pGo n w BL (s.1 i)).1 4 ≠ 1 := by
            unfold pGo fGo
            rw [if_neg y1]
            split
            · show fFree (fCm (s.1 i)) 4 ≠ 1
              unfold fFree
              rw [up1_ne (by decide), up1_at]
              decide
            · split
              · rename_i y2 y3
                show fDr n w (fCm (s.1 i)) 4 ≠ 1
                have c4 : fCm (s.1 i) 4 = 3 := by
                  unfold fCm
                  split
                  · rw [up1_ne (by decide)]; exact y3
                  · rw [up1_ne (by decide), up1_ne (by decide), up1_ne (by decide)]; exact y3
                unfold fDr
                split
                · rw [sOut_k (by decide) (by decide) (by decide), c4]; decide
                · split
                  · rw [up1_ne (by decide), c4]; decide
                  · unfold fHome
                    split
                    · rw [sOut_k (by decide) (by decide) (by decide), up1_at]; decide
                    · unfold fFree
                      rw [up1_ne (by decide), up1_at]; decide
              · show fCm (s.1 i) 4 ≠ 1
                have c4 : fCm (s.1 i) 4 = s.1 i 4 := by
                  unfold fCm
                  split
                  · rw [up1_ne (by decide)]
                  · rw [up1_ne (by decide), up1_ne (by decide), up1_ne (by decide)]
                rw [c4]
                exact y1
          exact f z4
    · obtain ⟨Ki, ei, Oi⟩ := H i hi
      refine ⟨?_, ?_, ?_⟩
      · show Km w BL nb rw (if i = j then _ else _)
        rw [if_neg c]
        exact Ki
      · show (if i = j then (pGo n w BL (s.1 j)).1 else s.1 i) 0 = _
        rw [if_neg c]
        exact ei
      · show (if i = j then (pGo n w BL (s.1 j)).1 else s.1 i) 4 = 1 → ∀ k : Nat, ((if i = j then (pGo n w BL (s.1 j)).1 else s.1 i) 11).toInt ≤ (k : Int) → (k : Int) < ((if i = j then (pGo n w BL (s.1 j)).1 else s.1 i) 12).toInt → rz Prod.fst (s.1 j 11).toNatClampNeg (pGo n w BL (s.1 j)).2 s.2.1 k = 0 ∧ own k = Int32.ofNat i
        rw [if_neg c]
        intro z4 k ka kb
        have q := Oi z4 k ka kb
        refine ⟨?_, q.2⟩
        by_cases cr : (s.1 j 11).toNatClampNeg ≤ k ∧ k < (s.1 j 11).toNatClampNeg + (pGo n w BL (s.1 j)).2.length
        · have o := (own' k cr.1 cr.2).1
          rw [q.2] at o
          have z := congrArg Int32.toInt o
          rw [on_j (by omega), on_j (by omega)] at z
          exact absurd (by omega) c
        · rw [rz_o Prod.fst _ _ _ k (by omega)]
          exact q.1
  · rw [if_neg y]
    exact H
theorem pI_men {lP : Nat → Int32 → (Nat → Int32) → β → β} {tB : Int32 → Int32 → β → β} {n : Int32} {w : Int32 → Int32 → Int32} {BL : Nat → List Sp3} {nb rw m : Nat} {own : Nat → Int32} (W : WOk w) (hb : ∀ k x, k < nb → x ∈ BL k → stR x) (hl : ∀ k, k < nb → (BL k).length ≤ 150) (r4 : rw ≤ 400) (p0 : 0 ≤ n.toInt) (m12 : m ≤ 12) : ∀ (j : Nat) {s : Pst β}, j ≤ m → pI w BL nb rw own m s → pI w BL nb rw own m (pMen lP tB n w BL j s)
  | 0, _, _, H => H
  | j + 1, _, hj, H => pI_man W hb hl r4 p0 (pI_men W hb hl r4 p0 m12 j (by omega) H) (by omega) m12
theorem pI_tk {lP : Nat → Int32 → (Nat → Int32) → β → β} {tB : Int32 → Int32 → β → β} {nB : Int32 → (Nat → Int32) → β → β} {n : Int32} {w : Int32 → Int32 → Int32} {BL : Nat → List Sp3} {nb rw m : Nat} {own : Nat → Int32} (W : WOk w) (hb : ∀ k x, k < nb → x ∈ BL k → stR x) (hl : ∀ k, k < nb → (BL k).length ≤ 150) (r4 : rw ≤ 400) (p0 : 0 ≤ n.toInt ∧ n.toInt ≤ 20000) (m12 : m ≤ 12) : ∀ (i : Nat) {s : Pst β}, i ≤ 20000 → pI w BL nb rw own m s → pI w BL nb rw own m (pTk lP tB nB w BL m n i s)
  | 0, _, _, H => H
  | i + 1, _, hi, H => pI_men W hb hl r4 (by rw [tx_add (by rw [on_j (by omega)]; omega) (by rw [on_j (by omega)]; omega), on_j (by omega)]; omega) m12 m (Nat.le_refl _) (pI_tk W hb hl r4 p0 m12 i (by omega) H)
end MEN
theorem c_mkH1 (d : Nat) {h : Hp_} (I : Iv h) {c N n : Nat} (hc : h_r h 0 15 = some c) (hs : h_sh h c = some (3, N)) (hN : N ≤ 20000) (hn : N < n) (hn2 : n ≤ 20000) : Cv (m_X11_makeHistory (d + 2) 1 (hwant n N)) [.ref 0, .int (Int32.ofNat n)] h (fun h' => Iv h' ∧ Mf [15] h h' ∧ h_i h' 0 = h_i h 0 ∧ ∃ c', h_r h' 0 15 = some c' ∧ h_sh h' c' = some (3, hwant n N)) := by
  have w := I.1
  have e1 := on_i hN
  have e2 := on_i (n := n) (by omega)
  have t2 : (2 : Int32).toInt = 2 := rfl
  have t20 : (20000 : Int32).toInt = 20000 := rfl
  have lW : hwant n N ≤ 20000 := by unfold hwant; omega
  have gW : N < hwant n N := by unfold hwant; omega
  have eW := on_i lW
  obtain ⟨g, g1, g2, g3⟩ := I.2.2.2.2.2.2.2.1 c N hc hs
  have k15 : g ≤ 15 := by
    rcases Nat.lt_or_ge 15 g with y | y
    · exfalso
      have p : 2 ^ 15 ≤ 2 ^ (g - 1) := Nat.pow_le_pow_right (by omega) (by omega)
      rw [pw15] at p
      rcases g2 with q | q | q
      · omega
      · omega
      · omega
    · exact y
  have hgW : 2 ^ g ≤ hwant n N ∨ hwant n N = 20000 := by
    rcases g2 with q | q | q
    · left; rw [q]; show 1 ≤ _; omega
    · rcases Nat.lt_or_ge 20000 (2 * N) with y | y
      · right; unfold hwant; omega
      · left
        rcases Nat.eq_zero_or_pos g with u | u
        · rw [u]; show 1 ≤ _; omega
        · have : 2 ^ g = 2 * 2 ^ (g - 1) := by rw [← Nat.pow_succ']; congr 1; omega
          rw [this]
          unfold hwant
          omega
    · omega
  have fb := g3 (420 + g) (Nat.le_refl _) (by omega)
  refine Ct.of (fun _ _ _ => trivial) pn_X11 (Nat.le_of_ble_eq_true rfl) ?_
  show AW (m_X11_makeHistory (d + 2) 1 (hwant n N)) 0 0 0 [(0, .ref 0), (1, .int (Int32.ofNat n))] [] h (kV _)
  refine aw_iload_n (i := 1) rfl d_X11_makeHistory_0 1 rfl ?_
  refine aw_aload_n (i := 0) rfl d_X11_makeHistory_1 0 rfl ?_
  refine aw_getr (k0 := 15) kc_11 (ws_0 w) (Nat.le_of_ble_eq_true rfl) tw_502 d_X11_makeHistory_2 rfl hc ?_
  refine aw_alen (t := 3) (n := N) (v := Int32.ofNat N) hs (by decide) rfl d_X11_makeHistory_5 ?_
  refine aw_icmp_le (tgt := 39) d_X11_makeHistory_6 rfl (fun y => by have := q_le.mp y; omega) (fun _ => ?_)
  refine aw_iload_n (i := 1) rfl d_X11_makeHistory_9 1 rfl ?_
  refine aw_iconst (v := 2) d_X11_makeHistory_10 ic_2 ?_
  refine aw_aload_n (i := 0) rfl d_X11_makeHistory_11 0 rfl ?_
  refine aw_getr (k0 := 15) kc_11 (ws_0 w) (Nat.le_of_ble_eq_true rfl) tw_502 d_X11_makeHistory_12 rfl hc ?_
  refine aw_alen (t := 3) (n := N) (v := Int32.ofNat N) hs (by decide) rfl d_X11_makeHistory_15 ?_
  refine aw_imul d_X11_makeHistory_16 ?_
  have em : (2 * Int32.ofNat N).toInt = 2 * (N : Int) := by rw [tx_mul (by rw [t2]; omega) (by rw [t2]; omega), t2, e1]
  refine aw_sipush (v := 20000) d_X11_makeHistory_17 is_20000 ?_
  refine aw_mmin d_X11_makeHistory_20 tw_999 (show 1 ≤ d + 2 by omega) (Nat.le_trans (Nat.le_of_ble_eq_true rfl) (show 100 ≤ 100 * (d + 2) by omega)) ⟨Nat.zero_le _, Nat.zero_le _⟩ ?_
  refine aw_mmax d_X11_makeHistory_23 tw_1000 (show 1 ≤ d + 2 by omega) (Nat.le_trans (Nat.le_of_ble_eq_true rfl) (show 100 ≤ 100 * (d + 2) by omega)) ⟨Nat.zero_le _, Nat.zero_le _⟩ ?_
  refine aw_vi (v2 := Int32.ofNat (hwant n N)) (by
    refine Int32.toInt_inj.mp ?_
    rw [eW]
    unfold hwant
    split
    · rename_i y
      have y := q_lt.mp y
      split
      · rename_i z
        have z := q_lt.mp z
        omega
      · rename_i z
        have z := q_nlt z
        omega
    · rename_i y
      have y := q_nlt y
      split
      · rename_i z
        have z := q_lt.mp z
        omega
      · rename_i z
        have z := q_nlt z
        omega) ?_
  refine aw_istore_n (i := 2) rfl [(0, .ref 0), (1, .int (Int32.ofNat n)), (2, .int (Int32.ofNat (hwant n N)))] d_X11_makeHistory_26 (Nat.le_of_ble_eq_true rfl) rfl rfl ?_
  refine aw_aload_n (i := 0) rfl d_X11_makeHistory_27 0 rfl ?_
  refine aw_aload_n (i := 0) rfl d_X11_makeHistory_28 0 rfl ?_
  refine aw_getr (k0 := 15) kc_11 (ws_0 w) (Nat.le_of_ble_eq_true rfl) tw_502 d_X11_makeHistory_29 rfl hc ?_
  refine aw_iload_n (i := 2) rfl d_X11_makeHistory_32 2 rfl ?_
  refine aw_callS (vs := [.ref c, .int (Int32.ofNat (hwant n N))]) (rest := [.ref 0]) d_X11_makeHistory_33 (cS_J7_copyOf_c38d5 (d + 1) 1 (hwant n N)).1 (cS_J7_copyOf_c38d5 (d + 1) 1 (hwant n N)).2 tw_1001 rfl ⟨show d + 1 + 1 ≤ d + 2 by omega, show 8 + (3 + 11) + 100 * (d + 1) ≤ 100 * (d + 2) by omega⟩ (by decide) ⟨show 0 + 1 ≤ 1 by omega, show 0 + hwant n N ≤ hwant n N by omega⟩ xs0 (c_copyOf d hs fb (by omega) gW lW) (fun v h' kk => ?_)
  obtain ⟨ev, f, eh⟩ := kk
  rw [ev, eh]
  have s0 : h_sh (h_lw (h_nw h (420 + g) 3 (hwant n N)) (420 + g) f) 0 = some (21, 16) := by rw [h_sh_lw, y_sh, if_neg (by omega)]; exact ws_0 w
  refine aw_putr (k0 := 15) kc_11 s0 (Nat.le_of_ble_eq_true rfl) tw_502 d_X11_makeHistory_36 rfl rfl ?_
  have sh : ∀ a, h_sh (h_rm (h_lw (h_nw h (420 + g) 3 (hwant n N)) (420 + g) f) 0 15 (some (420 + g))) a = if a = 420 + g then some (3, hwant n N) else h_sh h a := fun a => by rw [h_sh_rm, h_sh_lw, y_sh]
  have hi : ∀ a k, a ≠ 420 + g → h_i (h_rm (h_lw (h_nw h (420 + g) 3 (hwant n N)) (420 + g) f) 0 15 (some (420 + g))) a k = h_i h a k := fun a k z => by
    rw [h_i_rm]
    show h_i (h_nw h (420 + g) 3 (hwant n N)) a k = _
    rw [y_i, if_neg z]
  have hr : ∀ a k, a ≠ 420 + g → ¬ (a = 0 ∧ k = 15) → h_r (h_rm (h_lw (h_nw h (420 + g) 3 (hwant n N)) (420 + g) f) 0 15 (some (420 + g))) a k = h_r h a k := fun a k z z2 => by
    rw [h_r_rm, if_neg z2]
    show h_r (h_nw h (420 + g) 3 (hwant n N)) a k = _
    rw [y_r, if_neg z]
  have h15 : h_r (h_rm (h_lw (h_nw h (420 + g) 3 (hwant n N)) (420 + g) f) 0 15 (some (420 + g))) 0 15 = some (420 + g) := by rw [h_r_rm, if_pos ⟨rfl, rfl⟩]
  exact aw_vret rfl d_X11_makeHistory_39 ⟨show 0 + 1 ≤ 1 by omega, show 0 + hwant n N ≤ hwant n N by omega⟩ ⟨rfl, Iv_hist I hc hs k15 hgW g3 lW (by omega) sh hi hr h15, ⟨fun k => hi 1 k (by omega), fun a h1 h2 k => hi a k (by omega), by rw [sh, if_neg (by omega)], fun a k ha hw => ⟨hi a k (by omega), hr a k (by omega) (fun z => by rw [z.1, z.2] at hw; exact absurd hw (by decide +kernel))⟩⟩, funext (fun k => hi 0 k (by omega)), 420 + g, h15, by rw [sh, if_pos rfl]⟩
/-! MEN, the class: the minutes of a tick -/
theorem tg_in (d mc ms kc ks : Nat) (hk : kc ≤ mc ∧ ks ≤ ms) (x1 x2 : Int32) (K : Option Value → Hp_ → Prop) (V : Nat → Hp_ → Prop) (m : Nat) (m12 : m ≤ 12) (hI : ∀ j h, V j h → Iv h ∧ h_i h 0 7 = Int32.ofNat m) (hr : ∀ j h, V j h → j < m → h_r h 15 j = some (401 + j) ∧ Cn h (401 + j)) (s0 : ∀ j h, V j h → j < m → ¬ h_i h (401 + j) 7 = h_i h 0 0 → V (j + 1) h) (s1 : ∀ j h, V j h → j < m → h_i h (401 + j) 7 = h_i h 0 0 → Cv (m_X11_goOn (d + 7) 0 0) [.ref 0, .ref (401 + j)] h (fun h' => V (j + 1) h')) (O : ∀ h, V m h → AW (m_X11_tick (d + 8) mc ms) kc ks 112 [(0, .ref 0), (1, .int x1), (2, .int x2)] [] h K) : ∀ (r j : Nat) (h : Hp_), j + r = m → V j h → AW (m_X11_tick (d + 8) mc ms) kc ks 67 [(0, .ref 0), (1, .int x1), (2, .int x2), (3, .int (Int32.ofNat j))] [] h K := by
  intro r
  induction r with
  | zero =>
    intro j h ej t
    have I := (hI j h t).1
    have e7 := (hI j h t).2
    have w := I.1
    have ej : j = m := by omega
    subst ej
    refine aw_iload_n (i := 3) rfl d_X11_tick_67 3 rfl ?_
    refine aw_aload_n (i := 0) rfl d_X11_tick_68 0 rfl ?_
    refine aw_geti (k0 := 7) kc_11 (ws_0 w) (Nat.le_of_ble_eq_true rfl) tw_494 d_X11_tick_69 rfl ?_
    refine aw_icmp_ge (tgt := 112) d_X11_tick_72 rfl (fun _ => aw_lvp [0, 1, 2] _ rfl (O h t)) (fun z => ?_)
    have z := q_nle z
    rw [e7] at z
    omega
  | succ r ih =>
    intro j h ej t
    have I := (hI j h t).1
    have e7 := (hI j h t).2
    have w := I.1
    have hj : j < m := by omega
    obtain ⟨q, hb⟩ := hr j h t hj
    have kj : (Int32.ofNat j).toNatClampNeg = j := on_k (by omega)
    refine aw_iload_n (i := 3) rfl d_X11_tick_67 3 rfl ?_
    refine aw_aload_n (i := 0) rfl d_X11_tick_68 0 rfl ?_
    refine aw_geti (k0 := 7) kc_11 (ws_0 w) (Nat.le_of_ble_eq_true rfl) tw_494 d_X11_tick_69 rfl ?_
    refine aw_icmp_ge (tgt := 112) d_X11_tick_72 rfl (fun z => ?_) (fun _ => ?_)
    · have z := q_le.mp z
      rw [e7, on_j (by omega), on_j (by omega)] at z
      omega
    · have on : ∀ (v : Value) (h' : Hp_), V (j + 1) h' → AW (m_X11_tick (d + 8) mc ms) kc ks 106 [(0, .ref 0), (1, .int x1), (2, .int x2), (3, .int (Int32.ofNat j)), (4, v)] [] h' K := by
        intro v h' t'
        refine aw_lvp [0, 1, 2, 3] [(0, .ref 0), (1, .int x1), (2, .int x2), (3, .int (Int32.ofNat j))] rfl ?_
        refine aw_iinc (v := (Int32.ofNat j + 1)) [(0, .ref 0), (1, .int x1), (2, .int x2), (3, .int (Int32.ofNat j + 1))] d_X11_tick_106 3 rfl rfl (Nat.le_of_ble_eq_true rfl) rfl rfl ?_
        refine aw_goto (tgt := 67) d_X11_tick_109 rfl ?_
        rw [on_s (by omega)]
        exact ih (j + 1) h' (by omega) t'
      refine aw_aload_n (i := 0) rfl d_X11_tick_75 0 rfl ?_
      refine aw_getr (k0 := 6) kc_11 (ws_0 w) (Nat.le_of_ble_eq_true rfl) tw_493 d_X11_tick_76 rfl (wr_0_6 w) ?_
      refine aw_iload_n (i := 3) rfl d_X11_tick_79 3 rfl ?_
      have hv : vp_in (Int32.ofNat j) 12 := on_in (by omega) (by decide)
      refine aw_aaldr (ws_15 w) hv (by rw [kj]; exact q) d_X11_tick_80 ?_
      refine aw_astore (i := 4) [(0, .ref 0), (1, .int x1), (2, .int x2), (3, .int (Int32.ofNat j)), (4, .ref (401 + j))] d_X11_tick_81 (Nat.le_of_ble_eq_true rfl) rfl rfl ?_
      refine aw_aload d_X11_tick_83 4 rfl ?_
      refine aw_ifnull d_X11_tick_85 ?_
      refine aw_aload d_X11_tick_88 4 rfl ?_
      refine aw_geti (k0 := 7) kc_2 hb.2.2 (Nat.le_of_ble_eq_true rfl) tw_587 d_X11_tick_90 rfl ?_
      refine aw_aload_n (i := 0) rfl d_X11_tick_93 0 rfl ?_
      refine aw_geti (k0 := 0) kc_11 (ws_0 w) (Nat.le_of_ble_eq_true rfl) tw_487 d_X11_tick_94 rfl ?_
      refine aw_icmp_ne (tgt := 106) d_X11_tick_97 rfl (fun z => on _ h (s0 j h t hj z)) (fun z => ?_)
      refine aw_aload_n (i := 0) rfl d_X11_tick_100 0 rfl ?_
      refine aw_aload d_X11_tick_101 4 rfl ?_
      refine aw_Vv 0 [.ref (401 + j)] [] d_X11_tick_103 (cV_X11_goOn (d + 7) 0 0) kc_11 (ws_0 w) tw_1015 rfl ⟨⟨show d + 7 + 1 ≤ d + 8 by omega, show 8 + (_ + 11) + 100 * (d + 7) ≤ 100 * (d + 8) from Nat.le_trans (Nat.add_le_add_right (Nat.le_of_ble_eq_true rfl : 8 + (_ + 11) ≤ 100) _) (by omega)⟩, hk.1, hk.2⟩ (Nat.le_of_ble_eq_true rfl) xs0 (s1 j h t hj z) (fun h' t' => on _ h' t')
theorem tg_out (d mc ms kc ks : Nat) (hk : kc ≤ mc ∧ ks ≤ ms) (x1 n0 : Int32) (c N k1 : Nat) (ex : x1 = Int32.ofNat k1) (k15 : k1 ≤ 1500) (p0 : 0 ≤ n0.toInt) (pN : n0.toInt + (k1 : Int) ≤ (N : Int)) (lN : N ≤ 20000) (U : Nat → Hp_ → Prop) (V : Nat → Nat → Hp_ → Prop) (m : Nat) (m12 : m ≤ 12)
    (hU : ∀ i h, U i h → Iv h ∧ h_r h 0 15 = some c ∧ h_sh h c = some (3, N) ∧ h_i h 0 0 = n0 + Int32.ofNat i)
    (mk : ∀ i h, U i h → i < k1 → Iv (h_im (h_lm h c (h_i h 0 0).toNatClampNeg (h_l h 0 14)) 0 0 (n0 + Int32.ofNat (i + 1))) → V i 0 (h_im (h_lm h c (h_i h 0 0).toNatClampNeg (h_l h 0 14)) 0 0 (n0 + Int32.ofNat (i + 1))))
    (fin : ∀ i h, V i m h → U (i + 1) h)
    (hI : ∀ i j h, V i j h → Iv h ∧ h_i h 0 7 = Int32.ofNat m) (hr : ∀ i j h, V i j h → j < m → h_r h 15 j = some (401 + j) ∧ Cn h (401 + j)) (s0 : ∀ i j h, V i j h → j < m → ¬ h_i h (401 + j) 7 = h_i h 0 0 → V i (j + 1) h) (s1 : ∀ i j h, i < k1 → V i j h → j < m → h_i h (401 + j) 7 = h_i h 0 0 → Cv (m_X11_goOn (d + 7) 0 0) [.ref 0, .ref (401 + j)] h (fun h' => V i (j + 1) h')) :
    ∀ (r i : Nat) (h : Hp_), i + r = k1 → U i h → AW (m_X11_tick (d + 8) mc ms) kc ks 37 [(0, .ref 0), (1, .int x1), (2, .int (Int32.ofNat i))] [] h (kI (fun q h' => U k1 h' ∧ q = h_i h' 0 0)) := by
  intro r
  induction r with
  | zero =>
    intro i h ei t
    have w := (hU i h t).1.1
    have ei : i = k1 := by omega
    subst ei
    refine aw_iload_n (i := 2) rfl d_X11_tick_37 2 rfl ?_
    refine aw_iload_n (i := 1) rfl d_X11_tick_38 1 rfl ?_
    refine aw_icmp_ge (tgt := 118) d_X11_tick_39 rfl (fun _ => ?_) (fun z => by have z := q_nle z; rw [ex] at z; omega)
    refine aw_aload_n (i := 0) rfl d_X11_tick_118 0 rfl ?_
    refine aw_geti (k0 := 0) kc_11 (ws_0 w) (Nat.le_of_ble_eq_true rfl) tw_487 d_X11_tick_119 rfl ?_
    exact aw_iret rfl d_X11_tick_122 hk ⟨_, rfl, t, rfl⟩
  | succ r ih =>
    intro i h ei t
    obtain ⟨I, hc, hs, ey⟩ := hU i h t
    have w := I.1
    have hi : i < k1 := by omega
    have oi := on_j (n := i) (by omega)
    have oi1 := on_j (n := i + 1) (by omega)
    have ok := on_j (n := k1) (by omega)
    have y0 : (n0 + Int32.ofNat i).toInt = n0.toInt + (i : Int) := by rw [tx_add (by omega) (by omega), oi]
    have y1 : (n0 + Int32.ofNat (i + 1)).toInt = n0.toInt + ((i + 1 : Nat) : Int) := by rw [tx_add (by omega) (by omega), oi1]
    have ys : n0 + Int32.ofNat i + 1 = n0 + Int32.ofNat (i + 1) := by rw [Int32.add_assoc, on_s (by omega)]
    refine aw_iload_n (i := 2) rfl d_X11_tick_37 2 rfl ?_
    refine aw_iload_n (i := 1) rfl d_X11_tick_38 1 rfl ?_
    refine aw_icmp_ge (tgt := 118) d_X11_tick_39 rfl (fun z => by have z := q_le.mp z; rw [ex] at z; omega) (fun _ => ?_)
    refine aw_aload_n (i := 0) rfl d_X11_tick_42 0 rfl ?_
    refine aw_getr (k0 := 15) kc_11 (ws_0 w) (Nat.le_of_ble_eq_true rfl) tw_502 d_X11_tick_43 rfl hc ?_
    refine aw_aload_n (i := 0) rfl d_X11_tick_46 0 rfl ?_
    refine aw_geti (k0 := 0) kc_11 (ws_0 w) (Nat.le_of_ble_eq_true rfl) tw_487 d_X11_tick_47 rfl ?_
    refine aw_aload_n (i := 0) rfl d_X11_tick_50 0 rfl ?_
    refine aw_getl (k0 := 14) kc_11 (ws_0 w) (Nat.le_of_ble_eq_true rfl) tw_501 d_X11_tick_51 rfl ?_
    refine aw_last hs (dp_in (lo := 0) (hi := (N : Int) - 1) ⟨by rw [ey]; show (0 : Int) ≤ _; omega, by rw [ey]; show _ ≤ (N : Int) - 1; omega⟩ (by omega) (by omega)) d_X11_tick_54 ?_
    have mk' := mk i h t hi
    have I1 : Iv (h_lm h c (h_i h 0 0).toNatClampNeg (h_l h 0 14)) := I.lm
    generalize hg : h_lm h c (h_i h 0 0).toNatClampNeg (h_l h 0 14) = h1 at I1 mk' ⊢
    have s1' : h_sh h1 = h_sh h := by rw [← hg]; rfl
    have i1 : h_i h1 = h_i h := by rw [← hg]; rfl
    have r1 : h_r h1 = h_r h := by rw [← hg]; rfl
    refine aw_aload_n (i := 0) rfl d_X11_tick_55 0 rfl ?_
    refine aw_dup d_X11_tick_56 rfl ?_
    refine aw_geti (k0 := 0) kc_11 (ws_0 I1.1) (Nat.le_of_ble_eq_true rfl) tw_487 d_X11_tick_57 rfl ?_
    refine aw_iconst (v := 1) d_X11_tick_60 ic_1 ?_
    refine aw_iadd d_X11_tick_61 ?_
    refine aw_vi (v2 := n0 + Int32.ofNat (i + 1)) (by rw [i1, ey, ys]) ?_
    refine aw_puti (k0 := 0) kc_11 (ws_0 I1.1) (Nat.le_of_ble_eq_true rfl) tw_487 d_X11_tick_62 rfl rfl nf_i ?_
    have I2 : Iv (h_im h1 0 0 (n0 + Int32.ofNat (i + 1))) := Iv_now I1 ⟨by show (0 : Int) ≤ _; omega, by show _ ≤ (20000 : Int); omega⟩ (fun c' N' a1 a2 => by
      rw [r1, hc] at a1
      cases a1
      rw [s1', hs] at a2
      cases a2
      omega)
    refine aw_iconst (v := 0) d_X11_tick_65 ic_0 ?_
    refine aw_istore_n (i := 3) rfl [(0, .ref 0), (1, .int x1), (2, .int (Int32.ofNat i)), (3, .int 0)] d_X11_tick_66 (Nat.le_of_ble_eq_true rfl) rfl rfl ?_
    refine tg_in d mc ms kc ks hk x1 (Int32.ofNat i) _ (V i) m m12 (hI i) (hr i) (s0 i) (fun j h t => s1 i j h hi t) (fun h' t' => ?_) m 0 _ (by omega) (mk' I2)
    refine aw_iinc (v := (Int32.ofNat i + 1)) [(0, .ref 0), (1, .int x1), (2, .int (Int32.ofNat i + 1))] d_X11_tick_112 2 rfl rfl (Nat.le_of_ble_eq_true rfl) rfl rfl ?_
    refine aw_goto (tgt := 37) d_X11_tick_115 rfl ?_
    rw [on_s (by omega)]
    exact ih (i + 1) h' (by omega) (fin i h' t')
/-! MEN, the class: tick -/
section MEN
variable {β : Type} {PB : β → Hp_ → Prop} {tB : Int32 → Int32 → β → β} {nB : Int32 → (Nat → Int32) → β → β} {lP : Nat → Int32 → (Nat → Int32) → β → β}
/-- a look, by what the class has -/
noncomputable def lXm (lP : Nat → Int32 → (Nat → Int32) → β → β) : Nat → Hp_ → β → β := fun c h b => lP (c - 401) (h_i h 0 0) (fun k => h_i h (401 + k) 5) b
/-- what else is kept as minutes pass, and as the row of history grows -/
noncomputable def PBtk {β : Type} (PB : β → Hp_ → Prop) (nB : Int32 → (Nat → Int32) → β → β) : Prop :=
  (∀ b h c N x, Iv h → h_r h 0 15 = some c → h_sh h c = some (3, N) → (h_i h 0 0).toInt < (N : Int) → PB b h → PB (nB (h_i h 0 0) (fun k => h_i h (401 + k) 5) b) (h_im (h_lm h c (h_i h 0 0).toNatClampNeg (h_l h 0 14)) 0 0 x)) ∧
  (∀ b h h', Iv h → Mf [15] h h' → h_i h' 0 = h_i h 0 → PB b h → PB b h')
/-- the class's men and rows are those of s -/
noncomputable def PcX (PB : β → Hp_ → Prop) (m : Nat) (s : Pst β) (h : Hp_) : Prop := (∀ j, j < m → h_i h (401 + j) = s.1 j) ∧ (h_i h 51 = s.2.1 ∧ h_i h 52 = s.2.2.1 ∧ h_i h 53 = s.2.2.2.1) ∧ PB s.2.2.2.2 h
/-- what a tick leaves as it is -/
noncomputable def Tw (m : Nat) (h0 h : Hp_) : Prop := h_sh h = h_sh h0 ∧ (∀ b k, inw (0 :: wgM) b k = false → h_r h b k = h_r h0 b k) ∧ ∀ b k, inw (0 :: wgM) b k = false → ¬ (401 ≤ b ∧ b < 401 + m) → h_i h b k = h_i h0 b k
theorem Tw.gw {m : Nat} {h0 h h' : Hp_} {c : Nat} (t : Tw m h0 h) (hc : 401 ≤ c ∧ c < 401 + m) (g : Gw c wgM h h') : Tw m h0 h' := ⟨g.1.trans t.1, fun b k o => by
  have o' : inw wgM b k = false := inw_sub (a := wgM) (b := 0 :: wgM) (by decide +kernel) o
  exact ((g.2 b k o').1).trans (t.2.1 b k o), fun b k o n => by
  have o' : inw wgM b k = false := inw_sub (a := wgM) (b := 0 :: wgM) (by decide +kernel) o
  rw [g.i b k (fun e => n (e ▸ hc)) o']
  exact t.2.2 b k o n⟩
/-- the steps of a man on a beat, as the class keeps them -/
theorem btk_of {h : Hp_} (I : Iv h) (S : ExS h) (B : ∀ k, k < (h_i h 12 3).toNatClampNeg → h_i h 35 k = h_i h 227 k) {rw : Nat} {M : Nat → Int32} (K : KmB (bL h) (h_i h 12 3).toNatClampNeg rw M) (er : (rw : Int) = (h_i h 16 7).toInt) : ∃ i, Btk h M i (pX (bL h) M).1 (pX (bL h) M).2 (decide (¬ M 6 = -1)) ∧ ((pX (bL h) M).1.1 = 3 → M 6 = -1) := by
  have b3 := x12_in I
  have n3 := n_nat b3.1
  obtain ⟨i, il, i150, b8, hd, e9, h6, r0, r1, r2⟩ := kmb_x (fun k hk => by rw [bL_l]; exact (z227 I k).1) K
  have n8 := n_nat b8.1
  have z := z227 I (M 8).toNatClampNeg
  rw [bL_l] at il
  refine ⟨i, ⟨⟨⟨b8.1, by omega⟩, ?_, fun k x e => ?_⟩, e9, by omega, ?_, r0, by omega, by omega⟩, fun e => h6 (Or.inr e)⟩
  · show i + ((pX (bL h) M).2.length + 1) ≤ 150
    omega
  · have g : (bL h (M 8).toNatClampNeg)[i + k]? = some x := by
      rw [← hd, List.getElem?_drop] at e
      exact e
    have lk : i + k < (bL h (M 8).toNatClampNeg).length := (List.getElem?_eq_some_iff.mp g).1
    rw [bL_l] at lk
    rw [bL_g lk] at g
    rw [← Option.some.inj g]
    exact S _ b8.2 _ lk
  · rw [B _ b8.2, il]
    exact (of_nat32 (by omega)).symm
/-- the minutes -/
noncomputable def Um (PB : β → Hp_ → Prop) (lP : Nat → Int32 → (Nat → Int32) → β → β) (tB : Int32 → Int32 → β → β) (nB : Int32 → (Nat → Int32) → β → β) (h1 : Hp_) (m : Nat) (n0 : Int32) (s : Pst β) (i : Nat) (h : Hp_) : Prop := Iv h ∧ Tw m h1 h ∧ h_i h 0 0 = n0 + Int32.ofNat i ∧ PcX PB m (pTk lP tB nB (wI h1) (bL h1) m n0 i s) h
noncomputable def Vm (PB : β → Hp_ → Prop) (lP : Nat → Int32 → (Nat → Int32) → β → β) (tB : Int32 → Int32 → β → β) (nB : Int32 → (Nat → Int32) → β → β) (h1 : Hp_) (m : Nat) (n0 : Int32) (s : Pst β) (i j : Nat) (h : Hp_) : Prop := Iv h ∧ Tw m h1 h ∧ h_i h 0 0 = n0 + Int32.ofNat (i + 1) ∧ PcX PB m (pMen lP tB (n0 + Int32.ofNat (i + 1)) (wI h1) (bL h1) j (pOv nB (n0 + Int32.ofNat i) (pTk lP tB nB (wI h1) (bL h1) m n0 i s))) h
/-- what a tick wants to know at its beginning -/
noncomputable def Tko (h : Hp_) (m : Nat) (s : Pst β) : Prop := ExP h ∧ ExS h ∧ (∀ k, k < (h_i h 12 3).toNatClampNeg → h_i h 35 k = h_i h 227 k) ∧ Mrw h ∧ h_i h 0 7 = Int32.ofNat m ∧ m ≤ 12 ∧ pI (wI h) (bL h) (h_i h 12 3).toNatClampNeg (h_i h 16 7).toNatClampNeg (h_i h 47) m s
theorem bL_hb {h : Hp_} (S : ExS h) : ∀ k x, k < (h_i h 12 3).toNatClampNeg → x ∈ bL h k → stR x := fun k x hk hx => by
  obtain ⟨i, hi, e⟩ := bL_m hx
  rw [e]
  exact (S k hk i hi).2
theorem bL_hl {h : Hp_} (I : Iv h) (nb : Nat) : ∀ k, k < nb → (bL h k).length ≤ 150 := fun k _ => by rw [bL_l]; exact (z227 I k).1
/-- one man wakes, the class -/
theorem vm_go (P : PBok PB tB (lXm lP)) (d : Nat) {h1 : Hp_} (I1 : Iv h1) {m : Nat} {s : Pst β} (T : Tko h1 m s) {n0 : Int32} (p0 : 0 ≤ n0.toInt ∧ n0.toInt ≤ 20000) {i j : Nat} (i2 : i < 20000) {h : Hp_} (V : Vm PB lP tB nB h1 m n0 s i j h) (hj : j < m) (yt : h_i h (401 + j) 7 = h_i h 0 0) (lc : ∀ b n f g, (∀ k, k < m → f k = g k) → lP j n f b = lP j n g b) : Cv (m_X11_goOn (d + 7) 0 0) [.ref 0, .ref (401 + j)] h (fun h' => Vm PB lP tB nB h1 m n0 s i (j + 1) h') := by
  obtain ⟨I, tw, en, pc⟩ := V
  obtain ⟨X, S, B, mr, em, m12, pi⟩ := T
  have t0 : (0 : Int32).toInt = 0 := rfl
  have r4 := rowX_in I1
  have nr := n_nat r4.1
  have W := wok I1 X
  have pj := pI_men (lP := lP) (tB := tB) (n := n0 + Int32.ofNat (i + 1)) (m := m) W (bL_hb S) (bL_hl I1 _) (show (h_i h1 16 7).toNatClampNeg ≤ 400 by omega) (by rw [tx_add (by rw [on_j (by omega)]; omega) (by rw [on_j (by omega)]; omega), on_j (by omega)]; omega) m12 j (s := pOv nB (n0 + Int32.ofNat i) (pTk lP tB nB (wI h1) (bL h1) m n0 i s)) (by omega) (pI_tk (nB := nB) W (bL_hb S) (bL_hl I1 _) (show (h_i h1 16 7).toNatClampNeg ≤ 400 by omega) p0 m12 i (by omega) pi)
  generalize hσ : pMen lP tB (n0 + Int32.ofNat (i + 1)) (wI h1) (bL h1) j (pOv nB (n0 + Int32.ofNat i) (pTk lP tB nB (wI h1) (bL h1) m n0 i s)) = σ at pc pj
  obtain ⟨pm, ⟨p51, p52, p53⟩, PBh⟩ := pc
  have hM := pm j hj
  obtain ⟨K, e0, O⟩ := pj j hj
  have b7 := menX_in I1
  rw [em, on_j (by omega)] at b7
  have ym : isM h1 (Int32.ofNat j) := ⟨by rw [on_j (by omega)]; omega, by rw [em, on_j (by omega), on_j (by omega)]; omega⟩
  have hc1 := mr.cn I1 ym
  rw [on_k (by omega)] at hc1
  have hc : Cn h (401 + j) := hc1.of tw.1
  have n00 : ¬ h_i h (401 + j) 4 = 0 := fun e => by
    rw [hM] at e yt
    have z := (K.1.2.2.2.1 e).2
    rw [z, en] at yt
    have z := congrArg Int32.toInt yt
    rw [tx_add (by rw [on_j (by omega)]; omega) (by rw [on_j (by omega)]; omega), on_j (by omega)] at z
    have tm : (-1 : Int32).toInt = -1 := rfl
    omega
  have f : ∀ b k, inw (0 :: wgM) b k = false → ¬ (401 ≤ b ∧ b < 401 + m) → h_i h b k = h_i h1 b k := tw.2.2
  have ew : wI h = wI h1 := by
    funext p q
    unfold wI
    rw [f 30 _ (off_inw (by decide +kernel) _) (by omega)]
  have z := c_go P d I hc PBh n00 (i := if h_i h (401 + j) 4 = 1 then (h_i h (401 + j) 9).toNatClampNeg else 0) (x := (pX (bL h1) (σ.1 j)).1) (L := (pX (bL h1) (σ.1 j)).2) (fun y1 => by
    rw [hM] at y1
    rw [hM, if_pos y1]
    obtain ⟨i', q, q3⟩ := btk_of I1 S B (rw := (h_i h1 16 7).toNatClampNeg) (K.2 y1) nr
    obtain ⟨Sb, e9, b8, e35, R⟩ := q
    have ll : i' + ((pX (bL h1) (σ.1 j)).2.length + 1) ≤ 150 := Sb.2.1
    have e9' : (σ.1 j 9).toNatClampNeg = i' := by rw [e9, on_k (by omega)]
    rw [e9']
    refine ⟨⟨Sb.cg (fun k => f 34 k (off_inw (by decide +kernel) k) (by omega)), e9, ?_, ?_, R.1, R.2.1, ?_⟩, q3⟩
    · rw [f 12 3 (by decide +kernel) (by omega)]
      exact b8
    · rw [f 35 _ (off_inw (by decide +kernel) _) (by omega)]
      exact e35
    · rw [f 16 7 (by decide +kernel) (by omega)]
      exact R.2.2)
  rw [en, ew, hM] at z
  rw [hM, en] at yt
  refine Cv.mono z (fun h' k => ?_)
  have kk := k.2.1.k (by omega)
  refine ⟨k.1, tw.gw ⟨by omega, by omega⟩ k.2.1, kk.2.1.trans en, ?_⟩
  show PcX PB m (pMan lP tB (n0 + Int32.ofNat (i + 1)) (wI h1) (bL h1) j (pMen lP tB (n0 + Int32.ofNat (i + 1)) (wI h1) (bL h1) j (pOv nB (n0 + Int32.ofNat i) (pTk lP tB nB (wI h1) (bL h1) m n0 i s)))) h'
  rw [hσ]
  unfold pMan
  rw [if_pos yt]
  refine ⟨fun l hl => ?_, ⟨?_, ?_, ?_⟩, ?_⟩
  · show h_i h' (401 + l) = if l = j then _ else _
    by_cases c : l = j
    · rw [if_pos c, c]
      exact k.2.2.1
    · rw [if_neg c, ← pm l hl]
      exact funext (fun i => k.2.1.i (401 + l) i (by omega) (inw_man (by omega) (by omega) i))
  · rw [k.2.2.2.1.1, p51]
    rfl
  · rw [k.2.2.2.1.2.1, p52]
    rfl
  · rw [k.2.2.2.1.2.2, p53]
    rfl
  · have q := k.2.2.2.2
    have eb : bL3 (lXm lP) (401 + j) (h_im h (401 + j) 7 (-1)) (pX (bL h1) (σ.1 j)).1 σ.2.2.2.2 = (if σ.1 j 4 = 1 ∧ (pX (bL h1) (σ.1 j)).1.1 = 3 then lP j (n0 + Int32.ofNat (i + 1)) (fun k => σ.1 k 5) σ.2.2.2.2 else σ.2.2.2.2) := by
      unfold bL3 lXm
      have e4 : h_i (h_im h (401 + j) 7 (-1)) (401 + j) 4 = σ.1 j 4 := by rw [im_row, up1_ne (by decide), hM]
      rw [e4, show 401 + j - 401 = j by omega, im_ne (show (0 : Nat) ≠ 401 + j by omega), en]
      by_cases c : σ.1 j 4 = 1 ∧ (pX (bL h1) (σ.1 j)).1.1 = 3
      · rw [if_pos c, if_pos c]
        refine lc _ _ _ _ (fun k hk => ?_)
        show h_i (h_im h (401 + j) 7 (-1)) (401 + k) 5 = σ.1 k 5
        by_cases ck : k = j
        · rw [ck, im_row, up1_ne (by decide), hM]
        · rw [im_ne (by omega), pm k hk]
      · rw [if_neg c, if_neg c]
    rw [eb] at q
    exact q
end MEN
/-! MEN, the class: tick, from its call -/
theorem inw_fx {c k : Nat} (h1 : 401 ≤ c) (h2 : c ≤ 412) (o : inw wsX c k = false) : fx k := by
  have e : cn c = cn 401 := by
    have q := cn_man (j := c - 401) (by omega)
    rw [show 401 + (c - 401) = c by omega] at q
    rw [q]
    decide
  rw [inw_ce e] at o
  refine ⟨?_, ?_, ?_, ?_, ?_, ?_, ?_, ?_⟩ <;> intro z <;> subst z <;> exact absurd o (by decide +kernel)
section MEN
variable {β : Type} {PB : β → Hp_ → Prop} {tB : Int32 → Int32 → β → β} {nB : Int32 → (Nat → Int32) → β → β} {lP : Nat → Int32 → (Nat → Int32) → β → β}
theorem fx_man {n : Int32} {w : Int32 → Int32 → Int32} {BL : Nat → List Sp3} {j l k : Nat} {s : Pst β} (hk : fx k) : (pMan lP tB n w BL j s).1 l k = s.1 l k := by
  unfold pMan
  by_cases y : s.1 j 7 = n
  · rw [if_pos y]
    show (if l = j then (pGo n w BL (s.1 j)).1 else s.1 l) k = s.1 l k
    by_cases c : l = j
    · rw [if_pos c, c]
      exact (Rk.go (n := n) (w := w)).1 k hk
    · rw [if_neg c]
  · rw [if_neg y]
theorem fx_men {n : Int32} {w : Int32 → Int32 → Int32} {BL : Nat → List Sp3} {l k : Nat} (hk : fx k) : ∀ (j : Nat) (s : Pst β), (pMen lP tB n w BL j s).1 l k = s.1 l k
  | 0, _ => rfl
  | j + 1, s => (fx_man hk).trans (fx_men hk j s)
theorem fx_tk {n : Int32} {w : Int32 → Int32 → Int32} {BL : Nat → List Sp3} {m l k : Nat} (hk : fx k) : ∀ (i : Nat) (s : Pst β), (pTk lP tB nB w BL m n i s).1 l k = s.1 l k
  | 0, _ => rfl
  | i + 1, s => (fx_men hk m _).trans (fx_tk hk i s)
theorem Tko.mf {h h1 : Hp_} {m : Nat} {s : Pst β} (M1 : Mf [15] h h1) (T : Tko h m s) : Tko h1 m s ∧ wI h1 = wI h ∧ bL h1 = bL h := by
  obtain ⟨X, S, B, mr, em, m12, pi⟩ := T
  have f : ∀ a k, a < 200 → inw [15] a k = false → h_i h1 a k = h_i h a k := fun a k ha o => (M1.2.2.2 a k (Or.inl ha) o).1
  have fr : ∀ a k, a < 200 → inw [15] a k = false → h_r h1 a k = h_r h a k := fun a k ha o => (M1.2.2.2 a k (Or.inl ha) o).2
  have ew : wI h1 = wI h := by
    funext p q
    unfold wI
    rw [f 30 _ (by omega) (off_inw (by decide +kernel) _)]
  have eb : bL h1 = bL h := by
    funext k
    unfold bL
    have es : sB h1 k = sB h k := by
      funext i
      unfold sB
      rw [M1.2.1 228 (by decide) (by decide), M1.2.1 229 (by decide) (by decide), M1.2.1 230 (by decide) (by decide)]
    rw [es, M1.2.1 227 (by decide) (by decide)]
  have e12 : h_i h1 12 3 = h_i h 12 3 := f 12 3 (by omega) (by decide +kernel)
  have e7 : h_i h1 0 7 = h_i h 0 7 := f 0 7 (by omega) (by decide +kernel)
  refine ⟨⟨X.mf M1 (by decide +kernel), S.mf M1 (by decide +kernel), fun k hk => ?_, fun k hk => ?_, e7.trans em, m12, ?_⟩, ew, eb⟩
  · rw [e12] at hk
    rw [f 35 k (by omega) (off_inw (by decide +kernel) k), M1.2.1 227 (by decide) (by decide)]
    exact B k hk
  · rw [e7] at hk
    rw [fr 15 k (by omega) (off_inw (by decide +kernel) k)]
    exact mr k hk
  · rw [ew, eb, e12, f 16 7 (by omega) (by decide +kernel), show h_i h1 47 = h_i h 47 from funext (fun k => f 47 k (by omega) (off_inw (by decide +kernel) k))]
    exact pi
/-- from the minutes to the frame that the law's loop wants -/
theorem um_mf {h h1 h' : Hp_} {m : Nat} {n0 : Int32} {s : Pst β} {i : Nat} (m12 : m ≤ 12) (M1 : Mf [15] h h1) (i1 : h_i h1 0 = h_i h 0) (mm : ∀ j, j < m → h_i h (401 + j) = s.1 j) (U : Um PB lP tB nB h1 m n0 s i h') : Mf wsX h h' := by
  obtain ⟨_, tw, _, pm, _⟩ := U
  refine ⟨fun k => ?_, fun a l1 l2 k => ?_, ?_, fun a k ha o => ⟨?_, ?_⟩⟩
  · rw [tw.2.2 1 k (off_inw (by decide +kernel) k) (by omega)]
    exact M1.1 k
  · rw [tw.2.2 a k ?_ (by omega)]
    · exact M1.2.1 a l1 l2 k
    · exact off_inw (by
        have z : ∀ a, 200 ≤ a → a < 300 → off (0 :: wgM) a = true := fun a x y => by
          have q : (List.range 100).all (fun i => off (0 :: wgM) (200 + i)) = true := by decide +kernel
          have r := List.all_eq_true.mp q (a - 200) (List.mem_range.mpr (by omega))
          rw [show 200 + (a - 200) = a by omega] at r
          exact r
        exact z a l1 l2) k
  · rw [tw.1]
    exact M1.2.2.1
  · rcases ha with ha | ha
    · have o1 : inw (0 :: wgM) a k = false := inw_sub (a := 0 :: wgM) (b := wsX) (by decide +kernel) o
      have o2 : inw [15] a k = false := inw_sub (a := [15]) (b := wsX) (by decide +kernel) o
      rw [tw.2.2 a k o1 (by omega)]
      exact (M1.2.2.2 a k (Or.inl ha) o2).1
    · have hk := inw_fx ha.1 ha.2 o
      have o2 : inw [15] a k = false := inw_sub (a := [15]) (b := wsX) (by decide +kernel) o
      have ea : a = 401 + (a - 401) := by omega
      rcases Nat.lt_or_ge (a - 401) m with u | u
      · have p := congrFun (pm (a - 401) u) k
        have q := congrFun (mm (a - 401) u) k
        rw [fx_tk hk] at p
        rw [← ea] at p q
        rw [p, q]
      · have o1 : inw (0 :: wgM) a k = false := by
          have e : cn a = cn 401 := by
            have q := cn_man (j := a - 401) (by omega)
            rw [show 401 + (a - 401) = a by omega] at q
            rw [q]
            decide
          rw [inw_ce e]
          exact off_inw (by decide +kernel) k
        rw [tw.2.2 a k o1 (by omega)]
        exact (M1.2.2.2 a k (Or.inr ha) o2).1
  · rcases ha with ha | ha
    · have o1 : inw (0 :: wgM) a k = false := inw_sub (a := 0 :: wgM) (b := wsX) (by decide +kernel) o
      have o2 : inw [15] a k = false := inw_sub (a := [15]) (b := wsX) (by decide +kernel) o
      rw [tw.2.1 a k o1]
      exact (M1.2.2.2 a k (Or.inl ha) o2).2
    · have o2 : inw [15] a k = false := inw_sub (a := [15]) (b := wsX) (by decide +kernel) o
      have o1 : inw (0 :: wgM) a k = false := by
        have e : cn a = cn 401 := by
          have q := cn_man (j := a - 401) (by omega)
          rw [show 401 + (a - 401) = a by omega] at q
          rw [q]
          decide
        rw [inw_ce e]
        exact off_inw (by decide +kernel) k
      rw [tw.2.1 a k o1]
      exact (M1.2.2.2 a k (Or.inr ha) o2).2
/-- tick: refused, or so many minutes -/
noncomputable def Tkx (PB : β → Hp_ → Prop) (lP : Nat → Int32 → (Nat → Int32) → β → β) (tB : Int32 → Int32 → β → β) (nB : Int32 → (Nat → Int32) → β → β) (m N' : Nat) (s : Pst β) (x : Int32) (h : Hp_) (r : Int32) (h' : Hp_) : Prop := (Iv h' ∧ Mf wsX h h' ∧ (∃ c', h_r h' 0 15 = some c' ∧ h_sh h' c' = some (3, N')) ∧ otk (h_i h 0 0) x r (h_i h' 0 0)) ∧ (okt (h_i h 0 0) x → h_i h' 0 0 = h_i h 0 0 + x ∧ PcX PB m (pTk lP tB nB (wI h) (bL h) m (h_i h 0 0) x.toNatClampNeg s) h' ∧ ∀ b k, b < 200 → inw (0 :: 15 :: wgM) b k = false → h_i h' b k = h_i h b k) ∧ (¬ okt (h_i h 0 0) x → h' = h)
theorem c_tkX (P : PBok PB tB (lXm lP)) (P2 : PBtk PB nB) (d : Nat) {h : Hp_} (I : Iv h) {m : Nat} {s : Pst β} (T : Tko h m s) (pc : PcX PB m s h) (lc : ∀ j, j < m → ∀ b n f g, (∀ k, k < m → f k = g k) → lP j n f b = lP j n g b) (nc : ∀ b n f g, (∀ k, k < m → f k = g k) → nB n f b = nB n g b) (x : Int32) {c N : Nat} (hc : h_r h 0 15 = some c) (hs : h_sh h c = some (3, N)) (hN : N ≤ 20000) : ∃ mc ms N', N' ≤ 20000 ∧ hcost mc ms N N' ∧ Ci (m_X11_tick (d + 8) mc ms) [.ref 0, .int x] h (Tkx PB lP tB nB m N' s x h) := by
  have w := I.1
  have t20 : (20000 : Int32).toInt = 20000 := rfl
  have t15 : (1500 : Int32).toInt = 1500 := rfl
  have t0 : (0 : Int32).toInt = 0 := rfl
  have nr := now_in I
  have n0 : 0 ≤ (h_i h 0 0).toInt := nr.1
  have n1 : (h_i h 0 0).toInt ≤ 20000 := nr.2
  by_cases ok : (0 ≤ x ∧ x ≤ 1500) ∧ (h_i h 0 0).toInt + x.toInt ≤ 20000
  · have x0 : 0 ≤ x.toInt := by have := q_le.mp ok.1.1; omega
    have x1 : x.toInt ≤ 1500 := by have := q_le.mp ok.1.2; omega
    have nx := n_nat x0
    have es : (h_i h 0 0 + x).toInt = (h_i h 0 0).toInt + x.toInt := tx_add (by omega) (by omega)
    have en : h_i h 0 0 + x = Int32.ofNat ((h_i h 0 0).toInt + x.toInt).toNat := by
      refine Int32.toInt_inj.mp ?_
      rw [on_i (by omega), es]
      omega
    have go : ∀ mc ms N' : Nat, N' ≤ 20000 → (h_i h 0 0).toInt + x.toInt ≤ (N' : Int) → Cv (m_X11_makeHistory (d + 7) mc ms) [.ref 0, .int (Int32.ofNat ((h_i h 0 0).toInt + x.toInt).toNat)] h (fun h' => Iv h' ∧ Mf [15] h h' ∧ h_i h' 0 = h_i h 0 ∧ ∃ c', h_r h' 0 15 = some c' ∧ h_sh h' c' = some (3, N')) →
        Ci (m_X11_tick (d + 8) mc ms) [.ref 0, .int x] h (Tkx PB lP tB nB m N' s x h) := by
      intro mc ms N' lN' gN' hm
      refine Ct.of (fun _ _ _ => trivial) rfl (Nat.le_of_ble_eq_true rfl) ?_
      show AW (m_X11_tick (d + 8) mc ms) 0 0 0 [(0, .ref 0), (1, .int x)] [] h (kI _)
      refine aw_iload_n (i := 1) rfl d_X11_tick_0 1 rfl ?_
      refine aw_iconst (v := 0) d_X11_tick_1 ic_0 ?_
      refine aw_sipush (v := 1500) d_X11_tick_2 is_1500 ?_
      refine aw_Si [.int x, .int 0, .int 1500] [] d_X11_tick_5 (cS_X11_within (d + 7) 0 0) tw_543 rfl ⟨⟨show d + 7 + 1 ≤ d + 8 by omega, show 8 + (3 + 11) + 100 * (d + 7) ≤ 100 * (d + 8) by omega⟩, Nat.zero_le _, Nat.zero_le _⟩ (by decide) xs0 (s_X11_within (d + 7) h x 0 1500) (fun _ _ kk => ?_)
      obtain ⟨e1, e2⟩ := kk
      rw [e1, e2]
      refine aw_ifb_eq (tgt := 23) d_X11_tick_8 rfl (fun z => absurd ok.1 z) (fun _ => ?_)
      refine aw_aload_n (i := 0) rfl d_X11_tick_11 0 rfl ?_
      refine aw_geti (k0 := 0) kc_11 (ws_0 w) (Nat.le_of_ble_eq_true rfl) tw_487 d_X11_tick_12 rfl ?_
      refine aw_iload_n (i := 1) rfl d_X11_tick_15 1 rfl ?_
      refine aw_iadd d_X11_tick_16 ?_
      refine aw_sipush (v := 20000) d_X11_tick_17 is_20000 ?_
      refine aw_icmp_le (tgt := 25) d_X11_tick_20 rfl (fun _ => ?_) (fun z => by have := q_nle z; omega)
      refine aw_aload_n (i := 0) rfl d_X11_tick_25 0 rfl ?_
      refine aw_aload_n (i := 0) rfl d_X11_tick_26 0 rfl ?_
      refine aw_geti (k0 := 0) kc_11 (ws_0 w) (Nat.le_of_ble_eq_true rfl) tw_487 d_X11_tick_27 rfl ?_
      refine aw_iload_n (i := 1) rfl d_X11_tick_30 1 rfl ?_
      refine aw_iadd d_X11_tick_31 ?_
      refine aw_vi (v2 := Int32.ofNat ((h_i h 0 0).toInt + x.toInt).toNat) en ?_
      refine aw_Vv 0 [.int (Int32.ofNat ((h_i h 0 0).toInt + x.toInt).toNat)] [] d_X11_tick_32 (cV_X11_makeHistory (d + 7) mc ms) kc_11 (ws_0 w) tw_995 rfl ⟨⟨show d + 7 + 1 ≤ d + 8 by omega, show 8 + (3 + 11) + 100 * (d + 7) ≤ 100 * (d + 8) by omega⟩, show 0 + 0 + mc ≤ mc by omega, show 0 + 0 + ms ≤ ms by omega⟩ (by decide) xs0 hm (fun h1 kk => ?_)
      obtain ⟨I1, M1, i1, c', r1, s1⟩ := kk
      refine aw_iconst (v := 0) d_X11_tick_35 ic_0 ?_
      refine aw_istore_n (i := 2) rfl [(0, .ref 0), (1, .int x), (2, .int 0)] d_X11_tick_36 (Nat.le_of_ble_eq_true rfl) rfl rfl ?_
      obtain ⟨T1, ew, eb⟩ := T.mf M1
      have m12 := T.2.2.2.2.2.1
      have fm : ∀ j, j < m → h_i h1 (401 + j) = h_i h (401 + j) := fun j hj => funext (fun k => (M1.2.2.2 (401 + j) k (Or.inr ⟨by omega, by omega⟩) (by
        have e : cn (401 + j) = cn 401 := (cn_man (by omega)).trans (by decide)
        rw [inw_ce e]
        exact off_inw (by decide +kernel) k)).1)
      have f5 : ∀ a, a = 51 ∨ a = 52 ∨ a = 53 → h_i h1 a = h_i h a := fun a ha => funext (fun k => (M1.2.2.2 a k (Or.inl (by omega)) (by rcases ha with e | e | e <;> subst e <;> exact off_inw (by decide +kernel) k)).1)
      have U0 : Um PB lP tB nB h1 m (h_i h 0 0) s 0 h1 := ⟨I1, ⟨rfl, fun _ _ _ => rfl, fun _ _ _ _ => rfl⟩, by rw [i1, i_0], fun j hj => (fm j hj).trans (pc.1 j hj), ⟨(f5 51 (Or.inl rfl)).trans pc.2.1.1, (f5 52 (Or.inr (Or.inl rfl))).trans pc.2.1.2.1, (f5 53 (Or.inr (Or.inr rfl))).trans pc.2.1.2.2⟩, P2.2 _ h h1 I M1 i1 pc.2.2⟩
      have bn : (0 : Int) ≤ (h_i h 0 0).toInt ∧ (h_i h 0 0).toInt ≤ 20000 := nr
      have mrw : ∀ (h2 : Hp_), Tw m h1 h2 → ∀ j, j < m → h_r h2 15 j = some (401 + j) ∧ Cn h2 (401 + j) := fun h2 tw j hj => by
        have em := T1.2.2.2.2.1
        have mr := T1.2.2.2.1
        have ym : isM h1 (Int32.ofNat j) := ⟨by rw [on_j (by omega)]; omega, by rw [em, on_j (by omega), on_j (by omega)]; omega⟩
        have hc1 := mr.cn I1 ym
        rw [on_k (by omega)] at hc1
        refine ⟨?_, hc1.of tw.1⟩
        rw [tw.2.1 15 j (off_inw (by decide +kernel) j)]
        exact mr j (by rw [em, on_j (by omega)]; omega)
      refine AW.mono (tg_out d mc ms _ _ ⟨show 0 + 0 + mc ≤ mc by omega, show 0 + 0 + ms ≤ ms by omega⟩ x (h_i h 0 0) c' N' x.toNatClampNeg (of_nat32 x0).symm (by omega) n0 (by omega) lN' (Um PB lP tB nB h1 m (h_i h 0 0) s) (Vm PB lP tB nB h1 m (h_i h 0 0) s) m m12 ?_ ?_ ?_ ?_ ?_ ?_ ?_ x.toNatClampNeg 0 h1 (by omega) U0) (fun v h' q => ?_)
      · intro i h2 U
        refine ⟨U.1, ?_, ?_, U.2.2.1⟩
        · rw [U.2.1.2.1 0 15 (by decide +kernel)]
          exact r1
        · rw [U.2.1.1]
          exact s1
      · intro i h2 U hi I2
        obtain ⟨Iu, tw, eu, pu, ⟨p51, p52, p53⟩, PBu⟩ := U
        have r2 : h_r h2 0 15 = some c' := by
          rw [tw.2.1 0 15 (by decide +kernel)]
          exact r1
        have s2 : h_sh h2 c' = some (3, N') := by
          rw [tw.1]
          exact s1
        have lt : (h_i h2 0 0).toInt < (N' : Int) := by
          rw [eu, tx_add (by rw [on_j (by omega)]; omega) (by rw [on_j (by omega)]; omega), on_j (by omega)]
          omega
        refine ⟨I2, ⟨tw.1, fun b k o => tw.2.1 b k o, fun b k o n => ?_⟩, im_at, fun j hj => ?_, ⟨?_, ?_, ?_⟩, ?_⟩
        · have nb : ¬ (b = 0 ∧ k = 0) := fun e => by
            rw [e.1, e.2] at o
            exact absurd o (by decide +kernel)
          rw [h_i_im, if_neg nb, h_i_lm]
          exact tw.2.2 b k o n
        · rw [im_oth (by omega), h_i_lm]
          exact pu j hj
        · rw [im_oth (by decide), h_i_lm]
          exact p51
        · rw [im_oth (by decide), h_i_lm]
          exact p52
        · rw [im_oth (by decide), h_i_lm]
          exact p53
        · have q := P2.1 _ h2 c' N' (h_i h 0 0 + Int32.ofNat (i + 1)) Iu r2 s2 lt PBu
          rw [nc _ _ _ (fun k => (pTk lP tB nB (wI h1) (bL h1) m (h_i h 0 0) i s).1 k 5) (fun k hk => by rw [pu k hk]), eu] at q
          rw [eu]
          exact q
      · intro i h2 V
        exact ⟨V.1, V.2.1, V.2.2.1, V.2.2.2⟩
      · intro i j h2 V
        refine ⟨V.1, ?_⟩
        rw [V.2.1.2.2 0 7 (by decide +kernel) (by omega)]
        exact T1.2.2.2.2.1
      · intro i j h2 V hj
        exact mrw h2 V.2.1 j hj
      · intro i j h2 V hj ny
        refine ⟨V.1, V.2.1, V.2.2.1, ?_⟩
        show PcX PB m (pMan lP tB (h_i h 0 0 + Int32.ofNat (i + 1)) (wI h1) (bL h1) j (pMen lP tB (h_i h 0 0 + Int32.ofNat (i + 1)) (wI h1) (bL h1) j (pOv nB (h_i h 0 0 + Int32.ofNat i) (pTk lP tB nB (wI h1) (bL h1) m (h_i h 0 0) i s)))) h2
        have q := V.2.2.2
        have e : (pMen lP tB (h_i h 0 0 + Int32.ofNat (i + 1)) (wI h1) (bL h1) j (pOv nB (h_i h 0 0 + Int32.ofNat i) (pTk lP tB nB (wI h1) (bL h1) m (h_i h 0 0) i s))).1 j 7 = h_i h2 (401 + j) 7 := by rw [q.1 j hj]
        unfold pMan
        rw [e, if_neg (by rw [← V.2.2.1]; exact ny)]
        exact q
      · intro i j h2 hi V hj yt
        exact vm_go P d I1 T1 bn (by omega) V hj yt (lc j hj)
      · obtain ⟨r, ev, U, er⟩ := q
        have okk : okt (h_i h 0 0) x := ok
        have ef : h_i h' 0 0 = h_i h 0 0 + x := by rw [U.2.2.1, of_nat32 x0]
        refine ⟨r, ev, ⟨U.1, um_mf m12 M1 i1 pc.1 U, ⟨c', by rw [U.2.1.2.1 0 15 (by decide +kernel)]; exact r1, by rw [U.2.1.1]; exact s1⟩, Or.inl ⟨ok, er, by rw [ef, es]⟩⟩, fun _ => ⟨ef, ?_, fun b k hb o => ?_⟩, fun n => absurd okk n⟩
        · have q := U.2.2.2
          rw [ew, eb] at q
          exact q
        · have o1 : inw (0 :: wgM) b k = false := inw_sub (a := 0 :: wgM) (b := 0 :: 15 :: wgM) (by decide +kernel) o
          have o2 : inw [15] b k = false := inw_sub (a := [15]) (b := 0 :: 15 :: wgM) (by decide +kernel) o
          rw [U.2.1.2.2 b k o1 (by omega)]
          exact (M1.2.2.2 b k (Or.inl hb) o2).1
    rcases Nat.lt_or_ge N ((h_i h 0 0).toInt + x.toInt).toNat with g | g
    · refine ⟨1, hwant ((h_i h 0 0).toInt + x.toInt).toNat N, hwant ((h_i h 0 0).toInt + x.toInt).toNat N, by unfold hwant; omega, Or.inr ⟨rfl, rfl, by unfold hwant; omega, by unfold hwant; omega⟩, go 1 _ _ (by unfold hwant; omega) (by unfold hwant; omega) ?_⟩
      exact c_mkH1 (d + 5) I hc hs hN g (by omega)
    · refine ⟨0, 0, N, hN, Or.inl ⟨rfl, rfl, rfl⟩, go 0 0 N hN (by omega) ?_⟩
      exact Cv.mono (c_makeHistory0 (d + 5) 0 0 I hc hs hN g) (fun h' e => by rw [e]; exact ⟨I, Mf.rf h, rfl, c, hc, hs⟩)
  · refine ⟨0, 0, N, hN, Or.inl ⟨rfl, rfl, rfl⟩, ?_⟩
    have nok : ¬ okt (h_i h 0 0) x := ok
    have bad : ∀ lv, AW (m_X11_tick (d + 8) 0 0) 0 0 23 lv [] h (kI (Tkx PB lP tB nB m N s x h)) := fun lv => by
      refine aw_iconst (v := -1) d_X11_tick_23 ic_m1 ?_
      exact aw_iret rfl d_X11_tick_24 ⟨Nat.le_refl _, Nat.le_refl _⟩ ⟨_, rfl, ⟨I, Mf.rf h, ⟨c, hc, hs⟩, Or.inr ⟨nok, rfl, rfl⟩⟩, fun o => absurd o nok, fun _ => rfl⟩
    refine Ct.of (fun _ _ _ => trivial) rfl (Nat.le_of_ble_eq_true rfl) ?_
    show AW (m_X11_tick (d + 8) 0 0) 0 0 0 [(0, .ref 0), (1, .int x)] [] h (kI _)
    refine aw_iload_n (i := 1) rfl d_X11_tick_0 1 rfl ?_
    refine aw_iconst (v := 0) d_X11_tick_1 ic_0 ?_
    refine aw_sipush (v := 1500) d_X11_tick_2 is_1500 ?_
    refine aw_Si [.int x, .int 0, .int 1500] [] d_X11_tick_5 (cS_X11_within (d + 7) 0 0) tw_543 rfl ⟨⟨show d + 7 + 1 ≤ d + 8 by omega, show 8 + (3 + 11) + 100 * (d + 7) ≤ 100 * (d + 8) by omega⟩, Nat.zero_le _, Nat.zero_le _⟩ (by decide) xs0 (s_X11_within (d + 7) h x 0 1500) (fun _ _ kk => ?_)
    obtain ⟨e1, e2⟩ := kk
    rw [e1, e2]
    refine aw_ifb_eq (tgt := 23) d_X11_tick_8 rfl (fun _ => bad _) (fun z => ?_)
    have x0 : 0 ≤ x.toInt := by have := q_le.mp z.1; omega
    have x1 : x.toInt ≤ 1500 := by have := q_le.mp z.2; omega
    have es : (h_i h 0 0 + x).toInt = (h_i h 0 0).toInt + x.toInt := tx_add (by omega) (by omega)
    refine aw_aload_n (i := 0) rfl d_X11_tick_11 0 rfl ?_
    refine aw_geti (k0 := 0) kc_11 (ws_0 w) (Nat.le_of_ble_eq_true rfl) tw_487 d_X11_tick_12 rfl ?_
    refine aw_iload_n (i := 1) rfl d_X11_tick_15 1 rfl ?_
    refine aw_iadd d_X11_tick_16 ?_
    refine aw_sipush (v := 20000) d_X11_tick_17 is_20000 ?_
    refine aw_icmp_le (tgt := 25) d_X11_tick_20 rfl (fun y => ?_) (fun _ => bad _)
    have y := q_le.mp y
    exact absurd ⟨z, by omega⟩ ok
end MEN
end
section
/-! MEN, the reference: tick -/
theorem rq_i (g : Ev2 → Option Int32) : ∀ (E : List Ev2) (r : Nat) (f : Nat → Int32) (j : Nat) (e : Ev2), E[j]? = some e → rq g r E f (r + j) = (g e).getD (f (r + j))
  | [], _, _, _, _, h => by cases h
  | x :: E, r, f, 0, e, h => by
    have h : some x = some e := h
    show rq g (r + 1) E (match g x with | some v => up1 f r v | none => f) (r + 0) = _
    rw [rq_o g E (r + 1) _ (r + 0) (by omega), Option.some.inj h]
    cases g e with
    | none => rfl
    | some v => exact up1_at
  | x :: E, r, f, j + 1, e, h => by
    have h : E[j]? = some e := h
    show rq g (r + 1) E (match g x with | some v => up1 f r v | none => f) (r + (j + 1)) = _
    rw [show r + (j + 1) = r + 1 + j by omega, rq_i g E (r + 1) _ j e h]
    congr 1
    cases g x with
    | none => rfl
    | some v => exact up1_ne (by omega)
/-- a row's standing: class (o, t, c), reference (a, b, e) -/
noncomputable def stt (o t c a b e : Int32) : Prop := (o = 0 ∧ a = -1 ∧ b = -1) ∨ (o = 1 ∧ a = t ∧ b = -1 ∧ 0 ≤ t.toInt) ∨ (o = 2 ∧ a = -1 ∧ b = t ∧ e = c ∧ 0 ≤ t.toInt)
/-- events on open rows keep the standing -/
theorem stt_ev {n : Int32} (p0 : 0 ≤ n.toInt) {E : List Ev2} (he : ∀ e ∈ E, e.1 = 1 ∨ e.1 = 2) {r : Nat} {fo ft fc fa fb fe : Nat → Int32} {k : Nat} (h : stt (fo k) (ft k) (fc k) (fa k) (fb k) (fe k)) (op : r ≤ k → k < r + E.length → fo k = 0) : stt (rz Prod.fst r E fo k) (rz (fun _ => n) r E ft k) (rz Prod.snd r E fc k) (rq (gM n) r E fa k) (rq (gS n) r E fb k) (rq gC r E fe k) := by
  by_cases c : r ≤ k ∧ k < r + E.length
  · have o := op c.1 c.2
    have ab : fa k = -1 ∧ fb k = -1 := by
      rcases h with z | z | z
      · exact ⟨z.2.1, z.2.2⟩
      · rw [o] at z
        exact absurd z.1 (by decide)
      · rw [o] at z
        exact absurd z.1 (by decide)
    have l : k - r < E.length := by omega
    have g : E[k - r]? = some (E[k - r]'l) := List.getElem?_eq_getElem l
    have m := he _ (List.getElem_mem l)
    generalize E[k - r]'l = e at g m
    have q1 := rz_i Prod.fst E r fo (k - r) e g
    have q2 := rz_i (fun _ => n) E r ft (k - r) e g
    have q3 := rz_i Prod.snd E r fc (k - r) e g
    have q4 := rq_i (gM n) E r fa (k - r) e g
    have q5 := rq_i (gS n) E r fb (k - r) e g
    have q6 := rq_i gC E r fe (k - r) e g
    rw [show r + (k - r) = k by omega] at q1 q2 q3 q4 q5 q6
    rw [q1, q2, q3, q4, q5, q6]
    unfold gM gS gC
    rcases m with m | m
    · rw [if_pos m, if_pos m, if_pos m]
      exact Or.inr (Or.inl ⟨m, rfl, ab.2, p0⟩)
    · rw [if_neg (by rw [m]; decide), if_neg (by rw [m]; decide), if_neg (by rw [m]; decide)]
      exact Or.inr (Or.inr ⟨m, ab.1, rfl, rfl, p0⟩)
  · rw [rz_o _ E r fo k (by omega), rz_o _ E r ft k (by omega), rz_o _ E r fc k (by omega), rq_o _ E r fa k (by omega), rq_o _ E r fb k (by omega), rq_o _ E r fe k (by omega)]
    exact h
noncomputable def wtM : List Nat := 1000 :: 220999 :: mwR
/-- the places of a minute as the reference keeps them -/
noncomputable def Hst (m : Nat) (h h' : Hp_) : Prop := (∀ j, j < m → h_i h' 220 (20001 * j + (h_i h 1 0).toNatClampNeg) = vp_nar .byte ((h_i h 209 j).toInt8.toInt32)) ∧ ∀ k, (∀ j, j < m → k ≠ 20001 * j + (h_i h 1 0).toNatClampNeg) → h_i h' 220 k = h_i h 220 k
section MEN
variable {β : Type} {PM : β → Hp_ → Prop} {tB : Int32 → Int32 → β → β} {nB : Int32 → (Nat → Int32) → β → β} {lP : Nat → Int32 → (Nat → Int32) → β → β}
noncomputable def lR (lP : Nat → Int32 → (Nat → Int32) → β → β) : Nat → Hp_ → β → β := fun j h b => lP j (h_i h 1 0) (fun k => h_i h 209 k) b
/-- what else is kept as minutes pass -/
noncomputable def PMtk {β : Type} (PM : β → Hp_ → Prop) (nB : Int32 → (Nat → Int32) → β → β) (m : Nat) : Prop := ∀ b h h' x, Iv h → Fr [220999] h h' → Hst m h h' → PM b h → PM (nB (h_i h 1 0) (fun k => h_i h 209 k) b) (h_im h' 1 0 x)
/-- the reference's men and rows are those of s -/
noncomputable def PcM (PM : β → Hp_ → Prop) (m rw : Nat) (s : Pst β) (h : Hp_) : Prop := (∀ j, j < m → RMp j (s.1 j) h) ∧ (∀ k, k < rw → stt (s.2.1 k) (s.2.2.1 k) (s.2.2.2.1 k) (h_i h 241 k) (h_i h 242 k) (h_i h 243 k)) ∧ PM s.2.2.2.2 h
theorem m_wk0 (d : Nat) {h : Hp_} (I : Iv h) {x1 : Int32} (hx : 0 ≤ x1.toInt ∧ x1.toInt ≤ 11) (n7 : ¬ h_i h 211 x1.toNatClampNeg = h_i h 1 0) : Cv (m_X12_wake (d + 9) 0 0) [.ref 1, .int x1] h (fun h' => h' = h) := t_X12_wake d h I.1 x1 _ ⟨v12 hx, fun y => absurd y n7, fun _ => rfl⟩
/-- what a tick of the reference wants to know at its beginning -/
noncomputable def Tkn (h : Hp_) (m rw : Nat) (s : Pst β) : Prop := ExP h ∧ (∀ k, k < (h_i h 1 42).toNatClampNeg → ∀ i, i < (h_i h 227 k).toNatClampNeg → stR (sB h k i)) ∧ h_i h 1 7 = Int32.ofNat m ∧ m ≤ 12 ∧ rw ≤ 400 ∧ (∃ own, pI (wI h) (bL h) (h_i h 1 42).toNatClampNeg rw own m s)
theorem stm_of {h : Hp_} (I : Iv h) (S : ∀ k, k < (h_i h 1 42).toNatClampNeg → ∀ i, i < (h_i h 227 k).toNatClampNeg → stR (sB h k i)) {rw : Nat} (r4 : rw ≤ 400) {M : Nat → Int32} (K : KmB (bL h) (h_i h 1 42).toNatClampNeg rw M) : ∃ i, (Stm h (M 8) i ((pX (bL h) M).1 :: (pX (bL h) M).2) ∧ M 9 = Int32.ofNat i ∧ h_i h 227 (M 8).toNatClampNeg = Int32.ofNat (i + ((pX (bL h) M).2.length + 1)) ∧ 0 ≤ (M 11).toInt ∧ (M 11).toInt + (((if (pX (bL h) M).1.1 = 2 ∧ decide (¬ M 6 = -1) = true then 1 else 0) + mts (pX (bL h) M).2 : Nat) : Int) ≤ 400) ∧ ((pX (bL h) M).1.1 = 3 → M 6 = -1) := by
  have r42 := I.2.1 1 42
  rw [show tf 1 42 = (0, 12) by decide +kernel] at r42
  have b0 : 0 ≤ (h_i h 1 42).toInt := r42.1
  have b1 : (h_i h 1 42).toInt ≤ 12 := r42.2
  have n42 := n_nat b0
  obtain ⟨i, il, i150, b8, hd, e9, h6, r0, r1, r2⟩ := kmb_x (fun k hk => by rw [bL_l]; exact (z227 I k).1) K
  have n8 := n_nat b8.1
  have z := z227 I (M 8).toNatClampNeg
  rw [bL_l] at il
  refine ⟨i, ⟨⟨⟨b8.1, by omega⟩, ?_, fun k x e => ?_⟩, e9, ?_, r0, by omega⟩, fun e => h6 (Or.inr e)⟩
  · show i + ((pX (bL h) M).2.length + 1) ≤ 150
    omega
  · have g : (bL h (M 8).toNatClampNeg)[i + k]? = some x := by
      rw [← hd, List.getElem?_drop] at e
      exact e
    have lk : i + k < (bL h (M 8).toNatClampNeg).length := (List.getElem?_eq_some_iff.mp g).1
    rw [bL_l] at lk
    rw [bL_g lk] at g
    have e := Option.some.inj g
    exact ⟨e, by rw [← e]; exact S _ b8.2 _ lk⟩
  · rw [il]
    exact (of_nat32 (by omega)).symm
noncomputable def Vn (PM : β → Hp_ → Prop) (lP : Nat → Int32 → (Nat → Int32) → β → β) (tB : Int32 → Int32 → β → β) (nB : Int32 → (Nat → Int32) → β → β) (h1 : Hp_) (m rw : Nat) (n0 : Int32) (s : Pst β) (i j : Nat) (h : Hp_) : Prop := Iv h ∧ Fr wtM h1 h ∧ h_i h 1 0 = n0 + Int32.ofNat (i + 1) ∧ PcM PM m rw (pMen lP tB (n0 + Int32.ofNat (i + 1)) (wI h1) (bL h1) j (pOv nB (n0 + Int32.ofNat i) (pTk lP tB nB (wI h1) (bL h1) m n0 i s))) h
noncomputable def Un (PM : β → Hp_ → Prop) (lP : Nat → Int32 → (Nat → Int32) → β → β) (tB : Int32 → Int32 → β → β) (nB : Int32 → (Nat → Int32) → β → β) (h1 : Hp_) (m rw : Nat) (n0 : Int32) (s : Pst β) (i : Nat) (h : Hp_) : Prop := Iv h ∧ Fr wtM h1 h ∧ h_i h 1 0 = n0 + Int32.ofNat i ∧ PcM PM m rw (pTk lP tB nB (wI h1) (bL h1) m n0 i s) h
theorem fr_wb {h1 h : Hp_} (f : Fr wtM h1 h) : wI h = wI h1 ∧ bL h = bL h1 ∧ (∀ k, sB h k = sB h1 k) := by
  have es : ∀ k, sB h k = sB h1 k := fun k => by
    funext i
    unfold sB
    rw [fr_i f (by decide +kernel), fr_i f (by decide +kernel), fr_i f (by decide +kernel)]
  refine ⟨?_, ?_, es⟩
  · funext p q
    unfold wI
    rw [fr_i f (by decide +kernel)]
  · funext k
    unfold bL
    rw [es, fr_i f (by decide +kernel)]
/-- one man wakes, the reference -/
theorem vn_wk (P : PMok PM tB (lR lP)) (d : Nat) {h1 : Hp_} (I1 : Iv h1) {m rw : Nat} {s : Pst β} (T : Tkn h1 m rw s) {n0 : Int32} (p0 : 0 ≤ n0.toInt ∧ n0.toInt ≤ 20000) {i j : Nat} (i2 : i < 20000) {h : Hp_} (V : Vn PM lP tB nB h1 m rw n0 s i j h) (hj : j < m) (lc : ∀ b n f g, (∀ k, k < m → f k = g k) → lP j n f b = lP j n g b) : Cv (m_X12_wake (d + 9) 0 0) [.ref 1, .int (Int32.ofNat j)] h (fun h' => Vn PM lP tB nB h1 m rw n0 s i (j + 1) h') := by
  obtain ⟨I, fw, en, pc⟩ := V
  obtain ⟨X, S, em, m12, r4, own, pi⟩ := T
  have W := wok I1 X
  have hb : ∀ k x, k < (h_i h1 1 42).toNatClampNeg → x ∈ bL h1 k → stR x := fun k x hk hx => by
    obtain ⟨q, hq, e⟩ := bL_m hx
    rw [e]
    exact S k hk q hq
  have pn : 0 ≤ (n0 + Int32.ofNat (i + 1)).toInt := by rw [tx_add (by rw [on_j (by omega)]; omega) (by rw [on_j (by omega)]; omega), on_j (by omega)]; omega
  have pj := pI_men (lP := lP) (tB := tB) (n := n0 + Int32.ofNat (i + 1)) (m := m) W hb (bL_hl I1 _) r4 pn m12 j (s := pOv nB (n0 + Int32.ofNat i) (pTk lP tB nB (wI h1) (bL h1) m n0 i s)) (by omega) (pI_tk (nB := nB) W hb (bL_hl I1 _) r4 p0 m12 i (by omega) pi)
  generalize hσ : pMen lP tB (n0 + Int32.ofNat (i + 1)) (wI h1) (bL h1) j (pOv nB (n0 + Int32.ofNat i) (pTk lP tB nB (wI h1) (bL h1) m n0 i s)) = σ at pc pj
  obtain ⟨pm, pr, PMh⟩ := pc
  obtain ⟨K, e0, O⟩ := pj j hj
  have kj : (Int32.ofNat j).toNatClampNeg = j := on_k (by omega)
  have hx : 0 ≤ (Int32.ofNat j).toInt ∧ (Int32.ofNat j).toInt ≤ 11 := by rw [on_j (by omega)]; omega
  have R := pm j hj
  obtain ⟨ew, eb, es⟩ := fr_wb fw
  have step : ∀ h', Vn PM lP tB nB h1 m rw n0 s i (j + 1) h' ↔ (Iv h' ∧ Fr wtM h1 h' ∧ h_i h' 1 0 = n0 + Int32.ofNat (i + 1) ∧ PcM PM m rw (pMan lP tB (n0 + Int32.ofNat (i + 1)) (wI h1) (bL h1) j σ) h') := fun h' => by
    unfold Vn
    show (Iv h' ∧ Fr wtM h1 h' ∧ h_i h' 1 0 = n0 + Int32.ofNat (i + 1) ∧ PcM PM m rw (pMan lP tB (n0 + Int32.ofNat (i + 1)) (wI h1) (bL h1) j (pMen lP tB (n0 + Int32.ofNat (i + 1)) (wI h1) (bL h1) j (pOv nB (n0 + Int32.ofNat i) (pTk lP tB nB (wI h1) (bL h1) m n0 i s)))) h') ↔ _
    rw [hσ]
  by_cases yt : σ.1 j 7 = n0 + Int32.ofNat (i + 1)
  · have X2 : ExP h := X.fr fw (by decide +kernel)
    have wk := m_wk P d (x1 := Int32.ofNat j) (M := σ.1 j) I X2 hx (by rw [kj]; exact R) PMh e0 (by rw [ew]; exact K.1) (fun p q a b => (wok I X2).2.2.2.1 _ _ _ a b) (fun p q a => (wok I X2).2.2.2.2 _ _ a) (i := if σ.1 j 4 = 1 then (σ.1 j 9).toNatClampNeg else 0) (x := (pX (bL h1) (σ.1 j)).1) (L := (pX (bL h1) (σ.1 j)).2) (fun y1 => by
      obtain ⟨i', q, q3⟩ := stm_of I1 S r4 (K.2 y1)
      have ll : i' + ((pX (bL h1) (σ.1 j)).2.length + 1) ≤ 150 := q.1.2.1
      have e9' : (σ.1 j 9).toNatClampNeg = i' := by rw [q.2.1, on_k (by omega)]
      rw [if_pos y1, e9']
      refine ⟨⟨q.1.cg es, q.2.1, ?_, q.2.2.2⟩, q3⟩
      rw [fr_i fw (by decide +kernel)]
      exact q.2.2.1) (by rw [en]; exact yt)
    rw [kj, en, ew] at wk
    refine Cv.mono wk (fun h' k => (step h').mpr ⟨k.1, fw.tr (k.2.1.1.more (by decide +kernel)), ?_, ?_⟩)
    · rw [k.2.1.k.2.1]
      exact en
    · unfold pMan
      rw [if_pos yt]
      refine ⟨fun l hl => ?_, fun q hq => ?_, ?_⟩
      · show RMp l (if l = j then _ else _) h'
        by_cases c : l = j
        · rw [if_pos c, c]
          exact k.2.2.1
        · rw [if_neg c]
          refine (pm l hl).cg (fun a ha => ?_)
          rcases List.mem_cons.mp ha with e | e
          · rw [e]
            exact k.2.1.k.2.2.1 l
          · exact k.2.1.2 a e l c
      · have Rg := Rk.go (n := n0 + Int32.ofNat (i + 1)) (w := wI h1) (x := (pX (bL h1) (σ.1 j)).1) (L := (pX (bL h1) (σ.1 j)).2) (M := σ.1 j)
        have z := stt_ev (n := n0 + Int32.ofNat (i + 1)) pn (E := (pGo (n0 + Int32.ofNat (i + 1)) (wI h1) (bL h1) (σ.1 j)).2) Rg.2.1 (r := (σ.1 j 11).toNatClampNeg) (pr q hq) (fun a b => by
          by_cases y1 : σ.1 j 4 = 1
          · obtain ⟨i', _, _, b8, hd, e9, _, r0, r1, r2⟩ := kmb_x (bL_hl I1 _) (K.2 y1)
            have n11 := n_nat r0
            have ll : (pGo (n0 + Int32.ofNat (i + 1)) (wI h1) (bL h1) (σ.1 j)).2.length ≤ _ := Rg.2.2.1
            exact (O y1 q (by omega) (by omega)).1
          · have e : (pGo (n0 + Int32.ofNat (i + 1)) (wI h1) (bL h1) (σ.1 j)).2 = [] := fGo_e y1
            rw [e] at b
            exact absurd b (by show ¬ q < _ + 0; omega))
        rw [k.2.2.2.1.1, k.2.2.2.1.2.1, k.2.2.2.1.2.2]
        exact z
      · have q := k.2.2.2.2
        have eb : (if σ.1 j 4 = 1 ∧ (pX (bL h1) (σ.1 j)).1.1 = 3 then lR lP j (h_im h 211 j (-1)) σ.2.2.2.2 else σ.2.2.2.2) = (if σ.1 j 4 = 1 ∧ (pX (bL h1) (σ.1 j)).1.1 = 3 then lP j (n0 + Int32.ofNat (i + 1)) (fun k => σ.1 k 5) σ.2.2.2.2 else σ.2.2.2.2) := by
          by_cases c : σ.1 j 4 = 1 ∧ (pX (bL h1) (σ.1 j)).1.1 = 3
          · rw [if_pos c, if_pos c]
            unfold lR
            rw [im_ne (by decide), en]
            refine lc _ _ _ _ (fun k hk => ?_)
            rw [im_ne (by decide)]
            exact (pm k hk).1.2.1
          · rw [if_neg c, if_neg c]
        rw [eb] at q
        exact q
  · have e7 : h_i h 211 (Int32.ofNat j).toNatClampNeg = σ.1 j 7 := by rw [kj]; exact R.1.2.2.2
    refine Cv.mono (m_wk0 d I hx (by rw [e7, en]; exact yt)) (fun h' e => (step h').mpr ?_)
    subst e
    refine ⟨I, fw, en, ?_⟩
    unfold pMan
    rw [if_neg yt]
    exact ⟨pm, pr, PMh⟩
end MEN
/-! MEN, the reference: the loops of a tick -/
/-- the base's account of the reference's men -/
theorem j2_of {β : Type} {h : Hp_} (I : Iv h) {m rw : Nat} {s : Pst β} {w : Int32 → Int32 → Int32} (em : h_i h 1 7 = Int32.ofNat m) (m12 : m ≤ 12) (r4 : rw ≤ 400) {own : Nat → Int32} (p : pI w (bL h) (h_i h 1 42).toNatClampNeg rw own m s) (R : ∀ j, j < m → RMp j (s.1 j) h) : J2 h := by
  intro c hc hm
  rw [em, on_j (by omega)] at hm
  have hj : c < m := by omega
  obtain ⟨K, _, _⟩ := p c hj
  have r := R c hj
  have r42 := I.2.1 1 42
  rw [show tf 1 42 = (0, 12) by decide +kernel] at r42
  have b0 : 0 ≤ (h_i h 1 42).toInt := r42.1
  have n42 := n_nat b0
  refine ⟨fun e => ?_, fun e => ?_⟩
  · rw [r.1.2.2.1]
    rw [r.1.1] at e
    exact (K.1.2.2.2.1 e).1
  · rw [r.1.1] at e
    obtain ⟨i, il, i150, b8, hd, e9, h6, r0, r1, r2⟩ := kmb_x (fun k hk => by rw [bL_l]; exact (z227 I k).1) (K.2 e)
    have q := r.2.1 e
    have n8 := n_nat b8.1
    have z := z227 I (s.1 c 8).toNatClampNeg
    rw [bL_l] at il
    have hS : nS h c = i := by
      show (h_i h 213 c).toNatClampNeg = i
      rw [q.2.1, e9, on_k (by omega)]
    have hB : nB h c = (s.1 c 8).toNatClampNeg := by
      show (h_i h 212 c).toNatClampNeg = _
      rw [q.1]
    have hZ : nZ h c = (h_i h 227 (s.1 c 8).toNatClampNeg).toNatClampNeg := by
      show (h_i h 227 (h_i h 212 c).toNatClampNeg).toNatClampNeg = _
      rw [q.1]
    have mp : ∀ (L : List Sp3) (t : Nat), (bL h (s.1 c 8).toNatClampNeg).drop t = L → mP (h_i h 228) (s.1 c 8).toNatClampNeg L.length t = mts L := fun L t e => mP_mts L t (fun k x g => by
      rw [← e, List.getElem?_drop] at g
      have lk : t + k < (bL h (s.1 c 8).toNatClampNeg).length := (List.getElem?_eq_some_iff.mp g).1
      rw [bL_l] at lk
      rw [bL_g lk] at g
      rw [← Option.some.inj g]
      rfl)
    have d1 : (bL h (s.1 c 8).toNatClampNeg).drop (i + 1) = (pX (bL h) (s.1 c)).2 := by
      rw [← List.drop_drop, hd]
      rfl
    have m1 := mp _ _ d1
    have m0 := mp _ _ hd
    rw [hS, hB, hZ, q.2.1, q.1, q.2.2.2.1, e9, r.1.2.2.1]
    refine ⟨by rw [on_j (by omega)]; omega, by omega, by omega, ?_, fun n6 => ?_⟩
    · rw [show (h_i h 227 (s.1 c 8).toNatClampNeg).toNatClampNeg - (i + 1) = (pX (bL h) (s.1 c)).2.length by omega, m1]
      omega
    · rw [show (h_i h 227 (s.1 c 8).toNatClampNeg).toNatClampNeg - i = ((pX (bL h) (s.1 c)).1 :: (pX (bL h) (s.1 c)).2).length by show _ = _ + 1; omega, m0]
      have mm : mts ((pX (bL h) (s.1 c)).1 :: (pX (bL h) (s.1 c)).2) = (if (pX (bL h) (s.1 c)).1.1 = 2 then 1 else 0) + mts (pX (bL h) (s.1 c)).2 := rfl
      rw [mm]
      by_cases y2 : (pX (bL h) (s.1 c)).1.1 = 2
      · rw [if_pos ⟨y2, decide_eq_true n6⟩] at r1
        rw [if_pos y2]
        omega
      · rw [if_neg (fun u => y2 u.1)] at r1
        rw [if_neg y2]
        omega
section MEN
variable {β : Type} {PM : β → Hp_ → Prop} {tB : Int32 → Int32 → β → β} {nB : Int32 → (Nat → Int32) → β → β} {lP : Nat → Int32 → (Nat → Int32) → β → β}
theorem mh_lp (d : Nat) {x1 x2 : Int32} (K : Int32 → Hp_ → Prop) {m : Nat} (m12 : m ≤ 12) {h0 : Hp_} (I0 : Iv h0) (em : h_i h0 1 7 = Int32.ofNat m) (O : ∀ h', Iv h' → Fr [220999] h0 h' → Hst m h0 h' → AW (m_X12_tick (d + 10) 0 0) 0 0 82 [(0, .ref 1), (1, .int x1), (2, .int x2), (3, .int 0)] [] (h_im h' 1 0 ((h_i h' 1 0) + 1)) (kI K)) : ∀ (r j : Nat) (h : Hp_), j + r = m → Iv h → Fr [220999] h0 h → ((∀ l, l < j → h_i h 220 (20001 * l + (h_i h0 1 0).toNatClampNeg) = vp_nar .byte ((h_i h0 209 l).toInt8.toInt32)) ∧ ∀ k, (∀ l, l < j → k ≠ 20001 * l + (h_i h0 1 0).toNatClampNeg) → h_i h 220 k = h_i h0 220 k) → AW (m_X12_tick (d + 10) 0 0) 0 0 34 [(0, .ref 1), (1, .int x1), (2, .int x2), (3, .int (Int32.ofNat j))] [] h (kI K) := by
  have nr := I0.2.1 1 0
  rw [show tf 1 0 = (0, 20000) by decide +kernel] at nr
  have n0 : 0 ≤ (h_i h0 1 0).toInt := nr.1
  have n1 : (h_i h0 1 0).toInt ≤ 20000 := nr.2
  have nn := n_nat n0
  have t2 : (20001 : Int32).toInt = 20001 := rfl
  intro r
  induction r with
  | zero =>
    intro j h ej I F H
    have e7 : h_i h 1 7 = Int32.ofNat m := ((F.2 1 7 (by decide +kernel)).1).trans em
    have ej : j = m := by omega
    subst ej
    exact t_X12_tick_34 d h I.1 x1 x2 _ K ⟨fun _ => O h I F H, fun n => absurd (q_le.mpr (by rw [e7]; exact Int.le_refl _)) n⟩
  | succ r ih =>
    intro j h ej I F H
    have e7 : h_i h 1 7 = Int32.ofNat m := ((F.2 1 7 (by decide +kernel)).1).trans em
    have en : h_i h 1 0 = h_i h0 1 0 := (F.2 1 0 (by decide +kernel)).1
    have kj : (Int32.ofNat j).toNatClampNeg = j := on_k (by omega)
    have oj := on_j (n := j) (by omega)
    have m1 : (20001 * Int32.ofNat j).toInt = 20001 * (j : Int) := by rw [tx_mul (by rw [t2]; omega) (by rw [t2]; omega), t2, oj]
    have m2 : (20001 * Int32.ofNat j + h_i h0 1 0).toInt = 20001 * (j : Int) + (h_i h0 1 0).toInt := by rw [tx_add (by omega) (by omega), m1]
    have nm := n_nat (x := 20001 * Int32.ofNat j + h_i h0 1 0) (by omega)
    have km : (20001 * Int32.ofNat j + h_i h0 1 0).toNatClampNeg = 20001 * j + (h_i h0 1 0).toNatClampNeg := by omega
    have Tt := t_X12_tick_34 d h I.1 x1 x2 (Int32.ofNat j) K
    rw [kj, en, km, on_s (by omega)] at Tt
    refine Tt ⟨fun z => ?_, fun _ => ⟨on_in (by omega) (by decide), dp_in (lo := 0) (hi := 240011) ⟨by show (0 : Int) ≤ _; omega, by show _ ≤ (240011 : Int); omega⟩ (by decide) (by decide), ?_⟩⟩
    · have z := q_le.mp z
      rw [e7, on_j (by omega), on_j (by omega)] at z
      omega
    · refine ih (j + 1) _ (by omega) (i220 I _ _) (F.im (inw_row (by decide +kernel) _)) ⟨fun l hl => ?_, fun k hk => ?_⟩
      · by_cases c : l = j
        · rw [c, im_at, fr_i F (by decide +kernel)]
        · rw [h_i_im, if_neg (fun e => c (by have := e.2; omega))]
          exact H.1 l (by omega)
      · rw [h_i_im, if_neg (fun e => hk j (by omega) e.2)]
        exact H.2 k (fun l hl => hk l (by omega))
/-- the men of a minute -/
theorem mn_lp (P : PMok PM tB (lR lP)) (d : Nat) {x1 x2 : Int32} (K : Int32 → Hp_ → Prop) {h1 : Hp_} (I1 : Iv h1) {m rw : Nat} {s : Pst β} (T : Tkn h1 m rw s) {n0 : Int32} (p0 : 0 ≤ n0.toInt ∧ n0.toInt ≤ 20000) {i : Nat} (i2 : i < 20000) (lc : ∀ j, j < m → ∀ b n f g, (∀ k, k < m → f k = g k) → lP j n f b = lP j n g b) (O : ∀ h', Vn PM lP tB nB h1 m rw n0 s i m h' → AW (m_X12_tick (d + 10) 0 0) 0 0 27 [(0, .ref 1), (1, .int x1), (2, .int (x2 + 1))] [] h' (kI K)) : ∀ (r j : Nat) (h : Hp_), j + r = m → Vn PM lP tB nB h1 m rw n0 s i j h → AW (m_X12_tick (d + 10) 0 0) 0 0 82 [(0, .ref 1), (1, .int x1), (2, .int x2), (3, .int (Int32.ofNat j))] [] h (kI K) := by
  have em := T.2.2.1
  have m12 := T.2.2.2.1
  intro r
  induction r with
  | zero =>
    intro j h ej V
    have e7 : h_i h 1 7 = Int32.ofNat m := ((V.2.1.2 1 7 (by decide +kernel)).1).trans em
    have ej : j = m := by omega
    subst ej
    exact t_X12_tick_82 d h V.1.1 x1 x2 _ K ⟨fun _ => O h V, fun n => absurd (q_le.mpr (by rw [e7]; exact Int.le_refl _)) n⟩
  | succ r ih =>
    intro j h ej V
    have e7 : h_i h 1 7 = Int32.ofNat m := ((V.2.1.2 1 7 (by decide +kernel)).1).trans em
    refine t_X12_tick_82 d h V.1.1 x1 x2 _ K ⟨fun z => ?_, fun _ => Cv.mono (vn_wk P d I1 T p0 i2 V (by omega) (lc j (by omega))) (fun h' V' => ⟨V'.1.1, ?_⟩)⟩
    · have z := q_le.mp z
      rw [e7, on_j (by omega), on_j (by omega)] at z
      omega
    · rw [on_s (by omega)]
      exact ih (j + 1) h' (by omega) V'
theorem mt_lp (P : PMok PM tB (lR lP)) (d : Nat) {x1 : Int32} {h1 : Hp_} (I1 : Iv h1) {m rw : Nat} {s : Pst β} (P2 : PMtk PM nB m) (T : Tkn h1 m rw s) {n0 : Int32} {k1 : Nat} (ex : x1 = Int32.ofNat k1) (k15 : k1 ≤ 1500) (p0 : 0 ≤ n0.toInt ∧ n0.toInt + (k1 : Int) ≤ 20000) (lc : ∀ j, j < m → ∀ b n f g, (∀ k, k < m → f k = g k) → lP j n f b = lP j n g b) (nc : ∀ b n f g, (∀ k, k < m → f k = g k) → nB n f b = nB n g b) : ∀ (r i : Nat) (h : Hp_), i + r = k1 → Un PM lP tB nB h1 m rw n0 s i h → AW (m_X12_tick (d + 10) 0 0) 0 0 27 [(0, .ref 1), (1, .int x1), (2, .int (Int32.ofNat i))] [] h (kI (fun q h' => Un PM lP tB nB h1 m rw n0 s k1 h' ∧ q = h_i h' 1 0)) := by
  have em := T.2.2.1
  have m12 := T.2.2.2.1
  intro r
  induction r with
  | zero =>
    intro i h ei U
    have ei : i = k1 := by omega
    subst ei
    exact t_X12_tick_27 d h U.1.1 x1 _ _ ⟨fun _ => ⟨U, rfl⟩, fun n => absurd (q_le.mpr (by rw [ex]; exact Int.le_refl _)) n⟩
  | succ r ih =>
    intro i h ei U
    obtain ⟨Iu, fu, eu, pm, pr, PMu⟩ := U
    have y1 : (n0 + Int32.ofNat (i + 1)).toInt = n0.toInt + ((i + 1 : Nat) : Int) := by rw [tx_add (by rw [on_j (by omega)]; omega) (by rw [on_j (by omega)]; omega), on_j (by omega)]
    have ys : n0 + Int32.ofNat i + 1 = n0 + Int32.ofNat (i + 1) := by rw [Int32.add_assoc, on_s (by omega)]
    have e7 : h_i h 1 7 = Int32.ofNat m := ((fu.2 1 7 (by decide +kernel)).1).trans em
    refine t_X12_tick_27 d h Iu.1 x1 _ _ ⟨fun z => ?_, fun _ => ?_⟩
    · have z := q_le.mp z
      rw [ex, on_j (by omega), on_j (by omega)] at z
      omega
    · refine mh_lp d _ m12 Iu e7 (fun h' I' F' H' => ?_) m 0 h (by omega) Iu (Fr.rf _ _) ⟨fun l hl => absurd hl (by omega), fun k _ => rfl⟩
      have e0 : h_i h' 1 0 = n0 + Int32.ofNat i := ((F'.2 1 0 (by decide +kernel)).1).trans eu
      rw [e0, ys]
      have I2 : Iv (h_im h' 1 0 (n0 + Int32.ofNat (i + 1))) := I'.im (by rw [show tf 1 0 = (0, 20000) by decide +kernel]; exact ⟨by show (0 : Int) ≤ _; omega, by show _ ≤ (20000 : Int); omega⟩) (by decide)
      refine mn_lp (nB := nB) P d (K := fun q h' => Un PM lP tB nB h1 m rw n0 s k1 h' ∧ q = h_i h' 1 0) I1 T ⟨p0.1, by omega⟩ (i := i) (by omega) lc (fun h2 V => ?_) m 0 (h_im h' 1 0 (n0 + Int32.ofNat (i + 1))) (by omega) ⟨I2, ?_, im_at, fun j hj => ?_, fun k hk => ?_, ?_⟩
      · rw [on_s (by omega)]
        exact ih (i + 1) h2 (by omega) ⟨V.1, V.2.1, V.2.2.1, V.2.2.2⟩
      · exact (fu.tr (F'.more (by decide +kernel))).im (by decide +kernel)
      · refine (pm j hj).cg (fun a ha => ?_)
        have o : off [220999] a = true ∧ a ≠ 1 := by
          simp only [mrL, List.mem_cons, List.not_mem_nil, or_false] at ha
          rcases ha with e | e | e | e | e | e | e | e | e | e | e | e | e | e <;> subst e <;> decide +kernel
        rw [im_ne o.2]
        exact fr_i F' o.1 j
      · rw [im_ne (by decide), im_ne (by decide), im_ne (by decide), fr_i F' (by decide +kernel), fr_i F' (by decide +kernel), fr_i F' (by decide +kernel)]
        exact pr k hk
      · have q := P2 _ h h' (n0 + Int32.ofNat (i + 1)) Iu F' H' PMu
        rw [nc _ _ _ (fun k => (pTk lP tB nB (wI h1) (bL h1) m n0 i s).1 k 5) (fun k hk => (pm k hk).1.2.1), eu] at q
        exact q
/-- tick of the reference -/
noncomputable def Tkm (PM : β → Hp_ → Prop) (lP : Nat → Int32 → (Nat → Int32) → β → β) (tB : Int32 → Int32 → β → β) (nB : Int32 → (Nat → Int32) → β → β) (m rw : Nat) (s : Pst β) (x : Int32) (h : Hp_) (r : Int32) (h' : Hp_) : Prop := (Iv h' ∧ J2 h' ∧ Fr wsT h h' ∧ otk (h_i h 1 0) x r (h_i h' 1 0)) ∧ (okt (h_i h 1 0) x → h_i h' 1 0 = h_i h 1 0 + x ∧ Fr wtM h h' ∧ PcM PM m rw (pTk lP tB nB (wI h) (bL h) m (h_i h 1 0) x.toNatClampNeg s) h') ∧ (¬ okt (h_i h 1 0) x → h' = h)
theorem c_tkM (P : PMok PM tB (lR lP)) (d : Nat) {h : Hp_} (I : Iv h) (J : J2 h) {m rw : Nat} {s : Pst β} (P2 : PMtk PM nB m) (T : Tkn h m rw s) (pc : PcM PM m rw s h) (lc : ∀ j, j < m → ∀ b n f g, (∀ k, k < m → f k = g k) → lP j n f b = lP j n g b) (nc : ∀ b n f g, (∀ k, k < m → f k = g k) → nB n f b = nB n g b) (x : Int32) : Ci (m_X12_tick (d + 10) 0 0) [.ref 1, .int x] h (Tkm PM lP tB nB m rw s x h) := by
  have nr := I.2.1 1 0
  rw [show tf 1 0 = (0, 20000) by decide +kernel] at nr
  have n0 : 0 ≤ (h_i h 1 0).toInt := nr.1
  have n1 : (h_i h 1 0).toInt ≤ 20000 := nr.2
  have t0 : (0 : Int32).toInt = 0 := rfl
  have t15 : (1500 : Int32).toInt = 1500 := rfl
  have t20 : (20000 : Int32).toInt = 20000 := rfl
  have no : ¬ okt (h_i h 1 0) x → Tkm PM lP tB nB m rw s x h (-1) h := fun n => ⟨⟨I, J, Fr.rf _ _, Or.inr ⟨n, rfl, rfl⟩⟩, fun o => absurd o n, fun _ => rfl⟩
  refine t_X12_tick d h I.1 x _ ⟨fun n => no (fun o => n o.1), fun z => ⟨fun y => ?_, fun n => no (fun o => n (q_le.mpr (by have z1 := q_le.mp z.1; have z2 := q_le.mp z.2; have := o.2; rw [tx_add (by omega) (by omega)]; omega)))⟩⟩
  have z1 := q_le.mp z.1
  have z2 := q_le.mp z.2
  have y := q_le.mp y
  have x0 : 0 ≤ x.toInt := by omega
  have nx := n_nat x0
  have es : (h_i h 1 0 + x).toInt = (h_i h 1 0).toInt + x.toInt := tx_add (by omega) (by omega)
  have ok : okt (h_i h 1 0) x := ⟨z, by omega⟩
  have U0 : Un PM lP tB nB h m rw (h_i h 1 0) s 0 h := ⟨I, Fr.rf _ _, (i_0 _).symm, pc⟩
  refine AW.mono (mt_lp P d I P2 T (of_nat32 x0).symm (by omega) ⟨n0, by omega⟩ lc nc x.toNatClampNeg 0 h (by omega) U0) (fun v h' q => ?_)
  obtain ⟨r, ev, U, er⟩ := q
  have ef : h_i h' 1 0 = h_i h 1 0 + x := by rw [U.2.2.1, of_nat32 x0]
  obtain ⟨X, S, em, m12, r4, own, pi⟩ := T
  have hb : ∀ k x, k < (h_i h 1 42).toNatClampNeg → x ∈ bL h k → stR x := fun k x hk hx => by
    obtain ⟨q, hq, e⟩ := bL_m hx
    rw [e]
    exact S k hk q hq
  have pE := pI_tk (lP := lP) (tB := tB) (nB := nB) (wok I X) hb (bL_hl I _) r4 ⟨n0, n1⟩ m12 x.toNatClampNeg (by omega) pi
  have fw := fr_wb U.2.1
  have J' : J2 h' := j2_of U.1 (((U.2.1.2 1 7 (by decide +kernel)).1).trans em) m12 r4 (w := wI h) (own := own) (by rw [fw.2.1, (U.2.1.2 1 42 (by decide +kernel)).1]; exact pE) U.2.2.2.1
  exact ⟨r, ev, ⟨U.1, J', U.2.1.more (by decide +kernel), Or.inl ⟨ok, er, by rw [ef, es]⟩⟩, fun _ => ⟨ef, U.2.1, U.2.2.2⟩, fun n => absurd ok n⟩
end MEN
/-! MEN: constables come -/
theorem pbU : PBok (fun (_ : Unit) (_ : Hp_) => True) (fun _ _ b => b) (fun _ _ b => b) := ⟨fun _ _ _ _ _ _ _ => trivial, fun _ _ _ _ _ _ => trivial, fun d b h x1 x2 I p _ => Ct.mono (hc_X4_tellNoted d [.int x2, .int x1, .ref 17] h ⟨⟨x2, rfl, ⟨p.1, p.2⟩, fun _ y => (nomatch y)⟩, ⟨x1, rfl, rtop_in _, fun _ y => (nomatch y)⟩, rfl, trivial⟩ I (fun _ y => (nomatch y))) (fun v h' k => ⟨k.2.2.2, k.1, Fr.more (by decide +kernel) k.2.1, trivial⟩), fun d b h c I hc _ => by
  have c1 := hc.1
  have c2 := hc.2.1
  have mm := menX_in I
  have m1 : 1 ≤ (h_i h 0 7).toInt := by
    refine Decidable.byContradiction (fun n => ?_)
    have z := I.2.2.2.2.2.2.1 (c - 401) (by omega) (by omega)
    rw [show 401 + (c - 401) = c by omega, hc.2.2] at z
    cases z
  exact Ct.mono (hc_X11_look d [.ref c, .ref 0] h ⟨⟨c, rfl, hc⟩, rfl, trivial⟩ I (fun q hq => by
    rcases List.mem_cons.mp hq with e | e
    · subst e; exact ⟨m1, mm.2⟩
    · cases e)) (fun v h' k => ⟨k.2.2.2, k.1, k.2.1, trivial⟩)⟩
theorem fr_42 (d : Nat) {x1 : Int32} : ∀ (r : Nat) (x2 : Int32) {h0 h2 : Hp_}, 0 ≤ x2.toInt → 300 - x2.toInt ≤ r → Iv h2 → Fr [260999] h0 h2 → AW (m_X12_free (d + 0) 0 0) 0 0 42 [(0, .ref 1), (1, .int x1), (2, .int x2)] [] h2 (kV (fun h' => Iv h' ∧ Fr [260999] h0 h' ∧ True))
  | 0, x2, h0, h2, p2, m2, I2, F => by
    have sm := I2.2.1 1 80
    rw [show tf 1 80 = (0, 300) by decide +kernel] at sm
    have s1 : (h_i h2 1 80).toInt ≤ 300 := sm.2
    refine t_X12_free_42 d h2 I2.1 x1 x2 _ ⟨fun _ => ⟨I2, F, trivial⟩, fun z => ?_⟩
    have z := q_nle z
    omega
  | r + 1, x2, h0, h2, p2, m2, I2, F => by
    have t1 : (1 : Int32).toInt = 1 := rfl
    have sm := I2.2.1 1 80
    rw [show tf 1 80 = (0, 300) by decide +kernel] at sm
    have s1 : (h_i h2 1 80).toInt ≤ 300 := sm.2
    refine t_X12_free_42 d h2 I2.1 x1 x2 _ ⟨fun _ => ⟨I2, F, trivial⟩, fun z => ?_⟩
    have z := q_nle z
    have v2 : vp_in x2 300 := dp_in (lo := 0) (hi := 299) ⟨p2, by show _ ≤ (299 : Int); omega⟩ (by decide) (by decide)
    have ex : (x2 + 1).toInt = x2.toInt + 1 := tx_add (by rw [t1]; omega) (by rw [t1]; omega)
    have go := fr_42 d (x1 := x1) r (x2 + 1) (by omega) (by omega) I2 F
    exact ⟨v2, fun _ => go, fun _ => ⟨v2, fun _ => go, fun _ => ⟨v2, fun _ => go, fun _ => ⟨v2, fr_42 d r (x2 + 1) (by omega) (by omega) (i260 I2 _ _) (F.im (inw_row (by decide +kernel) _))⟩⟩⟩⟩
theorem pmU : PMok (fun (_ : Unit) (_ : Hp_) => True) (fun _ _ b => b) (fun _ _ b => b) := ⟨fun _ _ _ _ _ _ _ => trivial, fun _ _ _ _ _ => trivial, fun d b h x1 I _ _ => fr_42 d 300 0 (by decide) (by decide) I (Fr.rf _ _), fun d b h x1 I p _ => Ct.mono (hc_X12_see (d + 1) [.int x1, .ref 1] h ⟨⟨x1, rfl, ⟨p.1, p.2⟩, fun _ y => (nomatch y)⟩, rfl, trivial⟩ I (fun _ y => (nomatch y))) (fun v h' k => ⟨k.2.2.2, k.1, k.2.1, trivial⟩)⟩
/-- a man who has just come -/
noncomputable def nMn (m x1 x2 x3 : Int32) : Nat → Int32 := up1 (up1 (up1 (up1 (up1 (up1 (up1 (up1 (up1 (fun _ => 0) 4 0) 5 (-1)) 6 (-1)) 7 (-1)) 0 m) 1 x1) 2 x2) 3 x3) 5 x3
theorem c_mi2 (d : Nat) (h : Hp_) (a : Nat) (x1 x2 x3 x4 : Int32) (hs : h_sh h a = some (12, 17)) : Cv (m_X2_init (d + 1) 0 0) [.ref a, .int x1, .int x2, .int x3, .int x4] h (fun h' => h_sh h' = h_sh h ∧ h_r h' = h_r h ∧ (∀ b k, b ≠ a → h_i h' b k = h_i h b k) ∧ h_i h' a 0 = x1 ∧ h_i h' a 1 = x2 ∧ h_i h' a = up1 (up1 (up1 (up1 (up1 (up1 (up1 (up1 (h_i h a) 4 0) 5 (-1)) 6 (-1)) 7 (-1)) 0 x1) 1 x2) 2 x3) 3 x4) := by
  refine Ct.of (fun _ _ _ => trivial) pn_X2 (Nat.le_of_ble_eq_true rfl) ?_
  show AW (m_X2_init (d + 1) 0 0) 0 0 0 [(0, .ref a), (1, .int x1), (2, .int x2), (3, .int x3), (4, .int x4)] [] h (kV _)
  refine aw_aload_n (i := 0) rfl d_X2_init_0 0 rfl ?_
  refine aw_objInit (rest := []) d_X2_init_1 tw_570 tw_33 tw_34 (show 1 ≤ d + 1 by omega) (show 0 + 12 ≤ 100 * (d + 1) by omega) ?_
  refine aw_aload_n (i := 0) rfl d_X2_init_4 0 rfl ?_
  refine aw_iconst (v := 0) d_X2_init_5 ic_0 ?_
  refine aw_puti (k0 := 4) kc_2 hs (Nat.le_of_ble_eq_true rfl) tw_580 d_X2_init_6 rfl rfl nf_i ?_
  refine aw_aload_n (i := 0) rfl d_X2_init_9 0 rfl ?_
  refine aw_iconst (v := (-1)) d_X2_init_10 ic_m1 ?_
  refine aw_puti (k0 := 5) kc_2 hs (Nat.le_of_ble_eq_true rfl) tw_582 d_X2_init_11 rfl rfl nf_i ?_
  refine aw_aload_n (i := 0) rfl d_X2_init_14 0 rfl ?_
  refine aw_iconst (v := (-1)) d_X2_init_15 ic_m1 ?_
  refine aw_puti (k0 := 6) kc_2 hs (Nat.le_of_ble_eq_true rfl) tw_584 d_X2_init_16 rfl rfl nf_i ?_
  refine aw_aload_n (i := 0) rfl d_X2_init_19 0 rfl ?_
  refine aw_iconst (v := (-1)) d_X2_init_20 ic_m1 ?_
  refine aw_puti (k0 := 7) kc_2 hs (Nat.le_of_ble_eq_true rfl) tw_586 d_X2_init_21 rfl rfl nf_i ?_
  refine aw_aload_n (i := 0) rfl d_X2_init_24 0 rfl ?_
  refine aw_iload_n (i := 1) rfl d_X2_init_25 1 rfl ?_
  refine aw_putiF (k0 := 0) kc_2 hs (Nat.le_of_ble_eq_true rfl) tw_571 d_X2_init_26 rfl rfl rfl rfl nf_i ?_
  refine aw_aload_n (i := 0) rfl d_X2_init_29 0 rfl ?_
  refine aw_iload_n (i := 2) rfl d_X2_init_30 2 rfl ?_
  refine aw_putiF (k0 := 1) kc_2 hs (Nat.le_of_ble_eq_true rfl) tw_574 d_X2_init_31 rfl rfl rfl rfl nf_i ?_
  refine aw_aload_n (i := 0) rfl d_X2_init_34 0 rfl ?_
  refine aw_iload_n (i := 3) rfl d_X2_init_35 3 rfl ?_
  refine aw_putiF (k0 := 2) kc_2 hs (Nat.le_of_ble_eq_true rfl) tw_576 d_X2_init_36 rfl rfl rfl rfl nf_i ?_
  refine aw_aload_n (i := 0) rfl d_X2_init_39 0 rfl ?_
  refine aw_iload d_X2_init_40 4 rfl ?_
  refine aw_putiF (k0 := 3) kc_2 hs (Nat.le_of_ble_eq_true rfl) tw_578 d_X2_init_42 rfl rfl rfl rfl nf_i ?_
  refine aw_vret rfl d_X2_init_45 ⟨Nat.le_refl _, Nat.le_refl _⟩ ⟨rfl, rfl, rfl, fun b k hb => ?_, ?_, ?_, by rw [im_row, im_row, im_row, im_row, im_row, im_row, im_row, im_row]⟩
  · rw [hi_n _ _ _ _ _ _ hb, hi_n _ _ _ _ _ _ hb, hi_n _ _ _ _ _ _ hb, hi_n _ _ _ _ _ _ hb, hi_n _ _ _ _ _ _ hb, hi_n _ _ _ _ _ _ hb, hi_n _ _ _ _ _ _ hb, hi_n _ _ _ _ _ _ hb]
  · rw [h_i_im, if_neg (fun y => absurd y.2 (by decide)), h_i_im, if_neg (fun y => absurd y.2 (by decide)), h_i_im, if_neg (fun y => absurd y.2 (by decide)), h_i_im, if_pos ⟨rfl, rfl⟩]
  · rw [h_i_im, if_neg (fun y => absurd y.2 (by decide)), h_i_im, if_neg (fun y => absurd y.2 (by decide)), h_i_im, if_pos ⟨rfl, rfl⟩]
/-- what constable leaves, in all -/
noncomputable def CyA (x1 x2 x3 : Int32) (h h' : Hp_) : Prop := (okc (h_i h 0 7) x1 x2 x3 → h_i h' (401 + (h_i h 0 7).toNatClampNeg) = nMn (h_i h 0 7) x1 x2 x3 ∧ (∀ a, a ≠ 401 + (h_i h 0 7).toNatClampNeg → a ≠ 0 → h_i h' a = h_i h a) ∧ ∀ k, k ≠ 7 → h_i h' 0 k = h_i h 0 k) ∧ (¬ okc (h_i h 0 7) x1 x2 x3 → h' = h)
theorem c_put2 (d : Nat) {h : Hp_} (I : Iv h) {c : Nat} (hc : Cn h c) (x2 : Int32) : Cv (m_X11_putAt (d + 0) 0 0) [.ref 0, .ref c, .int x2] h (fun h' => Iv h' ∧ Fr wz_X11_putAt h h' ∧ h_i h' c = up1 (h_i h c) 5 x2 ∧ (∀ a, a ≠ c → h_i h' a = h_i h a)) := by
  have c1 := hc.1
  have c2 := hc.2.1
  have w5 : inw wz_X11_putAt c 5 = true := by
    have e : cn c = cn 401 := by
      rw [show c = 401 + (c - 401) by omega]
      exact (cn_man (by omega)).trans (by decide)
    rw [inw_ce e]
    decide +kernel
  refine t_X11_putAt d h I.1 c hc.2.2 (by omega) x2 _ ⟨fun n => ?_, fun e => ?_⟩
  · exact ⟨(mIv I hc.1 hc.2.1 5 x2).lm, ((Fr.rf _ _).im w5).lm (by decide +kernel), im_row h c 5 x2, fun a n => im_oth n⟩
  · exact ⟨(mIv I hc.1 hc.2.1 5 x2).lm, ((Fr.rf _ _).im w5).lm (by decide +kernel), im_row h c 5 x2, fun a n => im_oth n⟩
theorem c_con2 (d : Nat) {h : Hp_} (I : Iv h) (x1 x2 x3 : Int32) : Ci (m_X11_constable (d + 2) 1 17) [.ref 0, .int x1, .int x2, .int x3] h (fun r h' => Cy x1 x2 x3 h r h' ∧ CyA x1 x2 x3 h h') := by
  have w := I.1
  have t12 : (12 : Int32).toInt = 12 := rfl
  have er : rin (h_i h 0 7).toInt (0, 12) := by
    have := I.2.1 0 7
    rwa [show tf 0 7 = (0, 12) by decide +kernel] at this
  have er0 : 0 ≤ (h_i h 0 7).toInt := er.1
  have bad : ¬ okc (h_i h 0 7) x1 x2 x3 → ∀ lv, AW (m_X11_constable (d + 2) 1 17) 0 0 47 lv [] h (kI (fun r h' => Cy x1 x2 x3 h r h' ∧ CyA x1 x2 x3 h h')) := fun no lv => by
    refine aw_iconst (v := (-1)) d_X11_constable_47 ic_m1 ?_
    exact aw_iret rfl d_X11_constable_48 ⟨Nat.le_of_ble_eq_true rfl, Nat.le_of_ble_eq_true rfl⟩ ⟨_, rfl, ⟨Cx.rf I, Or.inr ⟨no, rfl, rfl⟩, id, fun o => absurd o no, fun _ _ => ⟨rfl, fun _ _ _ => rfl⟩⟩, fun o => absurd o no, fun _ => rfl⟩
  have no : ¬ okc (h_i h 0 7) x1 x2 x3 → AW (m_X11_constable (d + 2) 1 17) 0 0 30 [(0, .ref 0), (1, .int x1), (2, .int x2), (3, .int x3)] [] h (kI (fun r h' => Cy x1 x2 x3 h r h' ∧ CyA x1 x2 x3 h h')) := fun no => by
    refine aw_iconst (v := 0) d_X11_constable_30 ic_0 ?_
    refine aw_istore [(0, .ref 0), (1, .int x1), (2, .int x2), (3, .int x3), (4, .int 0)] d_X11_constable_31 (Nat.le_of_ble_eq_true rfl) rfl rfl ?_
    refine aw_iload d_X11_constable_33 4 rfl ?_
    refine aw_if_eq (tgt := 47) d_X11_constable_35 rfl (fun _ => bad no _) (fun z => absurd rfl z)
  have rr2 : ∀ {y : MethodName} {cc : ByteArray} {nL : Nat} {ret : Option FieldType}, nL ≤ 81 → rr_ (fun _ _ _ => True, y, cc, nL, ret, { frames := d + 0, cells := 0, slots := 0, locals := 100 * (d + 0) }) (m_X11_constable (d + 2) 1 17) 0 0 := fun {y cc nL ret} hn => ⟨⟨show d + 0 + 1 ≤ d + 2 by omega, show 8 + (nL + 11) + 100 * (d + 0) ≤ 100 * (d + 2) by omega⟩, Nat.zero_le _, Nat.zero_le _⟩
  refine Ct.of (fun _ _ _ => trivial) pn_X11 (Nat.le_of_ble_eq_true rfl) ?_
  show AW (m_X11_constable (d + 2) 1 17) 0 0 0 [(0, .ref 0), (1, .int x1), (2, .int x2), (3, .int x3)] [] h (kI (fun r h' => Cy x1 x2 x3 h r h' ∧ CyA x1 x2 x3 h h'))
  refine aw_iload_n (i := 1) rfl d_X11_constable_0 1 rfl ?_
  refine aw_iconst (v := 1) d_X11_constable_1 ic_1 ?_
  refine aw_iconst (v := 4) d_X11_constable_2 ic_4 ?_
  refine aw_Si [.int x1, .int 1, .int 4] [] d_X11_constable_3 (cS_X11_within (d + 0) 0 0) tw_543 rfl (rr2 (Nat.le_of_ble_eq_true rfl)) (by decide) xs0 (s_X11_within _ _ x1 1 4) (fun _ _ kk => ?_)
  obtain ⟨e1, e2⟩ := kk
  rw [e1, e2]
  refine aw_ifb_eq (tgt := 30) d_X11_constable_6 rfl (fun z => no (fun o => z o.1)) (fun c1 => ?_)
  refine aw_iload_n (i := 2) rfl d_X11_constable_9 2 rfl ?_
  refine aw_iconst (v := 0) d_X11_constable_10 ic_0 ?_
  refine aw_bipush (v := 40) d_X11_constable_11 ib_40 ?_
  refine aw_Si [.int x2, .int 0, .int 40] [] d_X11_constable_13 (cS_X11_within (d + 0) 0 0) tw_543 rfl (rr2 (Nat.le_of_ble_eq_true rfl)) (by decide) xs0 (s_X11_within _ _ x2 0 40) (fun _ _ kk => ?_)
  obtain ⟨e1, e2⟩ := kk
  rw [e1, e2]
  refine aw_ifb_eq (tgt := 30) d_X11_constable_16 rfl (fun z => no (fun o => z o.2.1)) (fun c2 => ?_)
  refine aw_iload_n (i := 3) rfl d_X11_constable_19 3 rfl ?_
  refine aw_Si [.int x3] [] d_X11_constable_20 (cS_X11_isPlace (d + 0) 0 0) tw_540 rfl (rr2 (Nat.le_of_ble_eq_true rfl)) (by decide) xs0 (s_X11_isPlace _ _ x3) (fun _ _ kk => ?_)
  obtain ⟨e1, e2⟩ := kk
  rw [e1, e2]
  refine aw_ifb_eq (tgt := 30) d_X11_constable_23 rfl (fun z => no (fun o => z o.2.2.1)) (fun c3 => ?_)
  refine aw_iconst (v := 1) d_X11_constable_26 ic_1 ?_
  refine aw_goto (tgt := 31) d_X11_constable_27 rfl ?_
  refine aw_istore [(0, .ref 0), (1, .int x1), (2, .int x2), (3, .int x3), (4, .int 1)] d_X11_constable_31 (Nat.le_of_ble_eq_true rfl) rfl rfl ?_
  refine aw_iload d_X11_constable_33 4 rfl ?_
  refine aw_if_eq (tgt := 47) d_X11_constable_35 rfl (fun z => absurd z (by decide)) (fun _ => ?_)
  refine aw_aload_n (i := 0) rfl d_X11_constable_38 0 rfl ?_
  refine aw_geti (k0 := 7) kc_11 (ws_0 w) (Nat.le_of_ble_eq_true rfl) tw_494 d_X11_constable_39 rfl ?_
  refine aw_bipush (v := 12) d_X11_constable_42 ib_12 ?_
  refine aw_icmp_lt (tgt := 49) d_X11_constable_44 rfl (fun z => ?_) (fun z => bad (fun o => z o.2.2.2) _)
  have ok : okc (h_i h 0 7) x1 x2 x3 := ⟨c1, c2, c3, z⟩
  have z := q_lt.mp z
  obtain ⟨j, ej, hj⟩ : ∃ j : Nat, h_i h 0 7 = Int32.ofNat j ∧ j < 12 := ⟨(h_i h 0 7).toInt.toNat, by
    refine Int32.toInt_inj.mp ?_
    rw [on_i (by omega)]
    omega, by omega⟩
  have oj := on_i (n := j) (by omega)
  have cj := on_c (n := j) (by omega)
  have fr : h_sh h (401 + j) = none := I.2.2.2.2.2.2.1 j hj (by rw [ej, oj]; exact Int.le_refl _)
  refine aw_new (ci := 2) (401 + j) kc_2 tw_144 tw_566 tw_15 fr (by omega) xs0 (Nat.le_of_ble_eq_true rfl) (Nat.le_of_ble_eq_true rfl) d_X11_constable_49 ?_
  have s1 : h_sh (h_nw h (401 + j) (2 + 10) 17) (401 + j) = some (12, 17) := by rw [y_sh, if_pos rfl]
  have s0 : h_sh (h_nw h (401 + j) (2 + 10) 17) 0 = some (21, 16) := by rw [y_sh, if_neg (by omega)]; exact ws_0 w
  refine aw_dup d_X11_constable_52 rfl ?_
  refine aw_aload_n (i := 0) rfl d_X11_constable_53 0 rfl ?_
  refine aw_geti (k0 := 7) kc_11 s0 (Nat.le_of_ble_eq_true rfl) tw_494 d_X11_constable_54 rfl ?_
  refine aw_iload_n (i := 1) rfl d_X11_constable_57 1 rfl ?_
  refine aw_iload_n (i := 2) rfl d_X11_constable_58 2 rfl ?_
  refine aw_iload_n (i := 3) rfl d_X11_constable_59 3 rfl ?_
  refine aw_callI (vs := [.int (h_i (h_nw h (401 + j) (2 + 10) 17) 0 7), .int x1, .int x2, .int x3]) (a := 401 + j) (rest := [.ref (401 + j)]) d_X11_constable_60 (cI_X2_init (d + 1) 0 0) ⟨rfl, rfl⟩ tw_568 tw_567 rfl ⟨show d + 1 + 1 ≤ d + 2 by omega, show 8 + (5 + 11) + 100 * (d + 1) ≤ 100 * (d + 2) by omega⟩ (Nat.le_of_ble_eq_true rfl) ⟨Nat.le_of_ble_eq_true rfl, Nat.le_of_ble_eq_true rfl⟩ xs0 (c_mi2 d _ (401 + j) _ x1 x2 x3 s1) (fun v h2 kk => ?_)
  obtain ⟨ev, s2, r2, i2, n2, q2, a2⟩ := kk
  rw [ev]
  have sA : ∀ a, h_sh h2 a = if a = 401 + j then some (12, 17) else h_sh h a := fun a => by rw [s2, y_sh]
  have iA : ∀ a k, a ≠ 401 + j → h_i h2 a k = h_i h a k := fun a k ha => by rw [i2 a k ha, y_i, if_neg ha]
  have rA : ∀ a k, a ≠ 401 + j → h_r h2 a k = h_r h a k := fun a k ha => by rw [r2, y_r, if_neg ha]
  have w20 : h_sh h2 0 = some (21, 16) := by rw [sA, if_neg (by omega)]; exact ws_0 w
  have w215 : h_sh h2 15 = some (4, 12) := by rw [sA, if_neg (by omega)]; exact ws_15 w
  have w2r : h_r h2 0 6 = some 15 := by rw [rA 0 6 (by omega)]; exact wr_0_6 w
  have w2s : h_sh h2 (401 + j) = some (12, 17) := by rw [sA, if_pos rfl]
  have e7 : h_i h2 0 7 = Int32.ofNat j := by rw [iA 0 7 (by omega)]; exact ej
  refine aw_astore [(0, .ref 0), (1, .int x1), (2, .int x2), (3, .int x3), (4, .int 1), (5, .ref (401 + j))] d_X11_constable_63 (Nat.le_of_ble_eq_true rfl) rfl rfl ?_
  refine aw_aload_n (i := 0) rfl d_X11_constable_65 0 rfl ?_
  refine aw_getr (k0 := 6) kc_11 w20 (Nat.le_of_ble_eq_true rfl) tw_493 d_X11_constable_66 rfl w2r ?_
  refine aw_aload_n (i := 0) rfl d_X11_constable_69 0 rfl ?_
  refine aw_geti (k0 := 7) kc_11 w20 (Nat.le_of_ble_eq_true rfl) tw_494 d_X11_constable_70 rfl ?_
  refine aw_vi (v2 := Int32.ofNat j) e7 ?_
  refine aw_aload d_X11_constable_73 5 rfl ?_
  refine aw_aast w215 (dp_in (lo := 0) (hi := 11) ⟨by show (0 : Int) ≤ _; omega, by show _ ≤ (11 : Int); omega⟩ (by decide) (by decide)) w2s d_X11_constable_75 ?_
  rw [cj]
  refine aw_aload_n (i := 0) rfl d_X11_constable_76 0 rfl ?_
  refine aw_dup d_X11_constable_77 rfl ?_
  refine aw_geti (k0 := 7) kc_11 (h := h_rm h2 15 j (some (401 + j))) w20 (Nat.le_of_ble_eq_true rfl) tw_494 d_X11_constable_78 rfl ?_
  refine aw_iconst (v := 1) d_X11_constable_81 ic_1 ?_
  refine aw_iadd d_X11_constable_82 ?_
  have t1 : (1 : Int32).toInt = 1 := rfl
  refine aw_vi (v2 := Int32.ofNat (j + 1)) (by
    show h_i h2 0 7 + 1 = _
    rw [e7]
    refine Int32.toInt_inj.mp ?_
    rw [tx_add (by rw [t1]; omega) (by rw [t1]; omega), oj, t1, on_i (by omega)]
    omega) ?_
  refine aw_puti (k0 := 7) kc_11 (h := h_rm h2 15 j (some (401 + j))) w20 (Nat.le_of_ble_eq_true rfl) tw_494 d_X11_constable_83 rfl rfl nf_i ?_
  have I4 : Iv (h_im (h_rm h2 15 j (some (401 + j))) 0 7 (Int32.ofNat (j + 1))) := by
    refine Iv_man I hj ej (fun a => sA a) (fun a k ha hk => ?_) (by rw [h_i_im, if_pos ⟨rfl, rfl⟩]) (fun a k ha hk => ?_) ?_
    · rw [h_i_im, if_neg hk]; exact iA a k ha
    · show h_r (h_rm h2 15 j (some (401 + j))) a k = _
      rw [h_r_rm, if_neg hk]; exact rA a k ha
    · show h_r (h_rm h2 15 j (some (401 + j))) 15 j = _
      rw [h_r_rm, if_pos ⟨rfl, rfl⟩]
  have x4 : Cx h (h_im (h_rm h2 15 j (some (401 + j))) 0 7 (Int32.ofNat (j + 1))) := by
    refine ⟨I4, ⟨fun k => ?_, fun a h1 h2' k => ?_, ?_, fun a k ha hw => ?_⟩, ?_, fun c N hc hN => ?_⟩
    · rw [h_i_im, if_neg (fun y => absurd y.1 (by decide))]; exact iA 1 k (by omega)
    · rw [h_i_im, if_neg (fun y => by omega)]; exact iA a k (by omega)
    · show h_sh h2 2 = _
      rw [sA, if_neg (by omega)]
    · have na : a ≠ 401 + j := fun y => by rw [y, inw_ce (b := 401) ((cn_man hj).trans (by decide)), inw_row (a := 401) (by decide +kernel) k] at hw; cases hw
      refine ⟨by rw [h_i_im, if_neg (fun y => by rw [y.1, y.2] at hw; exact absurd hw (by decide +kernel))]; exact iA a k na, ?_⟩
      show h_r (h_rm h2 15 j (some (401 + j))) a k = _
      rw [h_r_rm, if_neg (fun y => by rw [y.1, inw_row (a := 15) (by decide +kernel) k] at hw; cases hw)]
      exact rA a k na
    · show h_r (h_rm h2 15 j (some (401 + j))) 0 15 = _
      rw [h_r_rm, if_neg (fun y => absurd y.1 (by decide))]; exact rA 0 15 (by omega)
    · show h_sh h2 c = _
      rw [sA, if_neg (fun y => by rw [y, fr] at hN; cases hN)]; exact hN
  have cn4 : Cn (h_im (h_rm h2 15 j (some (401 + j))) 0 7 (Int32.ofNat (j + 1))) (401 + j) := ⟨by omega, by omega, w2s⟩
  have m4 : h_i (h_im (h_rm h2 15 j (some (401 + j))) 0 7 (Int32.ofNat (j + 1))) 0 7 = h_i h 0 7 + 1 := by
    rw [h_i_im, if_pos ⟨rfl, rfl⟩, ej]
    refine Int32.toInt_inj.mp ?_
    rw [tx_add (by rw [t1]; omega) (by rw [t1]; omega), oj, t1, on_i (by omega)]
    omega
  have n4 : h_i (h_im (h_rm h2 15 j (some (401 + j))) 0 7 (Int32.ofNat (j + 1))) (401 + j) 0 = h_i h 0 7 := by
    rw [h_i_im, if_neg (fun y => by omega)]
    show h_i h2 (401 + j) 0 = _
    rw [n2, y_i, if_neg (by omega)]
  have q4 : h_i (h_im (h_rm h2 15 j (some (401 + j))) 0 7 (Int32.ofNat (j + 1))) (401 + j) 1 = x1 := by
    rw [h_i_im, if_neg (fun y => by omega)]
    exact q2
  have i4 : ∀ k f, k ≠ j → h_i (h_im (h_rm h2 15 j (some (401 + j))) 0 7 (Int32.ofNat (j + 1))) (401 + k) f = h_i h (401 + k) f := fun k f ne => by
    rw [h_i_im, if_neg (fun y => by omega)]
    exact iA (401 + k) f (by omega)
  have r4 : ∀ k, h_r (h_im (h_rm h2 15 j (some (401 + j))) 0 7 (Int32.ofNat (j + 1))) 15 k = if k = j then some (401 + j) else h_r h 15 k := fun k => by
    show h_r (h_rm h2 15 j (some (401 + j))) 15 k = _
    rw [h_r_rm]
    by_cases e : k = j
    · rw [if_pos ⟨rfl, e⟩, if_pos e]
    · rw [if_neg (fun y => e y.2), if_neg e]; exact rA 15 k (by omega)
  have a4 : h_i (h_im (h_rm h2 15 j (some (401 + j))) 0 7 (Int32.ofNat (j + 1))) (401 + j) = up1 (up1 (up1 (up1 (up1 (up1 (up1 (up1 (fun _ => 0) 4 0) 5 (-1)) 6 (-1)) 7 (-1)) 0 (h_i h 0 7)) 1 x1) 2 x2) 3 x3 := by
    rw [im_oth (by omega)]
    show h_i h2 (401 + j) = _
    rw [a2, y_i, if_pos rfl, y_i, if_neg (by omega)]
  have b4 : ∀ a, a ≠ 401 + j → a ≠ 0 → h_i (h_im (h_rm h2 15 j (some (401 + j))) 0 7 (Int32.ofNat (j + 1))) a = h_i h a := fun a n1 n2 => by
    rw [im_oth n2]
    exact funext (fun k => iA a k n1)
  have d4 : ∀ k, k ≠ 7 → h_i (h_im (h_rm h2 15 j (some (401 + j))) 0 7 (Int32.ofNat (j + 1))) 0 k = h_i h 0 k := fun k n => by
    rw [h_i_im, if_neg (fun y => n y.2)]
    exact iA 0 k (by omega)
  generalize h_im (h_rm h2 15 j (some (401 + j))) 0 7 (Int32.ofNat (j + 1)) = h4 at I4 x4 cn4 m4 n4 r4 q4 i4 a4 b4 d4 ⊢
  refine aw_aload_n (i := 0) rfl d_X11_constable_86 0 rfl ?_
  refine aw_aload d_X11_constable_87 5 rfl ?_
  refine aw_iload_n (i := 3) rfl d_X11_constable_89 3 rfl ?_
  refine aw_Vv 0 [.ref (401 + j), .int x3] [] d_X11_constable_90 (cV_X11_putAt (d + 0) 0 0) kc_11 (ws_0 I4.1) tw_634 rfl ⟨⟨show d + 0 + 1 ≤ d + 2 by omega, show 8 + (_ + 11) + 100 * (d + 0) ≤ 100 * (d + 2) from Nat.le_trans (Nat.add_le_add_right (Nat.le_of_ble_eq_true rfl : 8 + (_ + 11) ≤ 200) _) (by omega)⟩, Nat.le_of_ble_eq_true rfl, Nat.le_of_ble_eq_true rfl⟩ (Nat.le_of_ble_eq_true rfl) xs0 (c_put2 d I4 cn4 x3) (fun h5 kv => ?_)
  refine aw_aload d_X11_constable_93 5 rfl ?_
  refine aw_geti (k0 := 0) kc_2 (Cn_fr kv.2.1 cn4).2.2 (Nat.le_of_ble_eq_true rfl) tw_573 d_X11_constable_95 rfl ?_
  refine aw_iret rfl d_X11_constable_98 ⟨Nat.le_of_ble_eq_true rfl, Nat.le_of_ble_eq_true rfl⟩ ⟨_, rfl, ⟨x4.fr kv.1 kv.2.1 (by decide +kernel), Or.inl ⟨ok, by rw [(kv.2.1.2 (401 + j) 0 (by rw [inw_ce (b := 401) ((cn_man hj).trans (by decide))]; decide +kernel)).1]; exact n4, by rw [(kv.2.1.2 0 7 (by decide +kernel)).1]; exact m4⟩, fun mn k hk hm => ?_, fun _ => ?_, fun k hk => ⟨?_, fun l f lf => ?_⟩⟩, fun _ => ?_, fun y => absurd ok y⟩
  · rw [(kv.2.1.2 0 7 (by decide +kernel)).1, m4, ej, tx_add (by rw [t1, oj]; omega) (by rw [t1, oj]; omega), oj, t1] at hm
    rw [(kv.2.1.2 15 k (off_inw (by decide +kernel) k)).2.2, r4]
    by_cases e : k = j
    · rw [if_pos e]; exact fun y => by cases y
    · rw [if_neg e]; exact mn k hk (by rw [ej, oj]; omega)
  · rw [ej, cj, (kv.2.1.2 15 j (off_inw (by decide +kernel) j)).2.2, r4, if_pos rfl, (kv.2.1.2 (401 + j) 0 (by rw [inw_ce (b := 401) ((cn_man hj).trans (by decide))]; decide +kernel)).1, (kv.2.1.2 (401 + j) 1 (by rw [inw_ce (b := 401) ((cn_man hj).trans (by decide))]; decide +kernel)).1, n4, q4]
    exact ⟨rfl, ej, rfl⟩
  · have nk : k ≠ j := fun e => hk.elim (fun y => y (by rw [ej, cj]; exact e)) (fun y => y ok)
    rw [(kv.2.1.2 15 k (off_inw (by decide +kernel) k)).2.2, r4, if_neg nk]
  · have nk : k ≠ j := fun e => hk.elim (fun y => y (by rw [ej, cj]; exact e)) (fun y => y ok)
    have z : inw wz_X11_putAt (401 + k) f = false := by
      rw [inw_ce (b := 401) ((cn_man l).trans (by decide))]
      have zz : (List.range 4).all (fun f => !inw wz_X11_putAt 401 f) = true := by decide +kernel
      have y := List.all_eq_true.mp zz f (List.mem_range.mpr (by omega))
      rw [Bool.not_eq_true'] at y
      exact y
    rw [(kv.2.1.2 (401 + k) f z).1]
    exact i4 k f nk
  · rw [ej, cj]
    refine ⟨?_, fun a n1 n2 => ?_, fun k n => ?_⟩
    · rw [kv.2.2.1, a4, ej]
      rfl
    · rw [kv.2.2.2 a n1, b4 a n1 n2]
    · rw [kv.2.2.2 0 (by omega), d4 k n]
noncomputable def wcM : List Nat := [1007, 204999, 205999, 206999, 207999, 208999, 209999, 210999, 211999, 213999, 215999, 216999, 217999]
/-- what the reference's constable leaves, in all -/
noncomputable def CwA (x1 x2 x3 : Int32) (h h' : Hp_) : Prop := (okm (h_i h 1 7) x1 x2 x3 → RMp (h_i h 1 7).toNatClampNeg (nMn (h_i h 1 7) x1 x2 x3) h' ∧ (h_i h' 205 (h_i h 1 7).toNatClampNeg = x2 ∧ h_i h' 207 (h_i h 1 7).toNatClampNeg = h_i h 1 0) ∧ Fr wcM h h' ∧ ∀ a k, a ≠ 1 → k ≠ (h_i h 1 7).toNatClampNeg → h_i h' a k = h_i h a k) ∧ (¬ okm (h_i h 1 7) x1 x2 x3 → h' = h)
theorem m_con2 (d : Nat) {h : Hp_} (I : Iv h) (J : J2 h) (x1 x2 x3 : Int32) : Ci (m_X12_constable (d + 2) 0 0) [.ref 1, .int x1, .int x2, .int x3] h (fun r h' => Iv h' ∧ J2 h' ∧ Sn h h' ∧ ocm (h_i h 1 7) x1 x2 x3 r (h_i h' 1 7) ∧ Cw (okm (h_i h 1 7) x1 x2 x3) (h_i h 1 7) x1 h h' ∧ CwA x1 x2 x3 h h') := by
  have t0 : (0 : Int32).toInt = 0 := rfl
  have t1 : (1 : Int32).toInt = 1 := rfl
  have t12 : (12 : Int32).toInt = 12 := rfl
  have m0 : 0 ≤ (h_i h 1 7).toInt := (men_in I).1
  have m1 : (h_i h 1 7).toInt ≤ 12 := (men_in I).2
  refine t_X12_constable d h I.1 x1 x2 x3 _ ⟨fun n => ⟨I, J, Fr.rf _ _, Or.inr ⟨fun o => n o.1, rfl, rfl⟩, ⟨fun o => absurd o.1 n, fun _ _ => rfl⟩, fun o => absurd o.1 n, fun _ => rfl⟩, fun a1 => ⟨fun n => ⟨I, J, Fr.rf _ _, Or.inr ⟨fun o => n o.2.1, rfl, rfl⟩, ⟨fun o => absurd o.2.1 n, fun _ _ => rfl⟩, fun o => absurd o.2.1 n, fun _ => rfl⟩, fun a2 => ⟨fun n => ⟨I, J, Fr.rf _ _, Or.inr ⟨fun o => n o.2.2.1, rfl, rfl⟩, ⟨fun o => absurd o.2.2.1 n, fun _ _ => rfl⟩, fun o => absurd o.2.2.1 n, fun _ => rfl⟩, fun y => ⟨fun z => ?_, fun n => ⟨I, J, Fr.rf _ _, Or.inr ⟨fun o => o.2.2.2 n, rfl, rfl⟩, ⟨fun o => absurd n o.2.2.2, fun _ _ => rfl⟩, fun o => absurd n o.2.2.2, fun _ => rfl⟩⟩⟩⟩⟩
  have ok : okm (h_i h 1 7) x1 x2 x3 := ⟨a1, a2, y, z⟩
  have y1 := q_le.mp y.1
  have y2 := q_le.mp y.2
  have b3 : rin x3.toInt (0, 15) := ⟨y1, y2⟩
  have lt : (h_i h 1 7).toInt ≤ 11 := by
    rcases Int.lt_or_le (h_i h 1 7).toInt 12 with u | u
    · omega
    · exact absurd (Int32.toInt_inj.mp (by rw [t12]; omega)) z
  have v : vp_in (h_i h 1 7) 12 := dp_in (lo := 0) (hi := 11) ⟨m0, lt⟩ (by decide) (by decide)
  have e7 : (h_i h 1 7 + 1).toInt = (h_i h 1 7).toInt + 1 := tx_add (by rw [t1]; omega) (by rw [t1]; omega)
  refine ⟨v, v, v, v, v, v, v, v, v, v, v, v, ?_⟩
  have nr := I.2.1 1 0
  rw [show tf 1 0 = (0, 20000) by decide +kernel] at nr
  have nc := n_nat m0
  generalize ecc : (h_i h 1 7).toNatClampNeg = c at nc ⊢
  have z4 : rin (0 : Int32).toInt (0, 400) := ⟨by decide, by decide⟩
  have IA := i2xx 205 (by decide +kernel) (by decide) (by decide) (i2xx 204 (by decide +kernel) (by decide) (by decide) I c x1) c x2
  have FB : Fr wsN h (h_im (h_im (h_im (h_im h 204 c x1) 205 c x2) 206 c x3) 207 c (h_i h 1 0)) := ((((Fr.rf _ _).im (inw_row (by decide +kernel) _)).im (inw_row (by decide +kernel) _)).im (inw_row (by decide +kernel) _)).im (inw_row (by decide +kernel) _)
  have JB : J2 (h_im (h_im (h_im (h_im h 204 c x1) 205 c x2) 206 c x3) 207 c (h_i h 1 0)) := J2_s (Js.im (by decide) (fun z => absurd z.1 (by decide))) (J2_s (Js.im (by decide) (fun z => absurd z.1 (by decide))) (J2_s (Js.im (by decide) (fun z => absurd z.1 (by decide))) (J2_s (Js.im (by decide) (fun z => absurd z.1 (by decide))) J)))
  have IB : Iv (h_im (h_im (h_im (h_im h 204 c x1) 205 c x2) 206 c x3) 207 c (h_i h 1 0)) := (IA.im (by rw [tfa_tf (show tfa 206 = some (0, 15) by decide +kernel)]; exact b3) (jw_jr (by decide) (by decide) _)).im (by rw [tfa_tf (show tfa 207 = some (0, 20000) by decide +kernel)]; exact nr) (jw_jr (by decide) (by decide) _)
  have MB : Mo c (h_im (h_im (h_im (h_im h 204 c x1) 205 c x2) 206 c x3) 207 c (h_i h 1 0)) (h_im (h_im (h_im (h_im h 204 c x1) 205 c x2) 206 c x3) 207 c (h_i h 1 0)) := Mo.rf _ _
  have IC := i213 (i211 (i210 (i209 (i208 IB c 0) c (b15 b3)) c m1_in) c (-1)) c m1_st
  have MC := ((((MB.im (b := 208) (k := c) (x := 0) (by decide) (fun _ => rfl)).im (b := 209) (k := c) (x := x3) (by decide) (fun y => absurd y (by decide))).im (b := 210) (k := c) (x := -1) (by decide) (fun _ => rfl)).im (b := 211) (k := c) (x := -1) (by decide) (fun y => absurd y (by decide))).im (b := 213) (k := c) (x := -1) (by decide) (fun _ => rfl)
  have ID : Iv (h_im (h_im (h_im (h_im (h_im (h_im (h_im (h_im (h_im (h_im (h_im (h_im h 204 c x1) 205 c x2) 206 c x3) 207 c (h_i h 1 0)) 208 c 0) 209 c x3) 210 c (-1)) 211 c (-1)) 213 c (-1)) 215 c 0) 216 c 0) 217 c 0) := (i216 (i215 IC c z4) c z4).im (by rw [tfa_tf (show tfa 217 = some (0, 400) by decide +kernel)]; exact z4) (jw_jr (by decide) (by decide) _)
  have MD := ((MC.im (b := 215) (k := c) (x := 0) (by decide) (fun y => absurd y (by decide))).im (b := 216) (k := c) (x := 0) (by decide) (fun _ => rfl)).im (b := 217) (k := c) (x := 0) (by decide) (fun y => absurd y (by decide))
  have e8 : h_i (h_im (h_im (h_im (h_im (h_im (h_im (h_im (h_im (h_im (h_im (h_im (h_im h 204 c x1) 205 c x2) 206 c x3) 207 c (h_i h 1 0)) 208 c 0) 209 c x3) 210 c (-1)) 211 c (-1)) 213 c (-1)) 215 c 0) 216 c 0) 217 c 0) 208 c = 0 := by rw [im_ne (by decide), im_ne (by decide), im_ne (by decide), im_ne (by decide), im_ne (by decide), im_ne (by decide), im_ne (by decide), im_at]
  have e10 : h_i (h_im (h_im (h_im (h_im (h_im (h_im (h_im (h_im (h_im (h_im (h_im (h_im h 204 c x1) 205 c x2) 206 c x3) 207 c (h_i h 1 0)) 208 c 0) 209 c x3) 210 c (-1)) 211 c (-1)) 213 c (-1)) 215 c 0) 216 c 0) 217 c 0) 210 c = -1 := by rw [im_ne (by decide), im_ne (by decide), im_ne (by decide), im_ne (by decide), im_ne (by decide), im_at]
  have JC := Jd.jm ⟨by rw [e8]; decide, fun _ => e10⟩
  have JD := J2_o MD JB JC
  have eM := (MD.2.2.2.1 7 (Or.inr (Or.inl rfl))).trans (show h_i (h_im (h_im (h_im (h_im h 204 c x1) 205 c x2) 206 c x3) 207 c (h_i h 1 0)) 1 7 = h_i h 1 7 by rw [im_ne (by decide), im_ne (by decide), im_ne (by decide), im_ne (by decide)])
  refine ⟨ID.im (by rw [show tf 1 7 = (0, 12) by decide +kernel]; exact ⟨by show (0 : Int) ≤ _; omega, by show _ ≤ (12 : Int); omega⟩) (by decide), fun k hk hm => Jm_z (Jz.im (by decide) (fun y => absurd y.2 (by decide))) ?_, Fr.im (FB.tr MD.sr.sn) (by decide +kernel), Or.inl ⟨ok, tx_back _, im_at⟩, ⟨fun _ => ?_, fun k hk => ?_⟩, fun _ => ?_, fun y => absurd ok y⟩
  · rw [im_at, e7] at hm
    by_cases ek : k = c
    · rw [ek]; exact JC
    · exact JD k hk (by rw [eM]; omega)
  · rw [ecc, im_ne (by decide), im_ne (by decide), im_ne (by decide), im_ne (by decide), im_ne (by decide), im_ne (by decide), im_ne (by decide), im_ne (by decide), im_ne (by decide), im_ne (by decide), im_ne (by decide), im_ne (by decide), im_at]
  · have nk : k ≠ c := fun e => hk.elim (fun y => y (by rw [ecc]; exact e)) (fun y => y ok)
    rw [im_ne (by decide), im_ne (by decide), im_ne (by decide), im_ne (by decide), im_ne (by decide), im_ne (by decide), im_ne (by decide), im_ne (by decide), im_ne (by decide), im_ne (by decide), im_ne (by decide), im_ne (by decide), h_i_im, if_neg (fun e => nk e.2)]
  · rw [ecc]
    refine ⟨⟨⟨(by show _ = (0 : Int32); rw [im_ne (by decide), im_ne (by decide), im_ne (by decide), im_ne (by decide), im_ne (by decide), im_ne (by decide), im_ne (by decide), im_ne (by decide), im_at]), (by show _ = (x3 : Int32); rw [im_ne (by decide), im_ne (by decide), im_ne (by decide), im_ne (by decide), im_ne (by decide), im_ne (by decide), im_ne (by decide), im_at]), (by show _ = (-1 : Int32); rw [im_ne (by decide), im_ne (by decide), im_ne (by decide), im_ne (by decide), im_ne (by decide), im_ne (by decide), im_at]), (by show _ = (-1 : Int32); rw [im_ne (by decide), im_ne (by decide), im_ne (by decide), im_ne (by decide), im_ne (by decide), im_at])⟩, fun y => absurd (show (0 : Int32) = 1 from y) (by decide), fun y => absurd (show (0 : Int32) = 3 from y) (by decide), (by show _ = (x3 : Int32); rw [im_ne (by decide), im_ne (by decide), im_ne (by decide), im_ne (by decide), im_ne (by decide), im_ne (by decide), im_ne (by decide), im_ne (by decide), im_ne (by decide), im_ne (by decide), im_at])⟩, ⟨(by rw [im_ne (by decide), im_ne (by decide), im_ne (by decide), im_ne (by decide), im_ne (by decide), im_ne (by decide), im_ne (by decide), im_ne (by decide), im_ne (by decide), im_ne (by decide), im_ne (by decide), im_at]), (by rw [im_ne (by decide), im_ne (by decide), im_ne (by decide), im_ne (by decide), im_ne (by decide), im_ne (by decide), im_ne (by decide), im_ne (by decide), im_ne (by decide), im_at])⟩, ?_, fun a k n1 nk => ?_⟩
    · exact (((((((((((((Fr.rf _ _).im (inw_row (by decide +kernel) _)).im (inw_row (by decide +kernel) _)).im (inw_row (by decide +kernel) _)).im (inw_row (by decide +kernel) _)).im (inw_row (by decide +kernel) _)).im (inw_row (by decide +kernel) _)).im (inw_row (by decide +kernel) _)).im (inw_row (by decide +kernel) _)).im (inw_row (by decide +kernel) _)).im (inw_row (by decide +kernel) _)).im (inw_row (by decide +kernel) _)).im (inw_row (by decide +kernel) _)).im (by decide +kernel)
    · rw [h_i_im, if_neg (fun e => n1 e.1), h_i_im, if_neg (fun e => nk e.2), h_i_im, if_neg (fun e => nk e.2), h_i_im, if_neg (fun e => nk e.2), h_i_im, if_neg (fun e => nk e.2), h_i_im, if_neg (fun e => nk e.2), h_i_im, if_neg (fun e => nk e.2), h_i_im, if_neg (fun e => nk e.2), h_i_im, if_neg (fun e => nk e.2), h_i_im, if_neg (fun e => nk e.2), h_i_im, if_neg (fun e => nk e.2), h_i_im, if_neg (fun e => nk e.2), h_i_im, if_neg (fun e => nk e.2)]
/-! MEN: what class and reference keep alike -/
theorem wI_cg {h h' : Hp_} (e : h_i h' 30 = h_i h 30) : wI h' = wI h := by
  funext a b
  unfold wI
  rw [e]
theorem bL_cg {h h' : Hp_} (a : h_i h' 227 = h_i h 227) (b : h_i h' 228 = h_i h 228) (c : h_i h' 229 = h_i h 229) (d : h_i h' 230 = h_i h 230) : bL h' = bL h := by
  funext k
  unfold bL sB
  rw [a, b, c, d]
theorem gw_fr {c : Nat} {ws W : List Nat} {h h' : Hp_} (g : Gw c ws h h') (h1 : 401 ≤ c) (h2 : c ≤ 412) (s : wsub ws W = true) (r : ∀ k, inw W 401 k = true) (l : inw W 0 14 = true) : Fr W h h' := ⟨g.1, fun b k o => by
  have z := g.2 b k (inw_sub s o)
  refine ⟨z.2.2 (fun e => ?_), z.2.1 (fun e => ?_), z.1⟩
  · have e' : cn b = cn 401 := by
      rw [e, show c = 401 + (c - 401) by omega]
      exact (cn_man (by omega)).trans (by decide)
    rw [inw_ce e', r] at o
    cases o
  · rw [e.1, e.2, l] at o
    cases o⟩
theorem pI.mo {β : Type} {w w' : Int32 → Int32 → Int32} {BL BL' : Nat → List Sp3} {nb nb' rw rw' : Nat} {own own' : Nat → Int32} {m : Nat} {s : Pst β} (p : pI w BL nb rw own m s) (hw : ∀ a b, ¬ w a b = -1 → ¬ w' a b = -1) (hb : nb ≤ nb') (hB : ∀ k, k < nb → BL' k = BL k) (hr : rw ≤ rw') (ho : ∀ k, k < rw → own' k = own k) : pI w' BL' nb' rw' own' m s := fun j hj => by
  obtain ⟨⟨a, b⟩, c, d⟩ := p j hj
  refine ⟨⟨⟨a.1, a.2.1, a.2.2.1, a.2.2.2.1, a.2.2.2.2.1, a.2.2.2.2.2.1, fun e => ⟨(a.2.2.2.2.2.2.1 e).1, hw _ _ (a.2.2.2.2.2.2.1 e).2.1, (a.2.2.2.2.2.2.1 e).2.2⟩, hw _ _ a.2.2.2.2.2.2.2⟩, fun e => ?_⟩, c, fun e k k1 k2 => ?_⟩
  · obtain ⟨i, x, L, q1, q2, q3⟩ := b e
    exact ⟨i, x, L, ⟨q1.1, Nat.lt_of_lt_of_le q1.2 hb⟩, by rw [hB _ q1.2]; exact q2, q3.1, q3.2.1, q3.2.2.1, q3.2.2.2.1, by have := q3.2.2.2.2; omega⟩
  · obtain ⟨i, x, L, q1, q2, q3⟩ := b e
    have z := q3.2.2.2.2
    rw [ho k (by omega)]
    exact d e k k1 k2
theorem pI.cs {β : Type} {w : Int32 → Int32 → Int32} {BL : Nat → List Sp3} {nb rw : Nat} {own : Nat → Int32} {m : Nat} {s s' : Pst β} (p : pI w BL nb rw own m s) (e1 : ∀ j, j < m → s'.1 j = s.1 j) (e2 : s'.2.1 = s.2.1) : pI w BL nb rw own m s' := fun j hj => by
  rw [e1 j hj, e2]
  exact p j hj
theorem on_ne {l j : Nat} (hl : l < 1000) (hj : j < 1000) (e : Int32.ofNat l = Int32.ofNat j) : l = j := by
  have z := congrArg Int32.toInt e
  rw [on_j (by omega), on_j (by omega)] at z
  omega
theorem pI_ev {β : Type} {w : Int32 → Int32 → Int32} {BL : Nat → List Sp3} {nb rw : Nat} {own : Nat → Int32} {m : Nat} {s s' : Pst β} (p : pI w BL nb rw own m s) (m12 : m ≤ 12) {j : Nat} (hj : j < m) {M' : Nat → Int32} {E : List Ev2} (K : Km w BL nb rw M') (e0 : M' 0 = s.1 j 0) (er : E = [] ∨ (s.1 j 4 = 1 ∧ (s.1 j 11).toInt + (E.length : Int) ≤ (s.1 j 12).toInt)) (n1 : ¬ M' 4 = 1) (hs : s'.1 j = M') (ho : ∀ l, l < m → l ≠ j → s'.1 l = s.1 l) (hr : s'.2.1 = rz Prod.fst (s.1 j 11).toNatClampNeg E s.2.1) : pI w BL nb rw own m s' := fun l hl => by
  by_cases el : l = j
  · subst el
    rw [hs]
    exact ⟨K, e0.trans (p l hl).2.1, fun e => absurd e n1⟩
  · obtain ⟨a, b, c⟩ := p l hl
    rw [ho l hl el]
    refine ⟨a, b, fun e k k1 k2 => ?_⟩
    have cc := c e k k1 k2
    refine ⟨?_, cc.2⟩
    rw [hr, rz_o _ _ _ _ _ ?_]
    · exact cc.1
    · rcases er with er | er
      · rw [er]
        show k < _ ∨ _ + 0 ≤ k
        omega
      · refine Decidable.byContradiction (fun n => ?_)
        obtain ⟨i, x, L, q1, q2, q3⟩ := (p j hj).1.2 er.1
        have n11 := n_nat q3.2.2.1
        have q := (p j hj).2.2 er.1 k (by omega) (by omega)
        have z := q.2
        rw [cc.2] at z
        exact el (on_ne (by omega) (by omega) z)
noncomputable def sX (h : Hp_) : Pst Unit := (fun j => h_i h (401 + j), h_i h 51, h_i h 52, h_i h 53, ())
noncomputable def ExM (h : Hp_) : Prop := (h_i h 0 7 = h_i h 1 7 ∧ h_i h 0 0 = h_i h 1 0 ∧ h_i h 16 7 = h_i h 1 63 ∧ (h_i h 0 7).toNatClampNeg ≤ 12) ∧ Mrw h ∧ pI (wI h) (bL h) (h_i h 12 3).toNatClampNeg (h_i h 16 7).toNatClampNeg (h_i h 47) (h_i h 0 7).toNatClampNeg (sX h) ∧ (∀ j, j < (h_i h 0 7).toNatClampNeg → RMp j (h_i h (401 + j)) h) ∧ (∀ k, k < (h_i h 16 7).toNatClampNeg → stt (h_i h 51 k) (h_i h 52 k) (h_i h 53 k) (h_i h 241 k) (h_i h 242 k) (h_i h 243 k) ∧ (h_i h 47 k = h_i h 238 k ∧ h_i h 48 k = h_i h 239 k ∧ h_i h 49 k = h_i h 240 k ∧ h_i h 50 k = h_i h 244 k) ∧ (¬ h_i h 51 k = 0 → (h_i h 52 k).toInt ≤ (h_i h 0 0).toInt)) ∧ ∀ k, (h_i h 16 7).toNatClampNeg ≤ k → k < 400 → h_i h 51 k = 0
noncomputable def mqL : List (Nat × Nat) := [(0, 7), (1, 7), (0, 0), (1, 0), (16, 7), (1, 63), (12, 3)]
noncomputable def mqR : List Nat := [30, 47, 48, 49, 50, 51, 52, 53, 206, 208, 209, 210, 211, 212, 213, 214, 215, 216, 217, 218, 219, 227, 228, 229, 230, 238, 239, 240, 241, 242, 243, 244, 248]
theorem mqR_m : ∀ a ∈ 206 :: mrL, a ∈ mqR := by decide
theorem ExM.cg {h h' : Hp_} (x : ExM h) (n : ∀ q ∈ mqL, h_i h' q.1 q.2 = h_i h q.1 q.2) (r : ∀ a ∈ mqR, h_i h' a = h_i h a) (f : ∀ k, h_r h' 15 k = h_r h 15 k) (c : ∀ j, j < 12 → h_i h' (401 + j) = h_i h (401 + j)) : ExM h' := by
  have n07 : h_i h' 0 7 = h_i h 0 7 := n (0, 7) (by decide)
  have n17 : h_i h' 1 7 = h_i h 1 7 := n (1, 7) (by decide)
  have n00 : h_i h' 0 0 = h_i h 0 0 := n (0, 0) (by decide)
  have n10 : h_i h' 1 0 = h_i h 1 0 := n (1, 0) (by decide)
  have nr : h_i h' 16 7 = h_i h 16 7 := n (16, 7) (by decide)
  have n63 : h_i h' 1 63 = h_i h 1 63 := n (1, 63) (by decide)
  have n3 : h_i h' 12 3 = h_i h 12 3 := n (12, 3) (by decide)
  have m12 := x.1.2.2.2
  have r51 := r 51 (by decide)
  refine ⟨⟨by rw [n07, n17]; exact x.1.1, by rw [n00, n10]; exact x.1.2.1, by rw [nr, n63]; exact x.1.2.2.1, by rw [n07]; exact m12⟩, fun k hk => by rw [f k]; exact x.2.1 k (by rw [n07] at hk; exact hk), ?_, fun j hj => ?_, fun k hk => ?_, fun k hk h4 => ?_⟩
  · rw [wI_cg (r 30 (by decide)), bL_cg (r 227 (by decide)) (r 228 (by decide)) (r 229 (by decide)) (r 230 (by decide)), n3, nr, r 47 (by decide), n07]
    exact x.2.2.1.cs (fun j hj => c j (by omega)) r51
  · rw [n07] at hj
    rw [c j (by omega)]
    exact (x.2.2.2.1 j hj).cg (fun a ha => congrFun (r a (mqR_m a ha)) j)
  · rw [nr] at hk
    rw [r51, r 52 (by decide), r 53 (by decide), r 241 (by decide), r 242 (by decide), r 243 (by decide), r 47 (by decide), r 48 (by decide), r 49 (by decide), r 50 (by decide), r 238 (by decide), r 239 (by decide), r 240 (by decide), r 244 (by decide), n00]
    exact x.2.2.2.2.1 k hk
  · rw [nr] at hk
    rw [r51]
    exact x.2.2.2.2.2 k hk h4
noncomputable def exoM (ws : List Nat) : Bool := mqL.all (fun q => !inw ws q.1 q.2) && mqR.all (fun a => off ws a) && off ws 15 && off ws 401
theorem ExM.fr {ws : List Nat} {h h' : Hp_} (x : ExM h) (f : Fr ws h h') (o : exoM ws = true) : ExM h' := by
  unfold exoM at o
  simp only [Bool.and_eq_true] at o
  refine x.cg (fun q hq => ?_) (fun a ha => funext (fun k => fr_i f (List.all_eq_true.mp o.1.1.2 a ha) k)) (fun k => (f.2 15 k (off_inw o.1.2 k)).2.2) (fun j hj => funext (fun k => (f.2 (401 + j) k ?_).1))
  · have z := List.all_eq_true.mp o.1.1.1 q hq
    rw [Bool.not_eq_true'] at z
    exact (f.2 q.1 q.2 z).1
  · rw [inw_ce (b := 401) ((cn_man hj).trans (by decide))]
    exact off_inw o.2 k
theorem rz_at (g : Ev2 → Int32) (E : List Ev2) (r : Nat) (f : Nat → Int32) {k : Nat} (a : r ≤ k) (b : k < r + E.length) : ∃ e, rz g r E f k = g e ∧ ∀ f', rz g r E f' k = g e := by
  have he : E[k - r]? = some (E[k - r]'(by omega)) := List.getElem?_eq_getElem (by omega)
  have z := fun f => rz_i g E r f (k - r) _ he
  rw [show r + (k - r) = k by omega] at z
  exact ⟨_, z f, z⟩
/-- what is settled was settled by now -/
theorem tm_rz {E : List Ev2} {r k : Nat} {n : Int32} {fo ft : Nat → Int32} {N : Int} (h : ¬ fo k = 0 → (ft k).toInt ≤ N) (l : N ≤ n.toInt) : ¬ rz Prod.fst r E fo k = 0 → (rz (fun _ => n) r E ft k).toInt ≤ n.toInt := fun ne => by
  by_cases c : r ≤ k ∧ k < r + E.length
  · obtain ⟨e, he, _⟩ := rz_at (fun _ => n) E r ft c.1 c.2
    rw [he]
    exact Int.le_refl _
  · have o : k < r ∨ r + E.length ≤ k := by omega
    rw [rz_o _ _ _ _ _ o] at ne ⊢
    exact Int.le_trans (h ne) l
noncomputable abbrev PU : Unit → Hp_ → Prop := fun _ _ => True
noncomputable def wMx : List Nat := 14 :: 401999 :: wgM
/-- one man, and his rows -/
theorem ExM.ev {h h1 h2 : Hp_} {j : Nat} {n : Int32} {M' : Nat → Int32} {E : List Ev2} {b1 b2 : Unit} (x : ExM h) (hj : j < (h_i h 0 7).toNatClampNeg) (k1 : Sxm PU (401 + j) n M' (h_i h (401 + j) 11).toNatClampNeg E b1 h h1) (k2 : Mx PU j n M' (h_i h (401 + j) 11).toNatClampNeg E b2 h1 h2) (K : Km (wI h) (bL h) (h_i h 12 3).toNatClampNeg (h_i h 16 7).toNatClampNeg M') (e0 : M' 0 = h_i h (401 + j) 0) (er : E = [] ∨ (h_i h (401 + j) 4 = 1 ∧ (h_i h (401 + j) 11).toInt + (E.length : Int) ≤ (h_i h (401 + j) 12).toInt)) (n1 : ¬ M' 4 = 1) (he : ∀ e ∈ E, e.1 = 1 ∨ e.1 = 2) (pn : 0 ≤ n.toInt) (en : n = h_i h 0 0) : Fr wMx h h1 ∧ Fr mwR h1 h2 ∧ ExM h2 := by
  have m12 := x.1.2.2.2
  have f1 : Fr wMx h h1 := gw_fr k1.2.1 (by omega) (by omega) (by decide +kernel) (fun k => inw_row (by decide +kernel) k) (by decide +kernel)
  have f2 : Fr mwR h1 h2 := k2.2.1.1
  refine ⟨f1, f2, ?_⟩
  have i1 : ∀ a k, inw wMx a k = false → inw mwR a k = false → h_i h2 a k = h_i h a k := fun a k o1 o2 => ((f2.2 a k o2).1).trans (f1.2 a k o1).1
  have r1 : ∀ a, off wMx a = true → off mwR a = true → h_i h2 a = h_i h a := fun a o1 o2 => funext (fun k => i1 a k (off_inw o1 k) (off_inw o2 k))
  have n07 : h_i h2 0 7 = h_i h 0 7 := i1 0 7 (by decide +kernel) (by decide +kernel)
  have n17 : h_i h2 1 7 = h_i h 1 7 := i1 1 7 (by decide +kernel) (by decide +kernel)
  have n00 : h_i h2 0 0 = h_i h 0 0 := i1 0 0 (by decide +kernel) (by decide +kernel)
  have n10 : h_i h2 1 0 = h_i h 1 0 := i1 1 0 (by decide +kernel) (by decide +kernel)
  have nr : h_i h2 16 7 = h_i h 16 7 := i1 16 7 (by decide +kernel) (by decide +kernel)
  have n63 : h_i h2 1 63 = h_i h 1 63 := i1 1 63 (by decide +kernel) (by decide +kernel)
  have n3 : h_i h2 12 3 = h_i h 12 3 := i1 12 3 (by decide +kernel) (by decide +kernel)
  have c2 : ∀ l, l < 12 → h_i h2 (401 + l) = h_i h1 (401 + l) := fun l hl => funext (fun k => (f2.2 (401 + l) k (by
    rw [inw_ce (b := 401) ((cn_man hl).trans (by decide))]
    exact off_inw (by decide +kernel) k)).1)
  have cj : h_i h2 (401 + j) = M' := (c2 j (by omega)).trans k1.2.2.1
  have co : ∀ l, l < 12 → l ≠ j → h_i h2 (401 + l) = h_i h (401 + l) := fun l hl ne => (c2 l hl).trans (funext (fun k => k1.2.1.i (401 + l) k (by omega) (by
    rw [inw_ce (b := 401) ((cn_man hl).trans (by decide))]
    exact off_inw (by decide +kernel) k)))
  have g51 : h_i h2 51 = rz Prod.fst (h_i h (401 + j) 11).toNatClampNeg E (h_i h 51) := (funext (fun k => fr_i f2 (by decide +kernel) k)).trans k1.2.2.2.1.1
  have g52 : h_i h2 52 = rz (fun _ => n) (h_i h (401 + j) 11).toNatClampNeg E (h_i h 52) := (funext (fun k => fr_i f2 (by decide +kernel) k)).trans k1.2.2.2.1.2.1
  have g53 : h_i h2 53 = rz Prod.snd (h_i h (401 + j) 11).toNatClampNeg E (h_i h 53) := (funext (fun k => fr_i f2 (by decide +kernel) k)).trans k1.2.2.2.1.2.2
  have e241 : h_i h1 241 = h_i h 241 := funext (fun k => fr_i f1 (by decide +kernel) k)
  have e242 : h_i h1 242 = h_i h 242 := funext (fun k => fr_i f1 (by decide +kernel) k)
  have e243 : h_i h1 243 = h_i h 243 := funext (fun k => fr_i f1 (by decide +kernel) k)
  have opn : ∀ k, (h_i h (401 + j) 11).toNatClampNeg ≤ k → k < (h_i h (401 + j) 11).toNatClampNeg + E.length → h_i h 51 k = 0 ∧ k < (h_i h 16 7).toNatClampNeg := fun k a b => by
    rcases er with er | er
    · rw [er] at b
      exact absurd b (by show ¬ k < _ + 0; omega)
    · obtain ⟨i, y, L, q1, q2, q3⟩ := (x.2.2.1 j hj).1.2 er.1
      have q11 : 0 ≤ (h_i h (401 + j) 11).toInt := q3.2.2.1
      have q12 : (h_i h (401 + j) 12).toInt ≤ ((h_i h 16 7).toNatClampNeg : Int) := q3.2.2.2.2
      have n11 := n_nat q11
      exact ⟨((x.2.2.1 j hj).2.2 er.1 k (by show (h_i h (401 + j) 11).toInt ≤ _; omega) (by show _ < (h_i h (401 + j) 12).toInt; omega)).1, by omega⟩
  refine ⟨⟨by rw [n07, n17]; exact x.1.1, by rw [n00, n10]; exact x.1.2.1, by rw [nr, n63]; exact x.1.2.2.1, by rw [n07]; exact m12⟩, fun k hk => ?_, ?_, fun l hl => ?_, fun k hk => ?_, fun k hk h4 => ?_⟩
  · rw [(f2.2 15 k (off_inw (by decide +kernel) k)).2.2, (f1.2 15 k (off_inw (by decide +kernel) k)).2.2]
    exact x.2.1 k (by rw [n07] at hk; exact hk)
  · rw [wI_cg (r1 30 (by decide +kernel) (by decide +kernel)), bL_cg (r1 227 (by decide +kernel) (by decide +kernel)) (r1 228 (by decide +kernel) (by decide +kernel)) (r1 229 (by decide +kernel) (by decide +kernel)) (r1 230 (by decide +kernel) (by decide +kernel)), n3, nr, r1 47 (by decide +kernel) (by decide +kernel), n07]
    exact pI_ev x.2.2.1 m12 hj K e0 er n1 cj (fun l hl ne => co l (by omega) ne) g51
  · rw [n07] at hl
    by_cases c : l = j
    · subst c
      rw [cj]
      exact k2.2.2.1
    · rw [co l (by omega) c]
      refine ((x.2.2.2.1 l hl).cg (h' := h1) (fun a ha => ?_)).cg (fun a ha => ?_)
      · exact fr_i f1 (List.all_eq_true.mp (show (206 :: mrL).all (fun a => off wMx a) = true by decide +kernel) a ha) l
      · rcases List.mem_cons.mp ha with e | e
        · rw [e]
          exact k2.2.1.k.2.2.1 l
        · exact k2.2.1.2 a e l c
  · rw [nr] at hk
    have q := x.2.2.2.2.1 k hk
    rw [g51, g52, g53, k2.2.2.2.1.1, k2.2.2.2.1.2.1, k2.2.2.2.1.2.2, e241, e242, e243, r1 47 (by decide +kernel) (by decide +kernel), r1 48 (by decide +kernel) (by decide +kernel), r1 49 (by decide +kernel) (by decide +kernel), r1 50 (by decide +kernel) (by decide +kernel), r1 238 (by decide +kernel) (by decide +kernel), r1 239 (by decide +kernel) (by decide +kernel), r1 240 (by decide +kernel) (by decide +kernel), r1 244 (by decide +kernel) (by decide +kernel)]
    exact ⟨stt_ev pn he q.1 (fun a b => (opn k a b).1), q.2.1, by rw [n00, ← en]; exact tm_rz (N := (h_i h 0 0).toInt) q.2.2 (by rw [en]; exact Int.le_refl _)⟩
  · rw [nr] at hk
    rw [g51, rz_o]
    · exact x.2.2.2.2.2 k hk h4
    · refine Decidable.byContradiction (fun y => ?_)
      have z := (opn k (by omega) (by omega)).2
      omega
end
section
/-! MEN: draw and ill -/
theorem dp_ev {cz : Int32} {M : Nat → Int32} : ∀ e ∈ (fDp cz M).2, e.1 = 1 ∨ e.1 = 2 := fun e he => by
  unfold fDp at he
  split at he
  · rw [(List.mem_replicate.mp he).2]
    exact Or.inr rfl
  · cases he
theorem dp_le {cz : Int32} {M : Nat → Int32} {w : Int32 → Int32 → Int32} {BL : Nat → List Sp3} {nb rw : Nat} (K : Km w BL nb rw M) (r4 : rw ≤ 400) : (fDp cz M).2 = [] ∨ (M 4 = 1 ∧ (M 11).toInt + ((fDp cz M).2.length : Int) ≤ (M 12).toInt) := by
  by_cases e : M 4 = 1
  · obtain ⟨i, x, L, q1, q2, q3⟩ := K.2 e
    have a := q3.2.2.1
    have b := q3.2.2.2.1
    have c := q3.2.2.2.2
    have s : (M 12 - M 11).toInt = (M 12).toInt - (M 11).toInt := tx_sub (by omega) (by omega)
    have n := n_nat (x := M 12 - M 11) (by omega)
    refine Or.inr ⟨e, ?_⟩
    unfold fDp
    rw [if_pos e]
    show _ + ((List.replicate (M 12 - M 11).toNatClampNeg ((2, cz) : Ev2)).length : Int) ≤ _
    rw [List.length_replicate]
    omega
  · refine Or.inl ?_
    unfold fDp
    rw [if_neg e]
theorem fHome_4 {n : Int32} {w : Int32 → Int32 → Int32} {M : Nat → Int32} : ¬ fHome n w M 4 = 1 := by
  unfold fHome
  split
  · exact fun e => absurd (show (2 : Int32) = 1 from e) (by decide)
  · exact fun e => absurd (show (0 : Int32) = 1 from e) (by decide)
theorem fDr_4 {n : Int32} {w : Int32 → Int32 → Int32} {M : Nat → Int32} (e4 : M 4 = 3) : ¬ fDr n w M 4 = 1 := by
  unfold fDr
  split
  · exact fun e => absurd (e4.symm.trans (show M 4 = 1 from e)) (by decide)
  · split
    · exact fun e => absurd (e4.symm.trans (show M 4 = 1 from e)) (by decide)
    · exact fHome_4
theorem fDw_4 {n : Int32} {w : Int32 → Int32 → Int32} {x2 x3 : Int32} {M : Nat → Int32} : ¬ (fDw n w x2 x3 M).1 4 = 1 := by
  unfold fDw
  show ¬ (if (fDp 3 M).1 6 = -1 then _ else _ : Nat → Int32) 4 = 1
  split
  · exact fDr_4 rfl
  · exact fun e => absurd (show (3 : Int32) = 1 from e) (by decide)
theorem fDw_0 {n : Int32} {w : Int32 → Int32 → Int32} {x2 x3 : Int32} {M : Nat → Int32} : (fDw n w x2 x3 M).1 0 = M 0 := by
  unfold fDw
  show (if (fDp 3 M).1 6 = -1 then _ else _ : Nat → Int32) 0 = M 0
  split
  · refine ((Rk.dr (m := 0)).1 0 (by decide)).trans ?_
    show (fDp 3 M).1 0 = M 0
    exact fDp_k (by decide) (by decide) (by decide)
  · show (fDp 3 M).1 0 = M 0
    exact fDp_k (by decide) (by decide) (by decide)
theorem km_dw {n : Int32} {w : Int32 → Int32 → Int32} {BL : Nat → List Sp3} {nb rw : Nat} {x2 x3 : Int32} {M : Nat → Int32} (W : WOk w) (K : Km w BL nb rw M) (p2 : 0 ≤ x2.toInt ∧ x2.toInt ≤ 15) (c2 : ¬ w (M 3) x2 = -1) : Km w BL nb rw (fDw n w x2 x3 M).1 := by
  have d3 : (fDp 3 M).1 3 = M 3 := fDp_k (by decide) (by decide) (by decide)
  have d5 : (fDp 3 M).1 5 = M 5 := fDp_k (by decide) (by decide) (by decide)
  have d6 : (fDp 3 M).1 6 = M 6 := fDp_k (by decide) (by decide) (by decide)
  obtain ⟨⟨a3, a5, a6, _, _, _, _, al⟩, _⟩ := K
  unfold fDw
  show Km w BL nb rw (if (fDp 3 M).1 6 = -1 then _ else _)
  by_cases c : (fDp 3 M).1 6 = -1
  · rw [if_pos c]
    rw [d6] at c
    rw [if_pos c] at al
    refine km_dr W ?_ ?_ ?_ rfl ?_ p2 ?_
    · show 0 ≤ ((fDp 3 M).1 3).toInt ∧ ((fDp 3 M).1 3).toInt ≤ 15
      rw [d3]
      exact a3
    · show (fDp 3 M).1 6 = -1
      rw [d6]
      exact c
    · show 0 ≤ ((fDp 3 M).1 5).toInt
      rw [d5]
      exact a5 c
    · show ¬ w ((fDp 3 M).1 3) ((fDp 3 M).1 5) = -1
      rw [d3, d5]
      exact al
    · show ¬ w ((fDp 3 M).1 3) x2 = -1
      rw [d3]
      exact c2
  · rw [if_neg c]
    rw [d6] at c
    rw [if_neg c] at al
    refine ⟨⟨?_, fun e => ?_, fun _ => ?_, fun e => absurd (show (3 : Int32) = 0 from e) (by decide), fun e => absurd (show (3 : Int32) = 4 from e) (by decide), fun e => absurd (show (3 : Int32) = 2 from e) (by decide), fun _ => ⟨p2, ?_, fun e => ?_⟩, ?_⟩, fun e => absurd (show (3 : Int32) = 1 from e) (by decide)⟩
    · show 0 ≤ ((fDp 3 M).1 3).toInt ∧ ((fDp 3 M).1 3).toInt ≤ 15
      rw [d3]
      exact a3
    · exact absurd (d6.symm.trans (show (fDp 3 M).1 6 = -1 from e)) c
    · show 0 ≤ ((fDp 3 M).1 6).toInt
      rw [d6]
      exact a6 c
    · show ¬ w ((fDp 3 M).1 3) x2 = -1
      rw [d3]
      exact c2
    · exact absurd (d6.symm.trans (show (fDp 3 M).1 6 = -1 from e)) c
    · show ¬ w ((fDp 3 M).1 3) (if (fDp 3 M).1 6 = -1 then (fDp 3 M).1 5 else (fDp 3 M).1 6) = -1
      rw [d6, if_neg c, d3]
      exact al
theorem km_il {w : Int32 → Int32 → Int32} {BL : Nat → List Sp3} {nb rw : Nat} {M : Nat → Int32} (W : WOk w) (K : Km w BL nb rw M) : Km w BL nb rw (fIl M).1 := by
  have d3 : (fDp 4 M).1 3 = M 3 := fDp_k (by decide) (by decide) (by decide)
  have a3 := K.1.1
  unfold fIl
  refine ⟨⟨?_, fun _ => ?_, fun e => absurd rfl e, fun e => absurd (show (4 : Int32) = 0 from e) (by decide), fun _ => ⟨rfl, ?_⟩, fun e => absurd (show (4 : Int32) = 2 from e) (by decide), fun e => absurd (show (4 : Int32) = 3 from e) (by decide), ?_⟩, fun e => absurd (show (4 : Int32) = 1 from e) (by decide)⟩
  · show 0 ≤ ((fDp 4 M).1 3).toInt ∧ ((fDp 4 M).1 3).toInt ≤ 15
    rw [d3]
    exact a3
  · exact a3.1
  · exact d3.symm
  · show ¬ w ((fDp 4 M).1 3) (if (-1 : Int32) = -1 then M 3 else -1) = -1
    rw [d3, if_pos rfl]
    exact W.2.1 _ a3
theorem km_fr {w : Int32 → Int32 → Int32} {BL : Nat → List Sp3} {nb rw : Nat} {M : Nat → Int32} (K : Km w BL nb rw M) (e4 : M 4 = 4) : Km w BL nb rw (fFree M) := by
  obtain ⟨a3, a5, a6, a0, a4, a2, aw, al⟩ := K.1
  have e6 := (a4 e4).1
  exact ⟨⟨a3, a5, a6, fun _ => ⟨e6, rfl⟩, fun e => absurd (show (0 : Int32) = 4 from e) (by decide), fun e => absurd (show (0 : Int32) = 2 from e) (by decide), fun e => absurd (show (0 : Int32) = 3 from e) (by decide), al⟩, fun e => absurd (show (0 : Int32) = 1 from e) (by decide)⟩
theorem rwX_in {h : Hp_} (I : Iv h) : (h_i h 16 7).toNatClampNeg ≤ 400 ∧ (((h_i h 16 7).toNatClampNeg : Nat) : Int) = (h_i h 16 7).toInt := by
  have rg := I.2.1 16 7
  rw [show tf 16 7 = (0, 400) by decide +kernel] at rg
  have a : 0 ≤ (h_i h 16 7).toInt := rg.1
  have b : (h_i h 16 7).toInt ≤ 400 := rg.2
  have n := n_nat a
  omega
/-- a man of the reference, as the class has him -/
theorem ExM.rp {h h1 : Hp_} (I : Iv h) (x : ExM h) (f : Fr wMx h h1) {x1 : Int32} (y : isN h1 x1) : (x1.toNatClampNeg < (h_i h 0 7).toNatClampNeg ∧ isM h x1) ∧ RMp x1.toNatClampNeg (h_i h (401 + x1.toNatClampNeg)) h1 ∧ h_i h (401 + x1.toNatClampNeg) 0 = x1 ∧ Km (wI h) (bL h) (h_i h 12 3).toNatClampNeg (h_i h 16 7).toNatClampNeg (h_i h (401 + x1.toNatClampNeg)) ∧ Opn h1 (h_i h (401 + x1.toNatClampNeg)) := by
  obtain ⟨y1, y2⟩ := y
  rw [(f.2 1 7 (by decide +kernel)).1, ← x.1.1] at y2
  have mm := menX_in I
  have nm := n_nat mm.1
  have nx := n_nat y1
  have hj : x1.toNatClampNeg < (h_i h 0 7).toNatClampNeg := by omega
  obtain ⟨K, e0, O⟩ := x.2.2.1 x1.toNatClampNeg hj
  have rr := rwX_in I
  refine ⟨⟨hj, y1, y2⟩, (x.2.2.2.1 _ hj).cg (fun a ha => fr_i f (List.all_eq_true.mp (show (206 :: mrL).all (fun a => off wMx a) = true by decide +kernel) a ha) _), e0.trans (on_of ⟨y1, by omega⟩), K, fun e4 => ?_⟩
  obtain ⟨i, q, L, q1, q2, q3⟩ := K.2 e4
  have q11 : 0 ≤ (h_i h (401 + x1.toNatClampNeg) 11).toInt := q3.2.2.1
  have qs : (h_i h (401 + x1.toNatClampNeg) 11).toInt + ((_ : Nat) : Int) = (h_i h (401 + x1.toNatClampNeg) 12).toInt := q3.2.2.2.1
  have q12 : (h_i h (401 + x1.toNatClampNeg) 12).toInt ≤ ((h_i h 16 7).toNatClampNeg : Int) := q3.2.2.2.2
  refine ⟨q11, by omega, by omega, fun k k1 k2 => ?_⟩
  have o := (O e4 k k1 k2).1
  have s := (x.2.2.2.2.1 k (by omega)).1
  rw [show h_i h 51 k = 0 from o] at s
  rw [fr_i f (by decide +kernel), fr_i f (by decide +kernel)]
  rcases s with s | s | s
  · exact s.2
  · exact absurd s.1 (by decide)
  · exact absurd s.1 (by decide)
theorem ExM.rk {h : Hp_} (I : Iv h) (x : ExM h) {x1 : Int32} (y : isM h x1) : (x1.toNatClampNeg < (h_i h 0 7).toNatClampNeg) ∧ (h_i h (401 + x1.toNatClampNeg) 4 = 1 → Rok h (h_i h (401 + x1.toNatClampNeg)) 0) := by
  have nm := n_nat (menX_in I).1
  have nx := n_nat y.1
  have hj : x1.toNatClampNeg < (h_i h 0 7).toNatClampNeg := by have := y.2; omega
  have rr := rwX_in I
  refine ⟨hj, fun e4 => ?_⟩
  obtain ⟨i, q, L, q1, q2, q3⟩ := (x.2.2.1 _ hj).1.2 e4
  have q11 : 0 ≤ (h_i h (401 + x1.toNatClampNeg) 11).toInt := q3.2.2.1
  have qs : (h_i h (401 + x1.toNatClampNeg) 11).toInt + ((_ : Nat) : Int) = (h_i h (401 + x1.toNatClampNeg) 12).toInt := q3.2.2.2.1
  have q12 : (h_i h (401 + x1.toNatClampNeg) 12).toInt ≤ ((h_i h 16 7).toNatClampNeg : Int) := q3.2.2.2.2
  exact ⟨q11, by show _ + ((0 : Nat) : Int) ≤ _; omega, by omega⟩
noncomputable def DxX (x1 x2 x3 : Int32) (h : Hp_) (r : Int32) (h' : Hp_) : Prop := ((isM h x1 ∧ okDw h (h_i h (401 + x1.toNatClampNeg)) x2 x3) → r = 1 ∧ Sxm PU (401 + x1.toNatClampNeg) (h_i h 0 0) (fDw (h_i h 0 0) (wI h) x2 x3 (h_i h (401 + x1.toNatClampNeg))).1 (h_i h (401 + x1.toNatClampNeg) 11).toNatClampNeg (fDw (h_i h 0 0) (wI h) x2 x3 (h_i h (401 + x1.toNatClampNeg))).2 () h h') ∧ (¬ (isM h x1 ∧ okDw h (h_i h (401 + x1.toNatClampNeg)) x2 x3) → r = 0 ∧ h' = h)
theorem c_dwX (d : Nat) {h : Hp_} (I : Iv h) (x : ExM h) (x1 x2 x3 : Int32) : Ci (m_X11_draw (d + 5) 0 0) [.ref 0, .int x1, .int x2, .int x3] h (fun r h' => Iv h' ∧ Fr wMx h h' ∧ DxX x1 x2 x3 h r h') := by
  refine Ci.mono (c_dw pbU d I x.2.1 (b := ()) trivial x1 x2 x3 (fun y => (x.rk I y).2)) (fun r h' k => ?_)
  by_cases c : isM h x1 ∧ okDw h (h_i h (401 + x1.toNatClampNeg)) x2 x3
  · have z := k.1 c
    have hj := (x.rk I c.1).1
    have m12 := x.1.2.2.2
    exact ⟨z.2.1, gw_fr z.2.2.1 (by omega) (by omega) (by decide +kernel) (fun k => inw_row (by decide +kernel) k) (by decide +kernel), fun _ => z, fun n => absurd c n⟩
  · have z := k.2 c
    rw [z.2]
    exact ⟨I, Fr.rf _ _, fun n => absurd n c, fun _ => ⟨z.1, rfl⟩⟩
theorem isN_M {h h1 : Hp_} (x : ExM h) (f : Fr wMx h h1) {x1 : Int32} : isN h1 x1 ↔ isM h x1 := by
  unfold isN isM
  rw [(f.2 1 7 (by decide +kernel)).1, ← x.1.1]
theorem c_dwM (d : Nat) {h h1 : Hp_} (I1 : Iv h1) (I : Iv h) (x : ExM h) (R : ExR h) (f : Fr wMx h h1) (x1 x2 x3 : Int32) : Ci (m_X12_draw (d + 5) 0 0) [.ref 1, .int x1, .int x2, .int x3] h1 (DwP PU (fun _ _ b => b) x1 x2 x3 (h_i h (401 + x1.toNatClampNeg)) () h1) := by
  have R1 : ExP h1 := R.2.fr f (by decide +kernel)
  refine m_dw pmU d I1 R1 x1 x2 x3 (b := ()) trivial (h_i h (401 + x1.toNatClampNeg)) (fun y => ?_)
  obtain ⟨_, q1, q2, q3, q4⟩ := x.rp I f y
  have ew : wI h1 = wI h := wI_cg (funext (fun k => fr_i f (by decide +kernel) k))
  refine ⟨q1, q2, q3.1.2.1, q4, fun q e6 a => ?_⟩
  have al := q3.1.2.2.2.2.2.2.2
  rw [if_pos e6] at al
  rw [ew] at a ⊢
  exact (wok I R.2).2.2.2.1 _ _ _ al a
theorem ExM.dw {h h1 h2 : Hp_} {x1 x2 x3 r1 r2 : Int32} (I : Iv h) (x : ExM h) (R : ExR h) (f : Fr wMx h h1) (k1 : DxX x1 x2 x3 h r1 h1) (k2 : DwP PU (fun _ _ b => b) x1 x2 x3 (h_i h (401 + x1.toNatClampNeg)) () h1 r2 h2) : Iv h2 ∧ Fr mwR h1 h2 ∧ ExM h2 ∧ r1 = r2 := by
  have ew : wI h1 = wI h := wI_cg (funext (fun k => fr_i f (by decide +kernel) k))
  have e10 : h_i h1 1 0 = h_i h 0 0 := ((f.2 1 0 (by decide +kernel)).1).trans x.1.2.1.symm
  have pn : 0 ≤ (h_i h 0 0).toInt := by
    have rg := I.2.1 0 0
    rw [show tf 0 0 = (0, 20000) by decide +kernel] at rg
    exact rg.1
  unfold DwP at k2
  rw [e10, ew] at k2
  have ok : (isN h1 x1 ∧ (0 ≤ x2 ∧ x2 ≤ 15) ∧ (h_i h 0 0 ≤ x3 ∧ x3 ≤ 30000) ∧ ¬ wI h (h_i h (401 + x1.toNatClampNeg) 3) x2 = -1 ∧ ¬ h_i h (401 + x1.toNatClampNeg) 4 = 3 ∧ ¬ h_i h (401 + x1.toNatClampNeg) 4 = 4) ↔ (isM h x1 ∧ okDw h (h_i h (401 + x1.toNatClampNeg)) x2 x3) := by
    unfold okDw
    rw [isN_M x f, p15]
  rw [ok] at k2
  by_cases c : isM h x1 ∧ okDw h (h_i h (401 + x1.toNatClampNeg)) x2 x3
  · have z1 := k1.1 c
    have z2 := k2.1 c
    have hj := (x.rk I c.1).1
    have K := (x.2.2.1 _ hj).1
    have p2 := c.2.1
    have t16 : (16 : Int32).toInt = 16 := rfl
    have t0 : (0 : Int32).toInt = 0 := rfl
    have u1 := q_le.mp p2.1
    have u2 := q_lt.mp p2.2
    have z := x.ev hj z1.2 z2.2 (km_dw (wok I R.2) K ⟨by omega, by omega⟩ c.2.2.2.1) fDw_0 (dp_le (cz := 3) K (rwX_in I).1) fDw_4 dp_ev pn rfl
    exact ⟨z2.2.1, z.2.1, z.2.2, z1.1.trans z2.1.symm⟩
  · have z1 := k1.2 c
    have z2 := k2.2 c
    have e := z1.2
    subst e
    exact ⟨z2.2.1, z2.2.2.more (by decide +kernel), x.fr z2.2.2 (by decide +kernel), z1.1.trans z2.1.symm⟩
/-! MEN: ill -/
noncomputable def IxX (x1 x2 : Int32) (h : Hp_) (r : Int32) (h' : Hp_) : Prop := ((isM h x1 ∧ ¬ h_i h (401 + x1.toNatClampNeg) 4 = 4 ∧ x2 = 1) → r = 1 ∧ Sxm PU (401 + x1.toNatClampNeg) (h_i h 0 0) (fIl (h_i h (401 + x1.toNatClampNeg))).1 (h_i h (401 + x1.toNatClampNeg) 11).toNatClampNeg (fIl (h_i h (401 + x1.toNatClampNeg))).2 () h h') ∧ ((isM h x1 ∧ h_i h (401 + x1.toNatClampNeg) 4 = 4 ∧ x2 = 0) → r = 1 ∧ Sxm PU (401 + x1.toNatClampNeg) (h_i h 0 0) (fFree (h_i h (401 + x1.toNatClampNeg))) (h_i h (401 + x1.toNatClampNeg) 11).toNatClampNeg [] () h h') ∧ (¬ (isM h x1 ∧ ((¬ h_i h (401 + x1.toNatClampNeg) 4 = 4 ∧ x2 = 1) ∨ (h_i h (401 + x1.toNatClampNeg) 4 = 4 ∧ x2 = 0))) → r = 0 ∧ h' = h)
theorem sx_fr {h h' : Hp_} {j : Nat} {n : Int32} {M' : Nat → Int32} {r : Nat} {E : List Ev2} (hj : j < 12) (z : Sxm PU (401 + j) n M' r E () h h') : Fr wMx h h' := gw_fr z.2.1 (by omega) (by omega) (by decide +kernel) (fun k => inw_row (by decide +kernel) k) (by decide +kernel)
theorem il_cs {P Q : Prop} {x2 : Int32} (b2 : x2 = 0 ∨ x2 = 1) : (P ∧ ¬ Q ∧ x2 = 1) ∨ (P ∧ Q ∧ x2 = 0) ∨ ¬ (P ∧ ((¬ Q ∧ x2 = 1) ∨ (Q ∧ x2 = 0))) := by
  by_cases p : P
  · by_cases q : Q
    · rcases b2 with e | e
      · exact Or.inr (Or.inl ⟨p, q, e⟩)
      · exact Or.inr (Or.inr (fun y => y.2.elim (fun z => z.1 q) (fun z => absurd (e.symm.trans z.2) (by decide))))
    · rcases b2 with e | e
      · exact Or.inr (Or.inr (fun y => y.2.elim (fun z => absurd (e.symm.trans z.2) (by decide)) (fun z => q z.1)))
      · exact Or.inl ⟨p, q, e⟩
  · exact Or.inr (Or.inr (fun y => p y.1))
theorem c_ilX (d : Nat) {h : Hp_} (I : Iv h) (x : ExM h) (x1 x2 : Int32) (b2 : x2 = 0 ∨ x2 = 1) : Ci (m_X11_ill (d + 3) 0 0) [.ref 0, .int x1, .int x2] h (fun r h' => Iv h' ∧ Fr wMx h h' ∧ IxX x1 x2 h r h') := by
  have m12 := x.1.2.2.2
  refine Ci.mono (c_il pbU d I x.2.1 (b := ()) trivial x1 x2 b2 (fun y => (x.rk I y).2)) (fun r h' k => ?_)
  rcases il_cs (P := isM h x1) (Q := h_i h (401 + x1.toNatClampNeg) 4 = 4) b2 with c | c | c
  · have z := k.1 c
    have hj := (x.rk I c.1).1
    exact ⟨z.2.1, sx_fr (by omega) z.2, k⟩
  · have z := k.2.1 c
    have hj := (x.rk I c.1).1
    exact ⟨z.2.1, sx_fr (by omega) z.2, k⟩
  · have z := k.2.2 c
    have e := z.2
    subst e
    exact ⟨I, Fr.rf _ _, k⟩
noncomputable def IxM (x1 x2 : Int32) (M : Nat → Int32) (h : Hp_) (r : Int32) (h' : Hp_) : Prop := ((isN h x1 ∧ ¬ M 4 = 4 ∧ x2 = 1) → r = 1 ∧ Mx PU x1.toNatClampNeg (h_i h 1 0) (fIl M).1 (M 11).toNatClampNeg (fIl M).2 () h h') ∧ ((isN h x1 ∧ M 4 = 4 ∧ x2 = 0) → r = 1 ∧ Mx PU x1.toNatClampNeg (h_i h 1 0) (fFree M) (M 11).toNatClampNeg [] () h h') ∧ (¬ (isN h x1 ∧ ((¬ M 4 = 4 ∧ x2 = 1) ∨ (M 4 = 4 ∧ x2 = 0))) → r = 0 ∧ h' = h)
theorem c_ilM (d : Nat) {h h1 : Hp_} (I1 : Iv h1) (I : Iv h) (x : ExM h) (f : Fr wMx h h1) (x1 x2 : Int32) (b2 : x2 = 0 ∨ x2 = 1) : Ci (m_X12_ill (d + 2) 0 0) [.ref 1, .int x1, .int x2] h1 (IxM x1 x2 (h_i h (401 + x1.toNatClampNeg)) h1) := by
  refine m_il pmU d I1 x1 x2 b2 (b := ()) trivial (h_i h (401 + x1.toNatClampNeg)) (fun y => ?_)
  obtain ⟨_, q1, q2, q3, q4⟩ := x.rp I f y
  exact ⟨q1, q2, q3.1.2.2.2.2.1, q4⟩
theorem ExM.il {h h1 h2 : Hp_} {x1 x2 r1 r2 : Int32} (I : Iv h) (x : ExM h) (R : ExR h) (f : Fr wMx h h1) (b2 : x2 = 0 ∨ x2 = 1) (I1 : Iv h1) (k1 : IxX x1 x2 h r1 h1) (k2 : IxM x1 x2 (h_i h (401 + x1.toNatClampNeg)) h1 r2 h2) : Iv h2 ∧ Fr mwR h1 h2 ∧ ExM h2 ∧ r1 = r2 := by
  have e10 : h_i h1 1 0 = h_i h 0 0 := ((f.2 1 0 (by decide +kernel)).1).trans x.1.2.1.symm
  have pn : 0 ≤ (h_i h 0 0).toInt := by
    have rg := I.2.1 0 0
    rw [show tf 0 0 = (0, 20000) by decide +kernel] at rg
    exact rg.1
  unfold IxM at k2
  rw [e10, isN_M x f] at k2
  rcases il_cs (P := isM h x1) (Q := h_i h (401 + x1.toNatClampNeg) 4 = 4) b2 with c | c | c
  · have z1 := k1.1 c
    have z2 := k2.1 c
    have hj := (x.rk I c.1).1
    have K := (x.2.2.1 _ hj).1
    have z := x.ev hj z1.2 z2.2 (km_il (wok I R.2) K) (fDp_k (by decide) (by decide) (by decide)) (dp_le (cz := 4) K (rwX_in I).1) (fun e => absurd (show (4 : Int32) = 1 from e) (by decide)) dp_ev pn rfl
    exact ⟨z2.2.1, z.2.1, z.2.2, z1.1.trans z2.1.symm⟩
  · have z1 := k1.2.1 c
    have z2 := k2.2.1 c
    have hj := (x.rk I c.1).1
    have K := (x.2.2.1 _ hj).1
    have z := x.ev hj z1.2 z2.2 (km_fr K c.2.1) rfl (Or.inl rfl) (fun e => absurd (show (0 : Int32) = 1 from e) (by decide)) (fun e he => (by cases he)) pn rfl
    exact ⟨z2.2.1, z.2.1, z.2.2, z1.1.trans z2.1.symm⟩
  · have z1 := k1.2.2 c
    have z2 := k2.2.2 c
    have e := z1.2
    subst e
    have e := z2.2
    subst e
    exact ⟨I, Fr.rf _ _, x, z1.1.trans z2.1.symm⟩
/-! MEN: tick -/
section MEN
variable {β : Type}
/-- rows that are not given yet stay so -/
theorem po_man {lP : Nat → Int32 → (Nat → Int32) → β → β} {tB : Int32 → Int32 → β → β} {n : Int32} {w : Int32 → Int32 → Int32} {BL : Nat → List Sp3} {nb rw m : Nat} {own : Nat → Int32} {s : Pst β} (hl : ∀ k, k < nb → (BL k).length ≤ 150) (H : pI w BL nb rw own m s) {j : Nat} (hj : j < m) {k : Nat} (hk : rw ≤ k) : (pMan lP tB n w BL j s).2.1 k = s.2.1 k := by
  unfold pMan
  by_cases y : s.1 j 7 = n
  · rw [if_pos y]
    show rz Prod.fst (s.1 j 11).toNatClampNeg (pGo n w BL (s.1 j)).2 s.2.1 k = _
    refine rz_o _ _ _ _ _ ?_
    by_cases y1 : s.1 j 4 = 1
    · obtain ⟨i', _, _, b8, hd, e9, _, r0, r1, r2⟩ := kmb_x hl ((H j hj).1.2 y1)
      have n11 := n_nat r0
      have ll : (pGo n w BL (s.1 j)).2.length ≤ _ := (Rk.go (n := n) (w := w) (x := (pX BL (s.1 j)).1) (L := (pX BL (s.1 j)).2) (M := s.1 j)).2.2.1
      right
      omega
    · have e : (pGo n w BL (s.1 j)).2 = [] := fGo_e y1
      rw [e]
      show k < _ ∨ _ + 0 ≤ k
      omega
  · rw [if_neg y]
theorem po_men {lP : Nat → Int32 → (Nat → Int32) → β → β} {tB : Int32 → Int32 → β → β} {n : Int32} {w : Int32 → Int32 → Int32} {BL : Nat → List Sp3} {nb rw m : Nat} {own : Nat → Int32} (W : WOk w) (hb : ∀ k x, k < nb → x ∈ BL k → stR x) (hl : ∀ k, k < nb → (BL k).length ≤ 150) (r4 : rw ≤ 400) (p0 : 0 ≤ n.toInt) (m12 : m ≤ 12) {k : Nat} (hk : rw ≤ k) : ∀ (j : Nat) {s : Pst β}, j ≤ m → pI w BL nb rw own m s → (pMen lP tB n w BL j s).2.1 k = s.2.1 k
  | 0, _, _, _ => rfl
  | j + 1, _, hj, H => (po_man hl (pI_men W hb hl r4 p0 m12 j (by omega) H) (by omega) hk).trans (po_men W hb hl r4 p0 m12 hk j (by omega) H)
theorem po_tk {lP : Nat → Int32 → (Nat → Int32) → β → β} {tB : Int32 → Int32 → β → β} {nB : Int32 → (Nat → Int32) → β → β} {n : Int32} {w : Int32 → Int32 → Int32} {BL : Nat → List Sp3} {nb rw m : Nat} {own : Nat → Int32} (W : WOk w) (hb : ∀ k x, k < nb → x ∈ BL k → stR x) (hl : ∀ k, k < nb → (BL k).length ≤ 150) (r4 : rw ≤ 400) (p0 : 0 ≤ n.toInt ∧ n.toInt ≤ 20000) (m12 : m ≤ 12) {k : Nat} (hk : rw ≤ k) : ∀ (i : Nat) {s : Pst β}, i ≤ 20000 → pI w BL nb rw own m s → (pTk lP tB nB w BL m n i s).2.1 k = s.2.1 k
  | 0, _, _, _ => rfl
  | i + 1, s, hi, H => (po_men W hb hl r4 (by rw [tx_add (by rw [on_j (by omega)]; omega) (by rw [on_j (by omega)]; omega), on_j (by omega)]; omega) m12 hk m (s := pOv nB (n + Int32.ofNat i) (pTk lP tB nB w BL m n i s)) (Nat.le_refl _) (pI_tk W hb hl r4 p0 m12 i (by omega) H)).trans (po_tk W hb hl r4 p0 m12 hk i (by omega) H)
theorem tm_man {lP : Nat → Int32 → (Nat → Int32) → β → β} {tB : Int32 → Int32 → β → β} {n : Int32} {w : Int32 → Int32 → Int32} {BL : Nat → List Sp3} {s : Pst β} {j k : Nat} {N : Int} (h : ¬ s.2.1 k = 0 → (s.2.2.1 k).toInt ≤ N) (l : N ≤ n.toInt) : ¬ (pMan lP tB n w BL j s).2.1 k = 0 → ((pMan lP tB n w BL j s).2.2.1 k).toInt ≤ n.toInt := by
  unfold pMan
  by_cases y : s.1 j 7 = n
  · rw [if_pos y]
    exact tm_rz h l
  · rw [if_neg y]
    exact fun ne => Int.le_trans (h ne) l
theorem tm_men {lP : Nat → Int32 → (Nat → Int32) → β → β} {tB : Int32 → Int32 → β → β} {n : Int32} {w : Int32 → Int32 → Int32} {BL : Nat → List Sp3} {k : Nat} {N : Int} (l : N ≤ n.toInt) : ∀ (j : Nat) {s : Pst β}, (¬ s.2.1 k = 0 → (s.2.2.1 k).toInt ≤ N) → ¬ (pMen lP tB n w BL j s).2.1 k = 0 → ((pMen lP tB n w BL j s).2.2.1 k).toInt ≤ n.toInt
  | 0, _, h => fun ne => Int.le_trans (h ne) l
  | j + 1, _, h => tm_man (tm_men l j h) (Int.le_refl _)
theorem tm_tk {lP : Nat → Int32 → (Nat → Int32) → β → β} {tB : Int32 → Int32 → β → β} {nB : Int32 → (Nat → Int32) → β → β} {n : Int32} {w : Int32 → Int32 → Int32} {BL : Nat → List Sp3} {m k : Nat} (p0 : 0 ≤ n.toInt ∧ n.toInt ≤ 20000) : ∀ (i : Nat) {s : Pst β}, i ≤ 20000 → (¬ s.2.1 k = 0 → (s.2.2.1 k).toInt ≤ n.toInt) → ¬ (pTk lP tB nB w BL m n i s).2.1 k = 0 → ((pTk lP tB nB w BL m n i s).2.2.1 k).toInt ≤ n.toInt + (i : Int)
  | 0, s, _, h => fun ne => by
    have z : (s.2.2.1 k).toInt ≤ n.toInt := h ne
    show (s.2.2.1 k).toInt ≤ n.toInt + ((0 : Nat) : Int)
    omega
  | i + 1, s, hi, h => fun ne => by
    have e : (n + Int32.ofNat (i + 1)).toInt = n.toInt + ((i + 1 : Nat) : Int) := by rw [tx_add (by rw [on_j (by omega)]; omega) (by rw [on_j (by omega)]; omega), on_j (by omega)]
    have z := tm_men (lP := lP) (tB := tB) (n := n + Int32.ofNat (i + 1)) (w := w) (BL := BL) (k := k) (N := n.toInt + (i : Int)) (by rw [e]; omega) m (s := pOv nB (n + Int32.ofNat i) (pTk lP tB nB w BL m n i s)) (tm_tk p0 i (by omega) h) ne
    rw [e] at z
    exact z
end MEN
noncomputable abbrev lU : Nat → Int32 → (Nat → Int32) → Unit → Unit := fun _ _ _ b => b
noncomputable abbrev tU : Int32 → Int32 → Unit → Unit := fun _ _ b => b
noncomputable abbrev nU : Int32 → (Nat → Int32) → Unit → Unit := fun _ _ b => b
noncomputable def B35 (h : Hp_) : Prop := ∀ k, k < (h_i h 12 3).toNatClampNeg → h_i h 35 k = h_i h 227 k
theorem ExM.m {h : Hp_} (I : Iv h) (x : ExM h) : h_i h 0 7 = Int32.ofNat (h_i h 0 7).toNatClampNeg := (on_of ⟨(menX_in I).1, by have := (menX_in I).2; omega⟩).symm
theorem c_tkU (d : Nat) {h : Hp_} (I : Iv h) (x : ExM h) (R : ExR h) (S : ExS h) (B : B35 h) (x1 : Int32) {c N : Nat} (hc : h_r h 0 15 = some c) (hs : h_sh h c = some (3, N)) (hN : N ≤ 20000) : ∃ mc ms N', N' ≤ 20000 ∧ hcost mc ms N N' ∧ Ci (m_X11_tick (d + 8) mc ms) [.ref 0, .int x1] h (Tkx PU lU tU nU (h_i h 0 7).toNatClampNeg N' (sX h) x1 h) := c_tkX (PB := PU) (lP := lU) (tB := tU) (nB := nU) pbU ⟨fun _ _ _ _ _ _ _ _ _ _ => trivial, fun _ _ _ _ _ _ _ => trivial⟩ d I ⟨R.2, S, B, x.2.1, x.m I, x.1.2.2.2, x.2.2.1⟩ ⟨fun _ _ => rfl, ⟨rfl, rfl, rfl⟩, trivial⟩ (fun _ _ _ _ _ _ _ => rfl) (fun _ _ _ _ _ => rfl) x1 hc hs hN
theorem c_tmU (d : Nat) {h h1 : Hp_} (I1 : Iv h1) (J1 : J2 h1) (I : Iv h) (x : ExM h) (R : ExR h) (S : ExS h) (e42 : h_i h 12 3 = h_i h 1 42) (f : Mf wsX h h1) (x1 : Int32) : Ci (m_X12_tick (d + 10) 0 0) [.ref 1, .int x1] h1 (Tkm PU lU tU nU (h_i h 0 7).toNatClampNeg (h_i h 16 7).toNatClampNeg (sX h) x1 h1) := by
  have rr : ∀ a, 200 ≤ a → a < 300 → h_i h1 a = h_i h a := fun a p q => funext (fun k => f.2.1 a p q k)
  have ew : wI h1 = wI h := wI_cg (funext (fun k => (f.2.2.2 30 k (Or.inl (by decide)) (off_inw (by decide +kernel) k)).1))
  have eb : bL h1 = bL h := bL_cg (rr 227 (by decide) (by decide)) (rr 228 (by decide) (by decide)) (rr 229 (by decide) (by decide)) (rr 230 (by decide) (by decide))
  have es : ∀ k, sB h1 k = sB h k := fun k => by
    funext i
    unfold sB
    rw [rr 228 (by decide) (by decide), rr 229 (by decide) (by decide), rr 230 (by decide) (by decide)]
  refine c_tkM (PM := PU) (lP := lU) (tB := tU) (nB := nU) pmU d I1 J1 (fun _ _ _ _ _ _ _ _ => trivial) ⟨R.2.mf f (by decide +kernel), fun k hk i hi => ?_, ?_, x.1.2.2.2, (rwX_in I).1, h_i h 47, ?_⟩ ⟨fun j hj => (x.2.2.2.1 j hj).cg (fun a ha => ?_), fun k hk => ?_, trivial⟩ (fun _ _ _ _ _ _ _ => rfl) (fun _ _ _ _ _ => rfl) x1
  · rw [f.1 42, ← e42] at hk
    rw [rr 227 (by decide) (by decide)] at hi
    rw [es]
    exact (S k hk i hi).2
  · rw [f.1 7, ← x.1.1]
    exact x.m I
  · rw [ew, eb, f.1 42, ← e42]
    exact x.2.2.1
  · have z : ∀ a ∈ 206 :: mrL, 200 ≤ a ∧ a < 300 := by decide
    exact f.2.1 a (z a ha).1 (z a ha).2 j
  · rw [rr 241 (by decide) (by decide), rr 242 (by decide) (by decide), rr 243 (by decide) (by decide)]
    exact (x.2.2.2.2.1 k hk).1
theorem ExM.tk {h h1 h2 : Hp_} {x1 r1 r2 : Int32} {N' : Nat} (I : Iv h) (x : ExM h) (R : ExR h) (S : ExS h) (k1 : Tkx PU lU tU nU (h_i h 0 7).toNatClampNeg N' (sX h) x1 h r1 h1) (k2 : Tkm PU lU tU nU (h_i h 0 7).toNatClampNeg (h_i h 16 7).toNatClampNeg (sX h) x1 h1 r2 h2) : ExM h2 := by
  have f := k1.1.2.1
  have rr : ∀ a, 200 ≤ a → a < 300 → h_i h1 a = h_i h a := fun a p q => funext (fun k => f.2.1 a p q k)
  have ew : wI h1 = wI h := wI_cg (funext (fun k => (f.2.2.2 30 k (Or.inl (by decide)) (off_inw (by decide +kernel) k)).1))
  have eb : bL h1 = bL h := bL_cg (rr 227 (by decide) (by decide)) (rr 228 (by decide) (by decide)) (rr 229 (by decide) (by decide)) (rr 230 (by decide) (by decide))
  have e10 : h_i h1 1 0 = h_i h 0 0 := (f.1 0).trans x.1.2.1.symm
  have rg := I.2.1 0 0
  rw [show tf 0 0 = (0, 20000) by decide +kernel] at rg
  have g0 : 0 ≤ (h_i h 0 0).toInt := rg.1
  have g1 : (h_i h 0 0).toInt ≤ 20000 := rg.2
  have m12 := x.1.2.2.2
  by_cases o : okt (h_i h 0 0) x1
  · obtain ⟨a1, a2, a3⟩ := k1.2.1 o
    obtain ⟨b1, b2, b3⟩ := k2.2.1 (by rw [e10]; exact o)
    rw [e10, ew, eb] at b3
    rw [e10] at b1
    have x0 := q_le.mp o.1.1
    have x5 := q_le.mp o.1.2
    have t0 : (0 : Int32).toInt = 0 := rfl
    have t5 : (1500 : Int32).toInt = 1500 := rfl
    have nx := n_nat (x := x1) (by omega)
    have rw4 := (rwX_in I).1
    have W := wok I R.2
    have P := pI_tk (lP := lU) (tB := tU) (nB := nU) W (bL_hb S) (bL_hl I _) rw4 ⟨g0, g1⟩ m12 x1.toNatClampNeg (by omega) x.2.2.1
    have O := fun k (hk : (h_i h 16 7).toNatClampNeg ≤ k) => po_tk (lP := lU) (tB := tU) (nB := nU) W (bL_hb S) (bL_hl I _) rw4 ⟨g0, g1⟩ m12 hk x1.toNatClampNeg (by omega) x.2.2.1
    have TM := fun k (hk : k < (h_i h 16 7).toNatClampNeg) => tm_tk (lP := lU) (tB := tU) (nB := nU) (w := wI h) (BL := bL h) (m := (h_i h 0 7).toNatClampNeg) (k := k) ⟨g0, g1⟩ x1.toNatClampNeg (s := sX h) (by omega) (x.2.2.2.2.1 k hk).2.2
    generalize pTk lU tU nU (wI h) (bL h) (h_i h 0 7).toNatClampNeg (h_i h 0 0) x1.toNatClampNeg (sX h) = s at a2 b3 P O TM
    have c1 : ∀ a k, a < 200 → inw (0 :: 15 :: wgM) a k = false → inw wtM a k = false → h_i h2 a k = h_i h a k := fun a k l p q => ((b2.2 a k q).1).trans (a3 a k l p)
    have cr : ∀ a, a < 200 → off (0 :: 15 :: wgM) a = true → off wtM a = true → h_i h2 a = h_i h a := fun a l p q => funext (fun k => c1 a k l (off_inw p k) (off_inw q k))
    have dr : ∀ a, 200 ≤ a → a < 300 → off wtM a = true → h_i h2 a = h_i h a := fun a p q o => (funext (fun k => fr_i b2 o k)).trans (rr a p q)
    have e2 : ∀ a, off wtM a = true → h_i h2 a = h_i h1 a := fun a o => funext (fun k => fr_i b2 o k)
    have n07 : h_i h2 0 7 = h_i h 0 7 := c1 0 7 (by decide) (by decide +kernel) (by decide +kernel)
    have n17 : h_i h2 1 7 = h_i h 1 7 := ((b2.2 1 7 (by decide +kernel)).1).trans (f.1 7)
    have nr : h_i h2 16 7 = h_i h 16 7 := c1 16 7 (by decide) (by decide +kernel) (by decide +kernel)
    have n63 : h_i h2 1 63 = h_i h 1 63 := ((b2.2 1 63 (by decide +kernel)).1).trans (f.1 63)
    have n3 : h_i h2 12 3 = h_i h 12 3 := c1 12 3 (by decide) (by decide +kernel) (by decide +kernel)
    have cm : ∀ l, l < 12 → h_i h2 (401 + l) = h_i h1 (401 + l) := fun l hl => funext (fun k => (b2.2 (401 + l) k (by
      rw [inw_ce (b := 401) ((cn_man hl).trans (by decide))]
      exact off_inw (by decide +kernel) k)).1)
    refine ⟨⟨by rw [n07, n17]; exact x.1.1, ?_, by rw [nr, n63]; exact x.1.2.2.1, by rw [n07]; exact m12⟩, fun k hk => ?_, ?_, fun l hl => ?_, fun k hk => ?_, fun k hk h4 => ?_⟩
    · rw [(b2.2 0 0 (by decide +kernel)).1, a1, b1]
    · rw [(b2.2 15 k (off_inw (by decide +kernel) k)).2.2, (f.2.2.2 15 k (Or.inl (by decide)) (off_inw (by decide +kernel) k)).2]
      exact x.2.1 k (by rw [n07] at hk; exact hk)
    · rw [wI_cg (cr 30 (by decide) (by decide +kernel) (by decide +kernel)), bL_cg (dr 227 (by decide) (by decide) (by decide +kernel)) (dr 228 (by decide) (by decide) (by decide +kernel)) (dr 229 (by decide) (by decide) (by decide +kernel)) (dr 230 (by decide) (by decide) (by decide +kernel)), n3, nr, cr 47 (by decide) (by decide +kernel) (by decide +kernel), n07]
      exact P.cs (fun j hj => (cm j (by omega)).trans (a2.1 j hj)) ((e2 51 (by decide +kernel)).trans a2.2.1.1)
    · rw [n07] at hl
      rw [cm l (by omega), a2.1 l hl]
      exact b3.1 l hl
    · rw [nr] at hk
      have q := x.2.2.2.2.1 k hk
      rw [e2 51 (by decide +kernel), e2 52 (by decide +kernel), e2 53 (by decide +kernel), a2.2.1.1, a2.2.1.2.1, a2.2.1.2.2, cr 47 (by decide) (by decide +kernel) (by decide +kernel), cr 48 (by decide) (by decide +kernel) (by decide +kernel), cr 49 (by decide) (by decide +kernel) (by decide +kernel), cr 50 (by decide) (by decide +kernel) (by decide +kernel), dr 238 (by decide) (by decide) (by decide +kernel), dr 239 (by decide) (by decide) (by decide +kernel), dr 240 (by decide) (by decide) (by decide +kernel), dr 244 (by decide) (by decide) (by decide +kernel)]
      refine ⟨b3.2.1 k hk, q.2.1, fun ne => ?_⟩
      have z := TM k hk ne
      rw [(b2.2 0 0 (by decide +kernel)).1, a1, tx_add (by have := o.2; omega) (by have := o.2; omega)]
      omega
    · rw [nr] at hk
      rw [e2 51 (by decide +kernel), a2.2.1.1, O k hk]
      exact x.2.2.2.2.2 k hk h4
  · rw [k2.2.2 (by rw [e10]; exact o), k1.2.2 o]
    exact x
/-! MEN: begin -/
theorem mP_l (h : Hp_) (k : Nat) : ∀ n i : Nat, mP (h_i h 228) k n i = mts ((List.range' i n).map (sB h k))
  | 0, _ => rfl
  | n + 1, i => by
    show (if h_i h 228 (150 * k + i) = 2 then 1 else 0) + mP (h_i h 228) k n (i + 1) = _
    rw [mP_l h k n (i + 1), List.range'_succ]
    rfl
theorem mP_b (h : Hp_) (k : Nat) : mP (h_i h 228) k (h_i h 227 k).toNatClampNeg 0 = mts (bL h k) := by
  rw [mP_l]
  unfold bL
  rw [List.range_eq_range']
theorem bs_x {h : Hp_} (I : Iv h) (S : ExS h) (B : ExB h) (x2 : Int32) (b2 : 0 ≤ x2.toInt ∧ x2.toInt < (h_i h 12 3).toInt) : Stb h x2 0 (bL h x2.toNatClampNeg) ∧ h_i h 35 x2.toNatClampNeg = Int32.ofNat (bL h x2.toNatClampNeg).length ∧ (h_i h 36 x2.toNatClampNeg).toInt = (mts (bL h x2.toNatClampNeg) : Int) := by
  have b3 := x12_in I
  have n3 := n_nat b3.1
  have nx := n_nat b2.1
  have z := z227 I x2.toNatClampNeg
  have q := B x2.toNatClampNeg (by omega)
  refine ⟨⟨⟨b2.1, by omega⟩, ?_, fun k x e => ?_⟩, ?_, ?_⟩
  · rw [bL_l]
    omega
  · have lk : k < (bL h x2.toNatClampNeg).length := (List.getElem?_eq_some_iff.mp e).1
    rw [bL_l] at lk
    rw [bL_g lk] at e
    rw [← Option.some.inj e, Nat.zero_add]
    exact S _ (by omega) _ lk
  · rw [q.1, bL_l]
    exact (of_nat32 (by omega)).symm
  · rw [q.2, mP_b]
noncomputable def wBx : List Nat := 14 :: 401999 :: (wwR ++ wgM)
noncomputable def BgK (x1 x2 : Int32) (h : Hp_) : Prop := isM h x1 ∧ (0 ≤ x2.toInt ∧ x2.toInt < (h_i h 12 3).toInt) ∧ h_i h (401 + x1.toNatClampNeg) 4 = 0 ∧ (h_i h 16 7).toInt + (mts (bL h x2.toNatClampNeg) : Int) ≤ 400
noncomputable def BgF (x1 x2 : Int32) (h : Hp_) : (Nat → Int32) × List Ev2 := fBg (h_i h 0 0) (wI h) x2 (h_i h 16 7).toNatClampNeg ((h_i h 16 7).toNatClampNeg + mts (bL h x2.toNatClampNeg)) (bL h x2.toNatClampNeg) (h_i h (401 + x1.toNatClampNeg))
noncomputable def BgX (x1 x2 : Int32) (h : Hp_) (r : Int32) (h' : Hp_) : Prop := (BgK x1 x2 h → r = 1 ∧ Bxm PU (401 + x1.toNatClampNeg) x1 (h_i h 0 0) (BgF x1 x2 h).1 (h_i h 16 7).toNatClampNeg (ptL (bL h x2.toNatClampNeg)) (BgF x1 x2 h).2 () h h') ∧ (¬ BgK x1 x2 h → r = 0 ∧ h' = h)
theorem c_bgX (d : Nat) {h : Hp_} (I : Iv h) (x : ExM h) (S : ExS h) (B : ExB h) (x1 x2 : Int32) : Ci (m_X11_begin (d + 6) 0 0) [.ref 0, .int x1, .int x2] h (fun r h' => Iv h' ∧ Fr wBx h h' ∧ BgX x1 x2 h r h') := by
  have m12 := x.1.2.2.2
  refine Ci.mono (c_bg (PB := PU) pbU d I x.2.1 (b := ()) trivial x1 x2 (fun y => ?_) (bL h x2.toNatClampNeg) (bs_x I S B x2)) (fun r h' k => ?_)
  · have hj := (x.rk I y).1
    have mm := menX_in I
    have y2 := y.2
    exact (x.2.2.1 _ hj).2.1.trans (on_of ⟨y.1, by omega⟩)
  · by_cases c : BgK x1 x2 h
    · have z := k.1 c
      have hj := (x.rk I c.1).1
      exact ⟨z.2.1, gw_fr z.2.2.1 (by omega) (by omega) (by decide +kernel) (fun k => inw_row (by decide +kernel) k) (by decide +kernel), fun _ => z, fun n => absurd c n⟩
    · have z := k.2 c
      have e := z.2
      subst e
      exact ⟨I, Fr.rf _ _, fun n => absurd n c, fun _ => z⟩
theorem bg_k {h h1 : Hp_} (f : Fr wBx h h1) (o : h_i h1 16 7 = h_i h 16 7 ∨ True) : wI h1 = wI h ∧ bL h1 = bL h ∧ (∀ k, sB h1 k = sB h k) ∧ (∀ k, h_i h1 1 k = h_i h 1 k) ∧ ∀ a, 200 ≤ a → a < 300 → h_i h1 a = h_i h a := by
  have rr : ∀ a, 200 ≤ a → a < 300 → h_i h1 a = h_i h a := fun a p q => by
    have z : ∀ i, i < 100 → off wBx (200 + i) = true := fun i hi => List.all_eq_true.mp (show (List.range 100).all (fun i => off wBx (200 + i)) = true by decide +kernel) i (List.mem_range.mpr hi)
    have y := z (a - 200) (by omega)
    rw [show 200 + (a - 200) = a by omega] at y
    exact funext (fun k => fr_i f y k)
  refine ⟨wI_cg (funext (fun k => fr_i f (by decide +kernel) k)), bL_cg (rr 227 (by decide) (by decide)) (rr 228 (by decide) (by decide)) (rr 229 (by decide) (by decide)) (rr 230 (by decide) (by decide)), fun k => ?_, fun k => fr_i f (by decide +kernel) k, rr⟩
  funext i
  unfold sB
  rw [rr 228 (by decide) (by decide), rr 229 (by decide) (by decide), rr 230 (by decide) (by decide)]
noncomputable def BgM (x1 x2 : Int32) (h h1 : Hp_) (r : Int32) (h' : Hp_) : Prop := (BgK x1 x2 h → r = 1 ∧ Bym PU x1.toNatClampNeg x1 (h_i h 0 0) (BgF x1 x2 h).1 (h_i h 16 7).toNatClampNeg (ptL (bL h x2.toNatClampNeg)) (BgF x1 x2 h).2 () h1 h') ∧ (¬ BgK x1 x2 h → r = 0 ∧ h' = h1)
theorem c_bgM (d : Nat) {h h1 : Hp_} (I1 : Iv h1) (I : Iv h) (x : ExM h) (R : ExR h) (S : ExS h) (e42 : h_i h 12 3 = h_i h 1 42) (f : Fr wBx h h1) (x1 x2 : Int32) : Ci (m_X12_begin (d + 4) 0 0) [.ref 1, .int x1, .int x2] h1 (BgM x1 x2 h h1) := by
  obtain ⟨ew, eb, es, e1, rr⟩ := bg_k f (Or.inr trivial)
  have R1 : ExP h1 := R.2.fr f (by decide +kernel)
  have b3 := x12_in I
  have n3 := n_nat b3.1
  have iN : isN h1 x1 ↔ isM h x1 := by
    unfold isN isM
    rw [e1, ← x.1.1]
  have K := m_bg (PM := PU) pmU d I1 R1 x1 x2 (b := ()) trivial (h_i h (401 + x1.toNatClampNeg)) (fun y => ?_) (bL h x2.toNatClampNeg) (fun b2 => ?_)
  · rw [ew, e1, e1, e1, ← e42, ← x.1.2.1, ← x.1.2.2.1, iN] at K
    exact K
  · have y := iN.mp y
    have hj := (x.rk I y).1
    have mm := menX_in I
    have y2 := y.2
    have a := (x.2.2.1 _ hj).1.1
    refine ⟨(x.2.2.2.1 _ hj).cg (fun a ha => ?_), (x.2.2.1 _ hj).2.1.trans (on_of ⟨y.1, by omega⟩), a.2.2.2.1, a.2.1⟩
    have z : ∀ a ∈ 206 :: mrL, 200 ≤ a ∧ a < 300 := by decide
    rw [rr a (z a ha).1 (z a ha).2]
  · rw [e1, ← e42] at b2
    have nx := n_nat b2.1
    have z := z227 I x2.toNatClampNeg
    rw [rr 227 (by decide) (by decide), rr 228 (by decide) (by decide)]
    refine ⟨⟨⟨b2.1, by omega⟩, ?_, fun k q e => ?_⟩, ?_, mP_b h _⟩
    · rw [bL_l]
      omega
    · have lk : k < (bL h x2.toNatClampNeg).length := (List.getElem?_eq_some_iff.mp e).1
      rw [bL_l] at lk
      rw [bL_g lk] at e
      rw [← Option.some.inj e, Nat.zero_add, es]
      exact ⟨rfl, (S _ (by omega) _ lk).2⟩
    · rw [bL_l]
      exact (of_nat32 (by omega)).symm
theorem ExM.bg {h h1 h2 : Hp_} {x1 x2 r1 r2 : Int32} (I : Iv h) (x : ExM h) (R : ExR h) (S : ExS h) (I1 : Iv h1) (f : Fr wBx h h1) (k1 : BgX x1 x2 h r1 h1) (k2 : BgM x1 x2 h h1 r2 h2) : Iv h2 ∧ Fr mwB h1 h2 ∧ ExM h2 ∧ r1 = r2 := by
  by_cases c : BgK x1 x2 h
  case neg =>
    have z1 := k1.2 c
    have z2 := k2.2 c
    have e := z1.2
    subst e
    have e := z2.2
    subst e
    exact ⟨I, Fr.rf _ _, x, z1.1.trans z2.1.symm⟩
  obtain ⟨ea, z1⟩ := k1.1 c
  obtain ⟨eb, z2⟩ := k2.1 c
  obtain ⟨cM, cB, c4, cR⟩ := c
  refine ⟨z2.1, z2.2.1.1, ?_, ea.trans eb.symm⟩
  obtain ⟨ew, ebL, es, e1, rr⟩ := bg_k f (Or.inr trivial)
  have hj := (x.rk I cM).1
  have m12 := x.1.2.2.2
  have r4 := rwX_in I
  have mm := menX_in I
  have y2 := cM.2
  have b3 := x12_in I
  have n3 := n_nat b3.1
  have nx := n_nat cB.1
  have z227' := z227 I x2.toNatClampNeg
  have ej : x1 = Int32.ofNat x1.toNatClampNeg := (on_of ⟨cM.1, by omega⟩).symm
  have pn : 0 ≤ (h_i h 0 0).toInt := by
    have rg := I.2.1 0 0
    rw [show tf 0 0 = (0, 20000) by decide +kernel] at rg
    exact rg.1
  have f2 : Fr mwB h1 h2 := z2.2.1.1
  have W := wok I R.2
  have K0 := (x.2.2.1 _ hj).1.1
  have e6 := (K0.2.2.2.1 c4).1
  have al := K0.2.2.2.2.2.2.2
  have Rs := Rk.st (n := h_i h 0 0) (w := wI h) (bL h x2.toNatClampNeg) (up1 (up1 (up1 (up1 (up1 (up1 (h_i h (401 + x1.toNatClampNeg)) 4 1) 8 x2) 9 0) 10 (h_i h 0 0)) 11 (Int32.ofNat (h_i h 16 7).toNatClampNeg)) 12 (Int32.ofNat ((h_i h 16 7).toNatClampNeg + mts (bL h x2.toNatClampNeg))))
  have Ks := km_st (n := h_i h 0 0) (nb := (h_i h 12 3).toNatClampNeg) (rw := (h_i h 16 7).toNatClampNeg + mts (bL h x2.toNatClampNeg)) (BL := bL h) W (bL h x2.toNatClampNeg) (up1 (up1 (up1 (up1 (up1 (up1 (h_i h (401 + x1.toNatClampNeg)) 4 1) 8 x2) 9 0) 10 (h_i h 0 0)) 11 (Int32.ofNat (h_i h 16 7).toNatClampNeg)) 12 (Int32.ofNat ((h_i h 16 7).toNatClampNeg + mts (bL h x2.toNatClampNeg)))) 0 (fun y hy => bL_hb S _ y (by omega) hy) rfl e6 (K0.2.1 e6) K0.1 (by rw [if_pos e6] at al; exact al) ⟨cB.1, by show x2.toNatClampNeg < _; omega⟩ List.drop_zero rfl (by rw [bL_l]; omega) (by show 0 ≤ (Int32.ofNat _).toInt; rw [on_j (by omega)]; omega) (by show (Int32.ofNat _).toInt + _ = (Int32.ofNat _).toInt; rw [on_j (by omega), on_j (by omega)]; omega) (by show (Int32.ofNat _).toInt ≤ _; rw [on_j (by omega)]; omega) (by omega)
  have eF : BgF x1 x2 h = fSt (h_i h 0 0) (wI h) (bL h x2.toNatClampNeg) (up1 (up1 (up1 (up1 (up1 (up1 (h_i h (401 + x1.toNatClampNeg)) 4 1) 8 x2) 9 0) 10 (h_i h 0 0)) 11 (Int32.ofNat (h_i h 16 7).toNatClampNeg)) 12 (Int32.ofNat ((h_i h 16 7).toNatClampNeg + mts (bL h x2.toNatClampNeg)))) := rfl
  rw [← eF] at Rs Ks
  have F11 : (BgF x1 x2 h).1 11 = Int32.ofNat (h_i h 16 7).toNatClampNeg + Int32.ofNat (BgF x1 x2 h).2.length := Rs.2.2.2.1
  have F12 : (BgF x1 x2 h).1 12 = Int32.ofNat ((h_i h 16 7).toNatClampNeg + mts (bL h x2.toNatClampNeg)) := Rs.1 12 (by decide)
  have F0 : (BgF x1 x2 h).1 0 = h_i h (401 + x1.toNatClampNeg) 0 := Rs.1 0 (by decide)
  have FE := Rs.2.1
  have FL : (BgF x1 x2 h).2.length ≤ mts (bL h x2.toNatClampNeg) := Rs.2.2.1
  generalize BgF x1 x2 h = F at z1 z2 Ks F11 F12 F0 FE FL
  have ql := ptL_l (bL h x2.toNatClampNeg)
  generalize ptL (bL h x2.toNatClampNeg) = Q at z1 z2 ql
  have i1 : ∀ a k, inw wBx a k = false → inw mwB a k = false → h_i h2 a k = h_i h a k := fun a k o1 o2 => ((f2.2 a k o2).1).trans (f.2 a k o1).1
  have q1 : ∀ a, off wBx a = true → off mwB a = true → h_i h2 a = h_i h a := fun a o1 o2 => funext (fun k => i1 a k (off_inw o1 k) (off_inw o2 k))
  have e2 : ∀ a, off mwB a = true → h_i h2 a = h_i h1 a := fun a o => funext (fun k => fr_i f2 o k)
  have n07 : h_i h2 0 7 = h_i h 0 7 := i1 0 7 (by decide +kernel) (by decide +kernel)
  have n17 : h_i h2 1 7 = h_i h 1 7 := i1 1 7 (by decide +kernel) (by decide +kernel)
  have n00 : h_i h2 0 0 = h_i h 0 0 := i1 0 0 (by decide +kernel) (by decide +kernel)
  have n10 : h_i h2 1 0 = h_i h 1 0 := i1 1 0 (by decide +kernel) (by decide +kernel)
  have n3' : h_i h2 12 3 = h_i h 12 3 := i1 12 3 (by decide +kernel) (by decide +kernel)
  have nr : h_i h2 16 7 = Int32.ofNat ((h_i h 16 7).toNatClampNeg + Q.length) := ((f2.2 16 7 (by decide +kernel)).1).trans z1.2.2.2.2.1
  have n63 : h_i h2 1 63 = Int32.ofNat ((h_i h 16 7).toNatClampNeg + Q.length) := z2.2.2.2.2.1.1
  have nr' : (h_i h2 16 7).toNatClampNeg = (h_i h 16 7).toNatClampNeg + mts (bL h x2.toNatClampNeg) := by rw [nr, ql, on_k (by omega)]
  have c2 : ∀ l, l < 12 → h_i h2 (401 + l) = h_i h1 (401 + l) := fun l hl => funext (fun k => (f2.2 (401 + l) k (by
    rw [inw_ce (b := 401) ((cn_man hl).trans (by decide))]
    exact off_inw (by decide +kernel) k)).1)
  have cj : h_i h2 (401 + x1.toNatClampNeg) = F.1 := (c2 _ (by omega)).trans z1.2.2.1
  have co : ∀ l, l < 12 → l ≠ x1.toNatClampNeg → h_i h2 (401 + l) = h_i h (401 + l) := fun l hl ne => (c2 l hl).trans (funext (fun k => z1.2.1.i (401 + l) k (by omega) (by
    rw [inw_ce (b := 401) ((cn_man hl).trans (by decide))]
    exact off_inw (by decide +kernel) k)))
  have g47 := (e2 47 (by decide +kernel)).trans z1.2.2.2.1.1
  have g48 := (e2 48 (by decide +kernel)).trans z1.2.2.2.1.2.1
  have g49 := (e2 49 (by decide +kernel)).trans z1.2.2.2.1.2.2.1
  have g50 := (e2 50 (by decide +kernel)).trans z1.2.2.2.1.2.2.2
  have g51 := (e2 51 (by decide +kernel)).trans z1.2.2.2.2.2.1.1
  have g52 := (e2 52 (by decide +kernel)).trans z1.2.2.2.2.2.1.2.1
  have g53 := (e2 53 (by decide +kernel)).trans z1.2.2.2.2.2.1.2.2
  have g238 := z2.2.2.2.1.1
  have g239 := z2.2.2.2.1.2.1
  have g240 := z2.2.2.2.1.2.2.1
  have g244 := z2.2.2.2.1.2.2.2
  have g241 := z2.2.2.2.2.2.1.1
  have g242 := z2.2.2.2.2.2.1.2.1
  have g243 := z2.2.2.2.2.2.1.2.2
  rw [rr 238 (by decide) (by decide)] at g238
  rw [rr 239 (by decide) (by decide)] at g239
  rw [rr 240 (by decide) (by decide)] at g240
  rw [rr 244 (by decide) (by decide)] at g244
  rw [rr 241 (by decide) (by decide)] at g241
  rw [rr 242 (by decide) (by decide)] at g242
  rw [rr 243 (by decide) (by decide)] at g243
  refine ⟨⟨by rw [n07, n17]; exact x.1.1, by rw [n00, n10]; exact x.1.2.1, by rw [nr, n63], by rw [n07]; exact m12⟩, fun k hk => ?_, ?_, fun l hl => ?_, fun k hk => ?_, fun k hk h4 => ?_⟩
  · rw [(f2.2 15 k (off_inw (by decide +kernel) k)).2.2, (f.2 15 k (off_inw (by decide +kernel) k)).2.2]
    exact x.2.1 k (by rw [n07] at hk; exact hk)
  · rw [wI_cg (q1 30 (by decide +kernel) (by decide +kernel)), bL_cg (q1 227 (by decide +kernel) (by decide +kernel)) (q1 228 (by decide +kernel) (by decide +kernel)) (q1 229 (by decide +kernel) (by decide +kernel)) (q1 230 (by decide +kernel) (by decide +kernel)), n3', nr', n07, g47]
    intro l hl
    by_cases el : l = x1.toNatClampNeg
    · subst el
      show Km (wI h) (bL h) _ _ (h_i h2 (401 + x1.toNatClampNeg)) ∧ h_i h2 (401 + x1.toNatClampNeg) 0 = _ ∧ (h_i h2 (401 + x1.toNatClampNeg) 4 = 1 → ∀ k : Nat, (h_i h2 (401 + x1.toNatClampNeg) 11).toInt ≤ (k : Int) → (k : Int) < (h_i h2 (401 + x1.toNatClampNeg) 12).toInt → h_i h2 51 k = 0 ∧ _)
      rw [cj, g51]
      refine ⟨Ks, F0.trans (x.2.2.1 _ hj).2.1, fun _ k a b => ?_⟩
      rw [F11, tx_add (by rw [on_j (by omega), on_j (by omega)]; omega) (by rw [on_j (by omega), on_j (by omega)]; omega), on_j (by omega), on_j (by omega)] at a
      rw [F12, on_j (by omega)] at b
      refine ⟨?_, ?_⟩
      · rw [rz_o _ _ _ _ _ (Or.inr (by omega))]
        exact x.2.2.2.2.2 k (by omega) (by omega)
      · obtain ⟨e, he, _⟩ := rz_at (fun _ => x1) Q (h_i h 16 7).toNatClampNeg (h_i h 47) (k := k) (by omega) (by omega)
        rw [he]
        exact ej
    · obtain ⟨a, b, d⟩ := x.2.2.1.mo (rw' := (h_i h 16 7).toNatClampNeg + mts (bL h x2.toNatClampNeg)) (fun _ _ z => z) (Nat.le_refl _) (fun _ _ => rfl) (Nat.le_add_right _ _) (fun _ _ => rfl) l hl
      obtain ⟨a0, _, _⟩ := x.2.2.1 l hl
      show Km (wI h) (bL h) _ _ (h_i h2 (401 + l)) ∧ h_i h2 (401 + l) 0 = _ ∧ (h_i h2 (401 + l) 4 = 1 → ∀ k : Nat, (h_i h2 (401 + l) 11).toInt ≤ (k : Int) → (k : Int) < (h_i h2 (401 + l) 12).toInt → h_i h2 51 k = 0 ∧ _)
      rw [co l (by omega) el, g51]
      refine ⟨a, b, fun e k k1 k2 => ?_⟩
      obtain ⟨i, y, L, s1, s2, s3⟩ := a0.2 e
      have s12 : (h_i h (401 + l) 12).toInt ≤ ((h_i h 16 7).toNatClampNeg : Int) := s3.2.2.2.2
      have dd := d e k k1 k2
      rw [rz_o _ _ _ _ _ (Or.inl (by omega)), rz_o _ _ _ _ _ (Or.inl (by omega))]
      exact dd
  · rw [n07] at hl
    by_cases el : l = x1.toNatClampNeg
    · rw [el, cj]
      exact z2.2.2.1
    · rw [co l (by omega) el]
      refine ((x.2.2.2.1 l hl).cg (h' := h1) (fun a ha => ?_)).cg (fun a ha => ?_)
      · have z : ∀ a ∈ 206 :: mrL, 200 ≤ a ∧ a < 300 := by decide
        rw [rr a (z a ha).1 (z a ha).2]
      · rcases List.mem_cons.mp ha with e | e
        · rw [e]
          exact fr_i f2 (by decide +kernel) l
        · exact z2.2.1.2 a e l el
  · rw [nr'] at hk
    rw [g47, g48, g49, g50, g51, g52, g53, g238, g239, g240, g241, g242, g243, g244]
    by_cases ck : k < (h_i h 16 7).toNatClampNeg
    · have q := x.2.2.2.2.1 k ck
      rw [rz_o _ _ _ _ _ (Or.inl ck), rz_o _ _ _ _ _ (Or.inl ck), rz_o _ _ _ _ _ (Or.inl ck), rz_o _ _ _ _ _ (Or.inl ck), rz_o _ _ _ _ _ (Or.inl ck), rz_o _ _ _ _ _ (Or.inl ck), rz_o _ _ _ _ _ (Or.inl ck), rz_o _ _ _ _ _ (Or.inl ck), rz_o _ _ _ _ _ (Or.inl ck), rz_o _ _ _ _ _ (Or.inl ck), rz_o _ _ _ _ _ (Or.inl ck), rq_o _ _ _ _ _ (Or.inl ck), rq_o _ _ _ _ _ (Or.inl ck), rq_o _ _ _ _ _ (Or.inl ck), rz_o _ _ _ _ _ (Or.inl ck), rz_o _ _ _ _ _ (Or.inl ck), n00]
      exact q
    · obtain ⟨a1, h1a, h1b⟩ := rz_at (fun _ => x1) Q (h_i h 16 7).toNatClampNeg (h_i h 47) (k := k) (by omega) (by omega)
      obtain ⟨a2, h2a, h2b⟩ := rz_at Prod.fst Q (h_i h 16 7).toNatClampNeg (h_i h 48) (k := k) (by omega) (by omega)
      obtain ⟨a3, h3a, h3b⟩ := rz_at (fun e => h_i h 0 0 + e.2) Q (h_i h 16 7).toNatClampNeg (h_i h 49) (k := k) (by omega) (by omega)
      obtain ⟨a4, h4a, h4b⟩ := rz_at (fun _ => h_i h 0 0) Q (h_i h 16 7).toNatClampNeg (h_i h 50) (k := k) (by omega) (by omega)
      obtain ⟨a5, h5a, _⟩ := rz_at (fun _ => (-1 : Int32)) Q (h_i h 16 7).toNatClampNeg (h_i h 241) (k := k) (by omega) (by omega)
      obtain ⟨a6, h6a, _⟩ := rz_at (fun _ => (-1 : Int32)) Q (h_i h 16 7).toNatClampNeg (h_i h 242) (k := k) (by omega) (by omega)
      have o51 := x.2.2.2.2.2 k (by omega) (by omega)
      refine ⟨stt_ev pn FE (Or.inl ⟨o51, h5a, h6a⟩) (fun _ _ => o51), ⟨?_, ?_, ?_, ?_⟩, by rw [n00]; exact tm_rz (N := (h_i h 0 0).toInt) (fun y => absurd o51 y) (Int.le_refl _)⟩
      · rw [h1a, h1b]
      · rw [h2a, h2b]
      · rw [h3a, h3b]
      · rw [h4a, h4b]
  · rw [nr'] at hk
    rw [g51, rz_o _ _ _ _ _ (Or.inr (by omega))]
    exact x.2.2.2.2.2 k (by omega) (by omega)
/-! MEN: path, beat, constable -/
noncomputable def mqS : List Nat := [47, 48, 49, 50, 51, 52, 53, 206, 208, 209, 210, 211, 212, 213, 214, 215, 216, 217, 218, 219, 238, 239, 240, 241, 242, 243, 244, 248]
theorem mqS_m : ∀ a ∈ 206 :: mrL, a ∈ mqS := by decide
theorem ExM.cg2 {h h' : Hp_} (x : ExM h) (n : ∀ q ∈ [(0, 7), (1, 7), (0, 0), (1, 0), (16, 7), (1, 63)], h_i h' q.1 q.2 = h_i h q.1 q.2) (r : ∀ a ∈ mqS, h_i h' a = h_i h a) (f : ∀ k, h_r h' 15 k = h_r h 15 k) (c : ∀ j, j < 12 → h_i h' (401 + j) = h_i h (401 + j)) (hw : ∀ a b, ¬ wI h a b = -1 → ¬ wI h' a b = -1) (hb : (h_i h 12 3).toNatClampNeg ≤ (h_i h' 12 3).toNatClampNeg) (hB : ∀ k, k < (h_i h 12 3).toNatClampNeg → bL h' k = bL h k) : ExM h' := by
  have n07 : h_i h' 0 7 = h_i h 0 7 := n (0, 7) (by decide)
  have n17 : h_i h' 1 7 = h_i h 1 7 := n (1, 7) (by decide)
  have n00 : h_i h' 0 0 = h_i h 0 0 := n (0, 0) (by decide)
  have n10 : h_i h' 1 0 = h_i h 1 0 := n (1, 0) (by decide)
  have nr : h_i h' 16 7 = h_i h 16 7 := n (16, 7) (by decide)
  have n63 : h_i h' 1 63 = h_i h 1 63 := n (1, 63) (by decide)
  have m12 := x.1.2.2.2
  have r51 := r 51 (by decide)
  refine ⟨⟨by rw [n07, n17]; exact x.1.1, by rw [n00, n10]; exact x.1.2.1, by rw [nr, n63]; exact x.1.2.2.1, by rw [n07]; exact m12⟩, fun k hk => by rw [f k]; exact x.2.1 k (by rw [n07] at hk; exact hk), ?_, fun j hj => ?_, fun k hk => ?_, fun k hk h4 => ?_⟩
  · rw [nr, r 47 (by decide), n07]
    exact (x.2.2.1.mo hw hb hB (Nat.le_refl _) (fun _ _ => rfl)).cs (fun j hj => c j (by omega)) r51
  · rw [n07] at hj
    rw [c j (by omega)]
    exact (x.2.2.2.1 j hj).cg (fun a ha => congrFun (r a (mqS_m a ha)) j)
  · rw [nr] at hk
    rw [r51, r 52 (by decide), r 53 (by decide), r 241 (by decide), r 242 (by decide), r 243 (by decide), r 47 (by decide), r 48 (by decide), r 49 (by decide), r 50 (by decide), r 238 (by decide), r 239 (by decide), r 240 (by decide), r 244 (by decide), n00]
    exact x.2.2.2.2.1 k hk
  · rw [nr] at hk
    rw [r51]
    exact x.2.2.2.2.2 k hk h4
noncomputable def exoN (ws : List Nat) : Bool := [(0, 7), (1, 7), (0, 0), (1, 0), (16, 7), (1, 63)].all (fun q => !inw ws q.1 q.2) && mqS.all (fun a => off ws a) && off ws 15 && off ws 401
/-- two frames, and what else changes -/
theorem ExM.f2 {w1 w2 : List Nat} {h h1 h2 : Hp_} (x : ExM h) (f1 : Fr w1 h h1) (f2 : Fr w2 h1 h2) (o1 : exoN w1 = true) (o2 : exoN w2 = true) (hw : ∀ a b, ¬ wI h a b = -1 → ¬ wI h2 a b = -1) (hb : (h_i h 12 3).toNatClampNeg ≤ (h_i h2 12 3).toNatClampNeg) (hB : ∀ k, k < (h_i h 12 3).toNatClampNeg → bL h2 k = bL h k) : ExM h2 := by
  unfold exoN at o1 o2
  simp only [Bool.and_eq_true] at o1 o2
  refine x.cg2 (fun q hq => ?_) (fun a ha => (funext (fun k => fr_i f2 (List.all_eq_true.mp o2.1.1.2 a ha) k)).trans (funext (fun k => fr_i f1 (List.all_eq_true.mp o1.1.1.2 a ha) k))) (fun k => ((f2.2 15 k (off_inw o2.1.2 k)).2.2).trans (f1.2 15 k (off_inw o1.1.2 k)).2.2) (fun j hj => funext (fun k => ((f2.2 (401 + j) k ?_).1).trans (f1.2 (401 + j) k ?_).1)) hw hb hB
  · have z1 := List.all_eq_true.mp o1.1.1.1 q hq
    have z2 := List.all_eq_true.mp o2.1.1.1 q hq
    rw [Bool.not_eq_true'] at z1 z2
    exact ((f2.2 q.1 q.2 z2).1).trans (f1.2 q.1 q.2 z1).1
  · rw [inw_ce (b := 401) ((cn_man hj).trans (by decide))]
    exact off_inw o2.2 k
  · rw [inw_ce (b := 401) ((cn_man hj).trans (by decide))]
    exact off_inw o1.2 k
theorem ExM.pt {h h1 h2 : Hp_} {x1 x2 x3 r1 r2 : Int32} (I : Iv h) (I2 : Iv h2) (x : ExM h) (R : ExR h) (k1 : PtX x1 x2 x3 h r1 h1) (k2 : PtM x1 x2 x3 h1 r2 h2) : ExM h2 := by
  have R2 := (R.pt I k1 k2).1
  have f1 := k1.1
  have f2 := k2.1
  have eE1 : eE h1 = eE h := by
    unfold eE
    rw [show h_i h1 200 = h_i h 200 from funext (fun k => fr_i f1 (by decide +kernel) k), show h_i h1 201 = h_i h 201 from funext (fun k => fr_i f1 (by decide +kernel) k), show h_i h1 202 = h_i h 202 from funext (fun k => fr_i f1 (by decide +kernel) k)]
  have eN1 : eN h1 = eN h := by
    unfold eN
    rw [(f1.2 1 6 (by decide +kernel)).1]
  refine x.f2 f1 f2 (by decide +kernel) (by decide +kernel) (fun a b y => (wI_y I2 R2.2).mpr ?_) (by rw [(f2.2 12 3 (by decide +kernel)).1, (f1.2 12 3 (by decide +kernel)).1]; exact Nat.le_refl _) (fun k _ => ?_)
  · obtain ⟨ya, yb, k, t, w⟩ := (wI_y I R.2).mp y
    refine ⟨ya, yb, k, t, ?_⟩
    by_cases o : okPn (h_i h1 1 6) x1 x2 x3
    · obtain ⟨e, n⟩ := k2.2.2.1 o
      rw [e, n, eE1, eN1]
      exact wkq_mo (Nat.le_succ _) (fun i hi => by
        unfold exE
        rw [if_neg (by omega)]) k _ t w
    · rw [k2.2.2.2 o, eE1, eN1]
      exact w
  · have e : ∀ a, off [10001, 30999] a = true → off [1006, 200999, 201999, 202999] a = true → h_i h2 a = h_i h a := fun a o1 o2 => (funext (fun k => fr_i f2 o2 k)).trans (funext (fun k => fr_i f1 o1 k))
    rw [bL_cg (e 227 (by decide +kernel) (by decide +kernel)) (e 228 (by decide +kernel) (by decide +kernel)) (e 229 (by decide +kernel) (by decide +kernel)) (e 230 (by decide +kernel) (by decide +kernel))]
theorem ExM.bt {N : Nat} {h h1 h2 : Hp_} {r1 r2 : Int32} (T : LiT N h) (x : ExM h) (k1 : Iv h1 ∧ Fr wbx h h1 ∧ Btx h r1 h1) (k2 : (Iv h2 ∧ J2 h2) ∧ Btm (h_i h 31) (xn h) h1 r2 h2) : ExM h2 := by
  obtain ⟨I1, F1, kn, ky⟩ := k1
  obtain ⟨⟨I2, JJ⟩, F2, c8, mn, my⟩ := k2
  have a42 : h_i h1 1 42 = h_i h 12 3 := (F1.2 1 42 (by decide +kernel)).1.trans T.r2.symm
  rw [a42] at mn my
  have b123 : h_i h2 12 3 = h_i h1 12 3 := (F2.2 12 3 (by decide +kernel)).1
  have f227 : ∀ k, h_i h1 227 k = h_i h 227 k := fun k => fr_i F1 (by decide +kernel) k
  have f228 : ∀ k, h_i h1 228 k = h_i h 228 k := fun k => fr_i F1 (by decide +kernel) k
  have f229 : ∀ k, h_i h1 229 k = h_i h 229 k := fun k => fr_i F1 (by decide +kernel) k
  have f230 : ∀ k, h_i h1 230 k = h_i h 230 k := fun k => fr_i F1 (by decide +kernel) k
  have bb1 : bB h1 = 150 * (h_i h 12 3).toNatClampNeg := by
    show 150 * (h_i h1 1 42).toNatClampNeg = _
    rw [a42]
  have b3 := x12_in T.1
  have n3 := n_nat b3.1
  have t1 : (1 : Int32).toInt = 1 := rfl
  have w227 : ∀ k, k < (h_i h 12 3).toNatClampNeg → h_i h2 227 k = h_i h 227 k := fun k hk => by
    by_cases o : okB (h_i h 31) (xn h) (h_i h 12 3)
    · rw [(my o).2.2.2.1 k, if_neg (by omega), f227]
    · rw [(mn o).2.2.2 k, f227]
  have ew : wI h2 = wI h := wI_cg ((funext (fun k => fr_i F2 (by decide +kernel) k)).trans (funext (fun k => fr_i F1 (by decide +kernel) k)))
  refine x.f2 F1 F2 (by decide +kernel) (by decide +kernel) (fun a b y => by rw [ew]; exact y) ?_ (fun k hk => ?_)
  · rw [b123]
    by_cases o : okB (h_i h 31) (xn h) (h_i h 12 3)
    · have ex : (h_i h 12 3 + 1).toInt = (h_i h 12 3).toInt + 1 := tx_add (by rw [t1]; omega) (by rw [t1]; omega)
      have n4 := n_nat (x := h_i h 12 3 + 1) (by omega)
      rw [(ky o).2.1]
      omega
    · rw [(kn o).2.1]
      exact Nat.le_refl _
  · unfold bL
    rw [w227 k hk]
    refine List.map_congr_left (fun i hi => ?_)
    have hi := List.mem_range.mp hi
    have zk := (z227 T.1 k).1
    have cc := c8 (150 * k + i) (by rw [bb1]; omega)
    unfold sB
    rw [cc.1, cc.2.1, cc.2.2, f228, f229, f230]
theorem okc_m {m x1 x2 x3 : Int32} (b : 0 ≤ m.toInt ∧ m.toInt ≤ 12) : okc m x1 x2 x3 ↔ okm m x1 x2 x3 := by
  have t12 : (12 : Int32).toInt = 12 := rfl
  have t15 : (15 : Int32).toInt = 15 := rfl
  have t16 : (16 : Int32).toInt = 16 := rfl
  refine ⟨fun o => ⟨o.1, o.2.1, p15.mp o.2.2.1, fun e => by have := q_lt.mp o.2.2.2; rw [e] at this; omega⟩, fun o => ⟨o.1, o.2.1, p15.mpr o.2.2.1, q_lt.mpr ?_⟩⟩
  rcases Int.lt_or_le m.toInt 12 with u | u
  · omega
  · exact absurd (Int32.toInt_inj.mp (by omega)) o.2.2.2
theorem ExM.cn {h h1 h2 : Hp_} {x1 x2 x3 r1 r2 : Int32} (I : Iv h) (x : ExM h) (R : ExR h) (k1 : Cy x1 x2 x3 h r1 h1 ∧ CyA x1 x2 x3 h h1) (k2 : ocm (h_i h1 1 7) x1 x2 x3 r2 (h_i h2 1 7) ∧ CwA x1 x2 x3 h1 h2) : ExM h2 ∧ r1 = r2 := by
  obtain ⟨ky, ka, kn⟩ := k1
  obtain ⟨km, kb, kc⟩ := k2
  have mm := menX_in I
  have nm := n_nat mm.1
  have e17 : h_i h1 1 7 = h_i h 0 7 := (ky.1.2.1.1 7).trans x.1.1.symm
  rw [e17] at km kb kc
  have oe := okc_m (x1 := x1) (x2 := x2) (x3 := x3) mm
  by_cases o : okc (h_i h 0 7) x1 x2 x3
  case neg =>
    have eh := kn o
    subst eh
    have eh := kc (fun y => o (oe.mpr y))
    subst eh
    refine ⟨x, ?_⟩
    rcases ky.2.1 with p | p
    · exact absurd p.1 o
    · rcases km with q | q
      · exact absurd (oe.mpr q.1) o
      · exact p.2.1.trans q.2.1.symm
  have o' := oe.mp o
  obtain ⟨aN, aO, a0⟩ := ka o
  obtain ⟨bN, _, f2, bO⟩ := kb o'
  have t12 : (12 : Int32).toInt = 12 := rfl
  have t1 : (1 : Int32).toInt = 1 := rfl
  have lt := q_lt.mp o.2.2.2
  have ex : (h_i h 0 7 + 1).toInt = (h_i h 0 7).toInt + 1 := tx_add (by rw [t1]; omega) (by rw [t1]; omega)
  have n1 := n_nat (x := h_i h 0 7 + 1) (by omega)
  have e07 : h_i h1 0 7 = h_i h 0 7 + 1 := by
    rcases ky.2.1 with p | p
    · exact p.2.2
    · exact absurd o p.1
  have er1 : r1 = h_i h 0 7 := by
    rcases ky.2.1 with p | p
    · exact p.2.1
    · exact absurd o p.1
  have em : h_i h2 1 7 = h_i h 0 7 + 1 ∧ r2 = h_i h 0 7 := by
    rcases km with p | p
    · exact ⟨p.2.2, p.2.1⟩
    · exact absurd o' p.1
  refine ⟨?_, er1.trans em.2.symm⟩
  have m07 : (h_i h 0 7 + 1).toNatClampNeg = (h_i h 0 7).toNatClampNeg + 1 := by omega
  have i2 : ∀ a, off wcM a = true → h_i h2 a = h_i h1 a := fun a q => funext (fun k => fr_i f2 q k)
  have n07 : h_i h2 0 7 = h_i h 0 7 + 1 := ((f2.2 0 7 (by decide +kernel)).1).trans e07
  have ia : ∀ a, a ≠ 0 → a < 401 → off wcM a = true → h_i h2 a = h_i h a := fun a n l q => (i2 a q).trans (aO a (by omega) n)
  have nr : h_i h2 16 7 = h_i h 16 7 := congrFun (ia 16 (by decide) (by decide) (by decide +kernel)) 7
  have n63 : h_i h2 1 63 = h_i h 1 63 := ((f2.2 1 63 (by decide +kernel)).1).trans (ky.1.2.1.1 63)
  have n3 : h_i h2 12 3 = h_i h 12 3 := congrFun (ia 12 (by decide) (by decide) (by decide +kernel)) 3
  have c2 : ∀ l, l < 12 → h_i h2 (401 + l) = h_i h1 (401 + l) := fun l hl => funext (fun k => (f2.2 (401 + l) k (by
    rw [inw_ce (b := 401) ((cn_man hl).trans (by decide))]
    exact off_inw (by decide +kernel) k)).1)
  have cz := ky.2.2.2
  have n00 : h_i h2 0 0 = h_i h 0 0 := ((f2.2 0 0 (by decide +kernel)).1).trans (a0 0 (by decide))
  refine ⟨⟨by rw [n07, em.1], ?_, by rw [nr, n63]; exact x.1.2.2.1, by rw [n07]; omega⟩, fun k hk => ?_, ?_, fun l hl => ?_, fun k hk => ?_, fun k hk h4 => ?_⟩
  · rw [(f2.2 0 0 (by decide +kernel)).1, a0 0 (by decide), (f2.2 1 0 (by decide +kernel)).1, ky.1.2.1.1 0]
    exact x.1.2.1
  · rw [n07, ex] at hk
    rw [(f2.2 15 k (off_inw (by decide +kernel) k)).2.2]
    by_cases e : k = (h_i h 0 7).toNatClampNeg
    · rw [e]
      exact (cz.1 o).1
    · rw [(cz.2 k (Or.inl e)).1]
      exact x.2.1 k (by omega)
  · rw [wI_cg (ia 30 (by decide) (by decide) (by decide +kernel)), bL_cg (ia 227 (by decide) (by decide) (by decide +kernel)) (ia 228 (by decide) (by decide) (by decide +kernel)) (ia 229 (by decide) (by decide) (by decide +kernel)) (ia 230 (by decide) (by decide) (by decide +kernel)), n3, nr, ia 47 (by decide) (by decide) (by decide +kernel), n07, m07]
    intro l hl
    show Km (wI h) (bL h) _ _ (h_i h2 (401 + l)) ∧ h_i h2 (401 + l) 0 = _ ∧ (h_i h2 (401 + l) 4 = 1 → ∀ k : Nat, (h_i h2 (401 + l) 11).toInt ≤ (k : Int) → (k : Int) < (h_i h2 (401 + l) 12).toInt → h_i h2 51 k = 0 ∧ _)
    rw [ia 51 (by decide) (by decide) (by decide +kernel), c2 l (by omega)]
    by_cases e : l = (h_i h 0 7).toNatClampNeg
    · rw [e, aN]
      have p3 := p15.mp o.2.2.1
      have t15 : (15 : Int32).toInt = 15 := rfl
      have t0 : (0 : Int32).toInt = 0 := rfl
      have u1 := q_le.mp p3.1
      have u2 := q_le.mp p3.2
      have p3' : 0 ≤ x3.toInt ∧ x3.toInt ≤ 15 := ⟨by omega, by omega⟩
      refine ⟨⟨⟨p3', fun _ => p3'.1, fun y => absurd rfl y, fun _ => ⟨rfl, rfl⟩, fun y => absurd (show (0 : Int32) = 4 from y) (by decide), fun y => absurd (show (0 : Int32) = 2 from y) (by decide), fun y => absurd (show (0 : Int32) = 3 from y) (by decide), ?_⟩, fun y => absurd (show (0 : Int32) = 1 from y) (by decide)⟩, x.m I, fun y => absurd (show (0 : Int32) = 1 from y) (by decide)⟩
      show ¬ wI h x3 (if (-1 : Int32) = -1 then x3 else -1) = -1
      rw [if_pos rfl]
      exact (wok I R.2).2.1 _ p3'
    · rw [aO (401 + l) (by omega) (by omega)]
      exact x.2.2.1 l (by omega)
  · rw [n07, m07] at hl
    rw [c2 l (by omega)]
    by_cases e : l = (h_i h 0 7).toNatClampNeg
    · rw [e, aN]
      exact bN
    · rw [aO (401 + l) (by omega) (by omega)]
      refine (x.2.2.2.1 l (by omega)).cg (fun a ha => ?_)
      have z : ∀ a ∈ 206 :: mrL, 200 ≤ a ∧ a < 300 := by decide
      have za := z a ha
      rw [bO a l (by omega) e, aO a (by omega) (by omega)]
  · rw [nr] at hk
    rw [ia 51 (by decide) (by decide) (by decide +kernel), ia 52 (by decide) (by decide) (by decide +kernel), ia 53 (by decide) (by decide) (by decide +kernel), ia 241 (by decide) (by decide) (by decide +kernel), ia 242 (by decide) (by decide) (by decide +kernel), ia 243 (by decide) (by decide) (by decide +kernel), ia 47 (by decide) (by decide) (by decide +kernel), ia 48 (by decide) (by decide) (by decide +kernel), ia 49 (by decide) (by decide) (by decide +kernel), ia 50 (by decide) (by decide) (by decide +kernel), ia 238 (by decide) (by decide) (by decide +kernel), ia 239 (by decide) (by decide) (by decide +kernel), ia 240 (by decide) (by decide) (by decide +kernel), ia 244 (by decide) (by decide) (by decide +kernel), n00]
    exact x.2.2.2.2.1 k hk
  · rw [nr] at hk
    rw [ia 51 (by decide) (by decide) (by decide +kernel)]
    exact x.2.2.2.2.2 k hk h4
theorem exM_F : ExM HF := by
  have e7 : h_i HF 0 7 = 0 := by decide +kernel
  have er : h_i HF 16 7 = 0 := by decide +kernel
  have z : (0 : Int32).toNatClampNeg = 0 := rfl
  have z2 : (0 : Int32).toInt = 0 := rfl
  refine ⟨⟨by decide +kernel, by decide +kernel, by decide +kernel, by rw [e7, z]; omega⟩, fun k hk => ?_, fun j hj => ?_, fun j hj => ?_, fun k hk => ?_, fun k _ h4 => ?_⟩
  · rw [e7, z2] at hk
    omega
  · rw [e7, z] at hj
    omega
  · rw [e7, z] at hj
    omega
  · rw [er, z] at hk
    omega
  · exact eq_of_beq (List.all_eq_true.mp (show (List.range 400).all (fun k => h_i HF 51 k == 0) = true by decide +kernel) k (List.mem_range.mpr h4))
/-! points: outcomes, causes -/
noncomputable def outP (o t q : Int32) : Int32 := if o = 0 then 0 else if q < t then 0 else o
noncomputable def sOP (a b q : Int32) : Int32 := if ¬ a = -1 ∧ ¬ q < a then 1 else if ¬ b = -1 ∧ ¬ q < b then 2 else 0
theorem stt_o {o t c a b e : Int32} (q : Int32) (s : stt o t c a b e) : outP o t q = sOP a b q := by
  unfold outP sOP
  rcases s with ⟨e1, e2, e3⟩ | ⟨e1, e2, e3, p⟩ | ⟨e1, e2, e3, _, p⟩
  · rw [if_pos e1, if_neg (fun y => y.1 e2), if_neg (fun y => y.1 e3)]
  · have n1 : ¬ t = -1 := fun y => by rw [y] at p; exact absurd p (by decide)
    rw [if_neg (by rw [e1]; decide), e2]
    by_cases l : q < t
    · rw [if_pos l, if_neg (fun y => y.2 l), if_neg (fun y => y.1 e3)]
    · rw [if_neg l, if_pos ⟨n1, l⟩, e1]
  · have n1 : ¬ t = -1 := fun y => by rw [y] at p; exact absurd p (by decide)
    rw [if_neg (by rw [e1]; decide), if_neg (c := ¬ a = -1 ∧ ¬ q < a) (fun y => y.1 e2), e3]
    by_cases l : q < t
    · rw [if_pos l, if_neg (fun y => y.2 l)]
    · rw [if_neg l, if_pos ⟨n1, l⟩, e1]
theorem c_soM (d : Nat) {h : Hp_} (I : Iv h) (x1 x2 : Int32) (v : vp_in x1 400) : Ci (m_X12_stateOf (d + 0) 0 0) [.ref 1, .int x1, .int x2] h (fun r h' => h' = h ∧ r = sOP (h_i h 241 x1.toNatClampNeg) (h_i h 242 x1.toNatClampNeg) x2) := by
  have two : ∀ (z : ¬ (¬ h_i h 241 x1.toNatClampNeg = -1 ∧ ¬ x2 < h_i h 241 x1.toNatClampNeg)), vp_in x1 400 ∧ (((h_i h 242 x1.toNatClampNeg) = (-1) → h = h ∧ (0 : Int32) = sOP (h_i h 241 x1.toNatClampNeg) (h_i h 242 x1.toNatClampNeg) x2) ∧ (¬ (h_i h 242 x1.toNatClampNeg) = (-1) → vp_in x1 400 ∧ ((x2 < (h_i h 242 x1.toNatClampNeg) → h = h ∧ (0 : Int32) = sOP (h_i h 241 x1.toNatClampNeg) (h_i h 242 x1.toNatClampNeg) x2) ∧ (¬ x2 < (h_i h 242 x1.toNatClampNeg) → h = h ∧ (2 : Int32) = sOP (h_i h 241 x1.toNatClampNeg) (h_i h 242 x1.toNatClampNeg) x2)))) := fun z => by
    unfold sOP
    rw [if_neg z]
    exact ⟨v, fun e => ⟨rfl, by rw [if_neg (fun y => y.1 e)]⟩, fun n => ⟨v, fun l => ⟨rfl, by rw [if_neg (fun y => y.2 l)]⟩, fun l => ⟨rfl, by rw [if_pos ⟨n, l⟩]⟩⟩⟩
  exact t_X12_stateOf d h I.1 x1 x2 _ ⟨v, fun e => two (fun y => y.1 e), fun n => ⟨v, fun l => two (fun y => y.2 l), fun l => ⟨rfl, by unfold sOP; rw [if_pos ⟨n, l⟩]⟩⟩⟩
theorem ca_in {h : Hp_} (I : Iv h) : ((h_i h 16 11).toNatClampNeg ≤ 200 ∧ (((h_i h 16 11).toNatClampNeg : Nat) : Int) = (h_i h 16 11).toInt) ∧ ((h_i h 1 64).toNatClampNeg ≤ 200 ∧ (((h_i h 1 64).toNatClampNeg : Nat) : Int) = (h_i h 1 64).toInt) := by
  have a := f_le (c := 16) (f := 11) (n := 200) I (by decide +kernel)
  have b := f_le (c := 1) (f := 64) (n := 200) I (by decide +kernel)
  have na := n_nat a.1
  have nb := n_nat b.1
  omega
noncomputable def ExC (h : Hp_) : Prop := h_i h 16 11 = h_i h 1 64 ∧ ∀ k, k < (h_i h 16 11).toNatClampNeg → h_i h 54 k = h_i h 245 k ∧ h_i h 55 k = h_i h 246 k ∧ h_i h 56 k = h_i h 247 k
/-! point, cause, causes -/
noncomputable def exoC (ws : List Nat) : Bool := off ws 54 && off ws 55 && off ws 56 && off ws 245 && off ws 246 && off ws 247 && !inw ws 16 11 && !inw ws 1 64
theorem ExC.cg {h h' : Hp_} (e : ExC h) (n : h_i h' 16 11 = h_i h 16 11) (m : h_i h' 1 64 = h_i h 1 64) (a : h_i h' 54 = h_i h 54) (b : h_i h' 55 = h_i h 55) (c : h_i h' 56 = h_i h 56) (a' : h_i h' 245 = h_i h 245) (b' : h_i h' 246 = h_i h 246) (c' : h_i h' 247 = h_i h 247) : ExC h' := by
  unfold ExC
  rw [n, m, a, b, c, a', b', c']
  exact e
theorem ExC.fr {ws : List Nat} {h h' : Hp_} (e : ExC h) (f : Fr ws h h') (o : exoC ws = true) : ExC h' := by
  unfold exoC at o
  simp only [Bool.and_eq_true, Bool.not_eq_true'] at o
  obtain ⟨⟨⟨⟨⟨⟨⟨o1, o2⟩, o3⟩, o4⟩, o5⟩, o6⟩, o7⟩, o8⟩ := o
  exact e.cg (f.2 16 11 o7).1 (f.2 1 64 o8).1 (funext (fun k => fr_i f o1 k)) (funext (fun k => fr_i f o2 k)) (funext (fun k => fr_i f o3 k)) (funext (fun k => fr_i f o4 k)) (funext (fun k => fr_i f o5 k)) (funext (fun k => fr_i f o6 k))
theorem ExC.mf {W : List Nat} {h h' : Hp_} (e : ExC h) (f : Mf W h h') (o : exoC W = true) : ExC h' := by
  unfold exoC at o
  simp only [Bool.and_eq_true, Bool.not_eq_true'] at o
  obtain ⟨⟨⟨⟨⟨⟨⟨o1, o2⟩, o3⟩, o4⟩, o5⟩, o6⟩, o7⟩, o8⟩ := o
  exact e.cg (f.2.2.2 16 11 (by decide) o7).1 (f.1 64) (funext (fun k => (f.2.2.2 54 k (by decide) (off_inw o1 k)).1)) (funext (fun k => (f.2.2.2 55 k (by decide) (off_inw o2 k)).1)) (funext (fun k => (f.2.2.2 56 k (by decide) (off_inw o3 k)).1)) (funext (fun k => f.2.1 245 (by decide) (by decide) k)) (funext (fun k => f.2.1 246 (by decide) (by decide) k)) (funext (fun k => f.2.1 247 (by decide) (by decide) k))
theorem exC_F : ExC HF := by
  have er : h_i HF 16 11 = 0 := by decide +kernel
  refine ⟨by decide +kernel, fun k hk => ?_⟩
  rw [er] at hk
  exact absurd hk (by show ¬ k < 0; omega)
theorem hs_x (d : Nat) {h : Hp_} (I : Iv h) (x1 : Int32) : Ci (m_X7_has (d + 0) 0 0) [.ref 16, .int x1] h (fun r h' => h' = h ∧ ((r = 1 ∧ 0 ≤ x1.toInt ∧ x1.toInt < (h_i h 16 7).toInt) ∨ (r = 0 ∧ ¬ (0 ≤ x1.toInt ∧ x1.toInt < (h_i h 16 7).toInt)))) := by
  have t0 : (0 : Int32).toInt = 0 := rfl
  refine t_X7_has d h I.1 x1 _ ⟨fun l => ⟨rfl, Or.inr ⟨rfl, fun y => ?_⟩⟩, fun l => ⟨fun g => ⟨rfl, Or.inr ⟨rfl, fun y => ?_⟩⟩, fun g => ⟨rfl, Or.inl ⟨rfl, ?_, ?_⟩⟩⟩⟩
  · have := q_lt.mp l
    omega
  · have := q_le.mp g
    omega
  · have := q_nlt l
    omega
  · exact q_nle g
theorem v4 {h : Hp_} (I : Iv h) {x1 : Int32} (b : 0 ≤ x1.toInt ∧ x1.toInt < (h_i h 16 7).toInt) : vp_in x1 400 ∧ x1.toNatClampNeg < (h_i h 16 7).toNatClampNeg := by
  have r := rwX_in I
  have n := n_nat b.1
  exact ⟨dp_in (lo := 0) (hi := 399) ⟨b.1, by show _ ≤ (399 : Int); omega⟩ (by decide) (by decide), by omega⟩
theorem r63 {h : Hp_} (I : Iv h) (x : ExM h) {x1 : Int32} : (0 ≤ x1 ∧ x1 ≤ h_i h 1 63 - 1) ↔ (0 ≤ x1.toInt ∧ x1.toInt < (h_i h 16 7).toInt) := by
  have t0 : (0 : Int32).toInt = 0 := rfl
  have t1 : (1 : Int32).toInt = 1 := rfl
  have r := rwX_in I
  rw [← x.1.2.2.1]
  have s1 : (h_i h 16 7 - 1).toInt = (h_i h 16 7).toInt - 1 := by rw [tx_sub (by rw [t1]; omega) (by rw [t1]; omega), t1]
  refine ⟨fun y => ?_, fun y => ⟨q_le.mpr (by omega), q_le.mpr (by omega)⟩⟩
  have a := q_le.mp y.1
  have b := q_le.mp y.2
  omega
/-! cause, causes -/
noncomputable def okCs (h : Hp_) (x1 x2 : Int32) : Prop := (0 ≤ x1.toInt ∧ x1.toInt < (h_i h 16 7).toInt) ∧ (1 ≤ x2 ∧ x2 ≤ 9) ∧ h_i h 51 x1.toNatClampNeg = 2 ∧ h_i h 16 11 < 200
noncomputable def wCx : List Nat := [16011, 54999, 55999, 56999]
noncomputable def wCm : List Nat := [1064, 245999, 246999, 247999]
noncomputable def CsX (x1 x2 : Int32) (h : Hp_) (r : Int32) (h' : Hp_) : Prop := (okCs h x1 x2 → r = 1 ∧ h_i h' 16 11 = h_i h 16 11 + 1 ∧ h_i h' 54 = up1 (h_i h 54) (h_i h 16 11).toNatClampNeg x1 ∧ h_i h' 55 = up1 (h_i h 55) (h_i h 16 11).toNatClampNeg x2 ∧ h_i h' 56 = up1 (h_i h 56) (h_i h 16 11).toNatClampNeg (h_i h 0 0)) ∧ (¬ okCs h x1 x2 → r = 0 ∧ h' = h)
noncomputable def CsM (ok : Prop) (x1 x2 : Int32) (h : Hp_) (r : Int32) (h' : Hp_) : Prop := (ok → r = 1 ∧ h_i h' 1 64 = h_i h 1 64 + 1 ∧ h_i h' 245 = up1 (h_i h 245) (h_i h 1 64).toNatClampNeg x1 ∧ h_i h' 246 = up1 (h_i h 246) (h_i h 1 64).toNatClampNeg x2 ∧ h_i h' 247 = up1 (h_i h 247) (h_i h 1 64).toNatClampNeg (h_i h 1 0)) ∧ (¬ ok → r = 0 ∧ h' = h)
theorem c_csX (d : Nat) {h : Hp_} (I : Iv h) (x1 x2 : Int32) : Ci (m_X11_cause (d + 2) 0 0) [.ref 0, .int x1, .int x2] h (fun r h' => Iv h' ∧ Fr wCx h h' ∧ CsX x1 x2 h r h') := by
  have no : ¬ okCs h x1 x2 → Iv h ∧ Fr wCx h h ∧ CsX x1 x2 h 0 h := fun n => ⟨I, Fr.rf _ _, fun y => absurd y n, fun _ => ⟨rfl, rfl⟩⟩
  refine t_X11_cause d h I.1 x1 x2 _ (Ci.mono (hs_x d I x1) (fun r h1 k => ?_))
  obtain ⟨e, k⟩ := k
  subst e
  rcases k with k | k
  · refine ⟨I.1, fun e0 => absurd (k.1.symm.trans e0) (by decide), fun _ => ⟨fun n => no (fun o => n o.2.1), fun y2 => ?_⟩⟩
    obtain ⟨v, _⟩ := v4 I k.2
    refine t_X7_tellAnew d h1 I.1 x1 x2 _ _ (Ci.mono (hs_x d I x1) (fun r h2 k' => ?_))
    obtain ⟨e, k'⟩ := k'
    subst e
    rcases k' with k' | k'
    · refine ⟨I.1, fun e0 => absurd (k'.1.symm.trans e0) (by decide), fun _ => ⟨v, fun n => ⟨I.1, fun _ => no (fun o => n o.2.2.1), fun y => absurd rfl y⟩, fun e2 => ⟨fun l => ?_, fun n => ⟨I.1, fun _ => no (fun o => n o.2.2.2), fun y => absurd rfl y⟩⟩⟩⟩
      have c := (ca_in I).1
      have t200 : (200 : Int32).toInt = 200 := rfl
      have t1 : (1 : Int32).toInt = 1 := rfl
      have l' := q_lt.mp l
      have ex : (h_i h2 16 11 + 1).toInt = (h_i h2 16 11).toInt + 1 := tx_add (by rw [t1]; omega) (by rw [t1]; omega)
      have v2 : vp_in (h_i h2 16 11) 200 := dp_in (lo := 0) (hi := 199) ⟨by show (0 : Int) ≤ _; omega, by show _ ≤ (199 : Int); omega⟩ (by decide) (by decide)
      have i54 := fun {g : Hp_} (J : Iv g) (k : Nat) (y : Int32) => J.im (a := 54) (k := k) (x := y) (by rw [tfa_tf (show tfa 54 = some rtop by decide +kernel)]; exact rtop_in _) (jw_jr (by decide) (by decide) _)
      have i55 := fun {g : Hp_} (J : Iv g) (k : Nat) (y : Int32) => J.im (a := 55) (k := k) (x := y) (by rw [tfa_tf (show tfa 55 = some rtop by decide +kernel)]; exact rtop_in _) (jw_jr (by decide) (by decide) _)
      have i56 := fun {g : Hp_} (J : Iv g) (k : Nat) (y : Int32) => J.im (a := 56) (k := k) (x := y) (by rw [tfa_tf (show tfa 56 = some rtop by decide +kernel)]; exact rtop_in _) (jw_jr (by decide) (by decide) _)
      have I4 : Iv (h_im (h_im (h_im (h_im h2 54 (h_i h2 16 11).toNatClampNeg x1) 55 (h_i h2 16 11).toNatClampNeg x2) 56 (h_i h2 16 11).toNatClampNeg (h_i h2 0 0)) 16 11 (h_i h2 16 11 + 1)) := (i56 (i55 (i54 I _ _) _ _) _ _).im (by rw [show tf 16 11 = (0, 200) by decide +kernel]; exact ⟨by show (0 : Int) ≤ _; omega, by show _ ≤ (200 : Int); omega⟩) (by decide)
      refine ⟨v2, v2, v2, I4.1, fun e => absurd e (by decide), fun _ => ⟨I4, ?_, fun _ => ⟨rfl, im_at, ?_, ?_, ?_⟩, fun n => absurd ⟨k.2, y2, e2, l⟩ n⟩⟩
      · exact ((((Fr.rf _ _).im (inw_row (by decide +kernel) _)).im (inw_row (by decide +kernel) _)).im (inw_row (by decide +kernel) _)).im (by decide +kernel)
      · rw [im_oth (by decide), im_oth (by decide), im_oth (by decide), im_row]
      · rw [im_oth (by decide), im_oth (by decide), im_row, im_oth (by decide)]
      · rw [im_oth (by decide), im_row, im_oth (by decide), im_oth (by decide)]
    · exact absurd k.2 k'.2
  · exact ⟨I.1, fun _ => no (fun o => k.2 o.1), fun n => absurd k.1 n⟩
theorem ok_cs {h : Hp_} (I : Iv h) (x : ExM h) (c : ExC h) {x1 x2 : Int32} : okCs h x1 x2 ↔ ((0 ≤ x1 ∧ x1 ≤ h_i h 1 63 - 1) ∧ sOP (h_i h 241 x1.toNatClampNeg) (h_i h 242 x1.toNatClampNeg) (h_i h 1 0) = 2 ∧ (1 ≤ x2 ∧ x2 ≤ 9) ∧ ¬ h_i h 1 64 = 200) := by
  have t200 : (200 : Int32).toInt = 200 := rfl
  have cc := (ca_in I).1
  have key : (0 ≤ x1.toInt ∧ x1.toInt < (h_i h 16 7).toInt) → (h_i h 51 x1.toNatClampNeg = 2 ↔ sOP (h_i h 241 x1.toNatClampNeg) (h_i h 242 x1.toNatClampNeg) (h_i h 1 0) = 2) := fun b => by
    obtain ⟨_, l⟩ := v4 I b
    have q := x.2.2.2.2.1 _ l
    rw [← stt_o _ q.1, ← x.1.2.1]
    unfold outP
    by_cases e : h_i h 51 x1.toNatClampNeg = 0
    · rw [if_pos e, e]
    · have t := q.2.2 e
      rw [if_neg e, if_neg (fun y => by have := q_lt.mp y; omega)]
  have full : h_i h 16 11 < 200 ↔ ¬ h_i h 1 64 = 200 := by
    rw [← c.1]
    refine ⟨fun l e => ?_, fun n => q_lt.mpr ?_⟩
    · have := q_lt.mp l
      rw [e] at this
      omega
    · rcases Int.lt_or_le (h_i h 16 11).toInt 200 with u | u
      · omega
      · exact absurd (Int32.toInt_inj.mp (by omega)) n
  unfold okCs
  rw [r63 I x]
  exact ⟨fun o => ⟨o.1, (key o.1).mp o.2.2.1, o.2.1, full.mp o.2.2.2⟩, fun o => ⟨o.1, o.2.2.1, (key o.1).mpr o.2.1, full.mpr o.2.2.2⟩⟩
theorem c_csM (d : Nat) {h : Hp_} (I : Iv h) (x1 x2 : Int32) (r4 : (0 ≤ x1 ∧ x1 ≤ h_i h 1 63 - 1) → vp_in x1 400) : Ci (m_X12_cause (d + 1) 0 0) [.ref 1, .int x1, .int x2] h (fun r h' => Iv h' ∧ Fr wCm h h' ∧ CsM ((0 ≤ x1 ∧ x1 ≤ h_i h 1 63 - 1) ∧ sOP (h_i h 241 x1.toNatClampNeg) (h_i h 242 x1.toNatClampNeg) (h_i h 1 0) = 2 ∧ (1 ≤ x2 ∧ x2 ≤ 9) ∧ ¬ h_i h 1 64 = 200) x1 x2 h r h') := by
  have no : ¬ ((0 ≤ x1 ∧ x1 ≤ h_i h 1 63 - 1) ∧ sOP (h_i h 241 x1.toNatClampNeg) (h_i h 242 x1.toNatClampNeg) (h_i h 1 0) = 2 ∧ (1 ≤ x2 ∧ x2 ≤ 9) ∧ ¬ h_i h 1 64 = 200) → Iv h ∧ Fr wCm h h ∧ CsM ((0 ≤ x1 ∧ x1 ≤ h_i h 1 63 - 1) ∧ sOP (h_i h 241 x1.toNatClampNeg) (h_i h 242 x1.toNatClampNeg) (h_i h 1 0) = 2 ∧ (1 ≤ x2 ∧ x2 ≤ 9) ∧ ¬ h_i h 1 64 = 200) x1 x2 h 0 h := fun n => ⟨I, Fr.rf _ _, fun y => absurd y n, fun _ => ⟨rfl, rfl⟩⟩
  refine t_X12_cause d h I.1 x1 x2 _ ⟨fun n => no (fun o => n o.1), fun y => Ci.mono (c_soM d I x1 _ (r4 y)) (fun r h4 k => ?_)⟩
  obtain ⟨e, k⟩ := k
  subst e
  refine ⟨I.1, fun n => no (fun o => n (k.trans o.2.1)), fun e2 => ⟨fun n => no (fun o => n o.2.2.1), fun y2 => ⟨fun n => ?_, fun e => no (fun o => o.2.2.2 e)⟩⟩⟩
  have c := (ca_in I).2
  have t200 : (200 : Int32).toInt = 200 := rfl
  have t1 : (1 : Int32).toInt = 1 := rfl
  have l' : (h_i h4 1 64).toInt < 200 := by
    rcases Int.lt_or_le (h_i h4 1 64).toInt 200 with u | u
    · exact u
    · exact absurd (Int32.toInt_inj.mp (by omega)) n
  have ex : (h_i h4 1 64 + 1).toInt = (h_i h4 1 64).toInt + 1 := tx_add (by rw [t1]; omega) (by rw [t1]; omega)
  have v2 : vp_in (h_i h4 1 64) 200 := dp_in (lo := 0) (hi := 199) ⟨by show (0 : Int) ≤ _; omega, by show _ ≤ (199 : Int); omega⟩ (by decide) (by decide)
  have nr := I.2.1 1 0
  rw [show tf 1 0 = (0, 20000) by decide +kernel] at nr
  have b1 := r4 y
  have I1 : Iv (h_im h4 245 (h_i h4 1 64).toNatClampNeg x1) := I.im (by rw [tfa_tf (show tfa 245 = some rtop by decide +kernel)]; exact rtop_in _) (jw_jr (by decide) (by decide) _)
  have I2 : Iv (h_im (h_im h4 245 (h_i h4 1 64).toNatClampNeg x1) 246 (h_i h4 1 64).toNatClampNeg x2) := I1.im (by rw [tfa_tf (show tfa 246 = some rtop by decide +kernel)]; exact rtop_in _) (jw_jr (by decide) (by decide) _)
  have I3 : Iv (h_im (h_im (h_im h4 245 (h_i h4 1 64).toNatClampNeg x1) 246 (h_i h4 1 64).toNatClampNeg x2) 247 (h_i h4 1 64).toNatClampNeg (h_i h4 1 0)) := I2.im (by rw [tfa_tf (show tfa 247 = some rtop by decide +kernel)]; exact rtop_in _) (jw_jr (by decide) (by decide) _)
  have I4 := I3.im (a := 1) (k := 64) (x := h_i h4 1 64 + 1) (by rw [show tf 1 64 = (0, 200) by decide +kernel]; exact ⟨by show (0 : Int) ≤ _; omega, by show _ ≤ (200 : Int); omega⟩) (by decide)
  refine ⟨v2, v2, v2, I4, ?_, fun _ => ⟨rfl, im_at, ?_, ?_, ?_⟩, fun z => absurd ⟨y, k.symm.trans e2, y2, n⟩ z⟩
  · exact ((((Fr.rf _ _).im (inw_row (by decide +kernel) _)).im (inw_row (by decide +kernel) _)).im (inw_row (by decide +kernel) _)).im (by decide +kernel)
  · rw [im_oth (by decide), im_oth (by decide), im_oth (by decide), im_row]
  · rw [im_oth (by decide), im_oth (by decide), im_row, im_oth (by decide)]
  · rw [im_oth (by decide), im_row, im_oth (by decide), im_oth (by decide)]
theorem ExC.cs {h h1 h2 : Hp_} {x1 x2 r1 r2 : Int32} {ok : Prop} (I : Iv h) (x : ExM h) (c : ExC h) (f1 : Fr wCx h h1) (f2 : Fr wCm h1 h2) (k1 : CsX x1 x2 h r1 h1) (k2 : CsM ok x1 x2 h1 r2 h2) (oe : okCs h x1 x2 ↔ ok) : ExC h2 ∧ r1 = r2 := by
  by_cases o : okCs h x1 x2
  · obtain ⟨a1, a2, a3, a4, a5⟩ := k1.1 o
    obtain ⟨b1, b2, b3, b4, b5⟩ := k2.1 (oe.mp o)
    have e64 : h_i h1 1 64 = h_i h 16 11 := ((f1.2 1 64 (by decide +kernel)).1).trans c.1.symm
    have e10 : h_i h1 1 0 = h_i h 0 0 := ((f1.2 1 0 (by decide +kernel)).1).trans x.1.2.1.symm
    rw [e64] at b2 b3 b4 b5
    rw [e10] at b5
    rw [show h_i h1 245 = h_i h 245 from funext (fun k => fr_i f1 (by decide +kernel) k)] at b3
    rw [show h_i h1 246 = h_i h 246 from funext (fun k => fr_i f1 (by decide +kernel) k)] at b4
    rw [show h_i h1 247 = h_i h 247 from funext (fun k => fr_i f1 (by decide +kernel) k)] at b5
    have n11 : h_i h2 16 11 = h_i h 16 11 + 1 := ((f2.2 16 11 (by decide +kernel)).1).trans a2
    have g54 : h_i h2 54 = h_i h1 54 := funext (fun k => fr_i f2 (by decide +kernel) k)
    have g55 : h_i h2 55 = h_i h1 55 := funext (fun k => fr_i f2 (by decide +kernel) k)
    have g56 : h_i h2 56 = h_i h1 56 := funext (fun k => fr_i f2 (by decide +kernel) k)
    have cc := (ca_in I).1
    have t1 : (1 : Int32).toInt = 1 := rfl
    have ex : (h_i h 16 11 + 1).toInt = (h_i h 16 11).toInt + 1 := tx_add (by rw [t1]; omega) (by rw [t1]; omega)
    have nx := n_nat (x := h_i h 16 11 + 1) (by omega)
    refine ⟨⟨n11.trans b2.symm, fun k hk => ?_⟩, a1.trans b1.symm⟩
    rw [n11] at hk
    rw [g54, g55, g56, a3, a4, a5, b3, b4, b5]
    by_cases e : k = (h_i h 16 11).toNatClampNeg
    · rw [e, up1_at, up1_at, up1_at, up1_at, up1_at, up1_at]
      exact ⟨rfl, rfl, rfl⟩
    · rw [up1_ne e, up1_ne e, up1_ne e, up1_ne e, up1_ne e, up1_ne e]
      exact c.2 k (by omega)
  · obtain ⟨a1, a2⟩ := k1.2 o
    obtain ⟨b1, b2⟩ := k2.2 (fun y => o (oe.mpr y))
    rw [b2, a2]
    exact ⟨c, a1.trans b1.symm⟩
end
