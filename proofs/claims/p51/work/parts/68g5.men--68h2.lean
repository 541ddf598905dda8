section
/-! MEN, the reference: begin -/
section MEN
variable {β : Type} {PM : β → Hp_ → Prop} {tB : Int32 → Int32 → β → β} {lM : Nat → Hp_ → β → β}
def mwB : List Nat := 1063 :: 212999 :: 214999 :: 215999 :: 217999 :: 238999 :: 239999 :: 240999 :: 244999 :: mwR
def Bym (PM : β → Hp_ → Prop) (j : Nat) (m n : Int32) (M' : Nat → Int32) (r : Nat) (Q E : List Ev2) (b' : β) (h h' : Hp_) : Prop := Iv h' ∧ (Fr mwB h h' ∧ ∀ a, a ∈ mrL → ∀ k, k ≠ j → h_i h' a k = h_i h a k) ∧ RMp j M' h' ∧ (h_i h' 238 = rz (fun _ => m) r Q (h_i h 238) ∧ h_i h' 239 = rz Prod.fst r Q (h_i h 239) ∧ h_i h' 240 = rz (fun e => n + e.2) r Q (h_i h 240) ∧ h_i h' 244 = rz (fun _ => n) r Q (h_i h 244)) ∧ (h_i h' 1 63 = Int32.ofNat (r + Q.length) ∧ h_i h' 215 j = Int32.ofNat r) ∧ (h_i h' 241 = rq (gM n) r E (rz (fun _ => -1) r Q (h_i h 241)) ∧ h_i h' 242 = rq (gS n) r E (rz (fun _ => -1) r Q (h_i h 242)) ∧ h_i h' 243 = rq gC r E (h_i h 243)) ∧ PM b' h'
theorem m_bg (P : PMok PM tB lM) (d : Nat) {h : Hp_} (I : Iv h) (X : ExP h) (x1 x2 : Int32) {b : β} (B : PM b h) (M : Nat → Int32) (H : isN h x1 → RMp x1.toNatClampNeg M h ∧ M 0 = x1 ∧ (M 4 = 0 → M 6 = -1 ∧ M 7 = -1) ∧ (M 6 = -1 → 0 ≤ (M 5).toInt)) (L : List Sp3) (S : (0 ≤ x2.toInt ∧ x2.toInt < (h_i h 1 42).toInt) → Stm h x2 0 L ∧ h_i h 227 x2.toNatClampNeg = Int32.ofNat L.length ∧ mP (h_i h 228) x2.toNatClampNeg (h_i h 227 x2.toNatClampNeg).toNatClampNeg 0 = mts L) : Ci (m_X12_begin (d + 4) 0 0) [.ref 1, .int x1, .int x2] h (fun r h' => ((isN h x1 ∧ (0 ≤ x2.toInt ∧ x2.toInt < (h_i h 1 42).toInt) ∧ M 4 = 0 ∧ (h_i h 1 63).toInt + (mts L : Int) ≤ 400) → r = 1 ∧ Bym PM x1.toNatClampNeg x1 (h_i h 1 0) (fBg (h_i h 1 0) (wI h) x2 (h_i h 1 63).toNatClampNeg ((h_i h 1 63).toNatClampNeg + mts L) L M).1 (h_i h 1 63).toNatClampNeg (ptL L) (fBg (h_i h 1 0) (wI h) x2 (h_i h 1 63).toNatClampNeg ((h_i h 1 63).toNatClampNeg + mts L) L M).2 (fB tB (h_i h 1 0) (fBg (h_i h 1 0) (wI h) x2 (h_i h 1 63).toNatClampNeg ((h_i h 1 63).toNatClampNeg + mts L) L M).1 b) h h') ∧ (¬ (isN h x1 ∧ (0 ≤ x2.toInt ∧ x2.toInt < (h_i h 1 42).toInt) ∧ M 4 = 0 ∧ (h_i h 1 63).toInt + (mts L : Int) ≤ 400) → r = 0 ∧ h' = h)) := by
  have t0 : (0 : Int32).toInt = 0 := rfl
  have t1 : (1 : Int32).toInt = 1 := rfl
  have t400 : (400 : Int32).toInt = 400 := rfl
  have bm := menM_in I
  have r42 := I.2.1 1 42
  rw [show tf 1 42 = (0, 12) by decide +kernel] at r42
  have b0 : 0 ≤ (h_i h 1 42).toInt := r42.1
  have b1 : (h_i h 1 42).toInt ≤ 12 := r42.2
  have rg := rows_in I
  have r4 : (h_i h 1 63).toInt ≤ 400 := rg.2
  have r0 : 0 ≤ (h_i h 1 63).toInt := rg.1
  have s42 : (h_i h 1 42 - 1).toInt = (h_i h 1 42).toInt - 1 := by rw [tx_sub (by rw [t1]; omega) (by rw [t1]; omega), t1]
  refine t_X12_begin d h I.1 x1 x2 _ ⟨fun n => ⟨fun y => absurd ((isN_q I).mpr y.1) n, fun _ => ⟨rfl, rfl⟩⟩, fun y1 => ⟨fun n => ⟨fun y => absurd ⟨q_le.mpr (by have := y.2.1.1; omega), q_le.mpr (by have := y.2.1.2; omega)⟩ n, fun _ => ⟨rfl, rfl⟩⟩, fun y2 => ?_⟩⟩
  have ym := (isN_q I).mp y1
  obtain ⟨R, n0, k0, p5⟩ := H ym
  have hx : 0 ≤ x1.toInt ∧ x1.toInt ≤ 11 := ⟨ym.1, by have := ym.2; omega⟩
  have v := v12 hx
  have u1 := q_le.mp y2.1
  have u2 := q_le.mp y2.2
  have yb : 0 ≤ x2.toInt ∧ x2.toInt < (h_i h 1 42).toInt := ⟨by omega, by omega⟩
  obtain ⟨S, e227, em⟩ := S yb
  have ll : 0 + L.length ≤ 150 := S.2.1
  have ml := mts_l L
  have b2 : 0 ≤ x2.toInt ∧ x2.toInt ≤ 11 := ⟨yb.1, by omega⟩
  rw [R.1.1]
  refine ⟨v, fun nf => ⟨fun y => absurd y.2.2.1 nf, fun _ => ⟨rfl, rfl⟩⟩, fun yf => Ci.mono (c_pointsOf d I x2 ⟨by show (0 : Int) ≤ _; omega, by show _ ≤ (11 : Int); omega⟩) (fun r11 h9 k => ?_)⟩
  obtain ⟨eh, k⟩ := k
  subst eh
  rw [em] at k
  have sm : (h_i h9 1 63 + r11).toInt = (h_i h9 1 63).toInt + (mts L : Int) := by rw [tx_add (by omega) (by omega), k]
  refine ⟨I.1, fun l => ⟨v, v, v, v, v, v, ?_⟩, fun l => ⟨fun y => ?_, fun _ => ⟨rfl, rfl⟩⟩⟩
  · have l := q_le.mp l
    have lr : (h_i h9 1 63).toInt + (mts L : Int) ≤ 400 := by omega
    have ok : isN h9 x1 ∧ (0 ≤ x2.toInt ∧ x2.toInt < (h_i h9 1 42).toInt) ∧ M 4 = 0 ∧ (h_i h9 1 63).toInt + (mts L : Int) ≤ 400 := ⟨ym, yb, yf, lr⟩
    have I6 := im216 ((((im213 ((im208 I x1.toNatClampNeg 1).im (a := 212) (k := x1.toNatClampNeg) (x := x2) (by rw [tfa_tf (show tfa 212 = some (0, 11) by decide +kernel)]; exact ⟨b2.1, b2.2⟩) (jw_jr (by decide) (by decide) _)) x1.toNatClampNeg 0 (by decide)) |> fun z => tr_ 214 (by decide +kernel) z x1.toNatClampNeg (h_i h9 1 0) (by decide) (by decide)).im (a := 215) (k := x1.toNatClampNeg) (x := h_i h9 1 63) (by rw [tfa_tf (show tfa 215 = some (0, 400) by decide +kernel)]; exact rg) (jw_jr (by decide) (by decide) _))) x1.toNatClampNeg (h_i h9 1 63) ⟨r0, r4⟩
    have F6 : Fr mwB h9 (h_im (h_im (h_im (h_im (h_im (h_im h9 208 x1.toNatClampNeg 1) 212 x1.toNatClampNeg x2) 213 x1.toNatClampNeg 0) 214 x1.toNatClampNeg (h_i h9 1 0)) 215 x1.toNatClampNeg (h_i h9 1 63)) 216 x1.toNatClampNeg (h_i h9 1 63)) := ((((((Fr.rf _ _).im (inw_row (by decide +kernel) _)).im (inw_row (by decide +kernel) _)).im (inw_row (by decide +kernel) _)).im (inw_row (by decide +kernel) _)).im (inw_row (by decide +kernel) _)).im (inw_row (by decide +kernel) _)
    have B6 : PM b (h_im (h_im (h_im (h_im (h_im (h_im h9 208 x1.toNatClampNeg 1) 212 x1.toNatClampNeg x2) 213 x1.toNatClampNeg 0) 214 x1.toNatClampNeg (h_i h9 1 0)) 215 x1.toNatClampNeg (h_i h9 1 63)) 216 x1.toNatClampNeg (h_i h9 1 63)) := P.1 _ _ _ _ _ (Or.inl (by decide)) (P.1 _ _ _ _ _ (Or.inl (by decide)) (P.1 _ _ _ _ _ (Or.inl (by decide)) (P.1 _ _ _ _ _ (Or.inl (by decide)) (P.1 _ _ _ _ _ (Or.inl (by decide)) (P.1 _ _ _ _ _ (Or.inl (by decide)) B)))))
    have q8 : h_i (h_im (h_im (h_im (h_im (h_im (h_im h9 208 x1.toNatClampNeg 1) 212 x1.toNatClampNeg x2) 213 x1.toNatClampNeg 0) 214 x1.toNatClampNeg (h_i h9 1 0)) 215 x1.toNatClampNeg (h_i h9 1 63)) 216 x1.toNatClampNeg (h_i h9 1 63)) 208 x1.toNatClampNeg = 1 := by rw [im_ne (by decide), im_ne (by decide), im_ne (by decide), im_ne (by decide), im_ne (by decide), im_at]
    have q12 : h_i (h_im (h_im (h_im (h_im (h_im (h_im h9 208 x1.toNatClampNeg 1) 212 x1.toNatClampNeg x2) 213 x1.toNatClampNeg 0) 214 x1.toNatClampNeg (h_i h9 1 0)) 215 x1.toNatClampNeg (h_i h9 1 63)) 216 x1.toNatClampNeg (h_i h9 1 63)) 212 x1.toNatClampNeg = x2 := by rw [im_ne (by decide), im_ne (by decide), im_ne (by decide), im_ne (by decide), im_at]
    have q13 : h_i (h_im (h_im (h_im (h_im (h_im (h_im h9 208 x1.toNatClampNeg 1) 212 x1.toNatClampNeg x2) 213 x1.toNatClampNeg 0) 214 x1.toNatClampNeg (h_i h9 1 0)) 215 x1.toNatClampNeg (h_i h9 1 63)) 216 x1.toNatClampNeg (h_i h9 1 63)) 213 x1.toNatClampNeg = 0 := by rw [im_ne (by decide), im_ne (by decide), im_ne (by decide), im_at]
    have q14 : h_i (h_im (h_im (h_im (h_im (h_im (h_im h9 208 x1.toNatClampNeg 1) 212 x1.toNatClampNeg x2) 213 x1.toNatClampNeg 0) 214 x1.toNatClampNeg (h_i h9 1 0)) 215 x1.toNatClampNeg (h_i h9 1 63)) 216 x1.toNatClampNeg (h_i h9 1 63)) 214 x1.toNatClampNeg = h_i h9 1 0 := by rw [im_ne (by decide), im_ne (by decide), im_at]
    have q15 : h_i (h_im (h_im (h_im (h_im (h_im (h_im h9 208 x1.toNatClampNeg 1) 212 x1.toNatClampNeg x2) 213 x1.toNatClampNeg 0) 214 x1.toNatClampNeg (h_i h9 1 0)) 215 x1.toNatClampNeg (h_i h9 1 63)) 216 x1.toNatClampNeg (h_i h9 1 63)) 215 x1.toNatClampNeg = h_i h9 1 63 := by rw [im_ne (by decide), im_at]
    have q16 : h_i (h_im (h_im (h_im (h_im (h_im (h_im h9 208 x1.toNatClampNeg 1) 212 x1.toNatClampNeg x2) 213 x1.toNatClampNeg 0) 214 x1.toNatClampNeg (h_i h9 1 0)) 215 x1.toNatClampNeg (h_i h9 1 63)) 216 x1.toNatClampNeg (h_i h9 1 63)) 216 x1.toNatClampNeg = h_i h9 1 63 := im_at
    have qo : ∀ a, a ≠ 208 → a ≠ 212 → a ≠ 213 → a ≠ 214 → a ≠ 215 → a ≠ 216 → h_i (h_im (h_im (h_im (h_im (h_im (h_im h9 208 x1.toNatClampNeg 1) 212 x1.toNatClampNeg x2) 213 x1.toNatClampNeg 0) 214 x1.toNatClampNeg (h_i h9 1 0)) 215 x1.toNatClampNeg (h_i h9 1 63)) 216 x1.toNatClampNeg (h_i h9 1 63)) a = h_i h9 a := fun a n1 n2 n3 n4 n5 n6 => by rw [im_oth n6, im_oth n5, im_oth n4, im_oth n3, im_oth n2, im_oth n1]
    have ql : ∀ a, a ∈ mrL → ∀ k, k ≠ x1.toNatClampNeg → h_i (h_im (h_im (h_im (h_im (h_im (h_im h9 208 x1.toNatClampNeg 1) 212 x1.toNatClampNeg x2) 213 x1.toNatClampNeg 0) 214 x1.toNatClampNeg (h_i h9 1 0)) 215 x1.toNatClampNeg (h_i h9 1 63)) 216 x1.toNatClampNeg (h_i h9 1 63)) a k = h_i h9 a k := fun a _ k n => by
      rw [h_i_im, if_neg (fun e => n e.2), h_i_im, if_neg (fun e => n e.2), h_i_im, if_neg (fun e => n e.2), h_i_im, if_neg (fun e => n e.2), h_i_im, if_neg (fun e => n e.2), h_i_im, if_neg (fun e => n e.2)]
    generalize h_im (h_im (h_im (h_im (h_im (h_im h9 208 x1.toNatClampNeg 1) 212 x1.toNatClampNeg x2) 213 x1.toNatClampNeg 0) 214 x1.toNatClampNeg (h_i h9 1 0)) 215 x1.toNatClampNeg (h_i h9 1 63)) 216 x1.toNatClampNeg (h_i h9 1 63) = g at *
    have g0 : h_i g 1 = h_i h9 1 := qo 1 (by decide) (by decide) (by decide) (by decide) (by decide) (by decide)
    have gs : ∀ k, sB g k = sB h9 k := fun k => by
      funext i
      unfold sB
      rw [qo 228 (by decide) (by decide) (by decide) (by decide) (by decide) (by decide), qo 229 (by decide) (by decide) (by decide) (by decide) (by decide) (by decide), qo 230 (by decide) (by decide) (by decide) (by decide) (by decide) (by decide)]
    have g227 : h_i g 227 = h_i h9 227 := qo 227 (by decide) (by decide) (by decide) (by decide) (by decide) (by decide)
    have e3 : 150 * x2 = 150 * x2 + Int32.ofNat 0 := (i_0 _).symm
    rw [e3]
    refine mb_lp P d b2 _ hx L (h := g) (b := b) 0 I6 B6 (S.cg gs) (by rw [g227, Nat.zero_add]; exact e227) (by rw [g0]; exact lr) (fun h' w => ?_)
    obtain ⟨Iw, Fw, ⟨w8, w9, w10, w11, w12, w14⟩, w63, Bw⟩ := w
    rw [g0] at w8 w9 w10 w11 w12 w14 w63
    have oo : ∀ a, off wwM a = true → ∀ k, h_i h' a k = h_i g a k := fun a o k => fr_i Fw o k
    have nr := n_nat r0
    have I7 : Iv (h_im h' 217 x1.toNatClampNeg (h_i h' 1 63)) := Iw.im (by rw [tfa_tf (show tfa 217 = some (0, 400) by decide +kernel), w63, ptL_l]; exact ⟨by show (0 : Int) ≤ _; rw [on_j (by omega)]; omega, by show _ ≤ (400 : Int); rw [on_j (by omega)]; omega⟩) (jw_jr (by decide) (by decide) _)
    have B7 : PM b (h_im h' 217 x1.toNatClampNeg (h_i h' 1 63)) := P.1 _ _ _ _ _ (Or.inl (by decide)) Bw
    have F7 : Fr mwB h9 (h_im h' 217 x1.toNatClampNeg (h_i h' 1 63)) := (F6.tr (Fw.more (by decide +kernel))).im (inw_row (by decide +kernel) _)
    have R7 : RMp x1.toNatClampNeg (up1 (up1 (up1 (up1 (up1 (up1 M 4 1) 8 x2) 9 0) 10 (h_i h9 1 0)) 11 (Int32.ofNat (h_i h9 1 63).toNatClampNeg)) 12 (Int32.ofNat ((h_i h9 1 63).toNatClampNeg + mts L))) (h_im h' 217 x1.toNatClampNeg (h_i h' 1 63)) := by
      refine ⟨⟨?_, ?_, ?_, ?_⟩, fun _ => ⟨?_, ?_, ?_, ?_, ?_⟩, fun e => absurd (show (1 : Int32) = 3 from e) (by decide), ?_⟩
      · rw [im_ne (by decide), oo 208 (by decide +kernel), q8]
        rfl
      · rw [im_ne (by decide), oo 209 (by decide +kernel), qo 209 (by decide) (by decide) (by decide) (by decide) (by decide) (by decide)]
        exact R.1.2.1
      · rw [im_ne (by decide), oo 210 (by decide +kernel), qo 210 (by decide) (by decide) (by decide) (by decide) (by decide) (by decide)]
        exact R.1.2.2.1
      · rw [im_ne (by decide), oo 211 (by decide +kernel), qo 211 (by decide) (by decide) (by decide) (by decide) (by decide) (by decide)]
        exact R.1.2.2.2
      · rw [im_ne (by decide), oo 212 (by decide +kernel), q12]
        rfl
      · rw [im_ne (by decide), oo 213 (by decide +kernel), q13]
        rfl
      · rw [im_ne (by decide), oo 214 (by decide +kernel), q14]
        rfl
      · rw [im_ne (by decide), oo 216 (by decide +kernel), q16]
        show h_i h9 1 63 = Int32.ofNat (h_i h9 1 63).toNatClampNeg
        exact (of_nat32 r0).symm
      · rw [im_at, w63, ptL_l]
        rfl
      · rw [im_ne (by decide), oo 206 (by decide +kernel), qo 206 (by decide) (by decide) (by decide) (by decide) (by decide) (by decide)]
        exact R.2.2.2
    have X7 : ExP (h_im h' 217 x1.toNatClampNeg (h_i h' 1 63)) := X.fr F7 (by decide +kernel)
    have w7 : wI (h_im h' 217 x1.toNatClampNeg (h_i h' 1 63)) = wI h9 := by
      funext p q
      unfold wI
      rw [fr_i F7 (by decide +kernel)]
    have n7 : h_i (h_im h' 217 x1.toNatClampNeg (h_i h' 1 63)) 1 0 = h_i h9 1 0 := (F7.2 1 0 (by decide +kernel)).1
    have s7 : ∀ k, sB (h_im h' 217 x1.toNatClampNeg (h_i h' 1 63)) k = sB h9 k := fun k => by
      funext i
      unfold sB
      rw [fr_i F7 (by decide +kernel), fr_i F7 (by decide +kernel), fr_i F7 (by decide +kernel)]
    have z27 : h_i (h_im h' 217 x1.toNatClampNeg (h_i h' 1 63)) 227 x2.toNatClampNeg = Int32.ofNat L.length := by
      rw [fr_i F7 (by decide +kernel)]
      exact e227
    have l7 : ∀ a, a ∈ mrL → ∀ k, k ≠ x1.toNatClampNeg → h_i (h_im h' 217 x1.toNatClampNeg (h_i h' 1 63)) a k = h_i h9 a k := fun a ha k n => by
      rw [h_i_im, if_neg (fun e => n e.2)]
      have o : off wwM a = true := by
        simp only [mrL, List.mem_cons, List.not_mem_nil, or_false] at ha
        rcases ha with e | e | e | e | e | e | e | e | e | e | e | e | e <;> subst e <;> decide +kernel
      rw [oo a o]
      exact ql a ha k n
    have q41 : h_i (h_im h' 217 x1.toNatClampNeg (h_i h' 1 63)) 241 = rz (fun _ => -1) (h_i h9 1 63).toNatClampNeg (ptL L) (h_i h9 241) := by rw [im_oth (by decide), w11, qo 241 (by decide) (by decide) (by decide) (by decide) (by decide) (by decide)]
    have q42 : h_i (h_im h' 217 x1.toNatClampNeg (h_i h' 1 63)) 242 = rz (fun _ => -1) (h_i h9 1 63).toNatClampNeg (ptL L) (h_i h9 242) := by rw [im_oth (by decide), w12, qo 242 (by decide) (by decide) (by decide) (by decide) (by decide) (by decide)]
    have q43 : h_i (h_im h' 217 x1.toNatClampNeg (h_i h' 1 63)) 243 = h_i h9 243 := by
      rw [im_oth (by decide), show h_i h' 243 = h_i g 243 from funext (fun k => oo 243 (by decide +kernel) k), qo 243 (by decide) (by decide) (by decide) (by decide) (by decide) (by decide)]
    have q38 : h_i (h_im h' 217 x1.toNatClampNeg (h_i h' 1 63)) 238 = rz (fun _ => x1) (h_i h9 1 63).toNatClampNeg (ptL L) (h_i h9 238) := by rw [im_oth (by decide), w8, qo 238 (by decide) (by decide) (by decide) (by decide) (by decide) (by decide)]
    have q39 : h_i (h_im h' 217 x1.toNatClampNeg (h_i h' 1 63)) 239 = rz Prod.fst (h_i h9 1 63).toNatClampNeg (ptL L) (h_i h9 239) := by rw [im_oth (by decide), w9, qo 239 (by decide) (by decide) (by decide) (by decide) (by decide) (by decide)]
    have q40 : h_i (h_im h' 217 x1.toNatClampNeg (h_i h' 1 63)) 240 = rz (fun e => h_i h9 1 0 + e.2) (h_i h9 1 63).toNatClampNeg (ptL L) (h_i h9 240) := by rw [im_oth (by decide), w10, qo 240 (by decide) (by decide) (by decide) (by decide) (by decide) (by decide)]
    have q44 : h_i (h_im h' 217 x1.toNatClampNeg (h_i h' 1 63)) 244 = rz (fun _ => h_i h9 1 0) (h_i h9 1 63).toNatClampNeg (ptL L) (h_i h9 244) := by rw [im_oth (by decide), w14, qo 244 (by decide) (by decide) (by decide) (by decide) (by decide) (by decide)]
    have q63 : h_i (h_im h' 217 x1.toNatClampNeg (h_i h' 1 63)) 1 63 = Int32.ofNat ((h_i h9 1 63).toNatClampNeg + (ptL L).length) := by rw [im_ne (by decide)]; exact w63
    have q215 : h_i (h_im h' 217 x1.toNatClampNeg (h_i h' 1 63)) 215 x1.toNatClampNeg = Int32.ofNat (h_i h9 1 63).toNatClampNeg := by
      rw [im_ne (by decide), oo 215 (by decide +kernel), q15]
      exact (of_nat32 r0).symm
    generalize h_im h' 217 x1.toNatClampNeg (h_i h' 1 63) = g7 at *
    have k00 := k0 yf
    have z := mgo_lp P d hx L (h := g7) (b := b) (M := up1 (up1 (up1 (up1 (up1 (up1 M 4 1) 8 x2) 9 0) 10 (h_i h9 1 0)) 11 (Int32.ofNat (h_i h9 1 63).toNatClampNeg)) 12 (Int32.ofNat ((h_i h9 1 63).toNatClampNeg + mts L))) 0 I7 X7 R7 B7 rfl k00.1 (p5 k00.1) k00.2 n0 (S.cg s7) rfl (by rw [Nat.zero_add]; exact z27) (by show 0 ≤ (Int32.ofNat (h_i h9 1 63).toNatClampNeg).toInt; rw [on_j (by omega)]; omega) (by show (Int32.ofNat (h_i h9 1 63).toNatClampNeg).toInt + (mts L : Int) ≤ 400; rw [on_j (by omega)]; omega)
    rw [n7, w7] at z
    have e11 : (up1 (up1 (up1 (up1 (up1 (up1 M 4 1) 8 x2) 9 0) 10 (h_i h9 1 0)) 11 (Int32.ofNat (h_i h9 1 63).toNatClampNeg)) 12 (Int32.ofNat ((h_i h9 1 63).toNatClampNeg + mts L)) 11).toNatClampNeg = (h_i h9 1 63).toNatClampNeg := by
      rw [up1_ne (by decide), up1_at, of_nat32 r0]
    rw [e11] at z
    refine cv_goOn (AW.mono z (fun u h22 k => ⟨k.1, k.2.1.1, fun _ => ⟨rfl, k.2.1, ⟨F7.tr (k.2.2.1.1.more (by decide +kernel)), fun a ha i n => (k.2.2.1.2 a ha i n).trans (l7 a ha i n)⟩, k.2.2.2.1, ⟨?_, ?_, ?_, ?_⟩, ⟨?_, ?_⟩, ⟨?_, ?_, ?_⟩, k.2.2.2.2.2⟩, fun y => absurd ok y⟩))
    · rw [show h_i h22 238 = h_i g7 238 from funext (fun i => fr_i k.2.2.1.1 (by decide +kernel) i)]
      exact q38
    · rw [show h_i h22 239 = h_i g7 239 from funext (fun i => fr_i k.2.2.1.1 (by decide +kernel) i)]
      exact q39
    · rw [show h_i h22 240 = h_i g7 240 from funext (fun i => fr_i k.2.2.1.1 (by decide +kernel) i)]
      exact q40
    · rw [show h_i h22 244 = h_i g7 244 from funext (fun i => fr_i k.2.2.1.1 (by decide +kernel) i)]
      exact q44
    · rw [(k.2.2.1.1.2 1 63 (by decide +kernel)).1]
      exact q63
    · rw [fr_i k.2.2.1.1 (by decide +kernel)]
      exact q215
    · rw [k.2.2.2.2.1.1, q41]
      rfl
    · rw [k.2.2.2.2.1.2.1, q42]
      rfl
    · rw [k.2.2.2.2.1.2.2, q43]
      rfl
  · have := y.2.2.2
    exact absurd (q_le.mpr (by omega)) l
end MEN
/-! MEN: the minutes -/
abbrev Pst (β : Type) : Type := (Nat → Nat → Int32) × (Nat → Int32) × (Nat → Int32) × (Nat → Int32) × β
def pX (BL : Nat → List Sp3) (M : Nat → Int32) : Sp3 × List Sp3 := match (BL (M 8).toNatClampNeg).drop (M 9).toNatClampNeg with
  | [] => ((0, 0, 0), [])
  | x :: L => (x, L)
def pGo (n : Int32) (w : Int32 → Int32 → Int32) (BL : Nat → List Sp3) (M : Nat → Int32) : (Nat → Int32) × List Ev2 := fGo n w (pX BL M).1 (pX BL M).2 M
section MEN
variable {β : Type}
/-- man j at minute n -/
def pMan (lP : Nat → Int32 → (Nat → Int32) → β → β) (tB : Int32 → Int32 → β → β) (n : Int32) (w : Int32 → Int32 → Int32) (BL : Nat → List Sp3) (j : Nat) (s : Pst β) : Pst β := if s.1 j 7 = n then (fun k => if k = j then (pGo n w BL (s.1 j)).1 else s.1 k, rz Prod.fst (s.1 j 11).toNatClampNeg (pGo n w BL (s.1 j)).2 s.2.1, rz (fun _ => n) (s.1 j 11).toNatClampNeg (pGo n w BL (s.1 j)).2 s.2.2.1, rz Prod.snd (s.1 j 11).toNatClampNeg (pGo n w BL (s.1 j)).2 s.2.2.2.1, fB tB n (pGo n w BL (s.1 j)).1 (if s.1 j 4 = 1 ∧ (pX BL (s.1 j)).1.1 = 3 then lP j n (fun k => s.1 k 5) s.2.2.2.2 else s.2.2.2.2)) else s
def pMen (lP : Nat → Int32 → (Nat → Int32) → β → β) (tB : Int32 → Int32 → β → β) (n : Int32) (w : Int32 → Int32 → Int32) (BL : Nat → List Sp3) : Nat → Pst β → Pst β
  | 0, s => s
  | j + 1, s => pMan lP tB n w BL j (pMen lP tB n w BL j s)
/-- a minute is over -/
def pOv (nB : Int32 → (Nat → Int32) → β → β) (n : Int32) (s : Pst β) : Pst β := (s.1, s.2.1, s.2.2.1, s.2.2.2.1, nB n (fun k => s.1 k 5) s.2.2.2.2)
/-- i minutes behind n -/
def pTk (lP : Nat → Int32 → (Nat → Int32) → β → β) (tB : Int32 → Int32 → β → β) (nB : Int32 → (Nat → Int32) → β → β) (w : Int32 → Int32 → Int32) (BL : Nat → List Sp3) (m : Nat) (n : Int32) : Nat → Pst β → Pst β
  | 0, s => s
  | i + 1, s => pMen lP tB (n + Int32.ofNat (i + 1)) w BL m (pOv nB (n + Int32.ofNat i) (pTk lP tB nB w BL m n i s))
/-- what holds of all men, and of the rows that are theirs -/
def pI (w : Int32 → Int32 → Int32) (BL : Nat → List Sp3) (nb rw : Nat) (own : Nat → Int32) (m : Nat) (s : Pst β) : Prop := ∀ j, j < m → Km w BL nb rw (s.1 j) ∧ s.1 j 0 = Int32.ofNat j ∧ (s.1 j 4 = 1 → ∀ k : Nat, (s.1 j 11).toInt ≤ (k : Int) → (k : Int) < (s.1 j 12).toInt → s.2.1 k = 0 ∧ own k = Int32.ofNat j)
theorem pX_of {BL : Nat → List Sp3} {M : Nat → Int32} {i : Nat} {x : Sp3} {L : List Sp3} (l : i ≤ 1000) (e9 : M 9 = Int32.ofNat i) (hd : (BL (M 8).toNatClampNeg).drop i = x :: L) : pX BL M = (x, L) := by
  unfold pX
  rw [e9, on_k (by omega), hd]
theorem fGo_e {n : Int32} {w : Int32 → Int32 → Int32} {x : Sp3} {L : List Sp3} {M : Nat → Int32} (n1 : ¬ M 4 = 1) : (fGo n w x L M).2 = [] := by
  unfold fGo
  rw [if_neg n1]
  split
  · rfl
  · split <;> rfl
/-- the parts of KmB, with the step and those behind it as they are found -/
theorem kmb_x {BL : Nat → List Sp3} {nb rw : Nat} {M : Nat → Int32} (hl : ∀ k, k < nb → (BL k).length ≤ 150) (B : KmB BL nb rw M) : ∃ i, i + ((pX BL M).2.length + 1) = (BL (M 8).toNatClampNeg).length ∧ i ≤ 150 ∧ (0 ≤ (M 8).toInt ∧ (M 8).toNatClampNeg < nb) ∧ (BL (M 8).toNatClampNeg).drop i = (pX BL M).1 :: (pX BL M).2 ∧ M 9 = Int32.ofNat i ∧ (((pX BL M).1.1 = 1 ∨ (pX BL M).1.1 = 3) → M 6 = -1) ∧ 0 ≤ (M 11).toInt ∧ (M 11).toInt + (((if (pX BL M).1.1 = 2 ∧ decide (¬ M 6 = -1) = true then 1 else 0) + mts (pX BL M).2 : Nat) : Int) = (M 12).toInt ∧ (M 12).toInt ≤ (rw : Int) := by
  obtain ⟨i, x, L, b8, hd, e9, h6, r0, r1, r2⟩ := B
  have ln := congrArg List.length hd
  rw [List.length_drop] at ln
  have ln : (BL (M 8).toNatClampNeg).length - i = L.length + 1 := ln
  have hb := hl _ b8.2
  have e := pX_of (BL := BL) (M := M) (i := i) (by omega) e9 hd
  rw [e]
  exact ⟨i, by show i + (L.length + 1) = _; omega, by omega, b8, hd, e9, h6, r0, r1, r2⟩
theorem pI_man {lP : Nat → Int32 → (Nat → Int32) → β → β} {tB : Int32 → Int32 → β → β} {n : Int32} {w : Int32 → Int32 → Int32} {BL : Nat → List Sp3} {nb rw m : Nat} {own : Nat → Int32} {s : Pst β} (W : WOk w) (hb : ∀ k x, k < nb → x ∈ BL k → stR x) (hl : ∀ k, k < nb → (BL k).length ≤ 150) (r4 : rw ≤ 400) (p0 : 0 ≤ n.toInt) (H : pI w BL nb rw own m s) {j : Nat} (hj : j < m) (m12 : m ≤ 12) : pI w BL nb rw own m (pMan lP tB n w BL j s) := by
  unfold pMan
  by_cases y : s.1 j 7 = n
  · rw [if_pos y]
    obtain ⟨K, e0, O⟩ := H j hj
    have n0 : ¬ s.1 j 4 = 0 := fun e => by
      have z := (K.1.2.2.2.1 e).2
      rw [z] at y
      rw [← y] at p0
      exact absurd p0 (by decide)
    have Rg := Rk.go (n := n) (w := w) (x := (pX BL (s.1 j)).1) (L := (pX BL (s.1 j)).2) (M := s.1 j)
    have KG : Km w BL nb rw (pGo n w BL (s.1 j)).1 := by
      by_cases y1 : s.1 j 4 = 1
      · obtain ⟨i, _, _, b8, hd, e9, _, r0, r1, r2⟩ := kmb_x hl (K.2 y1)
        exact km_go W hb hl r4 n0 K (i := i) (fun _ => ⟨hd, e9, b8, r0, r1, r2⟩)
      · exact km_go W hb hl r4 n0 K (i := 0) (fun e => absurd e y1)
    have e11 : (pGo n w BL (s.1 j)).1 11 = s.1 j 11 + Int32.ofNat (pGo n w BL (s.1 j)).2.length := Rg.2.2.2.1
    have e12 : (pGo n w BL (s.1 j)).1 12 = s.1 j 12 := Rg.1 12 (by decide)
    have own' : ∀ k : Nat, (s.1 j 11).toNatClampNeg ≤ k → k < (s.1 j 11).toNatClampNeg + (pGo n w BL (s.1 j)).2.length → own k = Int32.ofNat j ∧ 0 ≤ (s.1 j 11).toInt := fun k a b => by
      by_cases y1 : s.1 j 4 = 1
      · obtain ⟨i, _, _, b8, hd, e9, _, r0, r1, r2⟩ := kmb_x hl (K.2 y1)
        have n11 := n_nat r0
        have ll : (pGo n w BL (s.1 j)).2.length ≤ _ := Rg.2.2.1
        exact ⟨(O y1 k (by omega) (by omega)).2, r0⟩
      · have e : (pGo n w BL (s.1 j)).2 = [] := fGo_e y1
        rw [e] at b
        exact absurd b (by show ¬ k < _ + 0; omega)
    intro i hi
    by_cases c : i = j
    · subst c
      refine ⟨?_, ?_, ?_⟩
      · show Km w BL nb rw (if i = i then _ else _)
        rw [if_pos rfl]
        exact KG
      · show (if i = i then (pGo n w BL (s.1 i)).1 else s.1 i) 0 = _
        rw [if_pos rfl]
        exact (Rg.1 0 (by decide)).trans e0
      · show (if i = i then (pGo n w BL (s.1 i)).1 else s.1 i) 4 = 1 → ∀ k : Nat, ((if i = i then (pGo n w BL (s.1 i)).1 else s.1 i) 11).toInt ≤ (k : Int) → (k : Int) < ((if i = i then (pGo n w BL (s.1 i)).1 else s.1 i) 12).toInt → rz Prod.fst (s.1 i 11).toNatClampNeg (pGo n w BL (s.1 i)).2 s.2.1 k = 0 ∧ own k = Int32.ofNat i
        rw [if_pos rfl]
        intro z4 k ka kb
        rw [e12] at kb
        by_cases y1 : s.1 i 4 = 1
        · obtain ⟨i', _, _, b8, hd, e9, _, r0, r1, r2⟩ := kmb_x hl (K.2 y1)
          have ll : (pGo n w BL (s.1 i)).2.length ≤ _ := Rg.2.2.1
          have n11 := n_nat r0
          have z : (s.1 i 11 + Int32.ofNat (pGo n w BL (s.1 i)).2.length).toInt = (s.1 i 11).toInt + ((pGo n w BL (s.1 i)).2.length : Int) := by rw [tx_add (by rw [on_j (by omega)]; omega) (by rw [on_j (by omega)]; omega), on_j (by omega)]
          rw [e11, z] at ka
          rw [rz_o Prod.fst _ _ _ k (Or.inr (by omega))]
          exact O y1 k (by omega) kb
        · exfalso
          have q := (KG.2 z4)
          have f : (pGo n w BL (s.1 i)).1 4 ≠ 1 := by
            unfold pGo fGo
            rw [if_neg y1]
            split
            · show fFree (fCm (s.1 i)) 4 ≠ 1
              unfold fFree
              rw [up1_ne (by decide), up1_at]
              decide
            · split
              · rename_i y2 y3
                show fDr n w (fCm (s.1 i)) 4 ≠ 1
                have c4 : fCm (s.1 i) 4 = 3 := by
                  unfold fCm
                  split
                  · rw [up1_ne (by decide)]; exact y3
                  · rw [up1_ne (by decide), up1_ne (by decide), up1_ne (by decide)]; exact y3
                unfold fDr
                split
                · rw [sOut_k (by decide) (by decide) (by decide), c4]; decide
                · split
                  · rw [up1_ne (by decide), c4]; decide
                  · unfold fHome
                    split
                    · rw [sOut_k (by decide) (by decide) (by decide), up1_at]; decide
                    · unfold fFree
                      rw [up1_ne (by decide), up1_at]; decide
              · show fCm (s.1 i) 4 ≠ 1
                have c4 : fCm (s.1 i) 4 = s.1 i 4 := by
                  unfold fCm
                  split
                  · rw [up1_ne (by decide)]
                  · rw [up1_ne (by decide), up1_ne (by decide), up1_ne (by decide)]
                rw [c4]
                exact y1
          exact f z4
    · obtain ⟨Ki, ei, Oi⟩ := H i hi
      refine ⟨?_, ?_, ?_⟩
      · show Km w BL nb rw (if i = j then _ else _)
        rw [if_neg c]
        exact Ki
      · show (if i = j then (pGo n w BL (s.1 j)).1 else s.1 i) 0 = _
        rw [if_neg c]
        exact ei
      · show (if i = j then (pGo n w BL (s.1 j)).1 else s.1 i) 4 = 1 → ∀ k : Nat, ((if i = j then (pGo n w BL (s.1 j)).1 else s.1 i) 11).toInt ≤ (k : Int) → (k : Int) < ((if i = j then (pGo n w BL (s.1 j)).1 else s.1 i) 12).toInt → rz Prod.fst (s.1 j 11).toNatClampNeg (pGo n w BL (s.1 j)).2 s.2.1 k = 0 ∧ own k = Int32.ofNat i
        rw [if_neg c]
        intro z4 k ka kb
        have q := Oi z4 k ka kb
        refine ⟨?_, q.2⟩
        by_cases cr : (s.1 j 11).toNatClampNeg ≤ k ∧ k < (s.1 j 11).toNatClampNeg + (pGo n w BL (s.1 j)).2.length
        · have o := (own' k cr.1 cr.2).1
          rw [q.2] at o
          have z := congrArg Int32.toInt o
          rw [on_j (by omega), on_j (by omega)] at z
          exact absurd (by omega) c
        · rw [rz_o Prod.fst _ _ _ k (by omega)]
          exact q.1
  · rw [if_neg y]
    exact H
theorem pI_men {lP : Nat → Int32 → (Nat → Int32) → β → β} {tB : Int32 → Int32 → β → β} {n : Int32} {w : Int32 → Int32 → Int32} {BL : Nat → List Sp3} {nb rw m : Nat} {own : Nat → Int32} (W : WOk w) (hb : ∀ k x, k < nb → x ∈ BL k → stR x) (hl : ∀ k, k < nb → (BL k).length ≤ 150) (r4 : rw ≤ 400) (p0 : 0 ≤ n.toInt) (m12 : m ≤ 12) : ∀ (j : Nat) {s : Pst β}, j ≤ m → pI w BL nb rw own m s → pI w BL nb rw own m (pMen lP tB n w BL j s)
  | 0, _, _, H => H
  | j + 1, _, hj, H => pI_man W hb hl r4 p0 (pI_men W hb hl r4 p0 m12 j (by omega) H) (by omega) m12
theorem pI_tk {lP : Nat → Int32 → (Nat → Int32) → β → β} {tB : Int32 → Int32 → β → β} {nB : Int32 → (Nat → Int32) → β → β} {n : Int32} {w : Int32 → Int32 → Int32} {BL : Nat → List Sp3} {nb rw m : Nat} {own : Nat → Int32} (W : WOk w) (hb : ∀ k x, k < nb → x ∈ BL k → stR x) (hl : ∀ k, k < nb → (BL k).length ≤ 150) (r4 : rw ≤ 400) (p0 : 0 ≤ n.toInt ∧ n.toInt ≤ 20000) (m12 : m ≤ 12) : ∀ (i : Nat) {s : Pst β}, i ≤ 20000 → pI w BL nb rw own m s → pI w BL nb rw own m (pTk lP tB nB w BL m n i s)
  | 0, _, _, H => H
  | i + 1, _, hi, H => pI_men W hb hl r4 (by rw [tx_add (by rw [on_j (by omega)]; omega) (by rw [on_j (by omega)]; omega), on_j (by omega)]; omega) m12 m (Nat.le_refl _) (pI_tk W hb hl r4 p0 m12 i (by omega) H)
end MEN
theorem c_mkH1 (d : Nat) {h : Hp_} (I : Iv h) {c N n : Nat} (hc : h_r h 0 15 = some c) (hs : h_sh h c = some (3, N)) (hN : N ≤ 20000) (hn : N < n) (hn2 : n ≤ 20000) : Cv (m_X11_makeHistory (d + 2) 1 (hwant n N)) [.ref 0, .int (Int32.ofNat n)] h (fun h' => Iv h' ∧ Mf [15] h h' ∧ h_i h' 0 = h_i h 0 ∧ ∃ c', h_r h' 0 15 = some c' ∧ h_sh h' c' = some (3, hwant n N)) := by
  have w := I.1
  have e1 := on_i hN
  have e2 := on_i (n := n) (by omega)
  have t2 : (2 : Int32).toInt = 2 := rfl
  have t20 : (20000 : Int32).toInt = 20000 := rfl
  have lW : hwant n N ≤ 20000 := by unfold hwant; omega
  have gW : N < hwant n N := by unfold hwant; omega
  have eW := on_i lW
  obtain ⟨g, g1, g2, g3⟩ := I.2.2.2.2.2.2.2.1 c N hc hs
  have k15 : g ≤ 15 := by
    rcases Nat.lt_or_ge 15 g with y | y
    · exfalso
      have p : 2 ^ 15 ≤ 2 ^ (g - 1) := Nat.pow_le_pow_right (by omega) (by omega)
      rw [pw15] at p
      rcases g2 with q | q | q
      · omega
      · omega
      · omega
    · exact y
  have hgW : 2 ^ g ≤ hwant n N ∨ hwant n N = 20000 := by
    rcases g2 with q | q | q
    · left; rw [q]; show 1 ≤ _; omega
    · rcases Nat.lt_or_ge 20000 (2 * N) with y | y
      · right; unfold hwant; omega
      · left
        rcases Nat.eq_zero_or_pos g with u | u
        · rw [u]; show 1 ≤ _; omega
        · have : 2 ^ g = 2 * 2 ^ (g - 1) := by rw [← Nat.pow_succ']; congr 1; omega
          rw [this]
          unfold hwant
          omega
    · omega
  have fb := g3 (420 + g) (Nat.le_refl _) (by omega)
  refine Ct.of (fun _ _ _ => trivial) rfl (Nat.le_of_ble_eq_true rfl) ?_
  show AW (m_X11_makeHistory (d + 2) 1 (hwant n N)) 0 0 0 [(0, .ref 0), (1, .int (Int32.ofNat n))] [] h (kV _)
  refine aw_iload_n (i := 1) rfl d_X11_makeHistory_0 1 rfl ?_
  refine aw_aload_n (i := 0) rfl d_X11_makeHistory_1 0 rfl ?_
  refine aw_getr (k0 := 15) kc_11 (ws_0 w) (Nat.le_of_ble_eq_true rfl) tw_502 d_X11_makeHistory_2 rfl hc ?_
  refine aw_alen (t := 3) (n := N) (v := Int32.ofNat N) hs (by decide) rfl d_X11_makeHistory_5 ?_
  refine aw_icmp_le (tgt := 39) d_X11_makeHistory_6 rfl (fun y => by have := q_le.mp y; omega) (fun _ => ?_)
  refine aw_iload_n (i := 1) rfl d_X11_makeHistory_9 1 rfl ?_
  refine aw_iconst (v := 2) d_X11_makeHistory_10 ic_2 ?_
  refine aw_aload_n (i := 0) rfl d_X11_makeHistory_11 0 rfl ?_
  refine aw_getr (k0 := 15) kc_11 (ws_0 w) (Nat.le_of_ble_eq_true rfl) tw_502 d_X11_makeHistory_12 rfl hc ?_
  refine aw_alen (t := 3) (n := N) (v := Int32.ofNat N) hs (by decide) rfl d_X11_makeHistory_15 ?_
  refine aw_imul d_X11_makeHistory_16 ?_
  have em : (2 * Int32.ofNat N).toInt = 2 * (N : Int) := by rw [tx_mul (by rw [t2]; omega) (by rw [t2]; omega), t2, e1]
  refine aw_sipush (v := 20000) d_X11_makeHistory_17 is_20000 ?_
  refine aw_mmin d_X11_makeHistory_20 tw_999 (show 1 ≤ d + 2 by omega) (Nat.le_trans (Nat.le_of_ble_eq_true rfl) (show 100 ≤ 100 * (d + 2) by omega)) ⟨Nat.zero_le _, Nat.zero_le _⟩ ?_
  refine aw_mmax d_X11_makeHistory_23 tw_1000 (show 1 ≤ d + 2 by omega) (Nat.le_trans (Nat.le_of_ble_eq_true rfl) (show 100 ≤ 100 * (d + 2) by omega)) ⟨Nat.zero_le _, Nat.zero_le _⟩ ?_
  refine aw_vi (v2 := Int32.ofNat (hwant n N)) (by
    refine Int32.toInt_inj.mp ?_
    rw [eW]
    unfold hwant
    split
    · rename_i y
      have y := q_lt.mp y
      split
      · rename_i z
        have z := q_lt.mp z
        omega
      · rename_i z
        have z := q_nlt z
        omega
    · rename_i y
      have y := q_nlt y
      split
      · rename_i z
        have z := q_lt.mp z
        omega
      · rename_i z
        have z := q_nlt z
        omega) ?_
  refine aw_istore_n (i := 2) rfl [(0, .ref 0), (1, .int (Int32.ofNat n)), (2, .int (Int32.ofNat (hwant n N)))] d_X11_makeHistory_26 (Nat.le_of_ble_eq_true rfl) rfl rfl ?_
  refine aw_aload_n (i := 0) rfl d_X11_makeHistory_27 0 rfl ?_
  refine aw_aload_n (i := 0) rfl d_X11_makeHistory_28 0 rfl ?_
  refine aw_getr (k0 := 15) kc_11 (ws_0 w) (Nat.le_of_ble_eq_true rfl) tw_502 d_X11_makeHistory_29 rfl hc ?_
  refine aw_iload_n (i := 2) rfl d_X11_makeHistory_32 2 rfl ?_
  refine aw_callS (vs := [.ref c, .int (Int32.ofNat (hwant n N))]) (rest := [.ref 0]) d_X11_makeHistory_33 (cS_J7_copyOf_c38d5 (d + 1) 1 (hwant n N)).1 (cS_J7_copyOf_c38d5 (d + 1) 1 (hwant n N)).2 tw_1001 rfl ⟨show d + 1 + 1 ≤ d + 2 by omega, show 8 + (3 + 11) + 100 * (d + 1) ≤ 100 * (d + 2) by omega⟩ (by decide) ⟨show 0 + 1 ≤ 1 by omega, show 0 + hwant n N ≤ hwant n N by omega⟩ xs0 (c_copyOf d hs fb (by omega) gW lW) (fun v h' kk => ?_)
  obtain ⟨ev, f, eh⟩ := kk
  rw [ev, eh]
  have s0 : h_sh (h_lw (h_nw h (420 + g) 3 (hwant n N)) (420 + g) f) 0 = some (21, 16) := by rw [h_sh_lw, y_sh, if_neg (by omega)]; exact ws_0 w
  refine aw_putr (k0 := 15) kc_11 s0 (Nat.le_of_ble_eq_true rfl) tw_502 d_X11_makeHistory_36 rfl rfl ?_
  have sh : ∀ a, h_sh (h_rm (h_lw (h_nw h (420 + g) 3 (hwant n N)) (420 + g) f) 0 15 (some (420 + g))) a = if a = 420 + g then some (3, hwant n N) else h_sh h a := fun a => by rw [h_sh_rm, h_sh_lw, y_sh]
  have hi : ∀ a k, a ≠ 420 + g → h_i (h_rm (h_lw (h_nw h (420 + g) 3 (hwant n N)) (420 + g) f) 0 15 (some (420 + g))) a k = h_i h a k := fun a k z => by
    rw [h_i_rm]
    show h_i (h_nw h (420 + g) 3 (hwant n N)) a k = _
    rw [y_i, if_neg z]
  have hr : ∀ a k, a ≠ 420 + g → ¬ (a = 0 ∧ k = 15) → h_r (h_rm (h_lw (h_nw h (420 + g) 3 (hwant n N)) (420 + g) f) 0 15 (some (420 + g))) a k = h_r h a k := fun a k z z2 => by
    rw [h_r_rm, if_neg z2]
    show h_r (h_nw h (420 + g) 3 (hwant n N)) a k = _
    rw [y_r, if_neg z]
  have h15 : h_r (h_rm (h_lw (h_nw h (420 + g) 3 (hwant n N)) (420 + g) f) 0 15 (some (420 + g))) 0 15 = some (420 + g) := by rw [h_r_rm, if_pos ⟨rfl, rfl⟩]
  exact aw_vret rfl d_X11_makeHistory_39 ⟨show 0 + 1 ≤ 1 by omega, show 0 + hwant n N ≤ hwant n N by omega⟩ ⟨rfl, Iv_hist I hc hs k15 hgW g3 lW (by omega) sh hi hr h15, ⟨fun k => hi 1 k (by omega), fun a h1 h2 k => hi a k (by omega), by rw [sh, if_neg (by omega)], fun a k ha hw => ⟨hi a k (by omega), hr a k (by omega) (fun z => by rw [z.1, z.2] at hw; exact absurd hw (by decide +kernel))⟩⟩, funext (fun k => hi 0 k (by omega)), 420 + g, h15, by rw [sh, if_pos rfl]⟩
/-! MEN, the class: the minutes of a tick -/
theorem tg_in (d mc ms kc ks : Nat) (hk : kc ≤ mc ∧ ks ≤ ms) (x1 x2 : Int32) (K : Option Value → Hp_ → Prop) (V : Nat → Hp_ → Prop) (m : Nat) (m12 : m ≤ 12) (hI : ∀ j h, V j h → Iv h ∧ h_i h 0 7 = Int32.ofNat m) (hr : ∀ j h, V j h → j < m → h_r h 15 j = some (401 + j) ∧ Cn h (401 + j)) (s0 : ∀ j h, V j h → j < m → ¬ h_i h (401 + j) 7 = h_i h 0 0 → V (j + 1) h) (s1 : ∀ j h, V j h → j < m → h_i h (401 + j) 7 = h_i h 0 0 → Cv (m_X11_goOn (d + 7) 0 0) [.ref 0, .ref (401 + j)] h (fun h' => V (j + 1) h')) (O : ∀ h, V m h → AW (m_X11_tick (d + 8) mc ms) kc ks 112 [(0, .ref 0), (1, .int x1), (2, .int x2)] [] h K) : ∀ (r j : Nat) (h : Hp_), j + r = m → V j h → AW (m_X11_tick (d + 8) mc ms) kc ks 67 [(0, .ref 0), (1, .int x1), (2, .int x2), (3, .int (Int32.ofNat j))] [] h K := by
  intro r
  induction r with
  | zero =>
    intro j h ej t
    have I := (hI j h t).1
    have e7 := (hI j h t).2
    have w := I.1
    have ej : j = m := by omega
    subst ej
    refine aw_iload_n (i := 3) rfl d_X11_tick_67 3 rfl ?_
    refine aw_aload_n (i := 0) rfl d_X11_tick_68 0 rfl ?_
    refine aw_geti (k0 := 7) kc_11 (ws_0 w) (Nat.le_of_ble_eq_true rfl) tw_494 d_X11_tick_69 rfl ?_
    refine aw_icmp_ge (tgt := 112) d_X11_tick_72 rfl (fun _ => aw_lvp [0, 1, 2] _ rfl (O h t)) (fun z => ?_)
    have z := q_nle z
    rw [e7] at z
    omega
  | succ r ih =>
    intro j h ej t
    have I := (hI j h t).1
    have e7 := (hI j h t).2
    have w := I.1
    have hj : j < m := by omega
    obtain ⟨q, hb⟩ := hr j h t hj
    have kj : (Int32.ofNat j).toNatClampNeg = j := on_k (by omega)
    refine aw_iload_n (i := 3) rfl d_X11_tick_67 3 rfl ?_
    refine aw_aload_n (i := 0) rfl d_X11_tick_68 0 rfl ?_
    refine aw_geti (k0 := 7) kc_11 (ws_0 w) (Nat.le_of_ble_eq_true rfl) tw_494 d_X11_tick_69 rfl ?_
    refine aw_icmp_ge (tgt := 112) d_X11_tick_72 rfl (fun z => ?_) (fun _ => ?_)
    · have z := q_le.mp z
      rw [e7, on_j (by omega), on_j (by omega)] at z
      omega
    · have on : ∀ (v : Value) (h' : Hp_), V (j + 1) h' → AW (m_X11_tick (d + 8) mc ms) kc ks 106 [(0, .ref 0), (1, .int x1), (2, .int x2), (3, .int (Int32.ofNat j)), (4, v)] [] h' K := by
        intro v h' t'
        refine aw_lvp [0, 1, 2, 3] [(0, .ref 0), (1, .int x1), (2, .int x2), (3, .int (Int32.ofNat j))] rfl ?_
        refine aw_iinc (v := (Int32.ofNat j + 1)) [(0, .ref 0), (1, .int x1), (2, .int x2), (3, .int (Int32.ofNat j + 1))] d_X11_tick_106 3 rfl rfl (Nat.le_of_ble_eq_true rfl) rfl rfl ?_
        refine aw_goto (tgt := 67) d_X11_tick_109 rfl ?_
        rw [on_s (by omega)]
        exact ih (j + 1) h' (by omega) t'
      refine aw_aload_n (i := 0) rfl d_X11_tick_75 0 rfl ?_
      refine aw_getr (k0 := 6) kc_11 (ws_0 w) (Nat.le_of_ble_eq_true rfl) tw_493 d_X11_tick_76 rfl (wr_0_6 w) ?_
      refine aw_iload_n (i := 3) rfl d_X11_tick_79 3 rfl ?_
      have hv : vp_in (Int32.ofNat j) 12 := on_in (by omega) (by decide)
      refine aw_aaldr (ws_15 w) hv (by rw [kj]; exact q) d_X11_tick_80 ?_
      refine aw_astore (i := 4) [(0, .ref 0), (1, .int x1), (2, .int x2), (3, .int (Int32.ofNat j)), (4, .ref (401 + j))] d_X11_tick_81 (Nat.le_of_ble_eq_true rfl) rfl rfl ?_
      refine aw_aload d_X11_tick_83 4 rfl ?_
      refine aw_ifnull d_X11_tick_85 ?_
      refine aw_aload d_X11_tick_88 4 rfl ?_
      refine aw_geti (k0 := 7) kc_2 hb.2.2 (Nat.le_of_ble_eq_true rfl) tw_587 d_X11_tick_90 rfl ?_
      refine aw_aload_n (i := 0) rfl d_X11_tick_93 0 rfl ?_
      refine aw_geti (k0 := 0) kc_11 (ws_0 w) (Nat.le_of_ble_eq_true rfl) tw_487 d_X11_tick_94 rfl ?_
      refine aw_icmp_ne (tgt := 106) d_X11_tick_97 rfl (fun z => on _ h (s0 j h t hj z)) (fun z => ?_)
      refine aw_aload_n (i := 0) rfl d_X11_tick_100 0 rfl ?_
      refine aw_aload d_X11_tick_101 4 rfl ?_
      refine aw_Vv 0 [.ref (401 + j)] [] d_X11_tick_103 (cV_X11_goOn (d + 7) 0 0) kc_11 (ws_0 w) tw_1015 rfl ⟨⟨show d + 7 + 1 ≤ d + 8 by omega, show 8 + (_ + 11) + 100 * (d + 7) ≤ 100 * (d + 8) from Nat.le_trans (Nat.add_le_add_right (Nat.le_of_ble_eq_true rfl : 8 + (_ + 11) ≤ 100) _) (by omega)⟩, hk.1, hk.2⟩ (Nat.le_of_ble_eq_true rfl) xs0 (s1 j h t hj z) (fun h' t' => on _ h' t')
theorem tg_out (d mc ms kc ks : Nat) (hk : kc ≤ mc ∧ ks ≤ ms) (x1 n0 : Int32) (c N k1 : Nat) (ex : x1 = Int32.ofNat k1) (k15 : k1 ≤ 1500) (p0 : 0 ≤ n0.toInt) (pN : n0.toInt + (k1 : Int) ≤ (N : Int)) (lN : N ≤ 20000) (U : Nat → Hp_ → Prop) (V : Nat → Nat → Hp_ → Prop) (m : Nat) (m12 : m ≤ 12)
    (hU : ∀ i h, U i h → Iv h ∧ h_r h 0 15 = some c ∧ h_sh h c = some (3, N) ∧ h_i h 0 0 = n0 + Int32.ofNat i)
    (mk : ∀ i h, U i h → i < k1 → Iv (h_im (h_lm h c (h_i h 0 0).toNatClampNeg (h_l h 0 14)) 0 0 (n0 + Int32.ofNat (i + 1))) → V i 0 (h_im (h_lm h c (h_i h 0 0).toNatClampNeg (h_l h 0 14)) 0 0 (n0 + Int32.ofNat (i + 1))))
    (fin : ∀ i h, V i m h → U (i + 1) h)
    (hI : ∀ i j h, V i j h → Iv h ∧ h_i h 0 7 = Int32.ofNat m) (hr : ∀ i j h, V i j h → j < m → h_r h 15 j = some (401 + j) ∧ Cn h (401 + j)) (s0 : ∀ i j h, V i j h → j < m → ¬ h_i h (401 + j) 7 = h_i h 0 0 → V i (j + 1) h) (s1 : ∀ i j h, i < k1 → V i j h → j < m → h_i h (401 + j) 7 = h_i h 0 0 → Cv (m_X11_goOn (d + 7) 0 0) [.ref 0, .ref (401 + j)] h (fun h' => V i (j + 1) h')) :
    ∀ (r i : Nat) (h : Hp_), i + r = k1 → U i h → AW (m_X11_tick (d + 8) mc ms) kc ks 37 [(0, .ref 0), (1, .int x1), (2, .int (Int32.ofNat i))] [] h (kI (fun q h' => U k1 h' ∧ q = h_i h' 0 0)) := by
  intro r
  induction r with
  | zero =>
    intro i h ei t
    have w := (hU i h t).1.1
    have ei : i = k1 := by omega
    subst ei
    refine aw_iload_n (i := 2) rfl d_X11_tick_37 2 rfl ?_
    refine aw_iload_n (i := 1) rfl d_X11_tick_38 1 rfl ?_
    refine aw_icmp_ge (tgt := 118) d_X11_tick_39 rfl (fun _ => ?_) (fun z => by have z := q_nle z; rw [ex] at z; omega)
    refine aw_aload_n (i := 0) rfl d_X11_tick_118 0 rfl ?_
    refine aw_geti (k0 := 0) kc_11 (ws_0 w) (Nat.le_of_ble_eq_true rfl) tw_487 d_X11_tick_119 rfl ?_
    exact aw_iret rfl d_X11_tick_122 hk ⟨_, rfl, t, rfl⟩
  | succ r ih =>
    intro i h ei t
    obtain ⟨I, hc, hs, ey⟩ := hU i h t
    have w := I.1
    have hi : i < k1 := by omega
    have oi := on_j (n := i) (by omega)
    have oi1 := on_j (n := i + 1) (by omega)
    have ok := on_j (n := k1) (by omega)
    have y0 : (n0 + Int32.ofNat i).toInt = n0.toInt + (i : Int) := by rw [tx_add (by omega) (by omega), oi]
    have y1 : (n0 + Int32.ofNat (i + 1)).toInt = n0.toInt + ((i + 1 : Nat) : Int) := by rw [tx_add (by omega) (by omega), oi1]
    have ys : n0 + Int32.ofNat i + 1 = n0 + Int32.ofNat (i + 1) := by rw [Int32.add_assoc, on_s (by omega)]
    refine aw_iload_n (i := 2) rfl d_X11_tick_37 2 rfl ?_
    refine aw_iload_n (i := 1) rfl d_X11_tick_38 1 rfl ?_
    refine aw_icmp_ge (tgt := 118) d_X11_tick_39 rfl (fun z => by have z := q_le.mp z; rw [ex] at z; omega) (fun _ => ?_)
    refine aw_aload_n (i := 0) rfl d_X11_tick_42 0 rfl ?_
    refine aw_getr (k0 := 15) kc_11 (ws_0 w) (Nat.le_of_ble_eq_true rfl) tw_502 d_X11_tick_43 rfl hc ?_
    refine aw_aload_n (i := 0) rfl d_X11_tick_46 0 rfl ?_
    refine aw_geti (k0 := 0) kc_11 (ws_0 w) (Nat.le_of_ble_eq_true rfl) tw_487 d_X11_tick_47 rfl ?_
    refine aw_aload_n (i := 0) rfl d_X11_tick_50 0 rfl ?_
    refine aw_getl (k0 := 14) kc_11 (ws_0 w) (Nat.le_of_ble_eq_true rfl) tw_501 d_X11_tick_51 rfl ?_
    refine aw_last hs (dp_in (lo := 0) (hi := (N : Int) - 1) ⟨by rw [ey]; show (0 : Int) ≤ _; omega, by rw [ey]; show _ ≤ (N : Int) - 1; omega⟩ (by omega) (by omega)) d_X11_tick_54 ?_
    have mk' := mk i h t hi
    have I1 : Iv (h_lm h c (h_i h 0 0).toNatClampNeg (h_l h 0 14)) := I.lm
    generalize hg : h_lm h c (h_i h 0 0).toNatClampNeg (h_l h 0 14) = h1 at I1 mk' ⊢
    have s1' : h_sh h1 = h_sh h := by rw [← hg]; rfl
    have i1 : h_i h1 = h_i h := by rw [← hg]; rfl
    have r1 : h_r h1 = h_r h := by rw [← hg]; rfl
    refine aw_aload_n (i := 0) rfl d_X11_tick_55 0 rfl ?_
    refine aw_dup d_X11_tick_56 rfl ?_
    refine aw_geti (k0 := 0) kc_11 (ws_0 I1.1) (Nat.le_of_ble_eq_true rfl) tw_487 d_X11_tick_57 rfl ?_
    refine aw_iconst (v := 1) d_X11_tick_60 ic_1 ?_
    refine aw_iadd d_X11_tick_61 ?_
    refine aw_vi (v2 := n0 + Int32.ofNat (i + 1)) (by rw [i1, ey, ys]) ?_
    refine aw_puti (k0 := 0) kc_11 (ws_0 I1.1) (Nat.le_of_ble_eq_true rfl) tw_487 d_X11_tick_62 rfl rfl nf_i ?_
    have I2 : Iv (h_im h1 0 0 (n0 + Int32.ofNat (i + 1))) := Iv_now I1 ⟨by show (0 : Int) ≤ _; omega, by show _ ≤ (20000 : Int); omega⟩ (fun c' N' a1 a2 => by
      rw [r1, hc] at a1
      cases a1
      rw [s1', hs] at a2
      cases a2
      omega)
    refine aw_iconst (v := 0) d_X11_tick_65 ic_0 ?_
    refine aw_istore_n (i := 3) rfl [(0, .ref 0), (1, .int x1), (2, .int (Int32.ofNat i)), (3, .int 0)] d_X11_tick_66 (Nat.le_of_ble_eq_true rfl) rfl rfl ?_
    refine tg_in d mc ms kc ks hk x1 (Int32.ofNat i) _ (V i) m m12 (hI i) (hr i) (s0 i) (fun j h t => s1 i j h hi t) (fun h' t' => ?_) m 0 _ (by omega) (mk' I2)
    refine aw_iinc (v := (Int32.ofNat i + 1)) [(0, .ref 0), (1, .int x1), (2, .int (Int32.ofNat i + 1))] d_X11_tick_112 2 rfl rfl (Nat.le_of_ble_eq_true rfl) rfl rfl ?_
    refine aw_goto (tgt := 37) d_X11_tick_115 rfl ?_
    rw [on_s (by omega)]
    exact ih (i + 1) h' (by omega) (fin i h' t')
/-! MEN, the class: tick -/
section MEN
variable {β : Type} {PB : β → Hp_ → Prop} {tB : Int32 → Int32 → β → β} {nB : Int32 → (Nat → Int32) → β → β} {lP : Nat → Int32 → (Nat → Int32) → β → β}
/-- a look, by what the class has -/
def lXm (lP : Nat → Int32 → (Nat → Int32) → β → β) : Nat → Hp_ → β → β := fun c h b => lP (c - 401) (h_i h 0 0) (fun k => h_i h (401 + k) 5) b
/-- what else is kept as minutes pass, and as the row of history grows -/
def PBtk {β : Type} (PB : β → Hp_ → Prop) (nB : Int32 → (Nat → Int32) → β → β) : Prop :=
  (∀ b h c N x, Iv h → h_r h 0 15 = some c → h_sh h c = some (3, N) → (h_i h 0 0).toInt < (N : Int) → PB b h → PB (nB (h_i h 0 0) (fun k => h_i h (401 + k) 5) b) (h_im (h_lm h c (h_i h 0 0).toNatClampNeg (h_l h 0 14)) 0 0 x)) ∧
  (∀ b h h', Iv h → Mf [15] h h' → h_i h' 0 = h_i h 0 → PB b h → PB b h')
/-- the class's men and rows are those of s -/
def PcX (PB : β → Hp_ → Prop) (m : Nat) (s : Pst β) (h : Hp_) : Prop := (∀ j, j < m → h_i h (401 + j) = s.1 j) ∧ (h_i h 51 = s.2.1 ∧ h_i h 52 = s.2.2.1 ∧ h_i h 53 = s.2.2.2.1) ∧ PB s.2.2.2.2 h
/-- what a tick leaves as it is -/
def Tw (m : Nat) (h0 h : Hp_) : Prop := h_sh h = h_sh h0 ∧ (∀ b k, inw (0 :: wgM) b k = false → h_r h b k = h_r h0 b k) ∧ ∀ b k, inw (0 :: wgM) b k = false → ¬ (401 ≤ b ∧ b < 401 + m) → h_i h b k = h_i h0 b k
theorem Tw.gw {m : Nat} {h0 h h' : Hp_} {c : Nat} (t : Tw m h0 h) (hc : 401 ≤ c ∧ c < 401 + m) (g : Gw c wgM h h') : Tw m h0 h' := ⟨g.1.trans t.1, fun b k o => by
  have o' : inw wgM b k = false := inw_sub (a := wgM) (b := 0 :: wgM) (by decide +kernel) o
  exact ((g.2 b k o').1).trans (t.2.1 b k o), fun b k o n => by
  have o' : inw wgM b k = false := inw_sub (a := wgM) (b := 0 :: wgM) (by decide +kernel) o
  rw [g.i b k (fun e => n (e ▸ hc)) o']
  exact t.2.2 b k o n⟩
/-- the steps of a man on a beat, as the class keeps them -/
theorem btk_of {h : Hp_} (I : Iv h) (S : ExS h) (B : ∀ k, k < (h_i h 12 3).toNatClampNeg → h_i h 35 k = h_i h 227 k) {rw : Nat} {M : Nat → Int32} (K : KmB (bL h) (h_i h 12 3).toNatClampNeg rw M) (er : (rw : Int) = (h_i h 16 7).toInt) : ∃ i, Btk h M i (pX (bL h) M).1 (pX (bL h) M).2 (decide (¬ M 6 = -1)) ∧ ((pX (bL h) M).1.1 = 3 → M 6 = -1) := by
  have b3 := x12_in I
  have n3 := n_nat b3.1
  obtain ⟨i, il, i150, b8, hd, e9, h6, r0, r1, r2⟩ := kmb_x (fun k hk => by rw [bL_l]; exact (z227 I k).1) K
  have n8 := n_nat b8.1
  have z := z227 I (M 8).toNatClampNeg
  rw [bL_l] at il
  refine ⟨i, ⟨⟨⟨b8.1, by omega⟩, ?_, fun k x e => ?_⟩, e9, by omega, ?_, r0, by omega, by omega⟩, fun e => h6 (Or.inr e)⟩
  · show i + ((pX (bL h) M).2.length + 1) ≤ 150
    omega
  · have g : (bL h (M 8).toNatClampNeg)[i + k]? = some x := by
      rw [← hd, List.getElem?_drop] at e
      exact e
    have lk : i + k < (bL h (M 8).toNatClampNeg).length := (List.getElem?_eq_some_iff.mp g).1
    rw [bL_l] at lk
    rw [bL_g lk] at g
    rw [← Option.some.inj g]
    exact S _ b8.2 _ lk
  · rw [B _ b8.2, il]
    exact (of_nat32 (by omega)).symm
/-- the minutes -/
def Um (PB : β → Hp_ → Prop) (lP : Nat → Int32 → (Nat → Int32) → β → β) (tB : Int32 → Int32 → β → β) (nB : Int32 → (Nat → Int32) → β → β) (h1 : Hp_) (m : Nat) (n0 : Int32) (s : Pst β) (i : Nat) (h : Hp_) : Prop := Iv h ∧ Tw m h1 h ∧ h_i h 0 0 = n0 + Int32.ofNat i ∧ PcX PB m (pTk lP tB nB (wI h1) (bL h1) m n0 i s) h
def Vm (PB : β → Hp_ → Prop) (lP : Nat → Int32 → (Nat → Int32) → β → β) (tB : Int32 → Int32 → β → β) (nB : Int32 → (Nat → Int32) → β → β) (h1 : Hp_) (m : Nat) (n0 : Int32) (s : Pst β) (i j : Nat) (h : Hp_) : Prop := Iv h ∧ Tw m h1 h ∧ h_i h 0 0 = n0 + Int32.ofNat (i + 1) ∧ PcX PB m (pMen lP tB (n0 + Int32.ofNat (i + 1)) (wI h1) (bL h1) j (pOv nB (n0 + Int32.ofNat i) (pTk lP tB nB (wI h1) (bL h1) m n0 i s))) h
/-- what a tick wants to know at its beginning -/
def Tko (h : Hp_) (m : Nat) (s : Pst β) : Prop := ExP h ∧ ExS h ∧ (∀ k, k < (h_i h 12 3).toNatClampNeg → h_i h 35 k = h_i h 227 k) ∧ Mrw h ∧ h_i h 0 7 = Int32.ofNat m ∧ m ≤ 12 ∧ pI (wI h) (bL h) (h_i h 12 3).toNatClampNeg (h_i h 16 7).toNatClampNeg (h_i h 47) m s
theorem bL_hb {h : Hp_} (S : ExS h) : ∀ k x, k < (h_i h 12 3).toNatClampNeg → x ∈ bL h k → stR x := fun k x hk hx => by
  obtain ⟨i, hi, e⟩ := bL_m hx
  rw [e]
  exact (S k hk i hi).2
theorem bL_hl {h : Hp_} (I : Iv h) (nb : Nat) : ∀ k, k < nb → (bL h k).length ≤ 150 := fun k _ => by rw [bL_l]; exact (z227 I k).1
/-- one man wakes, the class -/
theorem vm_go (P : PBok PB tB (lXm lP)) (d : Nat) {h1 : Hp_} (I1 : Iv h1) {m : Nat} {s : Pst β} (T : Tko h1 m s) {n0 : Int32} (p0 : 0 ≤ n0.toInt ∧ n0.toInt ≤ 20000) {i j : Nat} (i2 : i < 20000) {h : Hp_} (V : Vm PB lP tB nB h1 m n0 s i j h) (hj : j < m) (yt : h_i h (401 + j) 7 = h_i h 0 0) (lc : ∀ b n f g, (∀ k, k < m → f k = g k) → lP j n f b = lP j n g b) : Cv (m_X11_goOn (d + 7) 0 0) [.ref 0, .ref (401 + j)] h (fun h' => Vm PB lP tB nB h1 m n0 s i (j + 1) h') := by
  obtain ⟨I, tw, en, pc⟩ := V
  obtain ⟨X, S, B, mr, em, m12, pi⟩ := T
  have t0 : (0 : Int32).toInt = 0 := rfl
  have r4 := rowX_in I1
  have nr := n_nat r4.1
  have W := wok I1 X
  have pj := pI_men (lP := lP) (tB := tB) (n := n0 + Int32.ofNat (i + 1)) (m := m) W (bL_hb S) (bL_hl I1 _) (show (h_i h1 16 7).toNatClampNeg ≤ 400 by omega) (by rw [tx_add (by rw [on_j (by omega)]; omega) (by rw [on_j (by omega)]; omega), on_j (by omega)]; omega) m12 j (s := pOv nB (n0 + Int32.ofNat i) (pTk lP tB nB (wI h1) (bL h1) m n0 i s)) (by omega) (pI_tk (nB := nB) W (bL_hb S) (bL_hl I1 _) (show (h_i h1 16 7).toNatClampNeg ≤ 400 by omega) p0 m12 i (by omega) pi)
  generalize hσ : pMen lP tB (n0 + Int32.ofNat (i + 1)) (wI h1) (bL h1) j (pOv nB (n0 + Int32.ofNat i) (pTk lP tB nB (wI h1) (bL h1) m n0 i s)) = σ at pc pj
  obtain ⟨pm, ⟨p51, p52, p53⟩, PBh⟩ := pc
  have hM := pm j hj
  obtain ⟨K, e0, O⟩ := pj j hj
  have b7 := menX_in I1
  rw [em, on_j (by omega)] at b7
  have ym : isM h1 (Int32.ofNat j) := ⟨by rw [on_j (by omega)]; omega, by rw [em, on_j (by omega), on_j (by omega)]; omega⟩
  have hc1 := mr.cn I1 ym
  rw [on_k (by omega)] at hc1
  have hc : Cn h (401 + j) := hc1.of tw.1
  have n00 : ¬ h_i h (401 + j) 4 = 0 := fun e => by
    rw [hM] at e yt
    have z := (K.1.2.2.2.1 e).2
    rw [z, en] at yt
    have z := congrArg Int32.toInt yt
    rw [tx_add (by rw [on_j (by omega)]; omega) (by rw [on_j (by omega)]; omega), on_j (by omega)] at z
    have tm : (-1 : Int32).toInt = -1 := rfl
    omega
  have f : ∀ b k, inw (0 :: wgM) b k = false → ¬ (401 ≤ b ∧ b < 401 + m) → h_i h b k = h_i h1 b k := tw.2.2
  have ew : wI h = wI h1 := by
    funext p q
    unfold wI
    rw [f 30 _ (off_inw (by decide +kernel) _) (by omega)]
  have z := c_go P d I hc PBh n00 (i := if h_i h (401 + j) 4 = 1 then (h_i h (401 + j) 9).toNatClampNeg else 0) (x := (pX (bL h1) (σ.1 j)).1) (L := (pX (bL h1) (σ.1 j)).2) (fun y1 => by
    rw [hM] at y1
    rw [hM, if_pos y1]
    obtain ⟨i', q, q3⟩ := btk_of I1 S B (rw := (h_i h1 16 7).toNatClampNeg) (K.2 y1) nr
    obtain ⟨Sb, e9, b8, e35, R⟩ := q
    have ll : i' + ((pX (bL h1) (σ.1 j)).2.length + 1) ≤ 150 := Sb.2.1
    have e9' : (σ.1 j 9).toNatClampNeg = i' := by rw [e9, on_k (by omega)]
    rw [e9']
    refine ⟨⟨Sb.cg (fun k => f 34 k (off_inw (by decide +kernel) k) (by omega)), e9, ?_, ?_, R.1, R.2.1, ?_⟩, q3⟩
    · rw [f 12 3 (by decide +kernel) (by omega)]
      exact b8
    · rw [f 35 _ (off_inw (by decide +kernel) _) (by omega)]
      exact e35
    · rw [f 16 7 (by decide +kernel) (by omega)]
      exact R.2.2)
  rw [en, ew, hM] at z
  rw [hM, en] at yt
  refine Cv.mono z (fun h' k => ?_)
  have kk := k.2.1.k (by omega)
  refine ⟨k.1, tw.gw ⟨by omega, by omega⟩ k.2.1, kk.2.1.trans en, ?_⟩
  show PcX PB m (pMan lP tB (n0 + Int32.ofNat (i + 1)) (wI h1) (bL h1) j (pMen lP tB (n0 + Int32.ofNat (i + 1)) (wI h1) (bL h1) j (pOv nB (n0 + Int32.ofNat i) (pTk lP tB nB (wI h1) (bL h1) m n0 i s)))) h'
  rw [hσ]
  unfold pMan
  rw [if_pos yt]
  refine ⟨fun l hl => ?_, ⟨?_, ?_, ?_⟩, ?_⟩
  · show h_i h' (401 + l) = if l = j then _ else _
    by_cases c : l = j
    · rw [if_pos c, c]
      exact k.2.2.1
    · rw [if_neg c, ← pm l hl]
      exact funext (fun i => k.2.1.i (401 + l) i (by omega) (inw_man (by omega) (by omega) i))
  · rw [k.2.2.2.1.1, p51]
    rfl
  · rw [k.2.2.2.1.2.1, p52]
    rfl
  · rw [k.2.2.2.1.2.2, p53]
    rfl
  · have q := k.2.2.2.2
    have eb : bL3 (lXm lP) (401 + j) (h_im h (401 + j) 7 (-1)) (pX (bL h1) (σ.1 j)).1 σ.2.2.2.2 = (if σ.1 j 4 = 1 ∧ (pX (bL h1) (σ.1 j)).1.1 = 3 then lP j (n0 + Int32.ofNat (i + 1)) (fun k => σ.1 k 5) σ.2.2.2.2 else σ.2.2.2.2) := by
      unfold bL3 lXm
      have e4 : h_i (h_im h (401 + j) 7 (-1)) (401 + j) 4 = σ.1 j 4 := by rw [im_row, up1_ne (by decide), hM]
      rw [e4, show 401 + j - 401 = j by omega, im_ne (show (0 : Nat) ≠ 401 + j by omega), en]
      by_cases c : σ.1 j 4 = 1 ∧ (pX (bL h1) (σ.1 j)).1.1 = 3
      · rw [if_pos c, if_pos c]
        refine lc _ _ _ _ (fun k hk => ?_)
        show h_i (h_im h (401 + j) 7 (-1)) (401 + k) 5 = σ.1 k 5
        by_cases ck : k = j
        · rw [ck, im_row, up1_ne (by decide), hM]
        · rw [im_ne (by omega), pm k hk]
      · rw [if_neg c, if_neg c]
    rw [eb] at q
    exact q
end MEN
/-! MEN, the class: tick, from its call -/
theorem inw_fx {c k : Nat} (h1 : 401 ≤ c) (h2 : c ≤ 412) (o : inw wsX c k = false) : fx k := by
  have e : cn c = cn 401 := by
    have q := cn_man (j := c - 401) (by omega)
    rw [show 401 + (c - 401) = c by omega] at q
    rw [q]
    decide
  rw [inw_ce e] at o
  refine ⟨?_, ?_, ?_, ?_, ?_, ?_, ?_, ?_⟩ <;> intro z <;> subst z <;> exact absurd o (by decide +kernel)
section MEN
variable {β : Type} {PB : β → Hp_ → Prop} {tB : Int32 → Int32 → β → β} {nB : Int32 → (Nat → Int32) → β → β} {lP : Nat → Int32 → (Nat → Int32) → β → β}
theorem fx_man {n : Int32} {w : Int32 → Int32 → Int32} {BL : Nat → List Sp3} {j l k : Nat} {s : Pst β} (hk : fx k) : (pMan lP tB n w BL j s).1 l k = s.1 l k := by
  unfold pMan
  by_cases y : s.1 j 7 = n
  · rw [if_pos y]
    show (if l = j then (pGo n w BL (s.1 j)).1 else s.1 l) k = s.1 l k
    by_cases c : l = j
    · rw [if_pos c, c]
      exact (Rk.go (n := n) (w := w)).1 k hk
    · rw [if_neg c]
  · rw [if_neg y]
theorem fx_men {n : Int32} {w : Int32 → Int32 → Int32} {BL : Nat → List Sp3} {l k : Nat} (hk : fx k) : ∀ (j : Nat) (s : Pst β), (pMen lP tB n w BL j s).1 l k = s.1 l k
  | 0, _ => rfl
  | j + 1, s => (fx_man hk).trans (fx_men hk j s)
theorem fx_tk {n : Int32} {w : Int32 → Int32 → Int32} {BL : Nat → List Sp3} {m l k : Nat} (hk : fx k) : ∀ (i : Nat) (s : Pst β), (pTk lP tB nB w BL m n i s).1 l k = s.1 l k
  | 0, _ => rfl
  | i + 1, s => (fx_men hk m _).trans (fx_tk hk i s)
theorem Tko.mf {h h1 : Hp_} {m : Nat} {s : Pst β} (M1 : Mf [15] h h1) (T : Tko h m s) : Tko h1 m s ∧ wI h1 = wI h ∧ bL h1 = bL h := by
  obtain ⟨X, S, B, mr, em, m12, pi⟩ := T
  have f : ∀ a k, a < 200 → inw [15] a k = false → h_i h1 a k = h_i h a k := fun a k ha o => (M1.2.2.2 a k (Or.inl ha) o).1
  have fr : ∀ a k, a < 200 → inw [15] a k = false → h_r h1 a k = h_r h a k := fun a k ha o => (M1.2.2.2 a k (Or.inl ha) o).2
  have ew : wI h1 = wI h := by
    funext p q
    unfold wI
    rw [f 30 _ (by omega) (off_inw (by decide +kernel) _)]
  have eb : bL h1 = bL h := by
    funext k
    unfold bL
    have es : sB h1 k = sB h k := by
      funext i
      unfold sB
      rw [M1.2.1 228 (by decide) (by decide), M1.2.1 229 (by decide) (by decide), M1.2.1 230 (by decide) (by decide)]
    rw [es, M1.2.1 227 (by decide) (by decide)]
  have e12 : h_i h1 12 3 = h_i h 12 3 := f 12 3 (by omega) (by decide +kernel)
  have e7 : h_i h1 0 7 = h_i h 0 7 := f 0 7 (by omega) (by decide +kernel)
  refine ⟨⟨X.mf M1 (by decide +kernel), S.mf M1 (by decide +kernel), fun k hk => ?_, fun k hk => ?_, e7.trans em, m12, ?_⟩, ew, eb⟩
  · rw [e12] at hk
    rw [f 35 k (by omega) (off_inw (by decide +kernel) k), M1.2.1 227 (by decide) (by decide)]
    exact B k hk
  · rw [e7] at hk
    rw [fr 15 k (by omega) (off_inw (by decide +kernel) k)]
    exact mr k hk
  · rw [ew, eb, e12, f 16 7 (by omega) (by decide +kernel), show h_i h1 47 = h_i h 47 from funext (fun k => f 47 k (by omega) (off_inw (by decide +kernel) k))]
    exact pi
/-- from the minutes to the frame that the law's loop wants -/
theorem um_mf {h h1 h' : Hp_} {m : Nat} {n0 : Int32} {s : Pst β} {i : Nat} (m12 : m ≤ 12) (M1 : Mf [15] h h1) (i1 : h_i h1 0 = h_i h 0) (mm : ∀ j, j < m → h_i h (401 + j) = s.1 j) (U : Um PB lP tB nB h1 m n0 s i h') : Mf wsX h h' := by
  obtain ⟨_, tw, _, pm, _⟩ := U
  refine ⟨fun k => ?_, fun a l1 l2 k => ?_, ?_, fun a k ha o => ⟨?_, ?_⟩⟩
  · rw [tw.2.2 1 k (off_inw (by decide +kernel) k) (by omega)]
    exact M1.1 k
  · rw [tw.2.2 a k ?_ (by omega)]
    · exact M1.2.1 a l1 l2 k
    · exact off_inw (by
        have z : ∀ a, 200 ≤ a → a < 300 → off (0 :: wgM) a = true := fun a x y => by
          have q : (List.range 100).all (fun i => off (0 :: wgM) (200 + i)) = true := by decide +kernel
          have r := List.all_eq_true.mp q (a - 200) (List.mem_range.mpr (by omega))
          rw [show 200 + (a - 200) = a by omega] at r
          exact r
        exact z a l1 l2) k
  · rw [tw.1]
    exact M1.2.2.1
  · rcases ha with ha | ha
    · have o1 : inw (0 :: wgM) a k = false := inw_sub (a := 0 :: wgM) (b := wsX) (by decide +kernel) o
      have o2 : inw [15] a k = false := inw_sub (a := [15]) (b := wsX) (by decide +kernel) o
      rw [tw.2.2 a k o1 (by omega)]
      exact (M1.2.2.2 a k (Or.inl ha) o2).1
    · have hk := inw_fx ha.1 ha.2 o
      have o2 : inw [15] a k = false := inw_sub (a := [15]) (b := wsX) (by decide +kernel) o
      have ea : a = 401 + (a - 401) := by omega
      rcases Nat.lt_or_ge (a - 401) m with u | u
      · have p := congrFun (pm (a - 401) u) k
        have q := congrFun (mm (a - 401) u) k
        rw [fx_tk hk] at p
        rw [← ea] at p q
        rw [p, q]
      · have o1 : inw (0 :: wgM) a k = false := by
          have e : cn a = cn 401 := by
            have q := cn_man (j := a - 401) (by omega)
            rw [show 401 + (a - 401) = a by omega] at q
            rw [q]
            decide
          rw [inw_ce e]
          exact off_inw (by decide +kernel) k
        rw [tw.2.2 a k o1 (by omega)]
        exact (M1.2.2.2 a k (Or.inr ha) o2).1
  · rcases ha with ha | ha
    · have o1 : inw (0 :: wgM) a k = false := inw_sub (a := 0 :: wgM) (b := wsX) (by decide +kernel) o
      have o2 : inw [15] a k = false := inw_sub (a := [15]) (b := wsX) (by decide +kernel) o
      rw [tw.2.1 a k o1]
      exact (M1.2.2.2 a k (Or.inl ha) o2).2
    · have o2 : inw [15] a k = false := inw_sub (a := [15]) (b := wsX) (by decide +kernel) o
      have o1 : inw (0 :: wgM) a k = false := by
        have e : cn a = cn 401 := by
          have q := cn_man (j := a - 401) (by omega)
          rw [show 401 + (a - 401) = a by omega] at q
          rw [q]
          decide
        rw [inw_ce e]
        exact off_inw (by decide +kernel) k
      rw [tw.2.1 a k o1]
      exact (M1.2.2.2 a k (Or.inr ha) o2).2
/-- tick: refused, or so many minutes -/
def Tkx (PB : β → Hp_ → Prop) (lP : Nat → Int32 → (Nat → Int32) → β → β) (tB : Int32 → Int32 → β → β) (nB : Int32 → (Nat → Int32) → β → β) (m N' : Nat) (s : Pst β) (x : Int32) (h : Hp_) (r : Int32) (h' : Hp_) : Prop := (Iv h' ∧ Mf wsX h h' ∧ (∃ c', h_r h' 0 15 = some c' ∧ h_sh h' c' = some (3, N')) ∧ otk (h_i h 0 0) x r (h_i h' 0 0)) ∧ (okt (h_i h 0 0) x → h_i h' 0 0 = h_i h 0 0 + x ∧ PcX PB m (pTk lP tB nB (wI h) (bL h) m (h_i h 0 0) x.toNatClampNeg s) h' ∧ ∀ b k, b < 200 → inw (0 :: 15 :: wgM) b k = false → h_i h' b k = h_i h b k) ∧ (¬ okt (h_i h 0 0) x → h' = h)
theorem c_tkX (P : PBok PB tB (lXm lP)) (P2 : PBtk PB nB) (d : Nat) {h : Hp_} (I : Iv h) {m : Nat} {s : Pst β} (T : Tko h m s) (pc : PcX PB m s h) (lc : ∀ j, j < m → ∀ b n f g, (∀ k, k < m → f k = g k) → lP j n f b = lP j n g b) (nc : ∀ b n f g, (∀ k, k < m → f k = g k) → nB n f b = nB n g b) (x : Int32) {c N : Nat} (hc : h_r h 0 15 = some c) (hs : h_sh h c = some (3, N)) (hN : N ≤ 20000) : ∃ mc ms N', N' ≤ 20000 ∧ hcost mc ms N N' ∧ Ci (m_X11_tick (d + 8) mc ms) [.ref 0, .int x] h (Tkx PB lP tB nB m N' s x h) := by
  have w := I.1
  have t20 : (20000 : Int32).toInt = 20000 := rfl
  have t15 : (1500 : Int32).toInt = 1500 := rfl
  have t0 : (0 : Int32).toInt = 0 := rfl
  have nr := now_in I
  have n0 : 0 ≤ (h_i h 0 0).toInt := nr.1
  have n1 : (h_i h 0 0).toInt ≤ 20000 := nr.2
  by_cases ok : (0 ≤ x ∧ x ≤ 1500) ∧ (h_i h 0 0).toInt + x.toInt ≤ 20000
  · have x0 : 0 ≤ x.toInt := by have := q_le.mp ok.1.1; omega
    have x1 : x.toInt ≤ 1500 := by have := q_le.mp ok.1.2; omega
    have nx := n_nat x0
    have es : (h_i h 0 0 + x).toInt = (h_i h 0 0).toInt + x.toInt := tx_add (by omega) (by omega)
    have en : h_i h 0 0 + x = Int32.ofNat ((h_i h 0 0).toInt + x.toInt).toNat := by
      refine Int32.toInt_inj.mp ?_
      rw [on_i (by omega), es]
      omega
    have go : ∀ mc ms N' : Nat, N' ≤ 20000 → (h_i h 0 0).toInt + x.toInt ≤ (N' : Int) → Cv (m_X11_makeHistory (d + 7) mc ms) [.ref 0, .int (Int32.ofNat ((h_i h 0 0).toInt + x.toInt).toNat)] h (fun h' => Iv h' ∧ Mf [15] h h' ∧ h_i h' 0 = h_i h 0 ∧ ∃ c', h_r h' 0 15 = some c' ∧ h_sh h' c' = some (3, N')) →
        Ci (m_X11_tick (d + 8) mc ms) [.ref 0, .int x] h (Tkx PB lP tB nB m N' s x h) := by
      intro mc ms N' lN' gN' hm
      refine Ct.of (fun _ _ _ => trivial) rfl (Nat.le_of_ble_eq_true rfl) ?_
      show AW (m_X11_tick (d + 8) mc ms) 0 0 0 [(0, .ref 0), (1, .int x)] [] h (kI _)
      refine aw_iload_n (i := 1) rfl d_X11_tick_0 1 rfl ?_
      refine aw_iconst (v := 0) d_X11_tick_1 ic_0 ?_
      refine aw_sipush (v := 1500) d_X11_tick_2 is_1500 ?_
      refine aw_Si [.int x, .int 0, .int 1500] [] d_X11_tick_5 (cS_X11_within (d + 7) 0 0) tw_543 rfl ⟨⟨show d + 7 + 1 ≤ d + 8 by omega, show 8 + (3 + 11) + 100 * (d + 7) ≤ 100 * (d + 8) by omega⟩, Nat.zero_le _, Nat.zero_le _⟩ (by decide) xs0 (s_X11_within (d + 7) h x 0 1500) (fun _ _ kk => ?_)
      obtain ⟨e1, e2⟩ := kk
      rw [e1, e2]
      refine aw_ifb_eq (tgt := 23) d_X11_tick_8 rfl (fun z => absurd ok.1 z) (fun _ => ?_)
      refine aw_aload_n (i := 0) rfl d_X11_tick_11 0 rfl ?_
      refine aw_geti (k0 := 0) kc_11 (ws_0 w) (Nat.le_of_ble_eq_true rfl) tw_487 d_X11_tick_12 rfl ?_
      refine aw_iload_n (i := 1) rfl d_X11_tick_15 1 rfl ?_
      refine aw_iadd d_X11_tick_16 ?_
      refine aw_sipush (v := 20000) d_X11_tick_17 is_20000 ?_
      refine aw_icmp_le (tgt := 25) d_X11_tick_20 rfl (fun _ => ?_) (fun z => by have := q_nle z; omega)
      refine aw_aload_n (i := 0) rfl d_X11_tick_25 0 rfl ?_
      refine aw_aload_n (i := 0) rfl d_X11_tick_26 0 rfl ?_
      refine aw_geti (k0 := 0) kc_11 (ws_0 w) (Nat.le_of_ble_eq_true rfl) tw_487 d_X11_tick_27 rfl ?_
      refine aw_iload_n (i := 1) rfl d_X11_tick_30 1 rfl ?_
      refine aw_iadd d_X11_tick_31 ?_
      refine aw_vi (v2 := Int32.ofNat ((h_i h 0 0).toInt + x.toInt).toNat) en ?_
      refine aw_Vv 0 [.int (Int32.ofNat ((h_i h 0 0).toInt + x.toInt).toNat)] [] d_X11_tick_32 (cV_X11_makeHistory (d + 7) mc ms) kc_11 (ws_0 w) tw_995 rfl ⟨⟨show d + 7 + 1 ≤ d + 8 by omega, show 8 + (3 + 11) + 100 * (d + 7) ≤ 100 * (d + 8) by omega⟩, show 0 + 0 + mc ≤ mc by omega, show 0 + 0 + ms ≤ ms by omega⟩ (by decide) xs0 hm (fun h1 kk => ?_)
      obtain ⟨I1, M1, i1, c', r1, s1⟩ := kk
      refine aw_iconst (v := 0) d_X11_tick_35 ic_0 ?_
      refine aw_istore_n (i := 2) rfl [(0, .ref 0), (1, .int x), (2, .int 0)] d_X11_tick_36 (Nat.le_of_ble_eq_true rfl) rfl rfl ?_
      obtain ⟨T1, ew, eb⟩ := T.mf M1
      have m12 := T.2.2.2.2.2.1
      have fm : ∀ j, j < m → h_i h1 (401 + j) = h_i h (401 + j) := fun j hj => funext (fun k => (M1.2.2.2 (401 + j) k (Or.inr ⟨by omega, by omega⟩) (by
        have e : cn (401 + j) = cn 401 := (cn_man (by omega)).trans (by decide)
        rw [inw_ce e]
        exact off_inw (by decide +kernel) k)).1)
      have f5 : ∀ a, a = 51 ∨ a = 52 ∨ a = 53 → h_i h1 a = h_i h a := fun a ha => funext (fun k => (M1.2.2.2 a k (Or.inl (by omega)) (by rcases ha with e | e | e <;> subst e <;> exact off_inw (by decide +kernel) k)).1)
      have U0 : Um PB lP tB nB h1 m (h_i h 0 0) s 0 h1 := ⟨I1, ⟨rfl, fun _ _ _ => rfl, fun _ _ _ _ => rfl⟩, by rw [i1, i_0], fun j hj => (fm j hj).trans (pc.1 j hj), ⟨(f5 51 (Or.inl rfl)).trans pc.2.1.1, (f5 52 (Or.inr (Or.inl rfl))).trans pc.2.1.2.1, (f5 53 (Or.inr (Or.inr rfl))).trans pc.2.1.2.2⟩, P2.2 _ h h1 I M1 i1 pc.2.2⟩
      have bn : (0 : Int) ≤ (h_i h 0 0).toInt ∧ (h_i h 0 0).toInt ≤ 20000 := nr
      have mrw : ∀ (h2 : Hp_), Tw m h1 h2 → ∀ j, j < m → h_r h2 15 j = some (401 + j) ∧ Cn h2 (401 + j) := fun h2 tw j hj => by
        have em := T1.2.2.2.2.1
        have mr := T1.2.2.2.1
        have ym : isM h1 (Int32.ofNat j) := ⟨by rw [on_j (by omega)]; omega, by rw [em, on_j (by omega), on_j (by omega)]; omega⟩
        have hc1 := mr.cn I1 ym
        rw [on_k (by omega)] at hc1
        refine ⟨?_, hc1.of tw.1⟩
        rw [tw.2.1 15 j (off_inw (by decide +kernel) j)]
        exact mr j (by rw [em, on_j (by omega)]; omega)
      refine AW.mono (tg_out d mc ms _ _ ⟨show 0 + 0 + mc ≤ mc by omega, show 0 + 0 + ms ≤ ms by omega⟩ x (h_i h 0 0) c' N' x.toNatClampNeg (of_nat32 x0).symm (by omega) n0 (by omega) lN' (Um PB lP tB nB h1 m (h_i h 0 0) s) (Vm PB lP tB nB h1 m (h_i h 0 0) s) m m12 ?_ ?_ ?_ ?_ ?_ ?_ ?_ x.toNatClampNeg 0 h1 (by omega) U0) (fun v h' q => ?_)
      · intro i h2 U
        refine ⟨U.1, ?_, ?_, U.2.2.1⟩
        · rw [U.2.1.2.1 0 15 (by decide +kernel)]
          exact r1
        · rw [U.2.1.1]
          exact s1
      · intro i h2 U hi I2
        obtain ⟨Iu, tw, eu, pu, ⟨p51, p52, p53⟩, PBu⟩ := U
        have r2 : h_r h2 0 15 = some c' := by
          rw [tw.2.1 0 15 (by decide +kernel)]
          exact r1
        have s2 : h_sh h2 c' = some (3, N') := by
          rw [tw.1]
          exact s1
        have lt : (h_i h2 0 0).toInt < (N' : Int) := by
          rw [eu, tx_add (by rw [on_j (by omega)]; omega) (by rw [on_j (by omega)]; omega), on_j (by omega)]
          omega
        refine ⟨I2, ⟨tw.1, fun b k o => tw.2.1 b k o, fun b k o n => ?_⟩, im_at, fun j hj => ?_, ⟨?_, ?_, ?_⟩, ?_⟩
        · have nb : ¬ (b = 0 ∧ k = 0) := fun e => by
            rw [e.1, e.2] at o
            exact absurd o (by decide +kernel)
          rw [h_i_im, if_neg nb, h_i_lm]
          exact tw.2.2 b k o n
        · rw [im_oth (by omega), h_i_lm]
          exact pu j hj
        · rw [im_oth (by decide), h_i_lm]
          exact p51
        · rw [im_oth (by decide), h_i_lm]
          exact p52
        · rw [im_oth (by decide), h_i_lm]
          exact p53
        · have q := P2.1 _ h2 c' N' (h_i h 0 0 + Int32.ofNat (i + 1)) Iu r2 s2 lt PBu
          rw [nc _ _ _ (fun k => (pTk lP tB nB (wI h1) (bL h1) m (h_i h 0 0) i s).1 k 5) (fun k hk => by rw [pu k hk]), eu] at q
          rw [eu]
          exact q
      · intro i h2 V
        exact ⟨V.1, V.2.1, V.2.2.1, V.2.2.2⟩
      · intro i j h2 V
        refine ⟨V.1, ?_⟩
        rw [V.2.1.2.2 0 7 (by decide +kernel) (by omega)]
        exact T1.2.2.2.2.1
      · intro i j h2 V hj
        exact mrw h2 V.2.1 j hj
      · intro i j h2 V hj ny
        refine ⟨V.1, V.2.1, V.2.2.1, ?_⟩
        show PcX PB m (pMan lP tB (h_i h 0 0 + Int32.ofNat (i + 1)) (wI h1) (bL h1) j (pMen lP tB (h_i h 0 0 + Int32.ofNat (i + 1)) (wI h1) (bL h1) j (pOv nB (h_i h 0 0 + Int32.ofNat i) (pTk lP tB nB (wI h1) (bL h1) m (h_i h 0 0) i s)))) h2
        have q := V.2.2.2
        have e : (pMen lP tB (h_i h 0 0 + Int32.ofNat (i + 1)) (wI h1) (bL h1) j (pOv nB (h_i h 0 0 + Int32.ofNat i) (pTk lP tB nB (wI h1) (bL h1) m (h_i h 0 0) i s))).1 j 7 = h_i h2 (401 + j) 7 := by rw [q.1 j hj]
        unfold pMan
        rw [e, if_neg (by rw [← V.2.2.1]; exact ny)]
        exact q
      · intro i j h2 hi V hj yt
        exact vm_go P d I1 T1 bn (by omega) V hj yt (lc j hj)
      · obtain ⟨r, ev, U, er⟩ := q
        have okk : okt (h_i h 0 0) x := ok
        have ef : h_i h' 0 0 = h_i h 0 0 + x := by rw [U.2.2.1, of_nat32 x0]
        refine ⟨r, ev, ⟨U.1, um_mf m12 M1 i1 pc.1 U, ⟨c', by rw [U.2.1.2.1 0 15 (by decide +kernel)]; exact r1, by rw [U.2.1.1]; exact s1⟩, Or.inl ⟨ok, er, by rw [ef, es]⟩⟩, fun _ => ⟨ef, ?_, fun b k hb o => ?_⟩, fun n => absurd okk n⟩
        · have q := U.2.2.2
          rw [ew, eb] at q
          exact q
        · have o1 : inw (0 :: wgM) b k = false := inw_sub (a := 0 :: wgM) (b := 0 :: 15 :: wgM) (by decide +kernel) o
          have o2 : inw [15] b k = false := inw_sub (a := [15]) (b := 0 :: 15 :: wgM) (by decide +kernel) o
          rw [U.2.1.2.2 b k o1 (by omega)]
          exact (M1.2.2.2 b k (Or.inl hb) o2).1
    rcases Nat.lt_or_ge N ((h_i h 0 0).toInt + x.toInt).toNat with g | g
    · refine ⟨1, hwant ((h_i h 0 0).toInt + x.toInt).toNat N, hwant ((h_i h 0 0).toInt + x.toInt).toNat N, by unfold hwant; omega, Or.inr ⟨rfl, rfl, by unfold hwant; omega, by unfold hwant; omega⟩, go 1 _ _ (by unfold hwant; omega) (by unfold hwant; omega) ?_⟩
      exact c_mkH1 (d + 5) I hc hs hN g (by omega)
    · refine ⟨0, 0, N, hN, Or.inl ⟨rfl, rfl, rfl⟩, go 0 0 N hN (by omega) ?_⟩
      exact Cv.mono (c_makeHistory0 (d + 5) 0 0 I hc hs hN g) (fun h' e => by rw [e]; exact ⟨I, Mf.rf h, rfl, c, hc, hs⟩)
  · refine ⟨0, 0, N, hN, Or.inl ⟨rfl, rfl, rfl⟩, ?_⟩
    have nok : ¬ okt (h_i h 0 0) x := ok
    have bad : ∀ lv, AW (m_X11_tick (d + 8) 0 0) 0 0 23 lv [] h (kI (Tkx PB lP tB nB m N s x h)) := fun lv => by
      refine aw_iconst (v := -1) d_X11_tick_23 ic_m1 ?_
      exact aw_iret rfl d_X11_tick_24 ⟨Nat.le_refl _, Nat.le_refl _⟩ ⟨_, rfl, ⟨I, Mf.rf h, ⟨c, hc, hs⟩, Or.inr ⟨nok, rfl, rfl⟩⟩, fun o => absurd o nok, fun _ => rfl⟩
    refine Ct.of (fun _ _ _ => trivial) rfl (Nat.le_of_ble_eq_true rfl) ?_
    show AW (m_X11_tick (d + 8) 0 0) 0 0 0 [(0, .ref 0), (1, .int x)] [] h (kI _)
    refine aw_iload_n (i := 1) rfl d_X11_tick_0 1 rfl ?_
    refine aw_iconst (v := 0) d_X11_tick_1 ic_0 ?_
    refine aw_sipush (v := 1500) d_X11_tick_2 is_1500 ?_
    refine aw_Si [.int x, .int 0, .int 1500] [] d_X11_tick_5 (cS_X11_within (d + 7) 0 0) tw_543 rfl ⟨⟨show d + 7 + 1 ≤ d + 8 by omega, show 8 + (3 + 11) + 100 * (d + 7) ≤ 100 * (d + 8) by omega⟩, Nat.zero_le _, Nat.zero_le _⟩ (by decide) xs0 (s_X11_within (d + 7) h x 0 1500) (fun _ _ kk => ?_)
    obtain ⟨e1, e2⟩ := kk
    rw [e1, e2]
    refine aw_ifb_eq (tgt := 23) d_X11_tick_8 rfl (fun _ => bad _) (fun z => ?_)
    have x0 : 0 ≤ x.toInt := by have := q_le.mp z.1; omega
    have x1 : x.toInt ≤ 1500 := by have := q_le.mp z.2; omega
    have es : (h_i h 0 0 + x).toInt = (h_i h 0 0).toInt + x.toInt := tx_add (by omega) (by omega)
    refine aw_aload_n (i := 0) rfl d_X11_tick_11 0 rfl ?_
    refine aw_geti (k0 := 0) kc_11 (ws_0 w) (Nat.le_of_ble_eq_true rfl) tw_487 d_X11_tick_12 rfl ?_
    refine aw_iload_n (i := 1) rfl d_X11_tick_15 1 rfl ?_
    refine aw_iadd d_X11_tick_16 ?_
    refine aw_sipush (v := 20000) d_X11_tick_17 is_20000 ?_
    refine aw_icmp_le (tgt := 25) d_X11_tick_20 rfl (fun y => ?_) (fun _ => bad _)
    have y := q_le.mp y
    exact absurd ⟨z, by omega⟩ ok
end MEN
end
section
/-! MEN, the reference: tick -/
theorem rq_i (g : Ev2 → Option Int32) : ∀ (E : List Ev2) (r : Nat) (f : Nat → Int32) (j : Nat) (e : Ev2), E[j]? = some e → rq g r E f (r + j) = (g e).getD (f (r + j))
  | [], _, _, _, _, h => by cases h
  | x :: E, r, f, 0, e, h => by
    have h : some x = some e := h
    show rq g (r + 1) E (match g x with | some v => up1 f r v | none => f) (r + 0) = _
    rw [rq_o g E (r + 1) _ (r + 0) (by omega), Option.some.inj h]
    cases g e with
    | none => rfl
    | some v => exact up1_at
  | x :: E, r, f, j + 1, e, h => by
    have h : E[j]? = some e := h
    show rq g (r + 1) E (match g x with | some v => up1 f r v | none => f) (r + (j + 1)) = _
    rw [show r + (j + 1) = r + 1 + j by omega, rq_i g E (r + 1) _ j e h]
    congr 1
    cases g x with
    | none => rfl
    | some v => exact up1_ne (by omega)
/-- a row's standing: class (o, t, c), reference (a, b, e) -/
def stt (o t c a b e : Int32) : Prop := (o = 0 ∧ a = -1 ∧ b = -1) ∨ (o = 1 ∧ a = t ∧ b = -1 ∧ 0 ≤ t.toInt) ∨ (o = 2 ∧ a = -1 ∧ b = t ∧ e = c ∧ 0 ≤ t.toInt)
/-- events on open rows keep the standing -/
theorem stt_ev {n : Int32} (p0 : 0 ≤ n.toInt) {E : List Ev2} (he : ∀ e ∈ E, e.1 = 1 ∨ e.1 = 2) {r : Nat} {fo ft fc fa fb fe : Nat → Int32} {k : Nat} (h : stt (fo k) (ft k) (fc k) (fa k) (fb k) (fe k)) (op : r ≤ k → k < r + E.length → fo k = 0) : stt (rz Prod.fst r E fo k) (rz (fun _ => n) r E ft k) (rz Prod.snd r E fc k) (rq (gM n) r E fa k) (rq (gS n) r E fb k) (rq gC r E fe k) := by
  by_cases c : r ≤ k ∧ k < r + E.length
  · have o := op c.1 c.2
    have ab : fa k = -1 ∧ fb k = -1 := by
      rcases h with z | z | z
      · exact ⟨z.2.1, z.2.2⟩
      · rw [o] at z
        exact absurd z.1 (by decide)
      · rw [o] at z
        exact absurd z.1 (by decide)
    have l : k - r < E.length := by omega
    have g : E[k - r]? = some (E[k - r]'l) := List.getElem?_eq_getElem l
    have m := he _ (List.getElem_mem l)
    generalize E[k - r]'l = e at g m
    have q1 := rz_i Prod.fst E r fo (k - r) e g
    have q2 := rz_i (fun _ => n) E r ft (k - r) e g
    have q3 := rz_i Prod.snd E r fc (k - r) e g
    have q4 := rq_i (gM n) E r fa (k - r) e g
    have q5 := rq_i (gS n) E r fb (k - r) e g
    have q6 := rq_i gC E r fe (k - r) e g
    rw [show r + (k - r) = k by omega] at q1 q2 q3 q4 q5 q6
    rw [q1, q2, q3, q4, q5, q6]
    unfold gM gS gC
    rcases m with m | m
    · rw [if_pos m, if_pos m, if_pos m]
      exact Or.inr (Or.inl ⟨m, rfl, ab.2, p0⟩)
    · rw [if_neg (by rw [m]; decide), if_neg (by rw [m]; decide), if_neg (by rw [m]; decide)]
      exact Or.inr (Or.inr ⟨m, ab.1, rfl, rfl, p0⟩)
  · rw [rz_o _ E r fo k (by omega), rz_o _ E r ft k (by omega), rz_o _ E r fc k (by omega), rq_o _ E r fa k (by omega), rq_o _ E r fb k (by omega), rq_o _ E r fe k (by omega)]
    exact h
def wtM : List Nat := 1000 :: 220999 :: mwR
/-- the places of a minute as the reference keeps them -/
def Hst (m : Nat) (h h' : Hp_) : Prop := (∀ j, j < m → h_i h' 220 (20001 * j + (h_i h 1 0).toNatClampNeg) = vp_nar .byte ((h_i h 209 j).toInt8.toInt32)) ∧ ∀ k, (∀ j, j < m → k ≠ 20001 * j + (h_i h 1 0).toNatClampNeg) → h_i h' 220 k = h_i h 220 k
section MEN
variable {β : Type} {PM : β → Hp_ → Prop} {tB : Int32 → Int32 → β → β} {nB : Int32 → (Nat → Int32) → β → β} {lP : Nat → Int32 → (Nat → Int32) → β → β}
def lR (lP : Nat → Int32 → (Nat → Int32) → β → β) : Nat → Hp_ → β → β := fun j h b => lP j (h_i h 1 0) (fun k => h_i h 209 k) b
/-- what else is kept as minutes pass -/
def PMtk {β : Type} (PM : β → Hp_ → Prop) (nB : Int32 → (Nat → Int32) → β → β) (m : Nat) : Prop := ∀ b h h' x, Iv h → Fr [220999] h h' → Hst m h h' → PM b h → PM (nB (h_i h 1 0) (fun k => h_i h 209 k) b) (h_im h' 1 0 x)
/-- the reference's men and rows are those of s -/
def PcM (PM : β → Hp_ → Prop) (m rw : Nat) (s : Pst β) (h : Hp_) : Prop := (∀ j, j < m → RMp j (s.1 j) h) ∧ (∀ k, k < rw → stt (s.2.1 k) (s.2.2.1 k) (s.2.2.2.1 k) (h_i h 241 k) (h_i h 242 k) (h_i h 243 k)) ∧ PM s.2.2.2.2 h
theorem m_wk0 (d : Nat) {h : Hp_} (I : Iv h) {x1 : Int32} (hx : 0 ≤ x1.toInt ∧ x1.toInt ≤ 11) (n7 : ¬ h_i h 211 x1.toNatClampNeg = h_i h 1 0) : Cv (m_X12_wake (d + 9) 0 0) [.ref 1, .int x1] h (fun h' => h' = h) := t_X12_wake d h I.1 x1 _ ⟨v12 hx, fun y => absurd y n7, fun _ => rfl⟩
/-- what a tick of the reference wants to know at its beginning -/
def Tkn (h : Hp_) (m rw : Nat) (s : Pst β) : Prop := ExP h ∧ (∀ k, k < (h_i h 1 42).toNatClampNeg → ∀ i, i < (h_i h 227 k).toNatClampNeg → stR (sB h k i)) ∧ h_i h 1 7 = Int32.ofNat m ∧ m ≤ 12 ∧ rw ≤ 400 ∧ (∃ own, pI (wI h) (bL h) (h_i h 1 42).toNatClampNeg rw own m s)
theorem stm_of {h : Hp_} (I : Iv h) (S : ∀ k, k < (h_i h 1 42).toNatClampNeg → ∀ i, i < (h_i h 227 k).toNatClampNeg → stR (sB h k i)) {rw : Nat} (r4 : rw ≤ 400) {M : Nat → Int32} (K : KmB (bL h) (h_i h 1 42).toNatClampNeg rw M) : ∃ i, (Stm h (M 8) i ((pX (bL h) M).1 :: (pX (bL h) M).2) ∧ M 9 = Int32.ofNat i ∧ h_i h 227 (M 8).toNatClampNeg = Int32.ofNat (i + ((pX (bL h) M).2.length + 1)) ∧ 0 ≤ (M 11).toInt ∧ (M 11).toInt + (((if (pX (bL h) M).1.1 = 2 ∧ decide (¬ M 6 = -1) = true then 1 else 0) + mts (pX (bL h) M).2 : Nat) : Int) ≤ 400) ∧ ((pX (bL h) M).1.1 = 3 → M 6 = -1) := by
  have r42 := I.2.1 1 42
  rw [show tf 1 42 = (0, 12) by decide +kernel] at r42
  have b0 : 0 ≤ (h_i h 1 42).toInt := r42.1
  have b1 : (h_i h 1 42).toInt ≤ 12 := r42.2
  have n42 := n_nat b0
  obtain ⟨i, il, i150, b8, hd, e9, h6, r0, r1, r2⟩ := kmb_x (fun k hk => by rw [bL_l]; exact (z227 I k).1) K
  have n8 := n_nat b8.1
  have z := z227 I (M 8).toNatClampNeg
  rw [bL_l] at il
  refine ⟨i, ⟨⟨⟨b8.1, by omega⟩, ?_, fun k x e => ?_⟩, e9, ?_, r0, by omega⟩, fun e => h6 (Or.inr e)⟩
  · show i + ((pX (bL h) M).2.length + 1) ≤ 150
    omega
  · have g : (bL h (M 8).toNatClampNeg)[i + k]? = some x := by
      rw [← hd, List.getElem?_drop] at e
      exact e
    have lk : i + k < (bL h (M 8).toNatClampNeg).length := (List.getElem?_eq_some_iff.mp g).1
    rw [bL_l] at lk
    rw [bL_g lk] at g
    have e := Option.some.inj g
    exact ⟨e, by rw [← e]; exact S _ b8.2 _ lk⟩
  · rw [il]
    exact (of_nat32 (by omega)).symm
def Vn (PM : β → Hp_ → Prop) (lP : Nat → Int32 → (Nat → Int32) → β → β) (tB : Int32 → Int32 → β → β) (nB : Int32 → (Nat → Int32) → β → β) (h1 : Hp_) (m rw : Nat) (n0 : Int32) (s : Pst β) (i j : Nat) (h : Hp_) : Prop := Iv h ∧ Fr wtM h1 h ∧ h_i h 1 0 = n0 + Int32.ofNat (i + 1) ∧ PcM PM m rw (pMen lP tB (n0 + Int32.ofNat (i + 1)) (wI h1) (bL h1) j (pOv nB (n0 + Int32.ofNat i) (pTk lP tB nB (wI h1) (bL h1) m n0 i s))) h
def Un (PM : β → Hp_ → Prop) (lP : Nat → Int32 → (Nat → Int32) → β → β) (tB : Int32 → Int32 → β → β) (nB : Int32 → (Nat → Int32) → β → β) (h1 : Hp_) (m rw : Nat) (n0 : Int32) (s : Pst β) (i : Nat) (h : Hp_) : Prop := Iv h ∧ Fr wtM h1 h ∧ h_i h 1 0 = n0 + Int32.ofNat i ∧ PcM PM m rw (pTk lP tB nB (wI h1) (bL h1) m n0 i s) h
theorem fr_wb {h1 h : Hp_} (f : Fr wtM h1 h) : wI h = wI h1 ∧ bL h = bL h1 ∧ (∀ k, sB h k = sB h1 k) := by
  have es : ∀ k, sB h k = sB h1 k := fun k => by
    funext i
    unfold sB
    rw [fr_i f (by decide +kernel), fr_i f (by decide +kernel), fr_i f (by decide +kernel)]
  refine ⟨?_, ?_, es⟩
  · funext p q
    unfold wI
    rw [fr_i f (by decide +kernel)]
  · funext k
    unfold bL
    rw [es, fr_i f (by decide +kernel)]
/-- one man wakes, the reference -/
theorem vn_wk (P : PMok PM tB (lR lP)) (d : Nat) {h1 : Hp_} (I1 : Iv h1) {m rw : Nat} {s : Pst β} (T : Tkn h1 m rw s) {n0 : Int32} (p0 : 0 ≤ n0.toInt ∧ n0.toInt ≤ 20000) {i j : Nat} (i2 : i < 20000) {h : Hp_} (V : Vn PM lP tB nB h1 m rw n0 s i j h) (hj : j < m) (lc : ∀ b n f g, (∀ k, k < m → f k = g k) → lP j n f b = lP j n g b) : Cv (m_X12_wake (d + 9) 0 0) [.ref 1, .int (Int32.ofNat j)] h (fun h' => Vn PM lP tB nB h1 m rw n0 s i (j + 1) h') := by
  obtain ⟨I, fw, en, pc⟩ := V
  obtain ⟨X, S, em, m12, r4, own, pi⟩ := T
  have W := wok I1 X
  have hb : ∀ k x, k < (h_i h1 1 42).toNatClampNeg → x ∈ bL h1 k → stR x := fun k x hk hx => by
    obtain ⟨q, hq, e⟩ := bL_m hx
    rw [e]
    exact S k hk q hq
  have pn : 0 ≤ (n0 + Int32.ofNat (i + 1)).toInt := by rw [tx_add (by rw [on_j (by omega)]; omega) (by rw [on_j (by omega)]; omega), on_j (by omega)]; omega
  have pj := pI_men (lP := lP) (tB := tB) (n := n0 + Int32.ofNat (i + 1)) (m := m) W hb (bL_hl I1 _) r4 pn m12 j (s := pOv nB (n0 + Int32.ofNat i) (pTk lP tB nB (wI h1) (bL h1) m n0 i s)) (by omega) (pI_tk (nB := nB) W hb (bL_hl I1 _) r4 p0 m12 i (by omega) pi)
  generalize hσ : pMen lP tB (n0 + Int32.ofNat (i + 1)) (wI h1) (bL h1) j (pOv nB (n0 + Int32.ofNat i) (pTk lP tB nB (wI h1) (bL h1) m n0 i s)) = σ at pc pj
  obtain ⟨pm, pr, PMh⟩ := pc
  obtain ⟨K, e0, O⟩ := pj j hj
  have kj : (Int32.ofNat j).toNatClampNeg = j := on_k (by omega)
  have hx : 0 ≤ (Int32.ofNat j).toInt ∧ (Int32.ofNat j).toInt ≤ 11 := by rw [on_j (by omega)]; omega
  have R := pm j hj
  obtain ⟨ew, eb, es⟩ := fr_wb fw
  have step : ∀ h', Vn PM lP tB nB h1 m rw n0 s i (j + 1) h' ↔ (Iv h' ∧ Fr wtM h1 h' ∧ h_i h' 1 0 = n0 + Int32.ofNat (i + 1) ∧ PcM PM m rw (pMan lP tB (n0 + Int32.ofNat (i + 1)) (wI h1) (bL h1) j σ) h') := fun h' => by
    unfold Vn
    show (Iv h' ∧ Fr wtM h1 h' ∧ h_i h' 1 0 = n0 + Int32.ofNat (i + 1) ∧ PcM PM m rw (pMan lP tB (n0 + Int32.ofNat (i + 1)) (wI h1) (bL h1) j (pMen lP tB (n0 + Int32.ofNat (i + 1)) (wI h1) (bL h1) j (pOv nB (n0 + Int32.ofNat i) (pTk lP tB nB (wI h1) (bL h1) m n0 i s)))) h') ↔ _
    rw [hσ]
  by_cases yt : σ.1 j 7 = n0 + Int32.ofNat (i + 1)
  · have X2 : ExP h := X.fr fw (by decide +kernel)
    have wk := m_wk P d (x1 := Int32.ofNat j) (M := σ.1 j) I X2 hx (by rw [kj]; exact R) PMh e0 (by rw [ew]; exact K.1) (fun p q a b => (wok I X2).2.2.2.1 _ _ _ a b) (fun p q a => (wok I X2).2.2.2.2 _ _ a) (i := if σ.1 j 4 = 1 then (σ.1 j 9).toNatClampNeg else 0) (x := (pX (bL h1) (σ.1 j)).1) (L := (pX (bL h1) (σ.1 j)).2) (fun y1 => by
      obtain ⟨i', q, q3⟩ := stm_of I1 S r4 (K.2 y1)
      have ll : i' + ((pX (bL h1) (σ.1 j)).2.length + 1) ≤ 150 := q.1.2.1
      have e9' : (σ.1 j 9).toNatClampNeg = i' := by rw [q.2.1, on_k (by omega)]
      rw [if_pos y1, e9']
      refine ⟨⟨q.1.cg es, q.2.1, ?_, q.2.2.2⟩, q3⟩
      rw [fr_i fw (by decide +kernel)]
      exact q.2.2.1) (by rw [en]; exact yt)
    rw [kj, en, ew] at wk
    refine Cv.mono wk (fun h' k => (step h').mpr ⟨k.1, fw.tr (k.2.1.1.more (by decide +kernel)), ?_, ?_⟩)
    · rw [k.2.1.k.2.1]
      exact en
    · unfold pMan
      rw [if_pos yt]
      refine ⟨fun l hl => ?_, fun q hq => ?_, ?_⟩
      · show RMp l (if l = j then _ else _) h'
        by_cases c : l = j
        · rw [if_pos c, c]
          exact k.2.2.1
        · rw [if_neg c]
          refine (pm l hl).cg (fun a ha => ?_)
          rcases List.mem_cons.mp ha with e | e
          · rw [e]
            exact k.2.1.k.2.2.1 l
          · exact k.2.1.2 a e l c
      · have Rg := Rk.go (n := n0 + Int32.ofNat (i + 1)) (w := wI h1) (x := (pX (bL h1) (σ.1 j)).1) (L := (pX (bL h1) (σ.1 j)).2) (M := σ.1 j)
        have z := stt_ev (n := n0 + Int32.ofNat (i + 1)) pn (E := (pGo (n0 + Int32.ofNat (i + 1)) (wI h1) (bL h1) (σ.1 j)).2) Rg.2.1 (r := (σ.1 j 11).toNatClampNeg) (pr q hq) (fun a b => by
          by_cases y1 : σ.1 j 4 = 1
          · obtain ⟨i', _, _, b8, hd, e9, _, r0, r1, r2⟩ := kmb_x (bL_hl I1 _) (K.2 y1)
            have n11 := n_nat r0
            have ll : (pGo (n0 + Int32.ofNat (i + 1)) (wI h1) (bL h1) (σ.1 j)).2.length ≤ _ := Rg.2.2.1
            exact (O y1 q (by omega) (by omega)).1
          · have e : (pGo (n0 + Int32.ofNat (i + 1)) (wI h1) (bL h1) (σ.1 j)).2 = [] := fGo_e y1
            rw [e] at b
            exact absurd b (by show ¬ q < _ + 0; omega))
        rw [k.2.2.2.1.1, k.2.2.2.1.2.1, k.2.2.2.1.2.2]
        exact z
      · have q := k.2.2.2.2
        have eb : (if σ.1 j 4 = 1 ∧ (pX (bL h1) (σ.1 j)).1.1 = 3 then lR lP j (h_im h 211 j (-1)) σ.2.2.2.2 else σ.2.2.2.2) = (if σ.1 j 4 = 1 ∧ (pX (bL h1) (σ.1 j)).1.1 = 3 then lP j (n0 + Int32.ofNat (i + 1)) (fun k => σ.1 k 5) σ.2.2.2.2 else σ.2.2.2.2) := by
          by_cases c : σ.1 j 4 = 1 ∧ (pX (bL h1) (σ.1 j)).1.1 = 3
          · rw [if_pos c, if_pos c]
            unfold lR
            rw [im_ne (by decide), en]
            refine lc _ _ _ _ (fun k hk => ?_)
            rw [im_ne (by decide)]
            exact (pm k hk).1.2.1
          · rw [if_neg c, if_neg c]
        rw [eb] at q
        exact q
  · have e7 : h_i h 211 (Int32.ofNat j).toNatClampNeg = σ.1 j 7 := by rw [kj]; exact R.1.2.2.2
    refine Cv.mono (m_wk0 d I hx (by rw [e7, en]; exact yt)) (fun h' e => (step h').mpr ?_)
    subst e
    refine ⟨I, fw, en, ?_⟩
    unfold pMan
    rw [if_neg yt]
    exact ⟨pm, pr, PMh⟩
end MEN
/-! MEN, the reference: the loops of a tick -/
/-- the base's account of the reference's men -/
theorem j2_of {β : Type} {h : Hp_} (I : Iv h) {m rw : Nat} {s : Pst β} {w : Int32 → Int32 → Int32} (em : h_i h 1 7 = Int32.ofNat m) (m12 : m ≤ 12) (r4 : rw ≤ 400) {own : Nat → Int32} (p : pI w (bL h) (h_i h 1 42).toNatClampNeg rw own m s) (R : ∀ j, j < m → RMp j (s.1 j) h) : J2 h := by
  intro c hc hm
  rw [em, on_j (by omega)] at hm
  have hj : c < m := by omega
  obtain ⟨K, _, _⟩ := p c hj
  have r := R c hj
  have r42 := I.2.1 1 42
  rw [show tf 1 42 = (0, 12) by decide +kernel] at r42
  have b0 : 0 ≤ (h_i h 1 42).toInt := r42.1
  have n42 := n_nat b0
  refine ⟨fun e => ?_, fun e => ?_⟩
  · rw [r.1.2.2.1]
    rw [r.1.1] at e
    exact (K.1.2.2.2.1 e).1
  · rw [r.1.1] at e
    obtain ⟨i, il, i150, b8, hd, e9, h6, r0, r1, r2⟩ := kmb_x (fun k hk => by rw [bL_l]; exact (z227 I k).1) (K.2 e)
    have q := r.2.1 e
    have n8 := n_nat b8.1
    have z := z227 I (s.1 c 8).toNatClampNeg
    rw [bL_l] at il
    have hS : nS h c = i := by
      show (h_i h 213 c).toNatClampNeg = i
      rw [q.2.1, e9, on_k (by omega)]
    have hB : nB h c = (s.1 c 8).toNatClampNeg := by
      show (h_i h 212 c).toNatClampNeg = _
      rw [q.1]
    have hZ : nZ h c = (h_i h 227 (s.1 c 8).toNatClampNeg).toNatClampNeg := by
      show (h_i h 227 (h_i h 212 c).toNatClampNeg).toNatClampNeg = _
      rw [q.1]
    have mp : ∀ (L : List Sp3) (t : Nat), (bL h (s.1 c 8).toNatClampNeg).drop t = L → mP (h_i h 228) (s.1 c 8).toNatClampNeg L.length t = mts L := fun L t e => mP_mts L t (fun k x g => by
      rw [← e, List.getElem?_drop] at g
      have lk : t + k < (bL h (s.1 c 8).toNatClampNeg).length := (List.getElem?_eq_some_iff.mp g).1
      rw [bL_l] at lk
      rw [bL_g lk] at g
      rw [← Option.some.inj g]
      rfl)
    have d1 : (bL h (s.1 c 8).toNatClampNeg).drop (i + 1) = (pX (bL h) (s.1 c)).2 := by
      rw [← List.drop_drop, hd]
      rfl
    have m1 := mp _ _ d1
    have m0 := mp _ _ hd
    rw [hS, hB, hZ, q.2.1, q.1, q.2.2.2.1, e9, r.1.2.2.1]
    refine ⟨by rw [on_j (by omega)]; omega, by omega, by omega, ?_, fun n6 => ?_⟩
    · rw [show (h_i h 227 (s.1 c 8).toNatClampNeg).toNatClampNeg - (i + 1) = (pX (bL h) (s.1 c)).2.length by omega, m1]
      omega
    · rw [show (h_i h 227 (s.1 c 8).toNatClampNeg).toNatClampNeg - i = ((pX (bL h) (s.1 c)).1 :: (pX (bL h) (s.1 c)).2).length by show _ = _ + 1; omega, m0]
      have mm : mts ((pX (bL h) (s.1 c)).1 :: (pX (bL h) (s.1 c)).2) = (if (pX (bL h) (s.1 c)).1.1 = 2 then 1 else 0) + mts (pX (bL h) (s.1 c)).2 := rfl
      rw [mm]
      by_cases y2 : (pX (bL h) (s.1 c)).1.1 = 2
      · rw [if_pos ⟨y2, decide_eq_true n6⟩] at r1
        rw [if_pos y2]
        omega
      · rw [if_neg (fun u => y2 u.1)] at r1
        rw [if_neg y2]
        omega
section MEN
variable {β : Type} {PM : β → Hp_ → Prop} {tB : Int32 → Int32 → β → β} {nB : Int32 → (Nat → Int32) → β → β} {lP : Nat → Int32 → (Nat → Int32) → β → β}
theorem mh_lp (d : Nat) {x1 x2 : Int32} (K : Int32 → Hp_ → Prop) {m : Nat} (m12 : m ≤ 12) {h0 : Hp_} (I0 : Iv h0) (em : h_i h0 1 7 = Int32.ofNat m) (O : ∀ h', Iv h' → Fr [220999] h0 h' → Hst m h0 h' → AW (m_X12_tick (d + 10) 0 0) 0 0 82 [(0, .ref 1), (1, .int x1), (2, .int x2), (3, .int 0)] [] (h_im h' 1 0 ((h_i h' 1 0) + 1)) (kI K)) : ∀ (r j : Nat) (h : Hp_), j + r = m → Iv h → Fr [220999] h0 h → ((∀ l, l < j → h_i h 220 (20001 * l + (h_i h0 1 0).toNatClampNeg) = vp_nar .byte ((h_i h0 209 l).toInt8.toInt32)) ∧ ∀ k, (∀ l, l < j → k ≠ 20001 * l + (h_i h0 1 0).toNatClampNeg) → h_i h 220 k = h_i h0 220 k) → AW (m_X12_tick (d + 10) 0 0) 0 0 34 [(0, .ref 1), (1, .int x1), (2, .int x2), (3, .int (Int32.ofNat j))] [] h (kI K) := by
  have nr := I0.2.1 1 0
  rw [show tf 1 0 = (0, 20000) by decide +kernel] at nr
  have n0 : 0 ≤ (h_i h0 1 0).toInt := nr.1
  have n1 : (h_i h0 1 0).toInt ≤ 20000 := nr.2
  have nn := n_nat n0
  have t2 : (20001 : Int32).toInt = 20001 := rfl
  intro r
  induction r with
  | zero =>
    intro j h ej I F H
    have e7 : h_i h 1 7 = Int32.ofNat m := ((F.2 1 7 (by decide +kernel)).1).trans em
    have ej : j = m := by omega
    subst ej
    exact t_X12_tick_34 d h I.1 x1 x2 _ K ⟨fun _ => O h I F H, fun n => absurd (q_le.mpr (by rw [e7]; exact Int.le_refl _)) n⟩
  | succ r ih =>
    intro j h ej I F H
    have e7 : h_i h 1 7 = Int32.ofNat m := ((F.2 1 7 (by decide +kernel)).1).trans em
    have en : h_i h 1 0 = h_i h0 1 0 := (F.2 1 0 (by decide +kernel)).1
    have kj : (Int32.ofNat j).toNatClampNeg = j := on_k (by omega)
    have oj := on_j (n := j) (by omega)
    have m1 : (20001 * Int32.ofNat j).toInt = 20001 * (j : Int) := by rw [tx_mul (by rw [t2]; omega) (by rw [t2]; omega), t2, oj]
    have m2 : (20001 * Int32.ofNat j + h_i h0 1 0).toInt = 20001 * (j : Int) + (h_i h0 1 0).toInt := by rw [tx_add (by omega) (by omega), m1]
    have nm := n_nat (x := 20001 * Int32.ofNat j + h_i h0 1 0) (by omega)
    have km : (20001 * Int32.ofNat j + h_i h0 1 0).toNatClampNeg = 20001 * j + (h_i h0 1 0).toNatClampNeg := by omega
    have Tt := t_X12_tick_34 d h I.1 x1 x2 (Int32.ofNat j) K
    rw [kj, en, km, on_s (by omega)] at Tt
    refine Tt ⟨fun z => ?_, fun _ => ⟨on_in (by omega) (by decide), dp_in (lo := 0) (hi := 240011) ⟨by show (0 : Int) ≤ _; omega, by show _ ≤ (240011 : Int); omega⟩ (by decide) (by decide), ?_⟩⟩
    · have z := q_le.mp z
      rw [e7, on_j (by omega), on_j (by omega)] at z
      omega
    · refine ih (j + 1) _ (by omega) (i220 I _ _) (F.im (inw_row (by decide +kernel) _)) ⟨fun l hl => ?_, fun k hk => ?_⟩
      · by_cases c : l = j
        · rw [c, im_at, fr_i F (by decide +kernel)]
        · rw [h_i_im, if_neg (fun e => c (by have := e.2; omega))]
          exact H.1 l (by omega)
      · rw [h_i_im, if_neg (fun e => hk j (by omega) e.2)]
        exact H.2 k (fun l hl => hk l (by omega))
/-- the men of a minute -/
theorem mn_lp (P : PMok PM tB (lR lP)) (d : Nat) {x1 x2 : Int32} (K : Int32 → Hp_ → Prop) {h1 : Hp_} (I1 : Iv h1) {m rw : Nat} {s : Pst β} (T : Tkn h1 m rw s) {n0 : Int32} (p0 : 0 ≤ n0.toInt ∧ n0.toInt ≤ 20000) {i : Nat} (i2 : i < 20000) (lc : ∀ j, j < m → ∀ b n f g, (∀ k, k < m → f k = g k) → lP j n f b = lP j n g b) (O : ∀ h', Vn PM lP tB nB h1 m rw n0 s i m h' → AW (m_X12_tick (d + 10) 0 0) 0 0 27 [(0, .ref 1), (1, .int x1), (2, .int (x2 + 1))] [] h' (kI K)) : ∀ (r j : Nat) (h : Hp_), j + r = m → Vn PM lP tB nB h1 m rw n0 s i j h → AW (m_X12_tick (d + 10) 0 0) 0 0 82 [(0, .ref 1), (1, .int x1), (2, .int x2), (3, .int (Int32.ofNat j))] [] h (kI K) := by
  have em := T.2.2.1
  have m12 := T.2.2.2.1
  intro r
  induction r with
  | zero =>
    intro j h ej V
    have e7 : h_i h 1 7 = Int32.ofNat m := ((V.2.1.2 1 7 (by decide +kernel)).1).trans em
    have ej : j = m := by omega
    subst ej
    exact t_X12_tick_82 d h V.1.1 x1 x2 _ K ⟨fun _ => O h V, fun n => absurd (q_le.mpr (by rw [e7]; exact Int.le_refl _)) n⟩
  | succ r ih =>
    intro j h ej V
    have e7 : h_i h 1 7 = Int32.ofNat m := ((V.2.1.2 1 7 (by decide +kernel)).1).trans em
    refine t_X12_tick_82 d h V.1.1 x1 x2 _ K ⟨fun z => ?_, fun _ => Cv.mono (vn_wk P d I1 T p0 i2 V (by omega) (lc j (by omega))) (fun h' V' => ⟨V'.1.1, ?_⟩)⟩
    · have z := q_le.mp z
      rw [e7, on_j (by omega), on_j (by omega)] at z
      omega
    · rw [on_s (by omega)]
      exact ih (j + 1) h' (by omega) V'
theorem mt_lp (P : PMok PM tB (lR lP)) (d : Nat) {x1 : Int32} {h1 : Hp_} (I1 : Iv h1) {m rw : Nat} {s : Pst β} (P2 : PMtk PM nB m) (T : Tkn h1 m rw s) {n0 : Int32} {k1 : Nat} (ex : x1 = Int32.ofNat k1) (k15 : k1 ≤ 1500) (p0 : 0 ≤ n0.toInt ∧ n0.toInt + (k1 : Int) ≤ 20000) (lc : ∀ j, j < m → ∀ b n f g, (∀ k, k < m → f k = g k) → lP j n f b = lP j n g b) (nc : ∀ b n f g, (∀ k, k < m → f k = g k) → nB n f b = nB n g b) : ∀ (r i : Nat) (h : Hp_), i + r = k1 → Un PM lP tB nB h1 m rw n0 s i h → AW (m_X12_tick (d + 10) 0 0) 0 0 27 [(0, .ref 1), (1, .int x1), (2, .int (Int32.ofNat i))] [] h (kI (fun q h' => Un PM lP tB nB h1 m rw n0 s k1 h' ∧ q = h_i h' 1 0)) := by
  have em := T.2.2.1
  have m12 := T.2.2.2.1
  intro r
  induction r with
  | zero =>
    intro i h ei U
    have ei : i = k1 := by omega
    subst ei
    exact t_X12_tick_27 d h U.1.1 x1 _ _ ⟨fun _ => ⟨U, rfl⟩, fun n => absurd (q_le.mpr (by rw [ex]; exact Int.le_refl _)) n⟩
  | succ r ih =>
    intro i h ei U
    obtain ⟨Iu, fu, eu, pm, pr, PMu⟩ := U
    have y1 : (n0 + Int32.ofNat (i + 1)).toInt = n0.toInt + ((i + 1 : Nat) : Int) := by rw [tx_add (by rw [on_j (by omega)]; omega) (by rw [on_j (by omega)]; omega), on_j (by omega)]
    have ys : n0 + Int32.ofNat i + 1 = n0 + Int32.ofNat (i + 1) := by rw [Int32.add_assoc, on_s (by omega)]
    have e7 : h_i h 1 7 = Int32.ofNat m := ((fu.2 1 7 (by decide +kernel)).1).trans em
    refine t_X12_tick_27 d h Iu.1 x1 _ _ ⟨fun z => ?_, fun _ => ?_⟩
    · have z := q_le.mp z
      rw [ex, on_j (by omega), on_j (by omega)] at z
      omega
    · refine mh_lp d _ m12 Iu e7 (fun h' I' F' H' => ?_) m 0 h (by omega) Iu (Fr.rf _ _) ⟨fun l hl => absurd hl (by omega), fun k _ => rfl⟩
      have e0 : h_i h' 1 0 = n0 + Int32.ofNat i := ((F'.2 1 0 (by decide +kernel)).1).trans eu
      rw [e0, ys]
      have I2 : Iv (h_im h' 1 0 (n0 + Int32.ofNat (i + 1))) := I'.im (by rw [show tf 1 0 = (0, 20000) by decide +kernel]; exact ⟨by show (0 : Int) ≤ _; omega, by show _ ≤ (20000 : Int); omega⟩) (by decide)
      refine mn_lp (nB := nB) P d (K := fun q h' => Un PM lP tB nB h1 m rw n0 s k1 h' ∧ q = h_i h' 1 0) I1 T ⟨p0.1, by omega⟩ (i := i) (by omega) lc (fun h2 V => ?_) m 0 (h_im h' 1 0 (n0 + Int32.ofNat (i + 1))) (by omega) ⟨I2, ?_, im_at, fun j hj => ?_, fun k hk => ?_, ?_⟩
      · rw [on_s (by omega)]
        exact ih (i + 1) h2 (by omega) ⟨V.1, V.2.1, V.2.2.1, V.2.2.2⟩
      · exact (fu.tr (F'.more (by decide +kernel))).im (by decide +kernel)
      · refine (pm j hj).cg (fun a ha => ?_)
        have o : off [220999] a = true ∧ a ≠ 1 := by
          simp only [mrL, List.mem_cons, List.not_mem_nil, or_false] at ha
          rcases ha with e | e | e | e | e | e | e | e | e | e | e | e | e | e <;> subst e <;> decide +kernel
        rw [im_ne o.2]
        exact fr_i F' o.1 j
      · rw [im_ne (by decide), im_ne (by decide), im_ne (by decide), fr_i F' (by decide +kernel), fr_i F' (by decide +kernel), fr_i F' (by decide +kernel)]
        exact pr k hk
      · have q := P2 _ h h' (n0 + Int32.ofNat (i + 1)) Iu F' H' PMu
        rw [nc _ _ _ (fun k => (pTk lP tB nB (wI h1) (bL h1) m n0 i s).1 k 5) (fun k hk => (pm k hk).1.2.1), eu] at q
        exact q
/-- tick of the reference -/
def Tkm (PM : β → Hp_ → Prop) (lP : Nat → Int32 → (Nat → Int32) → β → β) (tB : Int32 → Int32 → β → β) (nB : Int32 → (Nat → Int32) → β → β) (m rw : Nat) (s : Pst β) (x : Int32) (h : Hp_) (r : Int32) (h' : Hp_) : Prop := (Iv h' ∧ J2 h' ∧ Fr wsT h h' ∧ otk (h_i h 1 0) x r (h_i h' 1 0)) ∧ (okt (h_i h 1 0) x → h_i h' 1 0 = h_i h 1 0 + x ∧ Fr wtM h h' ∧ PcM PM m rw (pTk lP tB nB (wI h) (bL h) m (h_i h 1 0) x.toNatClampNeg s) h') ∧ (¬ okt (h_i h 1 0) x → h' = h)
theorem c_tkM (P : PMok PM tB (lR lP)) (d : Nat) {h : Hp_} (I : Iv h) (J : J2 h) {m rw : Nat} {s : Pst β} (P2 : PMtk PM nB m) (T : Tkn h m rw s) (pc : PcM PM m rw s h) (lc : ∀ j, j < m → ∀ b n f g, (∀ k, k < m → f k = g k) → lP j n f b = lP j n g b) (nc : ∀ b n f g, (∀ k, k < m → f k = g k) → nB n f b = nB n g b) (x : Int32) : Ci (m_X12_tick (d + 10) 0 0) [.ref 1, .int x] h (Tkm PM lP tB nB m rw s x h) := by
  have nr := I.2.1 1 0
  rw [show tf 1 0 = (0, 20000) by decide +kernel] at nr
  have n0 : 0 ≤ (h_i h 1 0).toInt := nr.1
  have n1 : (h_i h 1 0).toInt ≤ 20000 := nr.2
  have t0 : (0 : Int32).toInt = 0 := rfl
  have t15 : (1500 : Int32).toInt = 1500 := rfl
  have t20 : (20000 : Int32).toInt = 20000 := rfl
  have no : ¬ okt (h_i h 1 0) x → Tkm PM lP tB nB m rw s x h (-1) h := fun n => ⟨⟨I, J, Fr.rf _ _, Or.inr ⟨n, rfl, rfl⟩⟩, fun o => absurd o n, fun _ => rfl⟩
  refine t_X12_tick d h I.1 x _ ⟨fun n => no (fun o => n o.1), fun z => ⟨fun y => ?_, fun n => no (fun o => n (q_le.mpr (by have z1 := q_le.mp z.1; have z2 := q_le.mp z.2; have := o.2; rw [tx_add (by omega) (by omega)]; omega)))⟩⟩
  have z1 := q_le.mp z.1
  have z2 := q_le.mp z.2
  have y := q_le.mp y
  have x0 : 0 ≤ x.toInt := by omega
  have nx := n_nat x0
  have es : (h_i h 1 0 + x).toInt = (h_i h 1 0).toInt + x.toInt := tx_add (by omega) (by omega)
  have ok : okt (h_i h 1 0) x := ⟨z, by omega⟩
  have U0 : Un PM lP tB nB h m rw (h_i h 1 0) s 0 h := ⟨I, Fr.rf _ _, (i_0 _).symm, pc⟩
  refine AW.mono (mt_lp P d I P2 T (of_nat32 x0).symm (by omega) ⟨n0, by omega⟩ lc nc x.toNatClampNeg 0 h (by omega) U0) (fun v h' q => ?_)
  obtain ⟨r, ev, U, er⟩ := q
  have ef : h_i h' 1 0 = h_i h 1 0 + x := by rw [U.2.2.1, of_nat32 x0]
  obtain ⟨X, S, em, m12, r4, own, pi⟩ := T
  have hb : ∀ k x, k < (h_i h 1 42).toNatClampNeg → x ∈ bL h k → stR x := fun k x hk hx => by
    obtain ⟨q, hq, e⟩ := bL_m hx
    rw [e]
    exact S k hk q hq
  have pE := pI_tk (lP := lP) (tB := tB) (nB := nB) (wok I X) hb (bL_hl I _) r4 ⟨n0, n1⟩ m12 x.toNatClampNeg (by omega) pi
  have fw := fr_wb U.2.1
  have J' : J2 h' := j2_of U.1 (((U.2.1.2 1 7 (by decide +kernel)).1).trans em) m12 r4 (w := wI h) (own := own) (by rw [fw.2.1, (U.2.1.2 1 42 (by decide +kernel)).1]; exact pE) U.2.2.2.1
  exact ⟨r, ev, ⟨U.1, J', U.2.1.more (by decide +kernel), Or.inl ⟨ok, er, by rw [ef, es]⟩⟩, fun _ => ⟨ef, U.2.1, U.2.2.2⟩, fun n => absurd ok n⟩
end MEN
/-! MEN: constables come -/
theorem pbU : PBok (fun (_ : Unit) (_ : Hp_) => True) (fun _ _ b => b) (fun _ _ b => b) := ⟨fun _ _ _ _ _ _ _ => trivial, fun _ _ _ _ _ _ => trivial, fun d b h x1 x2 I p _ => Ct.mono (hc_X4_tellNoted d [.int x2, .int x1, .ref 17] h ⟨⟨x2, rfl, ⟨p.1, p.2⟩, fun _ y => (nomatch y)⟩, ⟨x1, rfl, rtop_in _, fun _ y => (nomatch y)⟩, rfl, trivial⟩ I (fun _ y => (nomatch y))) (fun v h' k => ⟨k.2.2.2, k.1, Fr.more (by decide +kernel) k.2.1, trivial⟩), fun d b h c I hc _ => by
  have c1 := hc.1
  have c2 := hc.2.1
  have mm := menX_in I
  have m1 : 1 ≤ (h_i h 0 7).toInt := by
    refine Decidable.byContradiction (fun n => ?_)
    have z := I.2.2.2.2.2.2.1 (c - 401) (by omega) (by omega)
    rw [show 401 + (c - 401) = c by omega, hc.2.2] at z
    cases z
  exact Ct.mono (hc_X11_look d [.ref c, .ref 0] h ⟨⟨c, rfl, hc⟩, rfl, trivial⟩ I (fun q hq => by
    rcases List.mem_cons.mp hq with e | e
    · subst e; exact ⟨m1, mm.2⟩
    · cases e)) (fun v h' k => ⟨k.2.2.2, k.1, k.2.1, trivial⟩)⟩
theorem fr_42 (d : Nat) {x1 : Int32} : ∀ (r : Nat) (x2 : Int32) {h0 h2 : Hp_}, 0 ≤ x2.toInt → 300 - x2.toInt ≤ r → Iv h2 → Fr [260999] h0 h2 → AW (m_X12_free (d + 0) 0 0) 0 0 42 [(0, .ref 1), (1, .int x1), (2, .int x2)] [] h2 (kV (fun h' => Iv h' ∧ Fr [260999] h0 h' ∧ True))
  | 0, x2, h0, h2, p2, m2, I2, F => by
    have sm := I2.2.1 1 80
    rw [show tf 1 80 = (0, 300) by decide +kernel] at sm
    have s1 : (h_i h2 1 80).toInt ≤ 300 := sm.2
    refine t_X12_free_42 d h2 I2.1 x1 x2 _ ⟨fun _ => ⟨I2, F, trivial⟩, fun z => ?_⟩
    have z := q_nle z
    omega
  | r + 1, x2, h0, h2, p2, m2, I2, F => by
    have t1 : (1 : Int32).toInt = 1 := rfl
    have sm := I2.2.1 1 80
    rw [show tf 1 80 = (0, 300) by decide +kernel] at sm
    have s1 : (h_i h2 1 80).toInt ≤ 300 := sm.2
    refine t_X12_free_42 d h2 I2.1 x1 x2 _ ⟨fun _ => ⟨I2, F, trivial⟩, fun z => ?_⟩
    have z := q_nle z
    have v2 : vp_in x2 300 := dp_in (lo := 0) (hi := 299) ⟨p2, by show _ ≤ (299 : Int); omega⟩ (by decide) (by decide)
    have ex : (x2 + 1).toInt = x2.toInt + 1 := tx_add (by rw [t1]; omega) (by rw [t1]; omega)
    have go := fr_42 d (x1 := x1) r (x2 + 1) (by omega) (by omega) I2 F
    exact ⟨v2, fun _ => go, fun _ => ⟨v2, fun _ => go, fun _ => ⟨v2, fun _ => go, fun _ => ⟨v2, fr_42 d r (x2 + 1) (by omega) (by omega) (i260 I2 _ _) (F.im (inw_row (by decide +kernel) _))⟩⟩⟩⟩
theorem pmU : PMok (fun (_ : Unit) (_ : Hp_) => True) (fun _ _ b => b) (fun _ _ b => b) := ⟨fun _ _ _ _ _ _ _ => trivial, fun _ _ _ _ _ => trivial, fun d b h x1 I _ _ => fr_42 d 300 0 (by decide) (by decide) I (Fr.rf _ _), fun d b h x1 I p _ => Ct.mono (hc_X12_see (d + 1) [.int x1, .ref 1] h ⟨⟨x1, rfl, ⟨p.1, p.2⟩, fun _ y => (nomatch y)⟩, rfl, trivial⟩ I (fun _ y => (nomatch y))) (fun v h' k => ⟨k.2.2.2, k.1, k.2.1, trivial⟩)⟩
/-- a man who has just come -/
def nMn (m x1 x2 x3 : Int32) : Nat → Int32 := up1 (up1 (up1 (up1 (up1 (up1 (up1 (up1 (up1 (fun _ => 0) 4 0) 5 (-1)) 6 (-1)) 7 (-1)) 0 m) 1 x1) 2 x2) 3 x3) 5 x3
theorem c_mi2 (d : Nat) (h : Hp_) (a : Nat) (x1 x2 x3 x4 : Int32) (hs : h_sh h a = some (12, 17)) : Cv (m_X2_init (d + 1) 0 0) [.ref a, .int x1, .int x2, .int x3, .int x4] h (fun h' => h_sh h' = h_sh h ∧ h_r h' = h_r h ∧ (∀ b k, b ≠ a → h_i h' b k = h_i h b k) ∧ h_i h' a 0 = x1 ∧ h_i h' a 1 = x2 ∧ h_i h' a = up1 (up1 (up1 (up1 (up1 (up1 (up1 (up1 (h_i h a) 4 0) 5 (-1)) 6 (-1)) 7 (-1)) 0 x1) 1 x2) 2 x3) 3 x4) := by
  refine Ct.of (fun _ _ _ => trivial) rfl (Nat.le_of_ble_eq_true rfl) ?_
  show AW (m_X2_init (d + 1) 0 0) 0 0 0 [(0, .ref a), (1, .int x1), (2, .int x2), (3, .int x3), (4, .int x4)] [] h (kV _)
  refine aw_aload_n (i := 0) rfl d_X2_init_0 0 rfl ?_
  refine aw_objInit (rest := []) d_X2_init_1 tw_570 tw_33 tw_34 (show 1 ≤ d + 1 by omega) (show 0 + 12 ≤ 100 * (d + 1) by omega) ?_
  refine aw_aload_n (i := 0) rfl d_X2_init_4 0 rfl ?_
  refine aw_iconst (v := 0) d_X2_init_5 ic_0 ?_
  refine aw_puti (k0 := 4) kc_2 hs (Nat.le_of_ble_eq_true rfl) tw_580 d_X2_init_6 rfl rfl nf_i ?_
  refine aw_aload_n (i := 0) rfl d_X2_init_9 0 rfl ?_
  refine aw_iconst (v := (-1)) d_X2_init_10 ic_m1 ?_
  refine aw_puti (k0 := 5) kc_2 hs (Nat.le_of_ble_eq_true rfl) tw_582 d_X2_init_11 rfl rfl nf_i ?_
  refine aw_aload_n (i := 0) rfl d_X2_init_14 0 rfl ?_
  refine aw_iconst (v := (-1)) d_X2_init_15 ic_m1 ?_
  refine aw_puti (k0 := 6) kc_2 hs (Nat.le_of_ble_eq_true rfl) tw_584 d_X2_init_16 rfl rfl nf_i ?_
  refine aw_aload_n (i := 0) rfl d_X2_init_19 0 rfl ?_
  refine aw_iconst (v := (-1)) d_X2_init_20 ic_m1 ?_
  refine aw_puti (k0 := 7) kc_2 hs (Nat.le_of_ble_eq_true rfl) tw_586 d_X2_init_21 rfl rfl nf_i ?_
  refine aw_aload_n (i := 0) rfl d_X2_init_24 0 rfl ?_
  refine aw_iload_n (i := 1) rfl d_X2_init_25 1 rfl ?_
  refine aw_putiF (k0 := 0) kc_2 hs (Nat.le_of_ble_eq_true rfl) tw_571 d_X2_init_26 rfl rfl rfl rfl nf_i ?_
  refine aw_aload_n (i := 0) rfl d_X2_init_29 0 rfl ?_
  refine aw_iload_n (i := 2) rfl d_X2_init_30 2 rfl ?_
  refine aw_putiF (k0 := 1) kc_2 hs (Nat.le_of_ble_eq_true rfl) tw_574 d_X2_init_31 rfl rfl rfl rfl nf_i ?_
  refine aw_aload_n (i := 0) rfl d_X2_init_34 0 rfl ?_
  refine aw_iload_n (i := 3) rfl d_X2_init_35 3 rfl ?_
  refine aw_putiF (k0 := 2) kc_2 hs (Nat.le_of_ble_eq_true rfl) tw_576 d_X2_init_36 rfl rfl rfl rfl nf_i ?_
  refine aw_aload_n (i := 0) rfl d_X2_init_39 0 rfl ?_
  refine aw_iload d_X2_init_40 4 rfl ?_
  refine aw_putiF (k0 := 3) kc_2 hs (Nat.le_of_ble_eq_true rfl) tw_578 d_X2_init_42 rfl rfl rfl rfl nf_i ?_
  refine aw_vret rfl d_X2_init_45 ⟨Nat.le_refl _, Nat.le_refl _⟩ ⟨rfl, rfl, rfl, fun b k hb => ?_, ?_, ?_, by rw [im_row, im_row, im_row, im_row, im_row, im_row, im_row, im_row]⟩
  · rw [hi_n _ _ _ _ _ _ hb, hi_n _ _ _ _ _ _ hb, hi_n _ _ _ _ _ _ hb, hi_n _ _ _ _ _ _ hb, hi_n _ _ _ _ _ _ hb, hi_n _ _ _ _ _ _ hb, hi_n _ _ _ _ _ _ hb, hi_n _ _ _ _ _ _ hb]
  · rw [h_i_im, if_neg (fun y => absurd y.2 (by decide)), h_i_im, if_neg (fun y => absurd y.2 (by decide)), h_i_im, if_neg (fun y => absurd y.2 (by decide)), h_i_im, if_pos ⟨rfl, rfl⟩]
  · rw [h_i_im, if_neg (fun y => absurd y.2 (by decide)), h_i_im, if_neg (fun y => absurd y.2 (by decide)), h_i_im, if_pos ⟨rfl, rfl⟩]
/-- what constable leaves, in all -/
def CyA (x1 x2 x3 : Int32) (h h' : Hp_) : Prop := (okc (h_i h 0 7) x1 x2 x3 → h_i h' (401 + (h_i h 0 7).toNatClampNeg) = nMn (h_i h 0 7) x1 x2 x3 ∧ (∀ a, a ≠ 401 + (h_i h 0 7).toNatClampNeg → a ≠ 0 → h_i h' a = h_i h a) ∧ ∀ k, k ≠ 7 → h_i h' 0 k = h_i h 0 k) ∧ (¬ okc (h_i h 0 7) x1 x2 x3 → h' = h)
theorem c_put2 (d : Nat) {h : Hp_} (I : Iv h) {c : Nat} (hc : Cn h c) (x2 : Int32) : Cv (m_X11_putAt (d + 0) 0 0) [.ref 0, .ref c, .int x2] h (fun h' => Iv h' ∧ Fr wz_X11_putAt h h' ∧ h_i h' c = up1 (h_i h c) 5 x2 ∧ (∀ a, a ≠ c → h_i h' a = h_i h a)) := by
  have c1 := hc.1
  have c2 := hc.2.1
  have w5 : inw wz_X11_putAt c 5 = true := by
    have e : cn c = cn 401 := by
      rw [show c = 401 + (c - 401) by omega]
      exact (cn_man (by omega)).trans (by decide)
    rw [inw_ce e]
    decide +kernel
  refine t_X11_putAt d h I.1 c hc.2.2 (by omega) x2 _ ⟨fun n => ?_, fun e => ?_⟩
  · exact ⟨(mIv I hc.1 hc.2.1 5 x2).lm, ((Fr.rf _ _).im w5).lm (by decide +kernel), im_row h c 5 x2, fun a n => im_oth n⟩
  · exact ⟨(mIv I hc.1 hc.2.1 5 x2).lm, ((Fr.rf _ _).im w5).lm (by decide +kernel), im_row h c 5 x2, fun a n => im_oth n⟩
theorem c_con2 (d : Nat) {h : Hp_} (I : Iv h) (x1 x2 x3 : Int32) : Ci (m_X11_constable (d + 2) 1 17) [.ref 0, .int x1, .int x2, .int x3] h (fun r h' => Cy x1 x2 x3 h r h' ∧ CyA x1 x2 x3 h h') := by
  have w := I.1
  have t12 : (12 : Int32).toInt = 12 := rfl
  have er : rin (h_i h 0 7).toInt (0, 12) := by
    have := I.2.1 0 7
    rwa [show tf 0 7 = (0, 12) by decide +kernel] at this
  have er0 : 0 ≤ (h_i h 0 7).toInt := er.1
  have bad : ¬ okc (h_i h 0 7) x1 x2 x3 → ∀ lv, AW (m_X11_constable (d + 2) 1 17) 0 0 47 lv [] h (kI (fun r h' => Cy x1 x2 x3 h r h' ∧ CyA x1 x2 x3 h h')) := fun no lv => by
    refine aw_iconst (v := (-1)) d_X11_constable_47 ic_m1 ?_
    exact aw_iret rfl d_X11_constable_48 ⟨Nat.le_of_ble_eq_true rfl, Nat.le_of_ble_eq_true rfl⟩ ⟨_, rfl, ⟨Cx.rf I, Or.inr ⟨no, rfl, rfl⟩, id, fun o => absurd o no, fun _ _ => ⟨rfl, fun _ _ _ => rfl⟩⟩, fun o => absurd o no, fun _ => rfl⟩
  have no : ¬ okc (h_i h 0 7) x1 x2 x3 → AW (m_X11_constable (d + 2) 1 17) 0 0 30 [(0, .ref 0), (1, .int x1), (2, .int x2), (3, .int x3)] [] h (kI (fun r h' => Cy x1 x2 x3 h r h' ∧ CyA x1 x2 x3 h h')) := fun no => by
    refine aw_iconst (v := 0) d_X11_constable_30 ic_0 ?_
    refine aw_istore [(0, .ref 0), (1, .int x1), (2, .int x2), (3, .int x3), (4, .int 0)] d_X11_constable_31 (Nat.le_of_ble_eq_true rfl) rfl rfl ?_
    refine aw_iload d_X11_constable_33 4 rfl ?_
    refine aw_if_eq (tgt := 47) d_X11_constable_35 rfl (fun _ => bad no _) (fun z => absurd rfl z)
  have rr2 : ∀ {y : MethodName} {cc : ByteArray} {nL : Nat} {ret : Option FieldType}, nL ≤ 81 → rr_ (fun _ _ _ => True, y, cc, nL, ret, { frames := d + 0, cells := 0, slots := 0, locals := 100 * (d + 0) }) (m_X11_constable (d + 2) 1 17) 0 0 := fun {y cc nL ret} hn => ⟨⟨show d + 0 + 1 ≤ d + 2 by omega, show 8 + (nL + 11) + 100 * (d + 0) ≤ 100 * (d + 2) by omega⟩, Nat.zero_le _, Nat.zero_le _⟩
  refine Ct.of (fun _ _ _ => trivial) rfl (Nat.le_of_ble_eq_true rfl) ?_
  show AW (m_X11_constable (d + 2) 1 17) 0 0 0 [(0, .ref 0), (1, .int x1), (2, .int x2), (3, .int x3)] [] h (kI (fun r h' => Cy x1 x2 x3 h r h' ∧ CyA x1 x2 x3 h h'))
  refine aw_iload_n (i := 1) rfl d_X11_constable_0 1 rfl ?_
  refine aw_iconst (v := 1) d_X11_constable_1 ic_1 ?_
  refine aw_iconst (v := 4) d_X11_constable_2 ic_4 ?_
  refine aw_Si [.int x1, .int 1, .int 4] [] d_X11_constable_3 (cS_X11_within (d + 0) 0 0) tw_543 rfl (rr2 (Nat.le_of_ble_eq_true rfl)) (by decide) xs0 (s_X11_within _ _ x1 1 4) (fun _ _ kk => ?_)
  obtain ⟨e1, e2⟩ := kk
  rw [e1, e2]
  refine aw_ifb_eq (tgt := 30) d_X11_constable_6 rfl (fun z => no (fun o => z o.1)) (fun c1 => ?_)
  refine aw_iload_n (i := 2) rfl d_X11_constable_9 2 rfl ?_
  refine aw_iconst (v := 0) d_X11_constable_10 ic_0 ?_
  refine aw_bipush (v := 40) d_X11_constable_11 ib_40 ?_
  refine aw_Si [.int x2, .int 0, .int 40] [] d_X11_constable_13 (cS_X11_within (d + 0) 0 0) tw_543 rfl (rr2 (Nat.le_of_ble_eq_true rfl)) (by decide) xs0 (s_X11_within _ _ x2 0 40) (fun _ _ kk => ?_)
  obtain ⟨e1, e2⟩ := kk
  rw [e1, e2]
  refine aw_ifb_eq (tgt := 30) d_X11_constable_16 rfl (fun z => no (fun o => z o.2.1)) (fun c2 => ?_)
  refine aw_iload_n (i := 3) rfl d_X11_constable_19 3 rfl ?_
  refine aw_Si [.int x3] [] d_X11_constable_20 (cS_X11_isPlace (d + 0) 0 0) tw_540 rfl (rr2 (Nat.le_of_ble_eq_true rfl)) (by decide) xs0 (s_X11_isPlace _ _ x3) (fun _ _ kk => ?_)
  obtain ⟨e1, e2⟩ := kk
  rw [e1, e2]
  refine aw_ifb_eq (tgt := 30) d_X11_constable_23 rfl (fun z => no (fun o => z o.2.2.1)) (fun c3 => ?_)
  refine aw_iconst (v := 1) d_X11_constable_26 ic_1 ?_
  refine aw_goto (tgt := 31) d_X11_constable_27 rfl ?_
  refine aw_istore [(0, .ref 0), (1, .int x1), (2, .int x2), (3, .int x3), (4, .int 1)] d_X11_constable_31 (Nat.le_of_ble_eq_true rfl) rfl rfl ?_
  refine aw_iload d_X11_constable_33 4 rfl ?_
  refine aw_if_eq (tgt := 47) d_X11_constable_35 rfl (fun z => absurd z (by decide)) (fun _ => ?_)
  refine aw_aload_n (i := 0) rfl d_X11_constable_38 0 rfl ?_
  refine aw_geti (k0 := 7) kc_11 (ws_0 w) (Nat.le_of_ble_eq_true rfl) tw_494 d_X11_constable_39 rfl ?_
  refine aw_bipush (v := 12) d_X11_constable_42 ib_12 ?_
  refine aw_icmp_lt (tgt := 49) d_X11_constable_44 rfl (fun z => ?_) (fun z => bad (fun o => z o.2.2.2) _)
  have ok : okc (h_i h 0 7) x1 x2 x3 := ⟨c1, c2, c3, z⟩
  have z := q_lt.mp z
  obtain ⟨j, ej, hj⟩ : ∃ j : Nat, h_i h 0 7 = Int32.ofNat j ∧ j < 12 := ⟨(h_i h 0 7).toInt.toNat, by
    refine Int32.toInt_inj.mp ?_
    rw [on_i (by omega)]
    omega, by omega⟩
  have oj := on_i (n := j) (by omega)
  have cj := on_c (n := j) (by omega)
  have fr : h_sh h (401 + j) = none := I.2.2.2.2.2.2.1 j hj (by rw [ej, oj]; exact Int.le_refl _)
  refine aw_new (ci := 2) (401 + j) kc_2 tw_144 tw_566 tw_15 fr (by omega) xs0 (Nat.le_of_ble_eq_true rfl) (Nat.le_of_ble_eq_true rfl) d_X11_constable_49 ?_
  have s1 : h_sh (h_nw h (401 + j) (2 + 10) 17) (401 + j) = some (12, 17) := by rw [y_sh, if_pos rfl]
  have s0 : h_sh (h_nw h (401 + j) (2 + 10) 17) 0 = some (21, 16) := by rw [y_sh, if_neg (by omega)]; exact ws_0 w
  refine aw_dup d_X11_constable_52 rfl ?_
  refine aw_aload_n (i := 0) rfl d_X11_constable_53 0 rfl ?_
  refine aw_geti (k0 := 7) kc_11 s0 (Nat.le_of_ble_eq_true rfl) tw_494 d_X11_constable_54 rfl ?_
  refine aw_iload_n (i := 1) rfl d_X11_constable_57 1 rfl ?_
  refine aw_iload_n (i := 2) rfl d_X11_constable_58 2 rfl ?_
  refine aw_iload_n (i := 3) rfl d_X11_constable_59 3 rfl ?_
  refine aw_callI (vs := [.int (h_i (h_nw h (401 + j) (2 + 10) 17) 0 7), .int x1, .int x2, .int x3]) (a := 401 + j) (rest := [.ref (401 + j)]) d_X11_constable_60 (cI_X2_init (d + 1) 0 0) ⟨rfl, rfl⟩ tw_568 tw_567 rfl ⟨show d + 1 + 1 ≤ d + 2 by omega, show 8 + (5 + 11) + 100 * (d + 1) ≤ 100 * (d + 2) by omega⟩ (Nat.le_of_ble_eq_true rfl) ⟨Nat.le_of_ble_eq_true rfl, Nat.le_of_ble_eq_true rfl⟩ xs0 (c_mi2 d _ (401 + j) _ x1 x2 x3 s1) (fun v h2 kk => ?_)
  obtain ⟨ev, s2, r2, i2, n2, q2, a2⟩ := kk
  rw [ev]
  have sA : ∀ a, h_sh h2 a = if a = 401 + j then some (12, 17) else h_sh h a := fun a => by rw [s2, y_sh]
  have iA : ∀ a k, a ≠ 401 + j → h_i h2 a k = h_i h a k := fun a k ha => by rw [i2 a k ha, y_i, if_neg ha]
  have rA : ∀ a k, a ≠ 401 + j → h_r h2 a k = h_r h a k := fun a k ha => by rw [r2, y_r, if_neg ha]
  have w20 : h_sh h2 0 = some (21, 16) := by rw [sA, if_neg (by omega)]; exact ws_0 w
  have w215 : h_sh h2 15 = some (4, 12) := by rw [sA, if_neg (by omega)]; exact ws_15 w
  have w2r : h_r h2 0 6 = some 15 := by rw [rA 0 6 (by omega)]; exact wr_0_6 w
  have w2s : h_sh h2 (401 + j) = some (12, 17) := by rw [sA, if_pos rfl]
  have e7 : h_i h2 0 7 = Int32.ofNat j := by rw [iA 0 7 (by omega)]; exact ej
  refine aw_astore [(0, .ref 0), (1, .int x1), (2, .int x2), (3, .int x3), (4, .int 1), (5, .ref (401 + j))] d_X11_constable_63 (Nat.le_of_ble_eq_true rfl) rfl rfl ?_
  refine aw_aload_n (i := 0) rfl d_X11_constable_65 0 rfl ?_
  refine aw_getr (k0 := 6) kc_11 w20 (Nat.le_of_ble_eq_true rfl) tw_493 d_X11_constable_66 rfl w2r ?_
  refine aw_aload_n (i := 0) rfl d_X11_constable_69 0 rfl ?_
  refine aw_geti (k0 := 7) kc_11 w20 (Nat.le_of_ble_eq_true rfl) tw_494 d_X11_constable_70 rfl ?_
  refine aw_vi (v2 := Int32.ofNat j) e7 ?_
  refine aw_aload d_X11_constable_73 5 rfl ?_
  refine aw_aast w215 (dp_in (lo := 0) (hi := 11) ⟨by show (0 : Int) ≤ _; omega, by show _ ≤ (11 : Int); omega⟩ (by decide) (by decide)) w2s d_X11_constable_75 ?_
  rw [cj]
  refine aw_aload_n (i := 0) rfl d_X11_constable_76 0 rfl ?_
  refine aw_dup d_X11_constable_77 rfl ?_
  refine aw_geti (k0 := 7) kc_11 (h := h_rm h2 15 j (some (401 + j))) w20 (Nat.le_of_ble_eq_true rfl) tw_494 d_X11_constable_78 rfl ?_
  refine aw_iconst (v := 1) d_X11_constable_81 ic_1 ?_
  refine aw_iadd d_X11_constable_82 ?_
  have t1 : (1 : Int32).toInt = 1 := rfl
  refine aw_vi (v2 := Int32.ofNat (j + 1)) (by
    show h_i h2 0 7 + 1 = _
    rw [e7]
    refine Int32.toInt_inj.mp ?_
    rw [tx_add (by rw [t1]; omega) (by rw [t1]; omega), oj, t1, on_i (by omega)]
    omega) ?_
  refine aw_puti (k0 := 7) kc_11 (h := h_rm h2 15 j (some (401 + j))) w20 (Nat.le_of_ble_eq_true rfl) tw_494 d_X11_constable_83 rfl rfl nf_i ?_
  have I4 : Iv (h_im (h_rm h2 15 j (some (401 + j))) 0 7 (Int32.ofNat (j + 1))) := by
    refine Iv_man I hj ej (fun a => sA a) (fun a k ha hk => ?_) (by rw [h_i_im, if_pos ⟨rfl, rfl⟩]) (fun a k ha hk => ?_) ?_
    · rw [h_i_im, if_neg hk]; exact iA a k ha
    · show h_r (h_rm h2 15 j (some (401 + j))) a k = _
      rw [h_r_rm, if_neg hk]; exact rA a k ha
    · show h_r (h_rm h2 15 j (some (401 + j))) 15 j = _
      rw [h_r_rm, if_pos ⟨rfl, rfl⟩]
  have x4 : Cx h (h_im (h_rm h2 15 j (some (401 + j))) 0 7 (Int32.ofNat (j + 1))) := by
    refine ⟨I4, ⟨fun k => ?_, fun a h1 h2' k => ?_, ?_, fun a k ha hw => ?_⟩, ?_, fun c N hc hN => ?_⟩
    · rw [h_i_im, if_neg (fun y => absurd y.1 (by decide))]; exact iA 1 k (by omega)
    · rw [h_i_im, if_neg (fun y => by omega)]; exact iA a k (by omega)
    · show h_sh h2 2 = _
      rw [sA, if_neg (by omega)]
    · have na : a ≠ 401 + j := fun y => by rw [y, inw_ce (b := 401) ((cn_man hj).trans (by decide)), inw_row (a := 401) (by decide +kernel) k] at hw; cases hw
      refine ⟨by rw [h_i_im, if_neg (fun y => by rw [y.1, y.2] at hw; exact absurd hw (by decide +kernel))]; exact iA a k na, ?_⟩
      show h_r (h_rm h2 15 j (some (401 + j))) a k = _
      rw [h_r_rm, if_neg (fun y => by rw [y.1, inw_row (a := 15) (by decide +kernel) k] at hw; cases hw)]
      exact rA a k na
    · show h_r (h_rm h2 15 j (some (401 + j))) 0 15 = _
      rw [h_r_rm, if_neg (fun y => absurd y.1 (by decide))]; exact rA 0 15 (by omega)
    · show h_sh h2 c = _
      rw [sA, if_neg (fun y => by rw [y, fr] at hN; cases hN)]; exact hN
  have cn4 : Cn (h_im (h_rm h2 15 j (some (401 + j))) 0 7 (Int32.ofNat (j + 1))) (401 + j) := ⟨by omega, by omega, w2s⟩
  have m4 : h_i (h_im (h_rm h2 15 j (some (401 + j))) 0 7 (Int32.ofNat (j + 1))) 0 7 = h_i h 0 7 + 1 := by
    rw [h_i_im, if_pos ⟨rfl, rfl⟩, ej]
    refine Int32.toInt_inj.mp ?_
    rw [tx_add (by rw [t1]; omega) (by rw [t1]; omega), oj, t1, on_i (by omega)]
    omega
  have n4 : h_i (h_im (h_rm h2 15 j (some (401 + j))) 0 7 (Int32.ofNat (j + 1))) (401 + j) 0 = h_i h 0 7 := by
    rw [h_i_im, if_neg (fun y => by omega)]
    show h_i h2 (401 + j) 0 = _
    rw [n2, y_i, if_neg (by omega)]
  have q4 : h_i (h_im (h_rm h2 15 j (some (401 + j))) 0 7 (Int32.ofNat (j + 1))) (401 + j) 1 = x1 := by
    rw [h_i_im, if_neg (fun y => by omega)]
    exact q2
  have i4 : ∀ k f, k ≠ j → h_i (h_im (h_rm h2 15 j (some (401 + j))) 0 7 (Int32.ofNat (j + 1))) (401 + k) f = h_i h (401 + k) f := fun k f ne => by
    rw [h_i_im, if_neg (fun y => by omega)]
    exact iA (401 + k) f (by omega)
  have r4 : ∀ k, h_r (h_im (h_rm h2 15 j (some (401 + j))) 0 7 (Int32.ofNat (j + 1))) 15 k = if k = j then some (401 + j) else h_r h 15 k := fun k => by
    show h_r (h_rm h2 15 j (some (401 + j))) 15 k = _
    rw [h_r_rm]
    by_cases e : k = j
    · rw [if_pos ⟨rfl, e⟩, if_pos e]
    · rw [if_neg (fun y => e y.2), if_neg e]; exact rA 15 k (by omega)
  have a4 : h_i (h_im (h_rm h2 15 j (some (401 + j))) 0 7 (Int32.ofNat (j + 1))) (401 + j) = up1 (up1 (up1 (up1 (up1 (up1 (up1 (up1 (fun _ => 0) 4 0) 5 (-1)) 6 (-1)) 7 (-1)) 0 (h_i h 0 7)) 1 x1) 2 x2) 3 x3 := by
    rw [im_oth (by omega)]
    show h_i h2 (401 + j) = _
    rw [a2, y_i, if_pos rfl, y_i, if_neg (by omega)]
  have b4 : ∀ a, a ≠ 401 + j → a ≠ 0 → h_i (h_im (h_rm h2 15 j (some (401 + j))) 0 7 (Int32.ofNat (j + 1))) a = h_i h a := fun a n1 n2 => by
    rw [im_oth n2]
    exact funext (fun k => iA a k n1)
  have d4 : ∀ k, k ≠ 7 → h_i (h_im (h_rm h2 15 j (some (401 + j))) 0 7 (Int32.ofNat (j + 1))) 0 k = h_i h 0 k := fun k n => by
    rw [h_i_im, if_neg (fun y => n y.2)]
    exact iA 0 k (by omega)
  generalize h_im (h_rm h2 15 j (some (401 + j))) 0 7 (Int32.ofNat (j + 1)) = h4 at I4 x4 cn4 m4 n4 r4 q4 i4 a4 b4 d4 ⊢
  refine aw_aload_n (i := 0) rfl d_X11_constable_86 0 rfl ?_
  refine aw_aload d_X11_constable_87 5 rfl ?_
  refine aw_iload_n (i := 3) rfl d_X11_constable_89 3 rfl ?_
  refine aw_Vv 0 [.ref (401 + j), .int x3] [] d_X11_constable_90 (cV_X11_putAt (d + 0) 0 0) kc_11 (ws_0 I4.1) tw_634 rfl ⟨⟨show d + 0 + 1 ≤ d + 2 by omega, show 8 + (_ + 11) + 100 * (d + 0) ≤ 100 * (d + 2) from Nat.le_trans (Nat.add_le_add_right (Nat.le_of_ble_eq_true rfl : 8 + (_ + 11) ≤ 200) _) (by omega)⟩, Nat.le_of_ble_eq_true rfl, Nat.le_of_ble_eq_true rfl⟩ (Nat.le_of_ble_eq_true rfl) xs0 (c_put2 d I4 cn4 x3) (fun h5 kv => ?_)
  refine aw_aload d_X11_constable_93 5 rfl ?_
  refine aw_geti (k0 := 0) kc_2 (Cn_fr kv.2.1 cn4).2.2 (Nat.le_of_ble_eq_true rfl) tw_573 d_X11_constable_95 rfl ?_
  refine aw_iret rfl d_X11_constable_98 ⟨Nat.le_of_ble_eq_true rfl, Nat.le_of_ble_eq_true rfl⟩ ⟨_, rfl, ⟨x4.fr kv.1 kv.2.1 (by decide +kernel), Or.inl ⟨ok, by rw [(kv.2.1.2 (401 + j) 0 (by rw [inw_ce (b := 401) ((cn_man hj).trans (by decide))]; decide +kernel)).1]; exact n4, by rw [(kv.2.1.2 0 7 (by decide +kernel)).1]; exact m4⟩, fun mn k hk hm => ?_, fun _ => ?_, fun k hk => ⟨?_, fun l f lf => ?_⟩⟩, fun _ => ?_, fun y => absurd ok y⟩
  · rw [(kv.2.1.2 0 7 (by decide +kernel)).1, m4, ej, tx_add (by rw [t1, oj]; omega) (by rw [t1, oj]; omega), oj, t1] at hm
    rw [(kv.2.1.2 15 k (off_inw (by decide +kernel) k)).2.2, r4]
    by_cases e : k = j
    · rw [if_pos e]; exact fun y => by cases y
    · rw [if_neg e]; exact mn k hk (by rw [ej, oj]; omega)
  · rw [ej, cj, (kv.2.1.2 15 j (off_inw (by decide +kernel) j)).2.2, r4, if_pos rfl, (kv.2.1.2 (401 + j) 0 (by rw [inw_ce (b := 401) ((cn_man hj).trans (by decide))]; decide +kernel)).1, (kv.2.1.2 (401 + j) 1 (by rw [inw_ce (b := 401) ((cn_man hj).trans (by decide))]; decide +kernel)).1, n4, q4]
    exact ⟨rfl, ej, rfl⟩
  · have nk : k ≠ j := fun e => hk.elim (fun y => y (by rw [ej, cj]; exact e)) (fun y => y ok)
    rw [(kv.2.1.2 15 k (off_inw (by decide +kernel) k)).2.2, r4, if_neg nk]
  · have nk : k ≠ j := fun e => hk.elim (fun y => y (by rw [ej, cj]; exact e)) (fun y => y ok)
    have z : inw wz_X11_putAt (401 + k) f = false := by
      rw [inw_ce (b := 401) ((cn_man l).trans (by decide))]
      have zz : (List.range 4).all (fun f => !inw wz_X11_putAt 401 f) = true := by decide +kernel
      have y := List.all_eq_true.mp zz f (List.mem_range.mpr (by omega))
      rw [Bool.not_eq_true'] at y
      exact y
    rw [(kv.2.1.2 (401 + k) f z).1]
    exact i4 k f nk
  · rw [ej, cj]
    refine ⟨?_, fun a n1 n2 => ?_, fun k n => ?_⟩
    · rw [kv.2.2.1, a4, ej]
      rfl
    · rw [kv.2.2.2 a n1, b4 a n1 n2]
    · rw [kv.2.2.2 0 (by omega), d4 k n]
def wcM : List Nat := [1007, 204999, 205999, 206999, 207999, 208999, 209999, 210999, 211999, 213999, 215999, 216999, 217999]
/-- what the reference's constable leaves, in all -/
def CwA (x1 x2 x3 : Int32) (h h' : Hp_) : Prop := (okm (h_i h 1 7) x1 x2 x3 → RMp (h_i h 1 7).toNatClampNeg (nMn (h_i h 1 7) x1 x2 x3) h' ∧ (h_i h' 205 (h_i h 1 7).toNatClampNeg = x2 ∧ h_i h' 207 (h_i h 1 7).toNatClampNeg = h_i h 1 0) ∧ Fr wcM h h' ∧ ∀ a k, a ≠ 1 → k ≠ (h_i h 1 7).toNatClampNeg → h_i h' a k = h_i h a k) ∧ (¬ okm (h_i h 1 7) x1 x2 x3 → h' = h)
theorem m_con2 (d : Nat) {h : Hp_} (I : Iv h) (J : J2 h) (x1 x2 x3 : Int32) : Ci (m_X12_constable (d + 2) 0 0) [.ref 1, .int x1, .int x2, .int x3] h (fun r h' => Iv h' ∧ J2 h' ∧ Sn h h' ∧ ocm (h_i h 1 7) x1 x2 x3 r (h_i h' 1 7) ∧ Cw (okm (h_i h 1 7) x1 x2 x3) (h_i h 1 7) x1 h h' ∧ CwA x1 x2 x3 h h') := by
  have t0 : (0 : Int32).toInt = 0 := rfl
  have t1 : (1 : Int32).toInt = 1 := rfl
  have t12 : (12 : Int32).toInt = 12 := rfl
  have m0 : 0 ≤ (h_i h 1 7).toInt := (men_in I).1
  have m1 : (h_i h 1 7).toInt ≤ 12 := (men_in I).2
  refine t_X12_constable d h I.1 x1 x2 x3 _ ⟨fun n => ⟨I, J, Fr.rf _ _, Or.inr ⟨fun o => n o.1, rfl, rfl⟩, ⟨fun o => absurd o.1 n, fun _ _ => rfl⟩, fun o => absurd o.1 n, fun _ => rfl⟩, fun a1 => ⟨fun n => ⟨I, J, Fr.rf _ _, Or.inr ⟨fun o => n o.2.1, rfl, rfl⟩, ⟨fun o => absurd o.2.1 n, fun _ _ => rfl⟩, fun o => absurd o.2.1 n, fun _ => rfl⟩, fun a2 => ⟨fun n => ⟨I, J, Fr.rf _ _, Or.inr ⟨fun o => n o.2.2.1, rfl, rfl⟩, ⟨fun o => absurd o.2.2.1 n, fun _ _ => rfl⟩, fun o => absurd o.2.2.1 n, fun _ => rfl⟩, fun y => ⟨fun z => ?_, fun n => ⟨I, J, Fr.rf _ _, Or.inr ⟨fun o => o.2.2.2 n, rfl, rfl⟩, ⟨fun o => absurd n o.2.2.2, fun _ _ => rfl⟩, fun o => absurd n o.2.2.2, fun _ => rfl⟩⟩⟩⟩⟩
  have ok : okm (h_i h 1 7) x1 x2 x3 := ⟨a1, a2, y, z⟩
  have y1 := q_le.mp y.1
  have y2 := q_le.mp y.2
  have b3 : rin x3.toInt (0, 15) := ⟨y1, y2⟩
  have lt : (h_i h 1 7).toInt ≤ 11 := by
    rcases Int.lt_or_le (h_i h 1 7).toInt 12 with u | u
    · omega
    · exact absurd (Int32.toInt_inj.mp (by rw [t12]; omega)) z
  have v : vp_in (h_i h 1 7) 12 := dp_in (lo := 0) (hi := 11) ⟨m0, lt⟩ (by decide) (by decide)
  have e7 : (h_i h 1 7 + 1).toInt = (h_i h 1 7).toInt + 1 := tx_add (by rw [t1]; omega) (by rw [t1]; omega)
  refine ⟨v, v, v, v, v, v, v, v, v, v, v, v, ?_⟩
  have nr := I.2.1 1 0
  rw [show tf 1 0 = (0, 20000) by decide +kernel] at nr
  have nc := n_nat m0
  generalize ecc : (h_i h 1 7).toNatClampNeg = c at nc ⊢
  have z4 : rin (0 : Int32).toInt (0, 400) := ⟨by decide, by decide⟩
  have IA := i2xx 205 (by decide +kernel) (by decide) (by decide) (i2xx 204 (by decide +kernel) (by decide) (by decide) I c x1) c x2
  have FB : Fr wsN h (h_im (h_im (h_im (h_im h 204 c x1) 205 c x2) 206 c x3) 207 c (h_i h 1 0)) := ((((Fr.rf _ _).im (inw_row (by decide +kernel) _)).im (inw_row (by decide +kernel) _)).im (inw_row (by decide +kernel) _)).im (inw_row (by decide +kernel) _)
  have JB : J2 (h_im (h_im (h_im (h_im h 204 c x1) 205 c x2) 206 c x3) 207 c (h_i h 1 0)) := J2_s (Js.im (by decide) (fun z => absurd z.1 (by decide))) (J2_s (Js.im (by decide) (fun z => absurd z.1 (by decide))) (J2_s (Js.im (by decide) (fun z => absurd z.1 (by decide))) (J2_s (Js.im (by decide) (fun z => absurd z.1 (by decide))) J)))
  have IB : Iv (h_im (h_im (h_im (h_im h 204 c x1) 205 c x2) 206 c x3) 207 c (h_i h 1 0)) := (IA.im (by rw [tfa_tf (show tfa 206 = some (0, 15) by decide +kernel)]; exact b3) (jw_jr (by decide) (by decide) _)).im (by rw [tfa_tf (show tfa 207 = some (0, 20000) by decide +kernel)]; exact nr) (jw_jr (by decide) (by decide) _)
  have MB : Mo c (h_im (h_im (h_im (h_im h 204 c x1) 205 c x2) 206 c x3) 207 c (h_i h 1 0)) (h_im (h_im (h_im (h_im h 204 c x1) 205 c x2) 206 c x3) 207 c (h_i h 1 0)) := Mo.rf _ _
  have IC := i213 (i211 (i210 (i209 (i208 IB c 0) c (b15 b3)) c m1_in) c (-1)) c m1_st
  have MC := ((((MB.im (b := 208) (k := c) (x := 0) (by decide) (fun _ => rfl)).im (b := 209) (k := c) (x := x3) (by decide) (fun y => absurd y (by decide))).im (b := 210) (k := c) (x := -1) (by decide) (fun _ => rfl)).im (b := 211) (k := c) (x := -1) (by decide) (fun y => absurd y (by decide))).im (b := 213) (k := c) (x := -1) (by decide) (fun _ => rfl)
  have ID : Iv (h_im (h_im (h_im (h_im (h_im (h_im (h_im (h_im (h_im (h_im (h_im (h_im h 204 c x1) 205 c x2) 206 c x3) 207 c (h_i h 1 0)) 208 c 0) 209 c x3) 210 c (-1)) 211 c (-1)) 213 c (-1)) 215 c 0) 216 c 0) 217 c 0) := (i216 (i215 IC c z4) c z4).im (by rw [tfa_tf (show tfa 217 = some (0, 400) by decide +kernel)]; exact z4) (jw_jr (by decide) (by decide) _)
  have MD := ((MC.im (b := 215) (k := c) (x := 0) (by decide) (fun y => absurd y (by decide))).im (b := 216) (k := c) (x := 0) (by decide) (fun _ => rfl)).im (b := 217) (k := c) (x := 0) (by decide) (fun y => absurd y (by decide))
  have e8 : h_i (h_im (h_im (h_im (h_im (h_im (h_im (h_im (h_im (h_im (h_im (h_im (h_im h 204 c x1) 205 c x2) 206 c x3) 207 c (h_i h 1 0)) 208 c 0) 209 c x3) 210 c (-1)) 211 c (-1)) 213 c (-1)) 215 c 0) 216 c 0) 217 c 0) 208 c = 0 := by rw [im_ne (by decide), im_ne (by decide), im_ne (by decide), im_ne (by decide), im_ne (by decide), im_ne (by decide), im_ne (by decide), im_at]
  have e10 : h_i (h_im (h_im (h_im (h_im (h_im (h_im (h_im (h_im (h_im (h_im (h_im (h_im h 204 c x1) 205 c x2) 206 c x3) 207 c (h_i h 1 0)) 208 c 0) 209 c x3) 210 c (-1)) 211 c (-1)) 213 c (-1)) 215 c 0) 216 c 0) 217 c 0) 210 c = -1 := by rw [im_ne (by decide), im_ne (by decide), im_ne (by decide), im_ne (by decide), im_ne (by decide), im_at]
  have JC := Jd.jm ⟨by rw [e8]; decide, fun _ => e10⟩
  have JD := J2_o MD JB JC
  have eM := (MD.2.2.2.1 7 (Or.inr (Or.inl rfl))).trans (show h_i (h_im (h_im (h_im (h_im h 204 c x1) 205 c x2) 206 c x3) 207 c (h_i h 1 0)) 1 7 = h_i h 1 7 by rw [im_ne (by decide), im_ne (by decide), im_ne (by decide), im_ne (by decide)])
  refine ⟨ID.im (by rw [show tf 1 7 = (0, 12) by decide +kernel]; exact ⟨by show (0 : Int) ≤ _; omega, by show _ ≤ (12 : Int); omega⟩) (by decide), fun k hk hm => Jm_z (Jz.im (by decide) (fun y => absurd y.2 (by decide))) ?_, Fr.im (FB.tr MD.sr.sn) (by decide +kernel), Or.inl ⟨ok, tx_back _, im_at⟩, ⟨fun _ => ?_, fun k hk => ?_⟩, fun _ => ?_, fun y => absurd ok y⟩
  · rw [im_at, e7] at hm
    by_cases ek : k = c
    · rw [ek]; exact JC
    · exact JD k hk (by rw [eM]; omega)
  · rw [ecc, im_ne (by decide), im_ne (by decide), im_ne (by decide), im_ne (by decide), im_ne (by decide), im_ne (by decide), im_ne (by decide), im_ne (by decide), im_ne (by decide), im_ne (by decide), im_ne (by decide), im_ne (by decide), im_at]
  · have nk : k ≠ c := fun e => hk.elim (fun y => y (by rw [ecc]; exact e)) (fun y => y ok)
    rw [im_ne (by decide), im_ne (by decide), im_ne (by decide), im_ne (by decide), im_ne (by decide), im_ne (by decide), im_ne (by decide), im_ne (by decide), im_ne (by decide), im_ne (by decide), im_ne (by decide), im_ne (by decide), h_i_im, if_neg (fun e => nk e.2)]
  · rw [ecc]
    refine ⟨⟨⟨(by show _ = (0 : Int32); rw [im_ne (by decide), im_ne (by decide), im_ne (by decide), im_ne (by decide), im_ne (by decide), im_ne (by decide), im_ne (by decide), im_ne (by decide), im_at]), (by show _ = (x3 : Int32); rw [im_ne (by decide), im_ne (by decide), im_ne (by decide), im_ne (by decide), im_ne (by decide), im_ne (by decide), im_ne (by decide), im_at]), (by show _ = (-1 : Int32); rw [im_ne (by decide), im_ne (by decide), im_ne (by decide), im_ne (by decide), im_ne (by decide), im_ne (by decide), im_at]), (by show _ = (-1 : Int32); rw [im_ne (by decide), im_ne (by decide), im_ne (by decide), im_ne (by decide), im_ne (by decide), im_at])⟩, fun y => absurd (show (0 : Int32) = 1 from y) (by decide), fun y => absurd (show (0 : Int32) = 3 from y) (by decide), (by show _ = (x3 : Int32); rw [im_ne (by decide), im_ne (by decide), im_ne (by decide), im_ne (by decide), im_ne (by decide), im_ne (by decide), im_ne (by decide), im_ne (by decide), im_ne (by decide), im_ne (by decide), im_at])⟩, ⟨(by rw [im_ne (by decide), im_ne (by decide), im_ne (by decide), im_ne (by decide), im_ne (by decide), im_ne (by decide), im_ne (by decide), im_ne (by decide), im_ne (by decide), im_ne (by decide), im_ne (by decide), im_at]), (by rw [im_ne (by decide), im_ne (by decide), im_ne (by decide), im_ne (by decide), im_ne (by decide), im_ne (by decide), im_ne (by decide), im_ne (by decide), im_ne (by decide), im_at])⟩, ?_, fun a k n1 nk => ?_⟩
    · exact (((((((((((((Fr.rf _ _).im (inw_row (by decide +kernel) _)).im (inw_row (by decide +kernel) _)).im (inw_row (by decide +kernel) _)).im (inw_row (by decide +kernel) _)).im (inw_row (by decide +kernel) _)).im (inw_row (by decide +kernel) _)).im (inw_row (by decide +kernel) _)).im (inw_row (by decide +kernel) _)).im (inw_row (by decide +kernel) _)).im (inw_row (by decide +kernel) _)).im (inw_row (by decide +kernel) _)).im (inw_row (by decide +kernel) _)).im (by decide +kernel)
    · rw [h_i_im, if_neg (fun e => n1 e.1), h_i_im, if_neg (fun e => nk e.2), h_i_im, if_neg (fun e => nk e.2), h_i_im, if_neg (fun e => nk e.2), h_i_im, if_neg (fun e => nk e.2), h_i_im, if_neg (fun e => nk e.2), h_i_im, if_neg (fun e => nk e.2), h_i_im, if_neg (fun e => nk e.2), h_i_im, if_neg (fun e => nk e.2), h_i_im, if_neg (fun e => nk e.2), h_i_im, if_neg (fun e => nk e.2), h_i_im, if_neg (fun e => nk e.2), h_i_im, if_neg (fun e => nk e.2)]
/-! MEN: what class and reference keep alike -/
theorem wI_cg {h h' : Hp_} (e : h_i h' 30 = h_i h 30) : wI h' = wI h := by
  funext a b
  unfold wI
  rw [e]
theorem bL_cg {h h' : Hp_} (a : h_i h' 227 = h_i h 227) (b : h_i h' 228 = h_i h 228) (c : h_i h' 229 = h_i h 229) (d : h_i h' 230 = h_i h 230) : bL h' = bL h := by
  funext k
  unfold bL sB
  rw [a, b, c, d]
theorem gw_fr {c : Nat} {ws W : List Nat} {h h' : Hp_} (g : Gw c ws h h') (h1 : 401 ≤ c) (h2 : c ≤ 412) (s : wsub ws W = true) (r : ∀ k, inw W 401 k = true) (l : inw W 0 14 = true) : Fr W h h' := ⟨g.1, fun b k o => by
  have z := g.2 b k (inw_sub s o)
  refine ⟨z.2.2 (fun e => ?_), z.2.1 (fun e => ?_), z.1⟩
  · have e' : cn b = cn 401 := by
      rw [e, show c = 401 + (c - 401) by omega]
      exact (cn_man (by omega)).trans (by decide)
    rw [inw_ce e', r] at o
    cases o
  · rw [e.1, e.2, l] at o
    cases o⟩
theorem pI.mo {β : Type} {w w' : Int32 → Int32 → Int32} {BL BL' : Nat → List Sp3} {nb nb' rw rw' : Nat} {own own' : Nat → Int32} {m : Nat} {s : Pst β} (p : pI w BL nb rw own m s) (hw : ∀ a b, ¬ w a b = -1 → ¬ w' a b = -1) (hb : nb ≤ nb') (hB : ∀ k, k < nb → BL' k = BL k) (hr : rw ≤ rw') (ho : ∀ k, k < rw → own' k = own k) : pI w' BL' nb' rw' own' m s := fun j hj => by
  obtain ⟨⟨a, b⟩, c, d⟩ := p j hj
  refine ⟨⟨⟨a.1, a.2.1, a.2.2.1, a.2.2.2.1, a.2.2.2.2.1, a.2.2.2.2.2.1, fun e => ⟨(a.2.2.2.2.2.2.1 e).1, hw _ _ (a.2.2.2.2.2.2.1 e).2.1, (a.2.2.2.2.2.2.1 e).2.2⟩, hw _ _ a.2.2.2.2.2.2.2⟩, fun e => ?_⟩, c, fun e k k1 k2 => ?_⟩
  · obtain ⟨i, x, L, q1, q2, q3⟩ := b e
    exact ⟨i, x, L, ⟨q1.1, Nat.lt_of_lt_of_le q1.2 hb⟩, by rw [hB _ q1.2]; exact q2, q3.1, q3.2.1, q3.2.2.1, q3.2.2.2.1, by have := q3.2.2.2.2; omega⟩
  · obtain ⟨i, x, L, q1, q2, q3⟩ := b e
    have z := q3.2.2.2.2
    rw [ho k (by omega)]
    exact d e k k1 k2
theorem pI.cs {β : Type} {w : Int32 → Int32 → Int32} {BL : Nat → List Sp3} {nb rw : Nat} {own : Nat → Int32} {m : Nat} {s s' : Pst β} (p : pI w BL nb rw own m s) (e1 : ∀ j, j < m → s'.1 j = s.1 j) (e2 : s'.2.1 = s.2.1) : pI w BL nb rw own m s' := fun j hj => by
  rw [e1 j hj, e2]
  exact p j hj
theorem on_ne {l j : Nat} (hl : l < 1000) (hj : j < 1000) (e : Int32.ofNat l = Int32.ofNat j) : l = j := by
  have z := congrArg Int32.toInt e
  rw [on_j (by omega), on_j (by omega)] at z
  omega
theorem pI_ev {β : Type} {w : Int32 → Int32 → Int32} {BL : Nat → List Sp3} {nb rw : Nat} {own : Nat → Int32} {m : Nat} {s s' : Pst β} (p : pI w BL nb rw own m s) (m12 : m ≤ 12) {j : Nat} (hj : j < m) {M' : Nat → Int32} {E : List Ev2} (K : Km w BL nb rw M') (e0 : M' 0 = s.1 j 0) (er : E = [] ∨ (s.1 j 4 = 1 ∧ (s.1 j 11).toInt + (E.length : Int) ≤ (s.1 j 12).toInt)) (n1 : ¬ M' 4 = 1) (hs : s'.1 j = M') (ho : ∀ l, l < m → l ≠ j → s'.1 l = s.1 l) (hr : s'.2.1 = rz Prod.fst (s.1 j 11).toNatClampNeg E s.2.1) : pI w BL nb rw own m s' := fun l hl => by
  by_cases el : l = j
  · subst el
    rw [hs]
    exact ⟨K, e0.trans (p l hl).2.1, fun e => absurd e n1⟩
  · obtain ⟨a, b, c⟩ := p l hl
    rw [ho l hl el]
    refine ⟨a, b, fun e k k1 k2 => ?_⟩
    have cc := c e k k1 k2
    refine ⟨?_, cc.2⟩
    rw [hr, rz_o _ _ _ _ _ ?_]
    · exact cc.1
    · rcases er with er | er
      · rw [er]
        show k < _ ∨ _ + 0 ≤ k
        omega
      · refine Decidable.byContradiction (fun n => ?_)
        obtain ⟨i, x, L, q1, q2, q3⟩ := (p j hj).1.2 er.1
        have n11 := n_nat q3.2.2.1
        have q := (p j hj).2.2 er.1 k (by omega) (by omega)
        have z := q.2
        rw [cc.2] at z
        exact el (on_ne (by omega) (by omega) z)
def sX (h : Hp_) : Pst Unit := (fun j => h_i h (401 + j), h_i h 51, h_i h 52, h_i h 53, ())
def ExM (h : Hp_) : Prop := (h_i h 0 7 = h_i h 1 7 ∧ h_i h 0 0 = h_i h 1 0 ∧ h_i h 16 7 = h_i h 1 63 ∧ (h_i h 0 7).toNatClampNeg ≤ 12) ∧ Mrw h ∧ pI (wI h) (bL h) (h_i h 12 3).toNatClampNeg (h_i h 16 7).toNatClampNeg (h_i h 47) (h_i h 0 7).toNatClampNeg (sX h) ∧ (∀ j, j < (h_i h 0 7).toNatClampNeg → RMp j (h_i h (401 + j)) h) ∧ (∀ k, k < (h_i h 16 7).toNatClampNeg → stt (h_i h 51 k) (h_i h 52 k) (h_i h 53 k) (h_i h 241 k) (h_i h 242 k) (h_i h 243 k) ∧ (h_i h 47 k = h_i h 238 k ∧ h_i h 48 k = h_i h 239 k ∧ h_i h 49 k = h_i h 240 k ∧ h_i h 50 k = h_i h 244 k) ∧ (¬ h_i h 51 k = 0 → (h_i h 52 k).toInt ≤ (h_i h 0 0).toInt)) ∧ ∀ k, (h_i h 16 7).toNatClampNeg ≤ k → k < 400 → h_i h 51 k = 0
def mqL : List (Nat × Nat) := [(0, 7), (1, 7), (0, 0), (1, 0), (16, 7), (1, 63), (12, 3)]
def mqR : List Nat := [30, 47, 48, 49, 50, 51, 52, 53, 206, 208, 209, 210, 211, 212, 213, 214, 215, 216, 217, 218, 219, 227, 228, 229, 230, 238, 239, 240, 241, 242, 243, 244, 248]
theorem mqR_m : ∀ a ∈ 206 :: mrL, a ∈ mqR := by decide
theorem ExM.cg {h h' : Hp_} (x : ExM h) (n : ∀ q ∈ mqL, h_i h' q.1 q.2 = h_i h q.1 q.2) (r : ∀ a ∈ mqR, h_i h' a = h_i h a) (f : ∀ k, h_r h' 15 k = h_r h 15 k) (c : ∀ j, j < 12 → h_i h' (401 + j) = h_i h (401 + j)) : ExM h' := by
  have n07 : h_i h' 0 7 = h_i h 0 7 := n (0, 7) (by decide)
  have n17 : h_i h' 1 7 = h_i h 1 7 := n (1, 7) (by decide)
  have n00 : h_i h' 0 0 = h_i h 0 0 := n (0, 0) (by decide)
  have n10 : h_i h' 1 0 = h_i h 1 0 := n (1, 0) (by decide)
  have nr : h_i h' 16 7 = h_i h 16 7 := n (16, 7) (by decide)
  have n63 : h_i h' 1 63 = h_i h 1 63 := n (1, 63) (by decide)
  have n3 : h_i h' 12 3 = h_i h 12 3 := n (12, 3) (by decide)
  have m12 := x.1.2.2.2
  have r51 := r 51 (by decide)
  refine ⟨⟨by rw [n07, n17]; exact x.1.1, by rw [n00, n10]; exact x.1.2.1, by rw [nr, n63]; exact x.1.2.2.1, by rw [n07]; exact m12⟩, fun k hk => by rw [f k]; exact x.2.1 k (by rw [n07] at hk; exact hk), ?_, fun j hj => ?_, fun k hk => ?_, fun k hk h4 => ?_⟩
  · rw [wI_cg (r 30 (by decide)), bL_cg (r 227 (by decide)) (r 228 (by decide)) (r 229 (by decide)) (r 230 (by decide)), n3, nr, r 47 (by decide), n07]
    exact x.2.2.1.cs (fun j hj => c j (by omega)) r51
  · rw [n07] at hj
    rw [c j (by omega)]
    exact (x.2.2.2.1 j hj).cg (fun a ha => congrFun (r a (mqR_m a ha)) j)
  · rw [nr] at hk
    rw [r51, r 52 (by decide), r 53 (by decide), r 241 (by decide), r 242 (by decide), r 243 (by decide), r 47 (by decide), r 48 (by decide), r 49 (by decide), r 50 (by decide), r 238 (by decide), r 239 (by decide), r 240 (by decide), r 244 (by decide), n00]
    exact x.2.2.2.2.1 k hk
  · rw [nr] at hk
    rw [r51]
    exact x.2.2.2.2.2 k hk h4
def exoM (ws : List Nat) : Bool := mqL.all (fun q => !inw ws q.1 q.2) && mqR.all (fun a => off ws a) && off ws 15 && off ws 401
theorem ExM.fr {ws : List Nat} {h h' : Hp_} (x : ExM h) (f : Fr ws h h') (o : exoM ws = true) : ExM h' := by
  unfold exoM at o
  simp only [Bool.and_eq_true] at o
  refine x.cg (fun q hq => ?_) (fun a ha => funext (fun k => fr_i f (List.all_eq_true.mp o.1.1.2 a ha) k)) (fun k => (f.2 15 k (off_inw o.1.2 k)).2.2) (fun j hj => funext (fun k => (f.2 (401 + j) k ?_).1))
  · have z := List.all_eq_true.mp o.1.1.1 q hq
    rw [Bool.not_eq_true'] at z
    exact (f.2 q.1 q.2 z).1
  · rw [inw_ce (b := 401) ((cn_man hj).trans (by decide))]
    exact off_inw o.2 k
theorem rz_at (g : Ev2 → Int32) (E : List Ev2) (r : Nat) (f : Nat → Int32) {k : Nat} (a : r ≤ k) (b : k < r + E.length) : ∃ e, rz g r E f k = g e ∧ ∀ f', rz g r E f' k = g e := by
  have he : E[k - r]? = some (E[k - r]'(by omega)) := List.getElem?_eq_getElem (by omega)
  have z := fun f => rz_i g E r f (k - r) _ he
  rw [show r + (k - r) = k by omega] at z
  exact ⟨_, z f, z⟩
/-- what is settled was settled by now -/
theorem tm_rz {E : List Ev2} {r k : Nat} {n : Int32} {fo ft : Nat → Int32} {N : Int} (h : ¬ fo k = 0 → (ft k).toInt ≤ N) (l : N ≤ n.toInt) : ¬ rz Prod.fst r E fo k = 0 → (rz (fun _ => n) r E ft k).toInt ≤ n.toInt := fun ne => by
  by_cases c : r ≤ k ∧ k < r + E.length
  · obtain ⟨e, he, _⟩ := rz_at (fun _ => n) E r ft c.1 c.2
    rw [he]
    exact Int.le_refl _
  · have o : k < r ∨ r + E.length ≤ k := by omega
    rw [rz_o _ _ _ _ _ o] at ne ⊢
    exact Int.le_trans (h ne) l
abbrev PU : Unit → Hp_ → Prop := fun _ _ => True
def wMx : List Nat := 14 :: 401999 :: wgM
/-- one man, and his rows -/
theorem ExM.ev {h h1 h2 : Hp_} {j : Nat} {n : Int32} {M' : Nat → Int32} {E : List Ev2} {b1 b2 : Unit} (x : ExM h) (hj : j < (h_i h 0 7).toNatClampNeg) (k1 : Sxm PU (401 + j) n M' (h_i h (401 + j) 11).toNatClampNeg E b1 h h1) (k2 : Mx PU j n M' (h_i h (401 + j) 11).toNatClampNeg E b2 h1 h2) (K : Km (wI h) (bL h) (h_i h 12 3).toNatClampNeg (h_i h 16 7).toNatClampNeg M') (e0 : M' 0 = h_i h (401 + j) 0) (er : E = [] ∨ (h_i h (401 + j) 4 = 1 ∧ (h_i h (401 + j) 11).toInt + (E.length : Int) ≤ (h_i h (401 + j) 12).toInt)) (n1 : ¬ M' 4 = 1) (he : ∀ e ∈ E, e.1 = 1 ∨ e.1 = 2) (pn : 0 ≤ n.toInt) (en : n = h_i h 0 0) : Fr wMx h h1 ∧ Fr mwR h1 h2 ∧ ExM h2 := by
  have m12 := x.1.2.2.2
  have f1 : Fr wMx h h1 := gw_fr k1.2.1 (by omega) (by omega) (by decide +kernel) (fun k => inw_row (by decide +kernel) k) (by decide +kernel)
  have f2 : Fr mwR h1 h2 := k2.2.1.1
  refine ⟨f1, f2, ?_⟩
  have i1 : ∀ a k, inw wMx a k = false → inw mwR a k = false → h_i h2 a k = h_i h a k := fun a k o1 o2 => ((f2.2 a k o2).1).trans (f1.2 a k o1).1
  have r1 : ∀ a, off wMx a = true → off mwR a = true → h_i h2 a = h_i h a := fun a o1 o2 => funext (fun k => i1 a k (off_inw o1 k) (off_inw o2 k))
  have n07 : h_i h2 0 7 = h_i h 0 7 := i1 0 7 (by decide +kernel) (by decide +kernel)
  have n17 : h_i h2 1 7 = h_i h 1 7 := i1 1 7 (by decide +kernel) (by decide +kernel)
  have n00 : h_i h2 0 0 = h_i h 0 0 := i1 0 0 (by decide +kernel) (by decide +kernel)
  have n10 : h_i h2 1 0 = h_i h 1 0 := i1 1 0 (by decide +kernel) (by decide +kernel)
  have nr : h_i h2 16 7 = h_i h 16 7 := i1 16 7 (by decide +kernel) (by decide +kernel)
  have n63 : h_i h2 1 63 = h_i h 1 63 := i1 1 63 (by decide +kernel) (by decide +kernel)
  have n3 : h_i h2 12 3 = h_i h 12 3 := i1 12 3 (by decide +kernel) (by decide +kernel)
  have c2 : ∀ l, l < 12 → h_i h2 (401 + l) = h_i h1 (401 + l) := fun l hl => funext (fun k => (f2.2 (401 + l) k (by
    rw [inw_ce (b := 401) ((cn_man hl).trans (by decide))]
    exact off_inw (by decide +kernel) k)).1)
  have cj : h_i h2 (401 + j) = M' := (c2 j (by omega)).trans k1.2.2.1
  have co : ∀ l, l < 12 → l ≠ j → h_i h2 (401 + l) = h_i h (401 + l) := fun l hl ne => (c2 l hl).trans (funext (fun k => k1.2.1.i (401 + l) k (by omega) (by
    rw [inw_ce (b := 401) ((cn_man hl).trans (by decide))]
    exact off_inw (by decide +kernel) k)))
  have g51 : h_i h2 51 = rz Prod.fst (h_i h (401 + j) 11).toNatClampNeg E (h_i h 51) := (funext (fun k => fr_i f2 (by decide +kernel) k)).trans k1.2.2.2.1.1
  have g52 : h_i h2 52 = rz (fun _ => n) (h_i h (401 + j) 11).toNatClampNeg E (h_i h 52) := (funext (fun k => fr_i f2 (by decide +kernel) k)).trans k1.2.2.2.1.2.1
  have g53 : h_i h2 53 = rz Prod.snd (h_i h (401 + j) 11).toNatClampNeg E (h_i h 53) := (funext (fun k => fr_i f2 (by decide +kernel) k)).trans k1.2.2.2.1.2.2
  have e241 : h_i h1 241 = h_i h 241 := funext (fun k => fr_i f1 (by decide +kernel) k)
  have e242 : h_i h1 242 = h_i h 242 := funext (fun k => fr_i f1 (by decide +kernel) k)
  have e243 : h_i h1 243 = h_i h 243 := funext (fun k => fr_i f1 (by decide +kernel) k)
  have opn : ∀ k, (h_i h (401 + j) 11).toNatClampNeg ≤ k → k < (h_i h (401 + j) 11).toNatClampNeg + E.length → h_i h 51 k = 0 ∧ k < (h_i h 16 7).toNatClampNeg := fun k a b => by
    rcases er with er | er
    · rw [er] at b
      exact absurd b (by show ¬ k < _ + 0; omega)
    · obtain ⟨i, y, L, q1, q2, q3⟩ := (x.2.2.1 j hj).1.2 er.1
      have q11 : 0 ≤ (h_i h (401 + j) 11).toInt := q3.2.2.1
      have q12 : (h_i h (401 + j) 12).toInt ≤ ((h_i h 16 7).toNatClampNeg : Int) := q3.2.2.2.2
      have n11 := n_nat q11
      exact ⟨((x.2.2.1 j hj).2.2 er.1 k (by show (h_i h (401 + j) 11).toInt ≤ _; omega) (by show _ < (h_i h (401 + j) 12).toInt; omega)).1, by omega⟩
  refine ⟨⟨by rw [n07, n17]; exact x.1.1, by rw [n00, n10]; exact x.1.2.1, by rw [nr, n63]; exact x.1.2.2.1, by rw [n07]; exact m12⟩, fun k hk => ?_, ?_, fun l hl => ?_, fun k hk => ?_, fun k hk h4 => ?_⟩
  · rw [(f2.2 15 k (off_inw (by decide +kernel) k)).2.2, (f1.2 15 k (off_inw (by decide +kernel) k)).2.2]
    exact x.2.1 k (by rw [n07] at hk; exact hk)
  · rw [wI_cg (r1 30 (by decide +kernel) (by decide +kernel)), bL_cg (r1 227 (by decide +kernel) (by decide +kernel)) (r1 228 (by decide +kernel) (by decide +kernel)) (r1 229 (by decide +kernel) (by decide +kernel)) (r1 230 (by decide +kernel) (by decide +kernel)), n3, nr, r1 47 (by decide +kernel) (by decide +kernel), n07]
    exact pI_ev x.2.2.1 m12 hj K e0 er n1 cj (fun l hl ne => co l (by omega) ne) g51
  · rw [n07] at hl
    by_cases c : l = j
    · subst c
      rw [cj]
      exact k2.2.2.1
    · rw [co l (by omega) c]
      refine ((x.2.2.2.1 l hl).cg (h' := h1) (fun a ha => ?_)).cg (fun a ha => ?_)
      · exact fr_i f1 (List.all_eq_true.mp (show (206 :: mrL).all (fun a => off wMx a) = true by decide +kernel) a ha) l
      · rcases List.mem_cons.mp ha with e | e
        · rw [e]
          exact k2.2.1.k.2.2.1 l
        · exact k2.2.1.2 a e l c
  · rw [nr] at hk
    have q := x.2.2.2.2.1 k hk
    rw [g51, g52, g53, k2.2.2.2.1.1, k2.2.2.2.1.2.1, k2.2.2.2.1.2.2, e241, e242, e243, r1 47 (by decide +kernel) (by decide +kernel), r1 48 (by decide +kernel) (by decide +kernel), r1 49 (by decide +kernel) (by decide +kernel), r1 50 (by decide +kernel) (by decide +kernel), r1 238 (by decide +kernel) (by decide +kernel), r1 239 (by decide +kernel) (by decide +kernel), r1 240 (by decide +kernel) (by decide +kernel), r1 244 (by decide +kernel) (by decide +kernel)]
    exact ⟨stt_ev pn he q.1 (fun a b => (opn k a b).1), q.2.1, by rw [n00, ← en]; exact tm_rz (N := (h_i h 0 0).toInt) q.2.2 (by rw [en]; exact Int.le_refl _)⟩
  · rw [nr] at hk
    rw [g51, rz_o]
    · exact x.2.2.2.2.2 k hk h4
    · refine Decidable.byContradiction (fun y => ?_)
      have z := (opn k (by omega) (by omega)).2
      omega
end
section
/-! MEN: draw and ill -/
theorem dp_ev {cz : Int32} {M : Nat → Int32} : ∀ e ∈ (fDp cz M).2, e.1 = 1 ∨ e.1 = 2 := fun e he => by
  unfold fDp at he
  split at he
  · rw [(List.mem_replicate.mp he).2]
    exact Or.inr rfl
  · cases he
theorem dp_le {cz : Int32} {M : Nat → Int32} {w : Int32 → Int32 → Int32} {BL : Nat → List Sp3} {nb rw : Nat} (K : Km w BL nb rw M) (r4 : rw ≤ 400) : (fDp cz M).2 = [] ∨ (M 4 = 1 ∧ (M 11).toInt + ((fDp cz M).2.length : Int) ≤ (M 12).toInt) := by
  by_cases e : M 4 = 1
  · obtain ⟨i, x, L, q1, q2, q3⟩ := K.2 e
    have a := q3.2.2.1
    have b := q3.2.2.2.1
    have c := q3.2.2.2.2
    have s : (M 12 - M 11).toInt = (M 12).toInt - (M 11).toInt := tx_sub (by omega) (by omega)
    have n := n_nat (x := M 12 - M 11) (by omega)
    refine Or.inr ⟨e, ?_⟩
    unfold fDp
    rw [if_pos e]
    show _ + ((List.replicate (M 12 - M 11).toNatClampNeg ((2, cz) : Ev2)).length : Int) ≤ _
    rw [List.length_replicate]
    omega
  · refine Or.inl ?_
    unfold fDp
    rw [if_neg e]
theorem fHome_4 {n : Int32} {w : Int32 → Int32 → Int32} {M : Nat → Int32} : ¬ fHome n w M 4 = 1 := by
  unfold fHome
  split
  · exact fun e => absurd (show (2 : Int32) = 1 from e) (by decide)
  · exact fun e => absurd (show (0 : Int32) = 1 from e) (by decide)
theorem fDr_4 {n : Int32} {w : Int32 → Int32 → Int32} {M : Nat → Int32} (e4 : M 4 = 3) : ¬ fDr n w M 4 = 1 := by
  unfold fDr
  split
  · exact fun e => absurd (e4.symm.trans (show M 4 = 1 from e)) (by decide)
  · split
    · exact fun e => absurd (e4.symm.trans (show M 4 = 1 from e)) (by decide)
    · exact fHome_4
theorem fDw_4 {n : Int32} {w : Int32 → Int32 → Int32} {x2 x3 : Int32} {M : Nat → Int32} : ¬ (fDw n w x2 x3 M).1 4 = 1 := by
  unfold fDw
  show ¬ (if (fDp 3 M).1 6 = -1 then _ else _ : Nat → Int32) 4 = 1
  split
  · exact fDr_4 rfl
  · exact fun e => absurd (show (3 : Int32) = 1 from e) (by decide)
theorem fDw_0 {n : Int32} {w : Int32 → Int32 → Int32} {x2 x3 : Int32} {M : Nat → Int32} : (fDw n w x2 x3 M).1 0 = M 0 := by
  unfold fDw
  show (if (fDp 3 M).1 6 = -1 then _ else _ : Nat → Int32) 0 = M 0
  split
  · refine ((Rk.dr (m := 0)).1 0 (by decide)).trans ?_
    show (fDp 3 M).1 0 = M 0
    exact fDp_k (by decide) (by decide) (by decide)
  · show (fDp 3 M).1 0 = M 0
    exact fDp_k (by decide) (by decide) (by decide)
theorem km_dw {n : Int32} {w : Int32 → Int32 → Int32} {BL : Nat → List Sp3} {nb rw : Nat} {x2 x3 : Int32} {M : Nat → Int32} (W : WOk w) (K : Km w BL nb rw M) (p2 : 0 ≤ x2.toInt ∧ x2.toInt ≤ 15) (c2 : ¬ w (M 3) x2 = -1) : Km w BL nb rw (fDw n w x2 x3 M).1 := by
  have d3 : (fDp 3 M).1 3 = M 3 := fDp_k (by decide) (by decide) (by decide)
  have d5 : (fDp 3 M).1 5 = M 5 := fDp_k (by decide) (by decide) (by decide)
  have d6 : (fDp 3 M).1 6 = M 6 := fDp_k (by decide) (by decide) (by decide)
  obtain ⟨⟨a3, a5, a6, _, _, _, _, al⟩, _⟩ := K
  unfold fDw
  show Km w BL nb rw (if (fDp 3 M).1 6 = -1 then _ else _)
  by_cases c : (fDp 3 M).1 6 = -1
  · rw [if_pos c]
    rw [d6] at c
    rw [if_pos c] at al
    refine km_dr W ?_ ?_ ?_ rfl ?_ p2 ?_
    · show 0 ≤ ((fDp 3 M).1 3).toInt ∧ ((fDp 3 M).1 3).toInt ≤ 15
      rw [d3]
      exact a3
    · show (fDp 3 M).1 6 = -1
      rw [d6]
      exact c
    · show 0 ≤ ((fDp 3 M).1 5).toInt
      rw [d5]
      exact a5 c
    · show ¬ w ((fDp 3 M).1 3) ((fDp 3 M).1 5) = -1
      rw [d3, d5]
      exact al
    · show ¬ w ((fDp 3 M).1 3) x2 = -1
      rw [d3]
      exact c2
  · rw [if_neg c]
    rw [d6] at c
    rw [if_neg c] at al
    refine ⟨⟨?_, fun e => ?_, fun _ => ?_, fun e => absurd (show (3 : Int32) = 0 from e) (by decide), fun e => absurd (show (3 : Int32) = 4 from e) (by decide), fun e => absurd (show (3 : Int32) = 2 from e) (by decide), fun _ => ⟨p2, ?_, fun e => ?_⟩, ?_⟩, fun e => absurd (show (3 : Int32) = 1 from e) (by decide)⟩
    · show 0 ≤ ((fDp 3 M).1 3).toInt ∧ ((fDp 3 M).1 3).toInt ≤ 15
      rw [d3]
      exact a3
    · exact absurd (d6.symm.trans (show (fDp 3 M).1 6 = -1 from e)) c
    · show 0 ≤ ((fDp 3 M).1 6).toInt
      rw [d6]
      exact a6 c
    · show ¬ w ((fDp 3 M).1 3) x2 = -1
      rw [d3]
      exact c2
    · exact absurd (d6.symm.trans (show (fDp 3 M).1 6 = -1 from e)) c
    · show ¬ w ((fDp 3 M).1 3) (if (fDp 3 M).1 6 = -1 then (fDp 3 M).1 5 else (fDp 3 M).1 6) = -1
      rw [d6, if_neg c, d3]
      exact al
theorem km_il {w : Int32 → Int32 → Int32} {BL : Nat → List Sp3} {nb rw : Nat} {M : Nat → Int32} (W : WOk w) (K : Km w BL nb rw M) : Km w BL nb rw (fIl M).1 := by
  have d3 : (fDp 4 M).1 3 = M 3 := fDp_k (by decide) (by decide) (by decide)
  have a3 := K.1.1
  unfold fIl
  refine ⟨⟨?_, fun _ => ?_, fun e => absurd rfl e, fun e => absurd (show (4 : Int32) = 0 from e) (by decide), fun _ => ⟨rfl, ?_⟩, fun e => absurd (show (4 : Int32) = 2 from e) (by decide), fun e => absurd (show (4 : Int32) = 3 from e) (by decide), ?_⟩, fun e => absurd (show (4 : Int32) = 1 from e) (by decide)⟩
  · show 0 ≤ ((fDp 4 M).1 3).toInt ∧ ((fDp 4 M).1 3).toInt ≤ 15
    rw [d3]
    exact a3
  · exact a3.1
  · exact d3.symm
  · show ¬ w ((fDp 4 M).1 3) (if (-1 : Int32) = -1 then M 3 else -1) = -1
    rw [d3, if_pos rfl]
    exact W.2.1 _ a3
theorem km_fr {w : Int32 → Int32 → Int32} {BL : Nat → List Sp3} {nb rw : Nat} {M : Nat → Int32} (K : Km w BL nb rw M) (e4 : M 4 = 4) : Km w BL nb rw (fFree M) := by
  obtain ⟨a3, a5, a6, a0, a4, a2, aw, al⟩ := K.1
  have e6 := (a4 e4).1
  exact ⟨⟨a3, a5, a6, fun _ => ⟨e6, rfl⟩, fun e => absurd (show (0 : Int32) = 4 from e) (by decide), fun e => absurd (show (0 : Int32) = 2 from e) (by decide), fun e => absurd (show (0 : Int32) = 3 from e) (by decide), al⟩, fun e => absurd (show (0 : Int32) = 1 from e) (by decide)⟩
theorem rwX_in {h : Hp_} (I : Iv h) : (h_i h 16 7).toNatClampNeg ≤ 400 ∧ (((h_i h 16 7).toNatClampNeg : Nat) : Int) = (h_i h 16 7).toInt := by
  have rg := I.2.1 16 7
  rw [show tf 16 7 = (0, 400) by decide +kernel] at rg
  have a : 0 ≤ (h_i h 16 7).toInt := rg.1
  have b : (h_i h 16 7).toInt ≤ 400 := rg.2
  have n := n_nat a
  omega
/-- a man of the reference, as the class has him -/
theorem ExM.rp {h h1 : Hp_} (I : Iv h) (x : ExM h) (f : Fr wMx h h1) {x1 : Int32} (y : isN h1 x1) : (x1.toNatClampNeg < (h_i h 0 7).toNatClampNeg ∧ isM h x1) ∧ RMp x1.toNatClampNeg (h_i h (401 + x1.toNatClampNeg)) h1 ∧ h_i h (401 + x1.toNatClampNeg) 0 = x1 ∧ Km (wI h) (bL h) (h_i h 12 3).toNatClampNeg (h_i h 16 7).toNatClampNeg (h_i h (401 + x1.toNatClampNeg)) ∧ Opn h1 (h_i h (401 + x1.toNatClampNeg)) := by
  obtain ⟨y1, y2⟩ := y
  rw [(f.2 1 7 (by decide +kernel)).1, ← x.1.1] at y2
  have mm := menX_in I
  have nm := n_nat mm.1
  have nx := n_nat y1
  have hj : x1.toNatClampNeg < (h_i h 0 7).toNatClampNeg := by omega
  obtain ⟨K, e0, O⟩ := x.2.2.1 x1.toNatClampNeg hj
  have rr := rwX_in I
  refine ⟨⟨hj, y1, y2⟩, (x.2.2.2.1 _ hj).cg (fun a ha => fr_i f (List.all_eq_true.mp (show (206 :: mrL).all (fun a => off wMx a) = true by decide +kernel) a ha) _), e0.trans (on_of ⟨y1, by omega⟩), K, fun e4 => ?_⟩
  obtain ⟨i, q, L, q1, q2, q3⟩ := K.2 e4
  have q11 : 0 ≤ (h_i h (401 + x1.toNatClampNeg) 11).toInt := q3.2.2.1
  have qs : (h_i h (401 + x1.toNatClampNeg) 11).toInt + ((_ : Nat) : Int) = (h_i h (401 + x1.toNatClampNeg) 12).toInt := q3.2.2.2.1
  have q12 : (h_i h (401 + x1.toNatClampNeg) 12).toInt ≤ ((h_i h 16 7).toNatClampNeg : Int) := q3.2.2.2.2
  refine ⟨q11, by omega, by omega, fun k k1 k2 => ?_⟩
  have o := (O e4 k k1 k2).1
  have s := (x.2.2.2.2.1 k (by omega)).1
  rw [show h_i h 51 k = 0 from o] at s
  rw [fr_i f (by decide +kernel), fr_i f (by decide +kernel)]
  rcases s with s | s | s
  · exact s.2
  · exact absurd s.1 (by decide)
  · exact absurd s.1 (by decide)
theorem ExM.rk {h : Hp_} (I : Iv h) (x : ExM h) {x1 : Int32} (y : isM h x1) : (x1.toNatClampNeg < (h_i h 0 7).toNatClampNeg) ∧ (h_i h (401 + x1.toNatClampNeg) 4 = 1 → Rok h (h_i h (401 + x1.toNatClampNeg)) 0) := by
  have nm := n_nat (menX_in I).1
  have nx := n_nat y.1
  have hj : x1.toNatClampNeg < (h_i h 0 7).toNatClampNeg := by have := y.2; omega
  have rr := rwX_in I
  refine ⟨hj, fun e4 => ?_⟩
  obtain ⟨i, q, L, q1, q2, q3⟩ := (x.2.2.1 _ hj).1.2 e4
  have q11 : 0 ≤ (h_i h (401 + x1.toNatClampNeg) 11).toInt := q3.2.2.1
  have qs : (h_i h (401 + x1.toNatClampNeg) 11).toInt + ((_ : Nat) : Int) = (h_i h (401 + x1.toNatClampNeg) 12).toInt := q3.2.2.2.1
  have q12 : (h_i h (401 + x1.toNatClampNeg) 12).toInt ≤ ((h_i h 16 7).toNatClampNeg : Int) := q3.2.2.2.2
  exact ⟨q11, by show _ + ((0 : Nat) : Int) ≤ _; omega, by omega⟩
def DxX (x1 x2 x3 : Int32) (h : Hp_) (r : Int32) (h' : Hp_) : Prop := ((isM h x1 ∧ okDw h (h_i h (401 + x1.toNatClampNeg)) x2 x3) → r = 1 ∧ Sxm PU (401 + x1.toNatClampNeg) (h_i h 0 0) (fDw (h_i h 0 0) (wI h) x2 x3 (h_i h (401 + x1.toNatClampNeg))).1 (h_i h (401 + x1.toNatClampNeg) 11).toNatClampNeg (fDw (h_i h 0 0) (wI h) x2 x3 (h_i h (401 + x1.toNatClampNeg))).2 () h h') ∧ (¬ (isM h x1 ∧ okDw h (h_i h (401 + x1.toNatClampNeg)) x2 x3) → r = 0 ∧ h' = h)
theorem c_dwX (d : Nat) {h : Hp_} (I : Iv h) (x : ExM h) (x1 x2 x3 : Int32) : Ci (m_X11_draw (d + 5) 0 0) [.ref 0, .int x1, .int x2, .int x3] h (fun r h' => Iv h' ∧ Fr wMx h h' ∧ DxX x1 x2 x3 h r h') := by
  refine Ci.mono (c_dw pbU d I x.2.1 (b := ()) trivial x1 x2 x3 (fun y => (x.rk I y).2)) (fun r h' k => ?_)
  by_cases c : isM h x1 ∧ okDw h (h_i h (401 + x1.toNatClampNeg)) x2 x3
  · have z := k.1 c
    have hj := (x.rk I c.1).1
    have m12 := x.1.2.2.2
    exact ⟨z.2.1, gw_fr z.2.2.1 (by omega) (by omega) (by decide +kernel) (fun k => inw_row (by decide +kernel) k) (by decide +kernel), fun _ => z, fun n => absurd c n⟩
  · have z := k.2 c
    rw [z.2]
    exact ⟨I, Fr.rf _ _, fun n => absurd n c, fun _ => ⟨z.1, rfl⟩⟩
theorem isN_M {h h1 : Hp_} (x : ExM h) (f : Fr wMx h h1) {x1 : Int32} : isN h1 x1 ↔ isM h x1 := by
  unfold isN isM
  rw [(f.2 1 7 (by decide +kernel)).1, ← x.1.1]
theorem c_dwM (d : Nat) {h h1 : Hp_} (I1 : Iv h1) (I : Iv h) (x : ExM h) (R : ExR h) (f : Fr wMx h h1) (x1 x2 x3 : Int32) : Ci (m_X12_draw (d + 5) 0 0) [.ref 1, .int x1, .int x2, .int x3] h1 (DwP PU (fun _ _ b => b) x1 x2 x3 (h_i h (401 + x1.toNatClampNeg)) () h1) := by
  have R1 : ExP h1 := R.2.fr f (by decide +kernel)
  refine m_dw pmU d I1 R1 x1 x2 x3 (b := ()) trivial (h_i h (401 + x1.toNatClampNeg)) (fun y => ?_)
  obtain ⟨_, q1, q2, q3, q4⟩ := x.rp I f y
  have ew : wI h1 = wI h := wI_cg (funext (fun k => fr_i f (by decide +kernel) k))
  refine ⟨q1, q2, q3.1.2.1, q4, fun q e6 a => ?_⟩
  have al := q3.1.2.2.2.2.2.2.2
  rw [if_pos e6] at al
  rw [ew] at a ⊢
  exact (wok I R.2).2.2.2.1 _ _ _ al a
theorem ExM.dw {h h1 h2 : Hp_} {x1 x2 x3 r1 r2 : Int32} (I : Iv h) (x : ExM h) (R : ExR h) (f : Fr wMx h h1) (k1 : DxX x1 x2 x3 h r1 h1) (k2 : DwP PU (fun _ _ b => b) x1 x2 x3 (h_i h (401 + x1.toNatClampNeg)) () h1 r2 h2) : Iv h2 ∧ Fr mwR h1 h2 ∧ ExM h2 ∧ r1 = r2 := by
  have ew : wI h1 = wI h := wI_cg (funext (fun k => fr_i f (by decide +kernel) k))
  have e10 : h_i h1 1 0 = h_i h 0 0 := ((f.2 1 0 (by decide +kernel)).1).trans x.1.2.1.symm
  have pn : 0 ≤ (h_i h 0 0).toInt := by
    have rg := I.2.1 0 0
    rw [show tf 0 0 = (0, 20000) by decide +kernel] at rg
    exact rg.1
  unfold DwP at k2
  rw [e10, ew] at k2
  have ok : (isN h1 x1 ∧ (0 ≤ x2 ∧ x2 ≤ 15) ∧ (h_i h 0 0 ≤ x3 ∧ x3 ≤ 30000) ∧ ¬ wI h (h_i h (401 + x1.toNatClampNeg) 3) x2 = -1 ∧ ¬ h_i h (401 + x1.toNatClampNeg) 4 = 3 ∧ ¬ h_i h (401 + x1.toNatClampNeg) 4 = 4) ↔ (isM h x1 ∧ okDw h (h_i h (401 + x1.toNatClampNeg)) x2 x3) := by
    unfold okDw
    rw [isN_M x f, p15]
  rw [ok] at k2
  by_cases c : isM h x1 ∧ okDw h (h_i h (401 + x1.toNatClampNeg)) x2 x3
  · have z1 := k1.1 c
    have z2 := k2.1 c
    have hj := (x.rk I c.1).1
    have K := (x.2.2.1 _ hj).1
    have p2 := c.2.1
    have t16 : (16 : Int32).toInt = 16 := rfl
    have t0 : (0 : Int32).toInt = 0 := rfl
    have u1 := q_le.mp p2.1
    have u2 := q_lt.mp p2.2
    have z := x.ev hj z1.2 z2.2 (km_dw (wok I R.2) K ⟨by omega, by omega⟩ c.2.2.2.1) fDw_0 (dp_le (cz := 3) K (rwX_in I).1) fDw_4 dp_ev pn rfl
    exact ⟨z2.2.1, z.2.1, z.2.2, z1.1.trans z2.1.symm⟩
  · have z1 := k1.2 c
    have z2 := k2.2 c
    have e := z1.2
    subst e
    exact ⟨z2.2.1, z2.2.2.more (by decide +kernel), x.fr z2.2.2 (by decide +kernel), z1.1.trans z2.1.symm⟩
/-! MEN: ill -/
def IxX (x1 x2 : Int32) (h : Hp_) (r : Int32) (h' : Hp_) : Prop := ((isM h x1 ∧ ¬ h_i h (401 + x1.toNatClampNeg) 4 = 4 ∧ x2 = 1) → r = 1 ∧ Sxm PU (401 + x1.toNatClampNeg) (h_i h 0 0) (fIl (h_i h (401 + x1.toNatClampNeg))).1 (h_i h (401 + x1.toNatClampNeg) 11).toNatClampNeg (fIl (h_i h (401 + x1.toNatClampNeg))).2 () h h') ∧ ((isM h x1 ∧ h_i h (401 + x1.toNatClampNeg) 4 = 4 ∧ x2 = 0) → r = 1 ∧ Sxm PU (401 + x1.toNatClampNeg) (h_i h 0 0) (fFree (h_i h (401 + x1.toNatClampNeg))) (h_i h (401 + x1.toNatClampNeg) 11).toNatClampNeg [] () h h') ∧ (¬ (isM h x1 ∧ ((¬ h_i h (401 + x1.toNatClampNeg) 4 = 4 ∧ x2 = 1) ∨ (h_i h (401 + x1.toNatClampNeg) 4 = 4 ∧ x2 = 0))) → r = 0 ∧ h' = h)
theorem sx_fr {h h' : Hp_} {j : Nat} {n : Int32} {M' : Nat → Int32} {r : Nat} {E : List Ev2} (hj : j < 12) (z : Sxm PU (401 + j) n M' r E () h h') : Fr wMx h h' := gw_fr z.2.1 (by omega) (by omega) (by decide +kernel) (fun k => inw_row (by decide +kernel) k) (by decide +kernel)
theorem il_cs {P Q : Prop} {x2 : Int32} (b2 : x2 = 0 ∨ x2 = 1) : (P ∧ ¬ Q ∧ x2 = 1) ∨ (P ∧ Q ∧ x2 = 0) ∨ ¬ (P ∧ ((¬ Q ∧ x2 = 1) ∨ (Q ∧ x2 = 0))) := by
  by_cases p : P
  · by_cases q : Q
    · rcases b2 with e | e
      · exact Or.inr (Or.inl ⟨p, q, e⟩)
      · exact Or.inr (Or.inr (fun y => y.2.elim (fun z => z.1 q) (fun z => absurd (e.symm.trans z.2) (by decide))))
    · rcases b2 with e | e
      · exact Or.inr (Or.inr (fun y => y.2.elim (fun z => absurd (e.symm.trans z.2) (by decide)) (fun z => q z.1)))
      · exact Or.inl ⟨p, q, e⟩
  · exact Or.inr (Or.inr (fun y => p y.1))
theorem c_ilX (d : Nat) {h : Hp_} (I : Iv h) (x : ExM h) (x1 x2 : Int32) (b2 : x2 = 0 ∨ x2 = 1) : Ci (m_X11_ill (d + 3) 0 0) [.ref 0, .int x1, .int x2] h (fun r h' => Iv h' ∧ Fr wMx h h' ∧ IxX x1 x2 h r h') := by
  have m12 := x.1.2.2.2
  refine Ci.mono (c_il pbU d I x.2.1 (b := ()) trivial x1 x2 b2 (fun y => (x.rk I y).2)) (fun r h' k => ?_)
  rcases il_cs (P := isM h x1) (Q := h_i h (401 + x1.toNatClampNeg) 4 = 4) b2 with c | c | c
  · have z := k.1 c
    have hj := (x.rk I c.1).1
    exact ⟨z.2.1, sx_fr (by omega) z.2, k⟩
  · have z := k.2.1 c
    have hj := (x.rk I c.1).1
    exact ⟨z.2.1, sx_fr (by omega) z.2, k⟩
  · have z := k.2.2 c
    have e := z.2
    subst e
    exact ⟨I, Fr.rf _ _, k⟩
def IxM (x1 x2 : Int32) (M : Nat → Int32) (h : Hp_) (r : Int32) (h' : Hp_) : Prop := ((isN h x1 ∧ ¬ M 4 = 4 ∧ x2 = 1) → r = 1 ∧ Mx PU x1.toNatClampNeg (h_i h 1 0) (fIl M).1 (M 11).toNatClampNeg (fIl M).2 () h h') ∧ ((isN h x1 ∧ M 4 = 4 ∧ x2 = 0) → r = 1 ∧ Mx PU x1.toNatClampNeg (h_i h 1 0) (fFree M) (M 11).toNatClampNeg [] () h h') ∧ (¬ (isN h x1 ∧ ((¬ M 4 = 4 ∧ x2 = 1) ∨ (M 4 = 4 ∧ x2 = 0))) → r = 0 ∧ h' = h)
theorem c_ilM (d : Nat) {h h1 : Hp_} (I1 : Iv h1) (I : Iv h) (x : ExM h) (f : Fr wMx h h1) (x1 x2 : Int32) (b2 : x2 = 0 ∨ x2 = 1) : Ci (m_X12_ill (d + 2) 0 0) [.ref 1, .int x1, .int x2] h1 (IxM x1 x2 (h_i h (401 + x1.toNatClampNeg)) h1) := by
  refine m_il pmU d I1 x1 x2 b2 (b := ()) trivial (h_i h (401 + x1.toNatClampNeg)) (fun y => ?_)
  obtain ⟨_, q1, q2, q3, q4⟩ := x.rp I f y
  exact ⟨q1, q2, q3.1.2.2.2.2.1, q4⟩
theorem ExM.il {h h1 h2 : Hp_} {x1 x2 r1 r2 : Int32} (I : Iv h) (x : ExM h) (R : ExR h) (f : Fr wMx h h1) (b2 : x2 = 0 ∨ x2 = 1) (I1 : Iv h1) (k1 : IxX x1 x2 h r1 h1) (k2 : IxM x1 x2 (h_i h (401 + x1.toNatClampNeg)) h1 r2 h2) : Iv h2 ∧ Fr mwR h1 h2 ∧ ExM h2 ∧ r1 = r2 := by
  have e10 : h_i h1 1 0 = h_i h 0 0 := ((f.2 1 0 (by decide +kernel)).1).trans x.1.2.1.symm
  have pn : 0 ≤ (h_i h 0 0).toInt := by
    have rg := I.2.1 0 0
    rw [show tf 0 0 = (0, 20000) by decide +kernel] at rg
    exact rg.1
  unfold IxM at k2
  rw [e10, isN_M x f] at k2
  rcases il_cs (P := isM h x1) (Q := h_i h (401 + x1.toNatClampNeg) 4 = 4) b2 with c | c | c
  · have z1 := k1.1 c
    have z2 := k2.1 c
    have hj := (x.rk I c.1).1
    have K := (x.2.2.1 _ hj).1
    have z := x.ev hj z1.2 z2.2 (km_il (wok I R.2) K) (fDp_k (by decide) (by decide) (by decide)) (dp_le (cz := 4) K (rwX_in I).1) (fun e => absurd (show (4 : Int32) = 1 from e) (by decide)) dp_ev pn rfl
    exact ⟨z2.2.1, z.2.1, z.2.2, z1.1.trans z2.1.symm⟩
  · have z1 := k1.2.1 c
    have z2 := k2.2.1 c
    have hj := (x.rk I c.1).1
    have K := (x.2.2.1 _ hj).1
    have z := x.ev hj z1.2 z2.2 (km_fr K c.2.1) rfl (Or.inl rfl) (fun e => absurd (show (0 : Int32) = 1 from e) (by decide)) (fun e he => (by cases he)) pn rfl
    exact ⟨z2.2.1, z.2.1, z.2.2, z1.1.trans z2.1.symm⟩
  · have z1 := k1.2.2 c
    have z2 := k2.2.2 c
    have e := z1.2
    subst e
    have e := z2.2
    subst e
    exact ⟨I, Fr.rf _ _, x, z1.1.trans z2.1.symm⟩
/-! MEN: tick -/
section MEN
variable {β : Type}
/-- rows that are not given yet stay so -/
theorem po_man {lP : Nat → Int32 → (Nat → Int32) → β → β} {tB : Int32 → Int32 → β → β} {n : Int32} {w : Int32 → Int32 → Int32} {BL : Nat → List Sp3} {nb rw m : Nat} {own : Nat → Int32} {s : Pst β} (hl : ∀ k, k < nb → (BL k).length ≤ 150) (H : pI w BL nb rw own m s) {j : Nat} (hj : j < m) {k : Nat} (hk : rw ≤ k) : (pMan lP tB n w BL j s).2.1 k = s.2.1 k := by
  unfold pMan
  by_cases y : s.1 j 7 = n
  · rw [if_pos y]
    show rz Prod.fst (s.1 j 11).toNatClampNeg (pGo n w BL (s.1 j)).2 s.2.1 k = _
    refine rz_o _ _ _ _ _ ?_
    by_cases y1 : s.1 j 4 = 1
    · obtain ⟨i', _, _, b8, hd, e9, _, r0, r1, r2⟩ := kmb_x hl ((H j hj).1.2 y1)
      have n11 := n_nat r0
      have ll : (pGo n w BL (s.1 j)).2.length ≤ _ := (Rk.go (n := n) (w := w) (x := (pX BL (s.1 j)).1) (L := (pX BL (s.1 j)).2) (M := s.1 j)).2.2.1
      right
      omega
    · have e : (pGo n w BL (s.1 j)).2 = [] := fGo_e y1
      rw [e]
      show k < _ ∨ _ + 0 ≤ k
      omega
  · rw [if_neg y]
theorem po_men {lP : Nat → Int32 → (Nat → Int32) → β → β} {tB : Int32 → Int32 → β → β} {n : Int32} {w : Int32 → Int32 → Int32} {BL : Nat → List Sp3} {nb rw m : Nat} {own : Nat → Int32} (W : WOk w) (hb : ∀ k x, k < nb → x ∈ BL k → stR x) (hl : ∀ k, k < nb → (BL k).length ≤ 150) (r4 : rw ≤ 400) (p0 : 0 ≤ n.toInt) (m12 : m ≤ 12) {k : Nat} (hk : rw ≤ k) : ∀ (j : Nat) {s : Pst β}, j ≤ m → pI w BL nb rw own m s → (pMen lP tB n w BL j s).2.1 k = s.2.1 k
  | 0, _, _, _ => rfl
  | j + 1, _, hj, H => (po_man hl (pI_men W hb hl r4 p0 m12 j (by omega) H) (by omega) hk).trans (po_men W hb hl r4 p0 m12 hk j (by omega) H)
theorem po_tk {lP : Nat → Int32 → (Nat → Int32) → β → β} {tB : Int32 → Int32 → β → β} {nB : Int32 → (Nat → Int32) → β → β} {n : Int32} {w : Int32 → Int32 → Int32} {BL : Nat → List Sp3} {nb rw m : Nat} {own : Nat → Int32} (W : WOk w) (hb : ∀ k x, k < nb → x ∈ BL k → stR x) (hl : ∀ k, k < nb → (BL k).length ≤ 150) (r4 : rw ≤ 400) (p0 : 0 ≤ n.toInt ∧ n.toInt ≤ 20000) (m12 : m ≤ 12) {k : Nat} (hk : rw ≤ k) : ∀ (i : Nat) {s : Pst β}, i ≤ 20000 → pI w BL nb rw own m s → (pTk lP tB nB w BL m n i s).2.1 k = s.2.1 k
  | 0, _, _, _ => rfl
  | i + 1, s, hi, H => (po_men W hb hl r4 (by rw [tx_add (by rw [on_j (by omega)]; omega) (by rw [on_j (by omega)]; omega), on_j (by omega)]; omega) m12 hk m (s := pOv nB (n + Int32.ofNat i) (pTk lP tB nB w BL m n i s)) (Nat.le_refl _) (pI_tk W hb hl r4 p0 m12 i (by omega) H)).trans (po_tk W hb hl r4 p0 m12 hk i (by omega) H)
theorem tm_man {lP : Nat → Int32 → (Nat → Int32) → β → β} {tB : Int32 → Int32 → β → β} {n : Int32} {w : Int32 → Int32 → Int32} {BL : Nat → List Sp3} {s : Pst β} {j k : Nat} {N : Int} (h : ¬ s.2.1 k = 0 → (s.2.2.1 k).toInt ≤ N) (l : N ≤ n.toInt) : ¬ (pMan lP tB n w BL j s).2.1 k = 0 → ((pMan lP tB n w BL j s).2.2.1 k).toInt ≤ n.toInt := by
  unfold pMan
  by_cases y : s.1 j 7 = n
  · rw [if_pos y]
    exact tm_rz h l
  · rw [if_neg y]
    exact fun ne => Int.le_trans (h ne) l
theorem tm_men {lP : Nat → Int32 → (Nat → Int32) → β → β} {tB : Int32 → Int32 → β → β} {n : Int32} {w : Int32 → Int32 → Int32} {BL : Nat → List Sp3} {k : Nat} {N : Int} (l : N ≤ n.toInt) : ∀ (j : Nat) {s : Pst β}, (¬ s.2.1 k = 0 → (s.2.2.1 k).toInt ≤ N) → ¬ (pMen lP tB n w BL j s).2.1 k = 0 → ((pMen lP tB n w BL j s).2.2.1 k).toInt ≤ n.toInt
  | 0, _, h => fun ne => Int.le_trans (h ne) l
  | j + 1, _, h => tm_man (tm_men l j h) (Int.le_refl _)
theorem tm_tk {lP : Nat → Int32 → (Nat → Int32) → β → β} {tB : Int32 → Int32 → β → β} {nB : Int32 → (Nat → Int32) → β → β} {n : Int32} {w : Int32 → Int32 → Int32} {BL : Nat → List Sp3} {m k : Nat} (p0 : 0 ≤ n.toInt ∧ n.toInt ≤ 20000) : ∀ (i : Nat) {s : Pst β}, i ≤ 20000 → (¬ s.2.1 k = 0 → (s.2.2.1 k).toInt ≤ n.toInt) → ¬ (pTk lP tB nB w BL m n i s).2.1 k = 0 → ((pTk lP tB nB w BL m n i s).2.2.1 k).toInt ≤ n.toInt + (i : Int)
  | 0, s, _, h => fun ne => by
    have z : (s.2.2.1 k).toInt ≤ n.toInt := h ne
    show (s.2.2.1 k).toInt ≤ n.toInt + ((0 : Nat) : Int)
    omega
  | i + 1, s, hi, h => fun ne => by
    have e : (n + Int32.ofNat (i + 1)).toInt = n.toInt + ((i + 1 : Nat) : Int) := by rw [tx_add (by rw [on_j (by omega)]; omega) (by rw [on_j (by omega)]; omega), on_j (by omega)]
    have z := tm_men (lP := lP) (tB := tB) (n := n + Int32.ofNat (i + 1)) (w := w) (BL := BL) (k := k) (N := n.toInt + (i : Int)) (by rw [e]; omega) m (s := pOv nB (n + Int32.ofNat i) (pTk lP tB nB w BL m n i s)) (tm_tk p0 i (by omega) h) ne
    rw [e] at z
    exact z
end MEN
abbrev lU : Nat → Int32 → (Nat → Int32) → Unit → Unit := fun _ _ _ b => b
abbrev tU : Int32 → Int32 → Unit → Unit := fun _ _ b => b
abbrev nU : Int32 → (Nat → Int32) → Unit → Unit := fun _ _ b => b
def B35 (h : Hp_) : Prop := ∀ k, k < (h_i h 12 3).toNatClampNeg → h_i h 35 k = h_i h 227 k
theorem ExM.m {h : Hp_} (I : Iv h) (x : ExM h) : h_i h 0 7 = Int32.ofNat (h_i h 0 7).toNatClampNeg := (on_of ⟨(menX_in I).1, by have := (menX_in I).2; omega⟩).symm
theorem c_tkU (d : Nat) {h : Hp_} (I : Iv h) (x : ExM h) (R : ExR h) (S : ExS h) (B : B35 h) (x1 : Int32) {c N : Nat} (hc : h_r h 0 15 = some c) (hs : h_sh h c = some (3, N)) (hN : N ≤ 20000) : ∃ mc ms N', N' ≤ 20000 ∧ hcost mc ms N N' ∧ Ci (m_X11_tick (d + 8) mc ms) [.ref 0, .int x1] h (Tkx PU lU tU nU (h_i h 0 7).toNatClampNeg N' (sX h) x1 h) := c_tkX (PB := PU) (lP := lU) (tB := tU) (nB := nU) pbU ⟨fun _ _ _ _ _ _ _ _ _ _ => trivial, fun _ _ _ _ _ _ _ => trivial⟩ d I ⟨R.2, S, B, x.2.1, x.m I, x.1.2.2.2, x.2.2.1⟩ ⟨fun _ _ => rfl, ⟨rfl, rfl, rfl⟩, trivial⟩ (fun _ _ _ _ _ _ _ => rfl) (fun _ _ _ _ _ => rfl) x1 hc hs hN
theorem c_tmU (d : Nat) {h h1 : Hp_} (I1 : Iv h1) (J1 : J2 h1) (I : Iv h) (x : ExM h) (R : ExR h) (S : ExS h) (e42 : h_i h 12 3 = h_i h 1 42) (f : Mf wsX h h1) (x1 : Int32) : Ci (m_X12_tick (d + 10) 0 0) [.ref 1, .int x1] h1 (Tkm PU lU tU nU (h_i h 0 7).toNatClampNeg (h_i h 16 7).toNatClampNeg (sX h) x1 h1) := by
  have rr : ∀ a, 200 ≤ a → a < 300 → h_i h1 a = h_i h a := fun a p q => funext (fun k => f.2.1 a p q k)
  have ew : wI h1 = wI h := wI_cg (funext (fun k => (f.2.2.2 30 k (Or.inl (by decide)) (off_inw (by decide +kernel) k)).1))
  have eb : bL h1 = bL h := bL_cg (rr 227 (by decide) (by decide)) (rr 228 (by decide) (by decide)) (rr 229 (by decide) (by decide)) (rr 230 (by decide) (by decide))
  have es : ∀ k, sB h1 k = sB h k := fun k => by
    funext i
    unfold sB
    rw [rr 228 (by decide) (by decide), rr 229 (by decide) (by decide), rr 230 (by decide) (by decide)]
  refine c_tkM (PM := PU) (lP := lU) (tB := tU) (nB := nU) pmU d I1 J1 (fun _ _ _ _ _ _ _ _ => trivial) ⟨R.2.mf f (by decide +kernel), fun k hk i hi => ?_, ?_, x.1.2.2.2, (rwX_in I).1, h_i h 47, ?_⟩ ⟨fun j hj => (x.2.2.2.1 j hj).cg (fun a ha => ?_), fun k hk => ?_, trivial⟩ (fun _ _ _ _ _ _ _ => rfl) (fun _ _ _ _ _ => rfl) x1
  · rw [f.1 42, ← e42] at hk
    rw [rr 227 (by decide) (by decide)] at hi
    rw [es]
    exact (S k hk i hi).2
  · rw [f.1 7, ← x.1.1]
    exact x.m I
  · rw [ew, eb, f.1 42, ← e42]
    exact x.2.2.1
  · have z : ∀ a ∈ 206 :: mrL, 200 ≤ a ∧ a < 300 := by decide
    exact f.2.1 a (z a ha).1 (z a ha).2 j
  · rw [rr 241 (by decide) (by decide), rr 242 (by decide) (by decide), rr 243 (by decide) (by decide)]
    exact (x.2.2.2.2.1 k hk).1
theorem ExM.tk {h h1 h2 : Hp_} {x1 r1 r2 : Int32} {N' : Nat} (I : Iv h) (x : ExM h) (R : ExR h) (S : ExS h) (k1 : Tkx PU lU tU nU (h_i h 0 7).toNatClampNeg N' (sX h) x1 h r1 h1) (k2 : Tkm PU lU tU nU (h_i h 0 7).toNatClampNeg (h_i h 16 7).toNatClampNeg (sX h) x1 h1 r2 h2) : ExM h2 := by
  have f := k1.1.2.1
  have rr : ∀ a, 200 ≤ a → a < 300 → h_i h1 a = h_i h a := fun a p q => funext (fun k => f.2.1 a p q k)
  have ew : wI h1 = wI h := wI_cg (funext (fun k => (f.2.2.2 30 k (Or.inl (by decide)) (off_inw (by decide +kernel) k)).1))
  have eb : bL h1 = bL h := bL_cg (rr 227 (by decide) (by decide)) (rr 228 (by decide) (by decide)) (rr 229 (by decide) (by decide)) (rr 230 (by decide) (by decide))
  have e10 : h_i h1 1 0 = h_i h 0 0 := (f.1 0).trans x.1.2.1.symm
  have rg := I.2.1 0 0
  rw [show tf 0 0 = (0, 20000) by decide +kernel] at rg
  have g0 : 0 ≤ (h_i h 0 0).toInt := rg.1
  have g1 : (h_i h 0 0).toInt ≤ 20000 := rg.2
  have m12 := x.1.2.2.2
  by_cases o : okt (h_i h 0 0) x1
  · obtain ⟨a1, a2, a3⟩ := k1.2.1 o
    obtain ⟨b1, b2, b3⟩ := k2.2.1 (by rw [e10]; exact o)
    rw [e10, ew, eb] at b3
    rw [e10] at b1
    have x0 := q_le.mp o.1.1
    have x5 := q_le.mp o.1.2
    have t0 : (0 : Int32).toInt = 0 := rfl
    have t5 : (1500 : Int32).toInt = 1500 := rfl
    have nx := n_nat (x := x1) (by omega)
    have rw4 := (rwX_in I).1
    have W := wok I R.2
    have P := pI_tk (lP := lU) (tB := tU) (nB := nU) W (bL_hb S) (bL_hl I _) rw4 ⟨g0, g1⟩ m12 x1.toNatClampNeg (by omega) x.2.2.1
    have O := fun k (hk : (h_i h 16 7).toNatClampNeg ≤ k) => po_tk (lP := lU) (tB := tU) (nB := nU) W (bL_hb S) (bL_hl I _) rw4 ⟨g0, g1⟩ m12 hk x1.toNatClampNeg (by omega) x.2.2.1
    have TM := fun k (hk : k < (h_i h 16 7).toNatClampNeg) => tm_tk (lP := lU) (tB := tU) (nB := nU) (w := wI h) (BL := bL h) (m := (h_i h 0 7).toNatClampNeg) (k := k) ⟨g0, g1⟩ x1.toNatClampNeg (s := sX h) (by omega) (x.2.2.2.2.1 k hk).2.2
    generalize pTk lU tU nU (wI h) (bL h) (h_i h 0 7).toNatClampNeg (h_i h 0 0) x1.toNatClampNeg (sX h) = s at a2 b3 P O TM
    have c1 : ∀ a k, a < 200 → inw (0 :: 15 :: wgM) a k = false → inw wtM a k = false → h_i h2 a k = h_i h a k := fun a k l p q => ((b2.2 a k q).1).trans (a3 a k l p)
    have cr : ∀ a, a < 200 → off (0 :: 15 :: wgM) a = true → off wtM a = true → h_i h2 a = h_i h a := fun a l p q => funext (fun k => c1 a k l (off_inw p k) (off_inw q k))
    have dr : ∀ a, 200 ≤ a → a < 300 → off wtM a = true → h_i h2 a = h_i h a := fun a p q o => (funext (fun k => fr_i b2 o k)).trans (rr a p q)
    have e2 : ∀ a, off wtM a = true → h_i h2 a = h_i h1 a := fun a o => funext (fun k => fr_i b2 o k)
    have n07 : h_i h2 0 7 = h_i h 0 7 := c1 0 7 (by decide) (by decide +kernel) (by decide +kernel)
    have n17 : h_i h2 1 7 = h_i h 1 7 := ((b2.2 1 7 (by decide +kernel)).1).trans (f.1 7)
    have nr : h_i h2 16 7 = h_i h 16 7 := c1 16 7 (by decide) (by decide +kernel) (by decide +kernel)
    have n63 : h_i h2 1 63 = h_i h 1 63 := ((b2.2 1 63 (by decide +kernel)).1).trans (f.1 63)
    have n3 : h_i h2 12 3 = h_i h 12 3 := c1 12 3 (by decide) (by decide +kernel) (by decide +kernel)
    have cm : ∀ l, l < 12 → h_i h2 (401 + l) = h_i h1 (401 + l) := fun l hl => funext (fun k => (b2.2 (401 + l) k (by
      rw [inw_ce (b := 401) ((cn_man hl).trans (by decide))]
      exact off_inw (by decide +kernel) k)).1)
    refine ⟨⟨by rw [n07, n17]; exact x.1.1, ?_, by rw [nr, n63]; exact x.1.2.2.1, by rw [n07]; exact m12⟩, fun k hk => ?_, ?_, fun l hl => ?_, fun k hk => ?_, fun k hk h4 => ?_⟩
    · rw [(b2.2 0 0 (by decide +kernel)).1, a1, b1]
    · rw [(b2.2 15 k (off_inw (by decide +kernel) k)).2.2, (f.2.2.2 15 k (Or.inl (by decide)) (off_inw (by decide +kernel) k)).2]
      exact x.2.1 k (by rw [n07] at hk; exact hk)
    · rw [wI_cg (cr 30 (by decide) (by decide +kernel) (by decide +kernel)), bL_cg (dr 227 (by decide) (by decide) (by decide +kernel)) (dr 228 (by decide) (by decide) (by decide +kernel)) (dr 229 (by decide) (by decide) (by decide +kernel)) (dr 230 (by decide) (by decide) (by decide +kernel)), n3, nr, cr 47 (by decide) (by decide +kernel) (by decide +kernel), n07]
      exact P.cs (fun j hj => (cm j (by omega)).trans (a2.1 j hj)) ((e2 51 (by decide +kernel)).trans a2.2.1.1)
    · rw [n07] at hl
      rw [cm l (by omega), a2.1 l hl]
      exact b3.1 l hl
    · rw [nr] at hk
      have q := x.2.2.2.2.1 k hk
      rw [e2 51 (by decide +kernel), e2 52 (by decide +kernel), e2 53 (by decide +kernel), a2.2.1.1, a2.2.1.2.1, a2.2.1.2.2, cr 47 (by decide) (by decide +kernel) (by decide +kernel), cr 48 (by decide) (by decide +kernel) (by decide +kernel), cr 49 (by decide) (by decide +kernel) (by decide +kernel), cr 50 (by decide) (by decide +kernel) (by decide +kernel), dr 238 (by decide) (by decide) (by decide +kernel), dr 239 (by decide) (by decide) (by decide +kernel), dr 240 (by decide) (by decide) (by decide +kernel), dr 244 (by decide) (by decide) (by decide +kernel)]
      refine ⟨b3.2.1 k hk, q.2.1, fun ne => ?_⟩
      have z := TM k hk ne
      rw [(b2.2 0 0 (by decide +kernel)).1, a1, tx_add (by have := o.2; omega) (by have := o.2; omega)]
      omega
    · rw [nr] at hk
      rw [e2 51 (by decide +kernel), a2.2.1.1, O k hk]
      exact x.2.2.2.2.2 k hk h4
  · rw [k2.2.2 (by rw [e10]; exact o), k1.2.2 o]
    exact x
/-! MEN: begin -/
theorem mP_l (h : Hp_) (k : Nat) : ∀ n i : Nat, mP (h_i h 228) k n i = mts ((List.range' i n).map (sB h k))
  | 0, _ => rfl
  | n + 1, i => by
    show (if h_i h 228 (150 * k + i) = 2 then 1 else 0) + mP (h_i h 228) k n (i + 1) = _
    rw [mP_l h k n (i + 1), List.range'_succ]
    rfl
theorem mP_b (h : Hp_) (k : Nat) : mP (h_i h 228) k (h_i h 227 k).toNatClampNeg 0 = mts (bL h k) := by
  rw [mP_l]
  unfold bL
  rw [List.range_eq_range']
theorem bs_x {h : Hp_} (I : Iv h) (S : ExS h) (B : ExB h) (x2 : Int32) (b2 : 0 ≤ x2.toInt ∧ x2.toInt < (h_i h 12 3).toInt) : Stb h x2 0 (bL h x2.toNatClampNeg) ∧ h_i h 35 x2.toNatClampNeg = Int32.ofNat (bL h x2.toNatClampNeg).length ∧ (h_i h 36 x2.toNatClampNeg).toInt = (mts (bL h x2.toNatClampNeg) : Int) := by
  have b3 := x12_in I
  have n3 := n_nat b3.1
  have nx := n_nat b2.1
  have z := z227 I x2.toNatClampNeg
  have q := B x2.toNatClampNeg (by omega)
  refine ⟨⟨⟨b2.1, by omega⟩, ?_, fun k x e => ?_⟩, ?_, ?_⟩
  · rw [bL_l]
    omega
  · have lk : k < (bL h x2.toNatClampNeg).length := (List.getElem?_eq_some_iff.mp e).1
    rw [bL_l] at lk
    rw [bL_g lk] at e
    rw [← Option.some.inj e, Nat.zero_add]
    exact S _ (by omega) _ lk
  · rw [q.1, bL_l]
    exact (of_nat32 (by omega)).symm
  · rw [q.2, mP_b]
def wBx : List Nat := 14 :: 401999 :: (wwR ++ wgM)
def BgK (x1 x2 : Int32) (h : Hp_) : Prop := isM h x1 ∧ (0 ≤ x2.toInt ∧ x2.toInt < (h_i h 12 3).toInt) ∧ h_i h (401 + x1.toNatClampNeg) 4 = 0 ∧ (h_i h 16 7).toInt + (mts (bL h x2.toNatClampNeg) : Int) ≤ 400
def BgF (x1 x2 : Int32) (h : Hp_) : (Nat → Int32) × List Ev2 := fBg (h_i h 0 0) (wI h) x2 (h_i h 16 7).toNatClampNeg ((h_i h 16 7).toNatClampNeg + mts (bL h x2.toNatClampNeg)) (bL h x2.toNatClampNeg) (h_i h (401 + x1.toNatClampNeg))
def BgX (x1 x2 : Int32) (h : Hp_) (r : Int32) (h' : Hp_) : Prop := (BgK x1 x2 h → r = 1 ∧ Bxm PU (401 + x1.toNatClampNeg) x1 (h_i h 0 0) (BgF x1 x2 h).1 (h_i h 16 7).toNatClampNeg (ptL (bL h x2.toNatClampNeg)) (BgF x1 x2 h).2 () h h') ∧ (¬ BgK x1 x2 h → r = 0 ∧ h' = h)
theorem c_bgX (d : Nat) {h : Hp_} (I : Iv h) (x : ExM h) (S : ExS h) (B : ExB h) (x1 x2 : Int32) : Ci (m_X11_begin (d + 6) 0 0) [.ref 0, .int x1, .int x2] h (fun r h' => Iv h' ∧ Fr wBx h h' ∧ BgX x1 x2 h r h') := by
  have m12 := x.1.2.2.2
  refine Ci.mono (c_bg (PB := PU) pbU d I x.2.1 (b := ()) trivial x1 x2 (fun y => ?_) (bL h x2.toNatClampNeg) (bs_x I S B x2)) (fun r h' k => ?_)
  · have hj := (x.rk I y).1
    have mm := menX_in I
    have y2 := y.2
    exact (x.2.2.1 _ hj).2.1.trans (on_of ⟨y.1, by omega⟩)
  · by_cases c : BgK x1 x2 h
    · have z := k.1 c
      have hj := (x.rk I c.1).1
      exact ⟨z.2.1, gw_fr z.2.2.1 (by omega) (by omega) (by decide +kernel) (fun k => inw_row (by decide +kernel) k) (by decide +kernel), fun _ => z, fun n => absurd c n⟩
    · have z := k.2 c
      have e := z.2
      subst e
      exact ⟨I, Fr.rf _ _, fun n => absurd n c, fun _ => z⟩
theorem bg_k {h h1 : Hp_} (f : Fr wBx h h1) (o : h_i h1 16 7 = h_i h 16 7 ∨ True) : wI h1 = wI h ∧ bL h1 = bL h ∧ (∀ k, sB h1 k = sB h k) ∧ (∀ k, h_i h1 1 k = h_i h 1 k) ∧ ∀ a, 200 ≤ a → a < 300 → h_i h1 a = h_i h a := by
  have rr : ∀ a, 200 ≤ a → a < 300 → h_i h1 a = h_i h a := fun a p q => by
    have z : ∀ i, i < 100 → off wBx (200 + i) = true := fun i hi => List.all_eq_true.mp (show (List.range 100).all (fun i => off wBx (200 + i)) = true by decide +kernel) i (List.mem_range.mpr hi)
    have y := z (a - 200) (by omega)
    rw [show 200 + (a - 200) = a by omega] at y
    exact funext (fun k => fr_i f y k)
  refine ⟨wI_cg (funext (fun k => fr_i f (by decide +kernel) k)), bL_cg (rr 227 (by decide) (by decide)) (rr 228 (by decide) (by decide)) (rr 229 (by decide) (by decide)) (rr 230 (by decide) (by decide)), fun k => ?_, fun k => fr_i f (by decide +kernel) k, rr⟩
  funext i
  unfold sB
  rw [rr 228 (by decide) (by decide), rr 229 (by decide) (by decide), rr 230 (by decide) (by decide)]
def BgM (x1 x2 : Int32) (h h1 : Hp_) (r : Int32) (h' : Hp_) : Prop := (BgK x1 x2 h → r = 1 ∧ Bym PU x1.toNatClampNeg x1 (h_i h 0 0) (BgF x1 x2 h).1 (h_i h 16 7).toNatClampNeg (ptL (bL h x2.toNatClampNeg)) (BgF x1 x2 h).2 () h1 h') ∧ (¬ BgK x1 x2 h → r = 0 ∧ h' = h1)
theorem c_bgM (d : Nat) {h h1 : Hp_} (I1 : Iv h1) (I : Iv h) (x : ExM h) (R : ExR h) (S : ExS h) (e42 : h_i h 12 3 = h_i h 1 42) (f : Fr wBx h h1) (x1 x2 : Int32) : Ci (m_X12_begin (d + 4) 0 0) [.ref 1, .int x1, .int x2] h1 (BgM x1 x2 h h1) := by
  obtain ⟨ew, eb, es, e1, rr⟩ := bg_k f (Or.inr trivial)
  have R1 : ExP h1 := R.2.fr f (by decide +kernel)
  have b3 := x12_in I
  have n3 := n_nat b3.1
  have iN : isN h1 x1 ↔ isM h x1 := by
    unfold isN isM
    rw [e1, ← x.1.1]
  have K := m_bg (PM := PU) pmU d I1 R1 x1 x2 (b := ()) trivial (h_i h (401 + x1.toNatClampNeg)) (fun y => ?_) (bL h x2.toNatClampNeg) (fun b2 => ?_)
  · rw [ew, e1, e1, e1, ← e42, ← x.1.2.1, ← x.1.2.2.1, iN] at K
    exact K
  · have y := iN.mp y
    have hj := (x.rk I y).1
    have mm := menX_in I
    have y2 := y.2
    have a := (x.2.2.1 _ hj).1.1
    refine ⟨(x.2.2.2.1 _ hj).cg (fun a ha => ?_), (x.2.2.1 _ hj).2.1.trans (on_of ⟨y.1, by omega⟩), a.2.2.2.1, a.2.1⟩
    have z : ∀ a ∈ 206 :: mrL, 200 ≤ a ∧ a < 300 := by decide
    rw [rr a (z a ha).1 (z a ha).2]
  · rw [e1, ← e42] at b2
    have nx := n_nat b2.1
    have z := z227 I x2.toNatClampNeg
    rw [rr 227 (by decide) (by decide), rr 228 (by decide) (by decide)]
    refine ⟨⟨⟨b2.1, by omega⟩, ?_, fun k q e => ?_⟩, ?_, mP_b h _⟩
    · rw [bL_l]
      omega
    · have lk : k < (bL h x2.toNatClampNeg).length := (List.getElem?_eq_some_iff.mp e).1
      rw [bL_l] at lk
      rw [bL_g lk] at e
      rw [← Option.some.inj e, Nat.zero_add, es]
      exact ⟨rfl, (S _ (by omega) _ lk).2⟩
    · rw [bL_l]
      exact (of_nat32 (by omega)).symm
theorem ExM.bg {h h1 h2 : Hp_} {x1 x2 r1 r2 : Int32} (I : Iv h) (x : ExM h) (R : ExR h) (S : ExS h) (I1 : Iv h1) (f : Fr wBx h h1) (k1 : BgX x1 x2 h r1 h1) (k2 : BgM x1 x2 h h1 r2 h2) : Iv h2 ∧ Fr mwB h1 h2 ∧ ExM h2 ∧ r1 = r2 := by
  by_cases c : BgK x1 x2 h
  case neg =>
    have z1 := k1.2 c
    have z2 := k2.2 c
    have e := z1.2
    subst e
    have e := z2.2
    subst e
    exact ⟨I, Fr.rf _ _, x, z1.1.trans z2.1.symm⟩
  obtain ⟨ea, z1⟩ := k1.1 c
  obtain ⟨eb, z2⟩ := k2.1 c
  obtain ⟨cM, cB, c4, cR⟩ := c
  refine ⟨z2.1, z2.2.1.1, ?_, ea.trans eb.symm⟩
  obtain ⟨ew, ebL, es, e1, rr⟩ := bg_k f (Or.inr trivial)
  have hj := (x.rk I cM).1
  have m12 := x.1.2.2.2
  have r4 := rwX_in I
  have mm := menX_in I
  have y2 := cM.2
  have b3 := x12_in I
  have n3 := n_nat b3.1
  have nx := n_nat cB.1
  have z227' := z227 I x2.toNatClampNeg
  have ej : x1 = Int32.ofNat x1.toNatClampNeg := (on_of ⟨cM.1, by omega⟩).symm
  have pn : 0 ≤ (h_i h 0 0).toInt := by
    have rg := I.2.1 0 0
    rw [show tf 0 0 = (0, 20000) by decide +kernel] at rg
    exact rg.1
  have f2 : Fr mwB h1 h2 := z2.2.1.1
  have W := wok I R.2
  have K0 := (x.2.2.1 _ hj).1.1
  have e6 := (K0.2.2.2.1 c4).1
  have al := K0.2.2.2.2.2.2.2
  have Rs := Rk.st (n := h_i h 0 0) (w := wI h) (bL h x2.toNatClampNeg) (up1 (up1 (up1 (up1 (up1 (up1 (h_i h (401 + x1.toNatClampNeg)) 4 1) 8 x2) 9 0) 10 (h_i h 0 0)) 11 (Int32.ofNat (h_i h 16 7).toNatClampNeg)) 12 (Int32.ofNat ((h_i h 16 7).toNatClampNeg + mts (bL h x2.toNatClampNeg))))
  have Ks := km_st (n := h_i h 0 0) (nb := (h_i h 12 3).toNatClampNeg) (rw := (h_i h 16 7).toNatClampNeg + mts (bL h x2.toNatClampNeg)) (BL := bL h) W (bL h x2.toNatClampNeg) (up1 (up1 (up1 (up1 (up1 (up1 (h_i h (401 + x1.toNatClampNeg)) 4 1) 8 x2) 9 0) 10 (h_i h 0 0)) 11 (Int32.ofNat (h_i h 16 7).toNatClampNeg)) 12 (Int32.ofNat ((h_i h 16 7).toNatClampNeg + mts (bL h x2.toNatClampNeg)))) 0 (fun y hy => bL_hb S _ y (by omega) hy) rfl e6 (K0.2.1 e6) K0.1 (by rw [if_pos e6] at al; exact al) ⟨cB.1, by show x2.toNatClampNeg < _; omega⟩ List.drop_zero rfl (by rw [bL_l]; omega) (by show 0 ≤ (Int32.ofNat _).toInt; rw [on_j (by omega)]; omega) (by show (Int32.ofNat _).toInt + _ = (Int32.ofNat _).toInt; rw [on_j (by omega), on_j (by omega)]; omega) (by show (Int32.ofNat _).toInt ≤ _; rw [on_j (by omega)]; omega) (by omega)
  have eF : BgF x1 x2 h = fSt (h_i h 0 0) (wI h) (bL h x2.toNatClampNeg) (up1 (up1 (up1 (up1 (up1 (up1 (h_i h (401 + x1.toNatClampNeg)) 4 1) 8 x2) 9 0) 10 (h_i h 0 0)) 11 (Int32.ofNat (h_i h 16 7).toNatClampNeg)) 12 (Int32.ofNat ((h_i h 16 7).toNatClampNeg + mts (bL h x2.toNatClampNeg)))) := rfl
  rw [← eF] at Rs Ks
  have F11 : (BgF x1 x2 h).1 11 = Int32.ofNat (h_i h 16 7).toNatClampNeg + Int32.ofNat (BgF x1 x2 h).2.length := Rs.2.2.2.1
  have F12 : (BgF x1 x2 h).1 12 = Int32.ofNat ((h_i h 16 7).toNatClampNeg + mts (bL h x2.toNatClampNeg)) := Rs.1 12 (by decide)
  have F0 : (BgF x1 x2 h).1 0 = h_i h (401 + x1.toNatClampNeg) 0 := Rs.1 0 (by decide)
  have FE := Rs.2.1
  have FL : (BgF x1 x2 h).2.length ≤ mts (bL h x2.toNatClampNeg) := Rs.2.2.1
  generalize BgF x1 x2 h = F at z1 z2 Ks F11 F12 F0 FE FL
  have ql := ptL_l (bL h x2.toNatClampNeg)
  generalize ptL (bL h x2.toNatClampNeg) = Q at z1 z2 ql
  have i1 : ∀ a k, inw wBx a k = false → inw mwB a k = false → h_i h2 a k = h_i h a k := fun a k o1 o2 => ((f2.2 a k o2).1).trans (f.2 a k o1).1
  have q1 : ∀ a, off wBx a = true → off mwB a = true → h_i h2 a = h_i h a := fun a o1 o2 => funext (fun k => i1 a k (off_inw o1 k) (off_inw o2 k))
  have e2 : ∀ a, off mwB a = true → h_i h2 a = h_i h1 a := fun a o => funext (fun k => fr_i f2 o k)
  have n07 : h_i h2 0 7 = h_i h 0 7 := i1 0 7 (by decide +kernel) (by decide +kernel)
  have n17 : h_i h2 1 7 = h_i h 1 7 := i1 1 7 (by decide +kernel) (by decide +kernel)
  have n00 : h_i h2 0 0 = h_i h 0 0 := i1 0 0 (by decide +kernel) (by decide +kernel)
  have n10 : h_i h2 1 0 = h_i h 1 0 := i1 1 0 (by decide +kernel) (by decide +kernel)
  have n3' : h_i h2 12 3 = h_i h 12 3 := i1 12 3 (by decide +kernel) (by decide +kernel)
  have nr : h_i h2 16 7 = Int32.ofNat ((h_i h 16 7).toNatClampNeg + Q.length) := ((f2.2 16 7 (by decide +kernel)).1).trans z1.2.2.2.2.1
  have n63 : h_i h2 1 63 = Int32.ofNat ((h_i h 16 7).toNatClampNeg + Q.length) := z2.2.2.2.2.1.1
  have nr' : (h_i h2 16 7).toNatClampNeg = (h_i h 16 7).toNatClampNeg + mts (bL h x2.toNatClampNeg) := by rw [nr, ql, on_k (by omega)]
  have c2 : ∀ l, l < 12 → h_i h2 (401 + l) = h_i h1 (401 + l) := fun l hl => funext (fun k => (f2.2 (401 + l) k (by
    rw [inw_ce (b := 401) ((cn_man hl).trans (by decide))]
    exact off_inw (by decide +kernel) k)).1)
  have cj : h_i h2 (401 + x1.toNatClampNeg) = F.1 := (c2 _ (by omega)).trans z1.2.2.1
  have co : ∀ l, l < 12 → l ≠ x1.toNatClampNeg → h_i h2 (401 + l) = h_i h (401 + l) := fun l hl ne => (c2 l hl).trans (funext (fun k => z1.2.1.i (401 + l) k (by omega) (by
    rw [inw_ce (b := 401) ((cn_man hl).trans (by decide))]
    exact off_inw (by decide +kernel) k)))
  have g47 := (e2 47 (by decide +kernel)).trans z1.2.2.2.1.1
  have g48 := (e2 48 (by decide +kernel)).trans z1.2.2.2.1.2.1
  have g49 := (e2 49 (by decide +kernel)).trans z1.2.2.2.1.2.2.1
  have g50 := (e2 50 (by decide +kernel)).trans z1.2.2.2.1.2.2.2
  have g51 := (e2 51 (by decide +kernel)).trans z1.2.2.2.2.2.1.1
  have g52 := (e2 52 (by decide +kernel)).trans z1.2.2.2.2.2.1.2.1
  have g53 := (e2 53 (by decide +kernel)).trans z1.2.2.2.2.2.1.2.2
  have g238 := z2.2.2.2.1.1
  have g239 := z2.2.2.2.1.2.1
  have g240 := z2.2.2.2.1.2.2.1
  have g244 := z2.2.2.2.1.2.2.2
  have g241 := z2.2.2.2.2.2.1.1
  have g242 := z2.2.2.2.2.2.1.2.1
  have g243 := z2.2.2.2.2.2.1.2.2
  rw [rr 238 (by decide) (by decide)] at g238
  rw [rr 239 (by decide) (by decide)] at g239
  rw [rr 240 (by decide) (by decide)] at g240
  rw [rr 244 (by decide) (by decide)] at g244
  rw [rr 241 (by decide) (by decide)] at g241
  rw [rr 242 (by decide) (by decide)] at g242
  rw [rr 243 (by decide) (by decide)] at g243
  refine ⟨⟨by rw [n07, n17]; exact x.1.1, by rw [n00, n10]; exact x.1.2.1, by rw [nr, n63], by rw [n07]; exact m12⟩, fun k hk => ?_, ?_, fun l hl => ?_, fun k hk => ?_, fun k hk h4 => ?_⟩
  · rw [(f2.2 15 k (off_inw (by decide +kernel) k)).2.2, (f.2 15 k (off_inw (by decide +kernel) k)).2.2]
    exact x.2.1 k (by rw [n07] at hk; exact hk)
  · rw [wI_cg (q1 30 (by decide +kernel) (by decide +kernel)), bL_cg (q1 227 (by decide +kernel) (by decide +kernel)) (q1 228 (by decide +kernel) (by decide +kernel)) (q1 229 (by decide +kernel) (by decide +kernel)) (q1 230 (by decide +kernel) (by decide +kernel)), n3', nr', n07, g47]
    intro l hl
    by_cases el : l = x1.toNatClampNeg
    · subst el
      show Km (wI h) (bL h) _ _ (h_i h2 (401 + x1.toNatClampNeg)) ∧ h_i h2 (401 + x1.toNatClampNeg) 0 = _ ∧ (h_i h2 (401 + x1.toNatClampNeg) 4 = 1 → ∀ k : Nat, (h_i h2 (401 + x1.toNatClampNeg) 11).toInt ≤ (k : Int) → (k : Int) < (h_i h2 (401 + x1.toNatClampNeg) 12).toInt → h_i h2 51 k = 0 ∧ _)
      rw [cj, g51]
      refine ⟨Ks, F0.trans (x.2.2.1 _ hj).2.1, fun _ k a b => ?_⟩
      rw [F11, tx_add (by rw [on_j (by omega), on_j (by omega)]; omega) (by rw [on_j (by omega), on_j (by omega)]; omega), on_j (by omega), on_j (by omega)] at a
      rw [F12, on_j (by omega)] at b
      refine ⟨?_, ?_⟩
      · rw [rz_o _ _ _ _ _ (Or.inr (by omega))]
        exact x.2.2.2.2.2 k (by omega) (by omega)
      · obtain ⟨e, he, _⟩ := rz_at (fun _ => x1) Q (h_i h 16 7).toNatClampNeg (h_i h 47) (k := k) (by omega) (by omega)
        rw [he]
        exact ej
    · obtain ⟨a, b, d⟩ := x.2.2.1.mo (rw' := (h_i h 16 7).toNatClampNeg + mts (bL h x2.toNatClampNeg)) (fun _ _ z => z) (Nat.le_refl _) (fun _ _ => rfl) (Nat.le_add_right _ _) (fun _ _ => rfl) l hl
      obtain ⟨a0, _, _⟩ := x.2.2.1 l hl
      show Km (wI h) (bL h) _ _ (h_i h2 (401 + l)) ∧ h_i h2 (401 + l) 0 = _ ∧ (h_i h2 (401 + l) 4 = 1 → ∀ k : Nat, (h_i h2 (401 + l) 11).toInt ≤ (k : Int) → (k : Int) < (h_i h2 (401 + l) 12).toInt → h_i h2 51 k = 0 ∧ _)
      rw [co l (by omega) el, g51]
      refine ⟨a, b, fun e k k1 k2 => ?_⟩
      obtain ⟨i, y, L, s1, s2, s3⟩ := a0.2 e
      have s12 : (h_i h (401 + l) 12).toInt ≤ ((h_i h 16 7).toNatClampNeg : Int) := s3.2.2.2.2
      have dd := d e k k1 k2
      rw [rz_o _ _ _ _ _ (Or.inl (by omega)), rz_o _ _ _ _ _ (Or.inl (by omega))]
      exact dd
  · rw [n07] at hl
    by_cases el : l = x1.toNatClampNeg
    · rw [el, cj]
      exact z2.2.2.1
    · rw [co l (by omega) el]
      refine ((x.2.2.2.1 l hl).cg (h' := h1) (fun a ha => ?_)).cg (fun a ha => ?_)
      · have z : ∀ a ∈ 206 :: mrL, 200 ≤ a ∧ a < 300 := by decide
        rw [rr a (z a ha).1 (z a ha).2]
      · rcases List.mem_cons.mp ha with e | e
        · rw [e]
          exact fr_i f2 (by decide +kernel) l
        · exact z2.2.1.2 a e l el
  · rw [nr'] at hk
    rw [g47, g48, g49, g50, g51, g52, g53, g238, g239, g240, g241, g242, g243, g244]
    by_cases ck : k < (h_i h 16 7).toNatClampNeg
    · have q := x.2.2.2.2.1 k ck
      rw [rz_o _ _ _ _ _ (Or.inl ck), rz_o _ _ _ _ _ (Or.inl ck), rz_o _ _ _ _ _ (Or.inl ck), rz_o _ _ _ _ _ (Or.inl ck), rz_o _ _ _ _ _ (Or.inl ck), rz_o _ _ _ _ _ (Or.inl ck), rz_o _ _ _ _ _ (Or.inl ck), rz_o _ _ _ _ _ (Or.inl ck), rz_o _ _ _ _ _ (Or.inl ck), rz_o _ _ _ _ _ (Or.inl ck), rz_o _ _ _ _ _ (Or.inl ck), rq_o _ _ _ _ _ (Or.inl ck), rq_o _ _ _ _ _ (Or.inl ck), rq_o _ _ _ _ _ (Or.inl ck), rz_o _ _ _ _ _ (Or.inl ck), rz_o _ _ _ _ _ (Or.inl ck), n00]
      exact q
    · obtain ⟨a1, h1a, h1b⟩ := rz_at (fun _ => x1) Q (h_i h 16 7).toNatClampNeg (h_i h 47) (k := k) (by omega) (by omega)
      obtain ⟨a2, h2a, h2b⟩ := rz_at Prod.fst Q (h_i h 16 7).toNatClampNeg (h_i h 48) (k := k) (by omega) (by omega)
      obtain ⟨a3, h3a, h3b⟩ := rz_at (fun e => h_i h 0 0 + e.2) Q (h_i h 16 7).toNatClampNeg (h_i h 49) (k := k) (by omega) (by omega)
      obtain ⟨a4, h4a, h4b⟩ := rz_at (fun _ => h_i h 0 0) Q (h_i h 16 7).toNatClampNeg (h_i h 50) (k := k) (by omega) (by omega)
      obtain ⟨a5, h5a, _⟩ := rz_at (fun _ => (-1 : Int32)) Q (h_i h 16 7).toNatClampNeg (h_i h 241) (k := k) (by omega) (by omega)
      obtain ⟨a6, h6a, _⟩ := rz_at (fun _ => (-1 : Int32)) Q (h_i h 16 7).toNatClampNeg (h_i h 242) (k := k) (by omega) (by omega)
      have o51 := x.2.2.2.2.2 k (by omega) (by omega)
      refine ⟨stt_ev pn FE (Or.inl ⟨o51, h5a, h6a⟩) (fun _ _ => o51), ⟨?_, ?_, ?_, ?_⟩, by rw [n00]; exact tm_rz (N := (h_i h 0 0).toInt) (fun y => absurd o51 y) (Int.le_refl _)⟩
      · rw [h1a, h1b]
      · rw [h2a, h2b]
      · rw [h3a, h3b]
      · rw [h4a, h4b]
  · rw [nr'] at hk
    rw [g51, rz_o _ _ _ _ _ (Or.inr (by omega))]
    exact x.2.2.2.2.2 k (by omega) (by omega)
/-! MEN: path, beat, constable -/
def mqS : List Nat := [47, 48, 49, 50, 51, 52, 53, 206, 208, 209, 210, 211, 212, 213, 214, 215, 216, 217, 218, 219, 238, 239, 240, 241, 242, 243, 244, 248]
theorem mqS_m : ∀ a ∈ 206 :: mrL, a ∈ mqS := by decide
theorem ExM.cg2 {h h' : Hp_} (x : ExM h) (n : ∀ q ∈ [(0, 7), (1, 7), (0, 0), (1, 0), (16, 7), (1, 63)], h_i h' q.1 q.2 = h_i h q.1 q.2) (r : ∀ a ∈ mqS, h_i h' a = h_i h a) (f : ∀ k, h_r h' 15 k = h_r h 15 k) (c : ∀ j, j < 12 → h_i h' (401 + j) = h_i h (401 + j)) (hw : ∀ a b, ¬ wI h a b = -1 → ¬ wI h' a b = -1) (hb : (h_i h 12 3).toNatClampNeg ≤ (h_i h' 12 3).toNatClampNeg) (hB : ∀ k, k < (h_i h 12 3).toNatClampNeg → bL h' k = bL h k) : ExM h' := by
  have n07 : h_i h' 0 7 = h_i h 0 7 := n (0, 7) (by decide)
  have n17 : h_i h' 1 7 = h_i h 1 7 := n (1, 7) (by decide)
  have n00 : h_i h' 0 0 = h_i h 0 0 := n (0, 0) (by decide)
  have n10 : h_i h' 1 0 = h_i h 1 0 := n (1, 0) (by decide)
  have nr : h_i h' 16 7 = h_i h 16 7 := n (16, 7) (by decide)
  have n63 : h_i h' 1 63 = h_i h 1 63 := n (1, 63) (by decide)
  have m12 := x.1.2.2.2
  have r51 := r 51 (by decide)
  refine ⟨⟨by rw [n07, n17]; exact x.1.1, by rw [n00, n10]; exact x.1.2.1, by rw [nr, n63]; exact x.1.2.2.1, by rw [n07]; exact m12⟩, fun k hk => by rw [f k]; exact x.2.1 k (by rw [n07] at hk; exact hk), ?_, fun j hj => ?_, fun k hk => ?_, fun k hk h4 => ?_⟩
  · rw [nr, r 47 (by decide), n07]
    exact (x.2.2.1.mo hw hb hB (Nat.le_refl _) (fun _ _ => rfl)).cs (fun j hj => c j (by omega)) r51
  · rw [n07] at hj
    rw [c j (by omega)]
    exact (x.2.2.2.1 j hj).cg (fun a ha => congrFun (r a (mqS_m a ha)) j)
  · rw [nr] at hk
    rw [r51, r 52 (by decide), r 53 (by decide), r 241 (by decide), r 242 (by decide), r 243 (by decide), r 47 (by decide), r 48 (by decide), r 49 (by decide), r 50 (by decide), r 238 (by decide), r 239 (by decide), r 240 (by decide), r 244 (by decide), n00]
    exact x.2.2.2.2.1 k hk
  · rw [nr] at hk
    rw [r51]
    exact x.2.2.2.2.2 k hk h4
def exoN (ws : List Nat) : Bool := [(0, 7), (1, 7), (0, 0), (1, 0), (16, 7), (1, 63)].all (fun q => !inw ws q.1 q.2) && mqS.all (fun a => off ws a) && off ws 15 && off ws 401
/-- two frames, and what else changes -/
theorem ExM.f2 {w1 w2 : List Nat} {h h1 h2 : Hp_} (x : ExM h) (f1 : Fr w1 h h1) (f2 : Fr w2 h1 h2) (o1 : exoN w1 = true) (o2 : exoN w2 = true) (hw : ∀ a b, ¬ wI h a b = -1 → ¬ wI h2 a b = -1) (hb : (h_i h 12 3).toNatClampNeg ≤ (h_i h2 12 3).toNatClampNeg) (hB : ∀ k, k < (h_i h 12 3).toNatClampNeg → bL h2 k = bL h k) : ExM h2 := by
  unfold exoN at o1 o2
  simp only [Bool.and_eq_true] at o1 o2
  refine x.cg2 (fun q hq => ?_) (fun a ha => (funext (fun k => fr_i f2 (List.all_eq_true.mp o2.1.1.2 a ha) k)).trans (funext (fun k => fr_i f1 (List.all_eq_true.mp o1.1.1.2 a ha) k))) (fun k => ((f2.2 15 k (off_inw o2.1.2 k)).2.2).trans (f1.2 15 k (off_inw o1.1.2 k)).2.2) (fun j hj => funext (fun k => ((f2.2 (401 + j) k ?_).1).trans (f1.2 (401 + j) k ?_).1)) hw hb hB
  · have z1 := List.all_eq_true.mp o1.1.1.1 q hq
    have z2 := List.all_eq_true.mp o2.1.1.1 q hq
    rw [Bool.not_eq_true'] at z1 z2
    exact ((f2.2 q.1 q.2 z2).1).trans (f1.2 q.1 q.2 z1).1
  · rw [inw_ce (b := 401) ((cn_man hj).trans (by decide))]
    exact off_inw o2.2 k
  · rw [inw_ce (b := 401) ((cn_man hj).trans (by decide))]
    exact off_inw o1.2 k
theorem ExM.pt {h h1 h2 : Hp_} {x1 x2 x3 r1 r2 : Int32} (I : Iv h) (I2 : Iv h2) (x : ExM h) (R : ExR h) (k1 : PtX x1 x2 x3 h r1 h1) (k2 : PtM x1 x2 x3 h1 r2 h2) : ExM h2 := by
  have R2 := (R.pt I k1 k2).1
  have f1 := k1.1
  have f2 := k2.1
  have eE1 : eE h1 = eE h := by
    unfold eE
    rw [show h_i h1 200 = h_i h 200 from funext (fun k => fr_i f1 (by decide +kernel) k), show h_i h1 201 = h_i h 201 from funext (fun k => fr_i f1 (by decide +kernel) k), show h_i h1 202 = h_i h 202 from funext (fun k => fr_i f1 (by decide +kernel) k)]
  have eN1 : eN h1 = eN h := by
    unfold eN
    rw [(f1.2 1 6 (by decide +kernel)).1]
  refine x.f2 f1 f2 (by decide +kernel) (by decide +kernel) (fun a b y => (wI_y I2 R2.2).mpr ?_) (by rw [(f2.2 12 3 (by decide +kernel)).1, (f1.2 12 3 (by decide +kernel)).1]; exact Nat.le_refl _) (fun k _ => ?_)
  · obtain ⟨ya, yb, k, t, w⟩ := (wI_y I R.2).mp y
    refine ⟨ya, yb, k, t, ?_⟩
    by_cases o : okPn (h_i h1 1 6) x1 x2 x3
    · obtain ⟨e, n⟩ := k2.2.2.1 o
      rw [e, n, eE1, eN1]
      exact wkq_mo (Nat.le_succ _) (fun i hi => by
        unfold exE
        rw [if_neg (by omega)]) k _ t w
    · rw [k2.2.2.2 o, eE1, eN1]
      exact w
  · have e : ∀ a, off [10001, 30999] a = true → off [1006, 200999, 201999, 202999] a = true → h_i h2 a = h_i h a := fun a o1 o2 => (funext (fun k => fr_i f2 o2 k)).trans (funext (fun k => fr_i f1 o1 k))
    rw [bL_cg (e 227 (by decide +kernel) (by decide +kernel)) (e 228 (by decide +kernel) (by decide +kernel)) (e 229 (by decide +kernel) (by decide +kernel)) (e 230 (by decide +kernel) (by decide +kernel))]
theorem ExM.bt {N : Nat} {h h1 h2 : Hp_} {r1 r2 : Int32} (T : LiT N h) (x : ExM h) (k1 : Iv h1 ∧ Fr wbx h h1 ∧ Btx h r1 h1) (k2 : (Iv h2 ∧ J2 h2) ∧ Btm (h_i h 31) (xn h) h1 r2 h2) : ExM h2 := by
  obtain ⟨I1, F1, kn, ky⟩ := k1
  obtain ⟨⟨I2, JJ⟩, F2, c8, mn, my⟩ := k2
  have a42 : h_i h1 1 42 = h_i h 12 3 := (F1.2 1 42 (by decide +kernel)).1.trans T.r2.symm
  rw [a42] at mn my
  have b123 : h_i h2 12 3 = h_i h1 12 3 := (F2.2 12 3 (by decide +kernel)).1
  have f227 : ∀ k, h_i h1 227 k = h_i h 227 k := fun k => fr_i F1 (by decide +kernel) k
  have f228 : ∀ k, h_i h1 228 k = h_i h 228 k := fun k => fr_i F1 (by decide +kernel) k
  have f229 : ∀ k, h_i h1 229 k = h_i h 229 k := fun k => fr_i F1 (by decide +kernel) k
  have f230 : ∀ k, h_i h1 230 k = h_i h 230 k := fun k => fr_i F1 (by decide +kernel) k
  have bb1 : bB h1 = 150 * (h_i h 12 3).toNatClampNeg := by
    show 150 * (h_i h1 1 42).toNatClampNeg = _
    rw [a42]
  have b3 := x12_in T.1
  have n3 := n_nat b3.1
  have t1 : (1 : Int32).toInt = 1 := rfl
  have w227 : ∀ k, k < (h_i h 12 3).toNatClampNeg → h_i h2 227 k = h_i h 227 k := fun k hk => by
    by_cases o : okB (h_i h 31) (xn h) (h_i h 12 3)
    · rw [(my o).2.2.2.1 k, if_neg (by omega), f227]
    · rw [(mn o).2.2.2 k, f227]
  have ew : wI h2 = wI h := wI_cg ((funext (fun k => fr_i F2 (by decide +kernel) k)).trans (funext (fun k => fr_i F1 (by decide +kernel) k)))
  refine x.f2 F1 F2 (by decide +kernel) (by decide +kernel) (fun a b y => by rw [ew]; exact y) ?_ (fun k hk => ?_)
  · rw [b123]
    by_cases o : okB (h_i h 31) (xn h) (h_i h 12 3)
    · have ex : (h_i h 12 3 + 1).toInt = (h_i h 12 3).toInt + 1 := tx_add (by rw [t1]; omega) (by rw [t1]; omega)
      have n4 := n_nat (x := h_i h 12 3 + 1) (by omega)
      rw [(ky o).2.1]
      omega
    · rw [(kn o).2.1]
      exact Nat.le_refl _
  · unfold bL
    rw [w227 k hk]
    refine List.map_congr_left (fun i hi => ?_)
    have hi := List.mem_range.mp hi
    have zk := (z227 T.1 k).1
    have cc := c8 (150 * k + i) (by rw [bb1]; omega)
    unfold sB
    rw [cc.1, cc.2.1, cc.2.2, f228, f229, f230]
theorem okc_m {m x1 x2 x3 : Int32} (b : 0 ≤ m.toInt ∧ m.toInt ≤ 12) : okc m x1 x2 x3 ↔ okm m x1 x2 x3 := by
  have t12 : (12 : Int32).toInt = 12 := rfl
  have t15 : (15 : Int32).toInt = 15 := rfl
  have t16 : (16 : Int32).toInt = 16 := rfl
  refine ⟨fun o => ⟨o.1, o.2.1, p15.mp o.2.2.1, fun e => by have := q_lt.mp o.2.2.2; rw [e] at this; omega⟩, fun o => ⟨o.1, o.2.1, p15.mpr o.2.2.1, q_lt.mpr ?_⟩⟩
  rcases Int.lt_or_le m.toInt 12 with u | u
  · omega
  · exact absurd (Int32.toInt_inj.mp (by omega)) o.2.2.2
theorem ExM.cn {h h1 h2 : Hp_} {x1 x2 x3 r1 r2 : Int32} (I : Iv h) (x : ExM h) (R : ExR h) (k1 : Cy x1 x2 x3 h r1 h1 ∧ CyA x1 x2 x3 h h1) (k2 : ocm (h_i h1 1 7) x1 x2 x3 r2 (h_i h2 1 7) ∧ CwA x1 x2 x3 h1 h2) : ExM h2 ∧ r1 = r2 := by
  obtain ⟨ky, ka, kn⟩ := k1
  obtain ⟨km, kb, kc⟩ := k2
  have mm := menX_in I
  have nm := n_nat mm.1
  have e17 : h_i h1 1 7 = h_i h 0 7 := (ky.1.2.1.1 7).trans x.1.1.symm
  rw [e17] at km kb kc
  have oe := okc_m (x1 := x1) (x2 := x2) (x3 := x3) mm
  by_cases o : okc (h_i h 0 7) x1 x2 x3
  case neg =>
    have eh := kn o
    subst eh
    have eh := kc (fun y => o (oe.mpr y))
    subst eh
    refine ⟨x, ?_⟩
    rcases ky.2.1 with p | p
    · exact absurd p.1 o
    · rcases km with q | q
      · exact absurd (oe.mpr q.1) o
      · exact p.2.1.trans q.2.1.symm
  have o' := oe.mp o
  obtain ⟨aN, aO, a0⟩ := ka o
  obtain ⟨bN, _, f2, bO⟩ := kb o'
  have t12 : (12 : Int32).toInt = 12 := rfl
  have t1 : (1 : Int32).toInt = 1 := rfl
  have lt := q_lt.mp o.2.2.2
  have ex : (h_i h 0 7 + 1).toInt = (h_i h 0 7).toInt + 1 := tx_add (by rw [t1]; omega) (by rw [t1]; omega)
  have n1 := n_nat (x := h_i h 0 7 + 1) (by omega)
  have e07 : h_i h1 0 7 = h_i h 0 7 + 1 := by
    rcases ky.2.1 with p | p
    · exact p.2.2
    · exact absurd o p.1
  have er1 : r1 = h_i h 0 7 := by
    rcases ky.2.1 with p | p
    · exact p.2.1
    · exact absurd o p.1
  have em : h_i h2 1 7 = h_i h 0 7 + 1 ∧ r2 = h_i h 0 7 := by
    rcases km with p | p
    · exact ⟨p.2.2, p.2.1⟩
    · exact absurd o' p.1
  refine ⟨?_, er1.trans em.2.symm⟩
  have m07 : (h_i h 0 7 + 1).toNatClampNeg = (h_i h 0 7).toNatClampNeg + 1 := by omega
  have i2 : ∀ a, off wcM a = true → h_i h2 a = h_i h1 a := fun a q => funext (fun k => fr_i f2 q k)
  have n07 : h_i h2 0 7 = h_i h 0 7 + 1 := ((f2.2 0 7 (by decide +kernel)).1).trans e07
  have ia : ∀ a, a ≠ 0 → a < 401 → off wcM a = true → h_i h2 a = h_i h a := fun a n l q => (i2 a q).trans (aO a (by omega) n)
  have nr : h_i h2 16 7 = h_i h 16 7 := congrFun (ia 16 (by decide) (by decide) (by decide +kernel)) 7
  have n63 : h_i h2 1 63 = h_i h 1 63 := ((f2.2 1 63 (by decide +kernel)).1).trans (ky.1.2.1.1 63)
  have n3 : h_i h2 12 3 = h_i h 12 3 := congrFun (ia 12 (by decide) (by decide) (by decide +kernel)) 3
  have c2 : ∀ l, l < 12 → h_i h2 (401 + l) = h_i h1 (401 + l) := fun l hl => funext (fun k => (f2.2 (401 + l) k (by
    rw [inw_ce (b := 401) ((cn_man hl).trans (by decide))]
    exact off_inw (by decide +kernel) k)).1)
  have cz := ky.2.2.2
  have n00 : h_i h2 0 0 = h_i h 0 0 := ((f2.2 0 0 (by decide +kernel)).1).trans (a0 0 (by decide))
  refine ⟨⟨by rw [n07, em.1], ?_, by rw [nr, n63]; exact x.1.2.2.1, by rw [n07]; omega⟩, fun k hk => ?_, ?_, fun l hl => ?_, fun k hk => ?_, fun k hk h4 => ?_⟩
  · rw [(f2.2 0 0 (by decide +kernel)).1, a0 0 (by decide), (f2.2 1 0 (by decide +kernel)).1, ky.1.2.1.1 0]
    exact x.1.2.1
  · rw [n07, ex] at hk
    rw [(f2.2 15 k (off_inw (by decide +kernel) k)).2.2]
    by_cases e : k = (h_i h 0 7).toNatClampNeg
    · rw [e]
      exact (cz.1 o).1
    · rw [(cz.2 k (Or.inl e)).1]
      exact x.2.1 k (by omega)
  · rw [wI_cg (ia 30 (by decide) (by decide) (by decide +kernel)), bL_cg (ia 227 (by decide) (by decide) (by decide +kernel)) (ia 228 (by decide) (by decide) (by decide +kernel)) (ia 229 (by decide) (by decide) (by decide +kernel)) (ia 230 (by decide) (by decide) (by decide +kernel)), n3, nr, ia 47 (by decide) (by decide) (by decide +kernel), n07, m07]
    intro l hl
    show Km (wI h) (bL h) _ _ (h_i h2 (401 + l)) ∧ h_i h2 (401 + l) 0 = _ ∧ (h_i h2 (401 + l) 4 = 1 → ∀ k : Nat, (h_i h2 (401 + l) 11).toInt ≤ (k : Int) → (k : Int) < (h_i h2 (401 + l) 12).toInt → h_i h2 51 k = 0 ∧ _)
    rw [ia 51 (by decide) (by decide) (by decide +kernel), c2 l (by omega)]
    by_cases e : l = (h_i h 0 7).toNatClampNeg
    · rw [e, aN]
      have p3 := p15.mp o.2.2.1
      have t15 : (15 : Int32).toInt = 15 := rfl
      have t0 : (0 : Int32).toInt = 0 := rfl
      have u1 := q_le.mp p3.1
      have u2 := q_le.mp p3.2
      have p3' : 0 ≤ x3.toInt ∧ x3.toInt ≤ 15 := ⟨by omega, by omega⟩
      refine ⟨⟨⟨p3', fun _ => p3'.1, fun y => absurd rfl y, fun _ => ⟨rfl, rfl⟩, fun y => absurd (show (0 : Int32) = 4 from y) (by decide), fun y => absurd (show (0 : Int32) = 2 from y) (by decide), fun y => absurd (show (0 : Int32) = 3 from y) (by decide), ?_⟩, fun y => absurd (show (0 : Int32) = 1 from y) (by decide)⟩, x.m I, fun y => absurd (show (0 : Int32) = 1 from y) (by decide)⟩
      show ¬ wI h x3 (if (-1 : Int32) = -1 then x3 else -1) = -1
      rw [if_pos rfl]
      exact (wok I R.2).2.1 _ p3'
    · rw [aO (401 + l) (by omega) (by omega)]
      exact x.2.2.1 l (by omega)
  · rw [n07, m07] at hl
    rw [c2 l (by omega)]
    by_cases e : l = (h_i h 0 7).toNatClampNeg
    · rw [e, aN]
      exact bN
    · rw [aO (401 + l) (by omega) (by omega)]
      refine (x.2.2.2.1 l (by omega)).cg (fun a ha => ?_)
      have z : ∀ a ∈ 206 :: mrL, 200 ≤ a ∧ a < 300 := by decide
      have za := z a ha
      rw [bO a l (by omega) e, aO a (by omega) (by omega)]
  · rw [nr] at hk
    rw [ia 51 (by decide) (by decide) (by decide +kernel), ia 52 (by decide) (by decide) (by decide +kernel), ia 53 (by decide) (by decide) (by decide +kernel), ia 241 (by decide) (by decide) (by decide +kernel), ia 242 (by decide) (by decide) (by decide +kernel), ia 243 (by decide) (by decide) (by decide +kernel), ia 47 (by decide) (by decide) (by decide +kernel), ia 48 (by decide) (by decide) (by decide +kernel), ia 49 (by decide) (by decide) (by decide +kernel), ia 50 (by decide) (by decide) (by decide +kernel), ia 238 (by decide) (by decide) (by decide +kernel), ia 239 (by decide) (by decide) (by decide +kernel), ia 240 (by decide) (by decide) (by decide +kernel), ia 244 (by decide) (by decide) (by decide +kernel), n00]
    exact x.2.2.2.2.1 k hk
  · rw [nr] at hk
    rw [ia 51 (by decide) (by decide) (by decide +kernel)]
    exact x.2.2.2.2.2 k hk h4
theorem exM_F : ExM HF := by
  have e7 : h_i HF 0 7 = 0 := by decide +kernel
  have er : h_i HF 16 7 = 0 := by decide +kernel
  have z : (0 : Int32).toNatClampNeg = 0 := rfl
  have z2 : (0 : Int32).toInt = 0 := rfl
  refine ⟨⟨by decide +kernel, by decide +kernel, by decide +kernel, by rw [e7, z]; omega⟩, fun k hk => ?_, fun j hj => ?_, fun j hj => ?_, fun k hk => ?_, fun k _ h4 => ?_⟩
  · rw [e7, z2] at hk
    omega
  · rw [e7, z] at hj
    omega
  · rw [e7, z] at hj
    omega
  · rw [er, z] at hk
    omega
  · exact eq_of_beq (List.all_eq_true.mp (show (List.range 400).all (fun k => h_i HF 51 k == 0) = true by decide +kernel) k (List.mem_range.mpr h4))
/-! points: outcomes, causes -/
def outP (o t q : Int32) : Int32 := if o = 0 then 0 else if q < t then 0 else o
def sOP (a b q : Int32) : Int32 := if ¬ a = -1 ∧ ¬ q < a then 1 else if ¬ b = -1 ∧ ¬ q < b then 2 else 0
theorem stt_o {o t c a b e : Int32} (q : Int32) (s : stt o t c a b e) : outP o t q = sOP a b q := by
  unfold outP sOP
  rcases s with ⟨e1, e2, e3⟩ | ⟨e1, e2, e3, p⟩ | ⟨e1, e2, e3, _, p⟩
  · rw [if_pos e1, if_neg (fun y => y.1 e2), if_neg (fun y => y.1 e3)]
  · have n1 : ¬ t = -1 := fun y => by rw [y] at p; exact absurd p (by decide)
    rw [if_neg (by rw [e1]; decide), e2]
    by_cases l : q < t
    · rw [if_pos l, if_neg (fun y => y.2 l), if_neg (fun y => y.1 e3)]
    · rw [if_neg l, if_pos ⟨n1, l⟩, e1]
  · have n1 : ¬ t = -1 := fun y => by rw [y] at p; exact absurd p (by decide)
    rw [if_neg (by rw [e1]; decide), if_neg (c := ¬ a = -1 ∧ ¬ q < a) (fun y => y.1 e2), e3]
    by_cases l : q < t
    · rw [if_pos l, if_neg (fun y => y.2 l)]
    · rw [if_neg l, if_pos ⟨n1, l⟩, e1]
def caP (fr fc ft : Nat → Int32) (i q : Int32) : Nat → Nat → Int32 → Int32
  | 0, _, c => c
  | n + 1, k, c => caP fr fc ft i q n (k + 1) (if fr k = i ∧ ¬ q < ft k then fc k else c)
theorem caP_cg {fr fc ft fr' fc' ft' : Nat → Int32} {i q : Int32} : ∀ (n k : Nat) (c : Int32), (∀ z, z < k + n → fr z = fr' z ∧ fc z = fc' z ∧ ft z = ft' z) → caP fr fc ft i q n k c = caP fr' fc' ft' i q n k c
  | 0, _, _, _ => rfl
  | n + 1, k, c, e => by
    show caP fr fc ft i q n (k + 1) (if fr k = i ∧ ¬ q < ft k then fc k else c) = caP fr' fc' ft' i q n (k + 1) (if fr' k = i ∧ ¬ q < ft' k then fc' k else c)
    have z := e k (by omega)
    rw [z.1, z.2.1, z.2.2]
    exact caP_cg n (k + 1) _ (fun z hz => e z (by omega))
theorem on_p1 (k : Nat) : Int32.ofNat k + 1 = Int32.ofNat (k + 1) := (Int32.ofNat_add k 1).symm
theorem c_oaX (d : Nat) {h : Hp_} (I : Iv h) (x1 x2 : Int32) (v : vp_in x1 400) : Ci (m_X7_outcomeAt (d + 0) 0 0) [.ref 16, .int x1, .int x2] h (fun r h' => h' = h ∧ r = outP (h_i h 51 x1.toNatClampNeg) (h_i h 52 x1.toNatClampNeg) x2) := t_X7_outcomeAt d h I.1 x1 x2 _ ⟨v, fun e => ⟨rfl, by unfold outP; rw [if_pos e]⟩, fun n => ⟨v, fun l => ⟨rfl, by unfold outP; rw [if_neg n, if_pos l]⟩, fun l => ⟨v, rfl, by unfold outP; rw [if_neg n, if_neg l]⟩⟩⟩
theorem c_soM (d : Nat) {h : Hp_} (I : Iv h) (x1 x2 : Int32) (v : vp_in x1 400) : Ci (m_X12_stateOf (d + 0) 0 0) [.ref 1, .int x1, .int x2] h (fun r h' => h' = h ∧ r = sOP (h_i h 241 x1.toNatClampNeg) (h_i h 242 x1.toNatClampNeg) x2) := by
  have two : ∀ (z : ¬ (¬ h_i h 241 x1.toNatClampNeg = -1 ∧ ¬ x2 < h_i h 241 x1.toNatClampNeg)), vp_in x1 400 ∧ (((h_i h 242 x1.toNatClampNeg) = (-1) → h = h ∧ (0 : Int32) = sOP (h_i h 241 x1.toNatClampNeg) (h_i h 242 x1.toNatClampNeg) x2) ∧ (¬ (h_i h 242 x1.toNatClampNeg) = (-1) → vp_in x1 400 ∧ ((x2 < (h_i h 242 x1.toNatClampNeg) → h = h ∧ (0 : Int32) = sOP (h_i h 241 x1.toNatClampNeg) (h_i h 242 x1.toNatClampNeg) x2) ∧ (¬ x2 < (h_i h 242 x1.toNatClampNeg) → h = h ∧ (2 : Int32) = sOP (h_i h 241 x1.toNatClampNeg) (h_i h 242 x1.toNatClampNeg) x2)))) := fun z => by
    unfold sOP
    rw [if_neg z]
    exact ⟨v, fun e => ⟨rfl, by rw [if_neg (fun y => y.1 e)]⟩, fun n => ⟨v, fun l => ⟨rfl, by rw [if_neg (fun y => y.2 l)]⟩, fun l => ⟨rfl, by rw [if_pos ⟨n, l⟩]⟩⟩⟩
  exact t_X12_stateOf d h I.1 x1 x2 _ ⟨v, fun e => two (fun y => y.1 e), fun n => ⟨v, fun l => two (fun y => y.2 l), fun l => ⟨rfl, by unfold sOP; rw [if_pos ⟨n, l⟩]⟩⟩⟩
theorem ca_in {h : Hp_} (I : Iv h) : ((h_i h 16 11).toNatClampNeg ≤ 200 ∧ (((h_i h 16 11).toNatClampNeg : Nat) : Int) = (h_i h 16 11).toInt) ∧ ((h_i h 1 64).toNatClampNeg ≤ 200 ∧ (((h_i h 1 64).toNatClampNeg : Nat) : Int) = (h_i h 1 64).toInt) := by
  have a := f_le (c := 16) (f := 11) (n := 200) I (by decide +kernel)
  have b := f_le (c := 1) (f := 64) (n := 200) I (by decide +kernel)
  have na := n_nat a.1
  have nb := n_nat b.1
  omega
theorem ca_lp (d : Nat) {h : Hp_} (I : Iv h) (x1 x2 : Int32) : ∀ (n k : Nat) (x3 : Int32), k + n = (h_i h 16 11).toNatClampNeg → AW (m_X7_causeAt (d + 1) 0 0) 0 0 22 [(0, .ref 16), (1, .int x1), (2, .int x2), (3, .int x3), (4, .int (Int32.ofNat k))] [] h (kI (fun r h' => h' = h ∧ r = caP (h_i h 54) (h_i h 55) (h_i h 56) x1 x2 n k x3))
  | 0, k, x3, e => by
    have c := (ca_in I).1
    refine t_X7_causeAt_22 d h I.1 x1 x2 x3 (Int32.ofNat k) _ ⟨fun _ => ⟨rfl, rfl⟩, fun z => ?_⟩
    have z := q_nle z
    rw [on_j (by omega)] at z
    omega
  | n + 1, k, x3, e => by
    have c := (ca_in I).1
    have kk : (Int32.ofNat k).toNatClampNeg = k := on_k (by omega)
    have v : vp_in (Int32.ofNat k) 200 := dp_in (lo := 0) (hi := 199) ⟨by rw [on_j (by omega)]; omega, by rw [on_j (by omega)]; show _ ≤ (199 : Int); omega⟩ (by decide) (by decide)
    have go := fun y => ca_lp d I x1 x2 n (k + 1) y (by omega)
    rw [← on_p1 k] at go
    refine t_X7_causeAt_22 d h I.1 x1 x2 x3 (Int32.ofNat k) _ ⟨fun z => ?_, fun _ => ⟨v, fun ne => ?_, fun e1 => ⟨v, fun l => ?_, fun l => ⟨v, ?_⟩⟩⟩⟩
    · have z := q_le.mp z
      rw [on_j (by omega)] at z
      omega
    · rw [kk] at ne
      have z := go x3
      rw [show caP (h_i h 54) (h_i h 55) (h_i h 56) x1 x2 n (k + 1) x3 = caP (h_i h 54) (h_i h 55) (h_i h 56) x1 x2 (n + 1) k x3 by
        show _ = caP (h_i h 54) (h_i h 55) (h_i h 56) x1 x2 n (k + 1) (if h_i h 54 k = x1 ∧ ¬ x2 < h_i h 56 k then h_i h 55 k else x3)
        rw [if_neg (fun y => ne y.1)]] at z
      exact z
    · rw [kk] at l
      have z := go x3
      rw [show caP (h_i h 54) (h_i h 55) (h_i h 56) x1 x2 n (k + 1) x3 = caP (h_i h 54) (h_i h 55) (h_i h 56) x1 x2 (n + 1) k x3 by
        show _ = caP (h_i h 54) (h_i h 55) (h_i h 56) x1 x2 n (k + 1) (if h_i h 54 k = x1 ∧ ¬ x2 < h_i h 56 k then h_i h 55 k else x3)
        rw [if_neg (fun y => y.2 l)]] at z
      exact z
    · rw [kk] at e1 l ⊢
      have z := go (h_i h 55 k)
      rw [show caP (h_i h 54) (h_i h 55) (h_i h 56) x1 x2 n (k + 1) (h_i h 55 k) = caP (h_i h 54) (h_i h 55) (h_i h 56) x1 x2 (n + 1) k x3 by
        show _ = caP (h_i h 54) (h_i h 55) (h_i h 56) x1 x2 n (k + 1) (if h_i h 54 k = x1 ∧ ¬ x2 < h_i h 56 k then h_i h 55 k else x3)
        rw [if_pos ⟨e1, l⟩]] at z
      exact z
theorem co_lp (d : Nat) {h : Hp_} (I : Iv h) (x1 x2 : Int32) : ∀ (n k : Nat) (x3 : Int32), k + n = (h_i h 1 64).toNatClampNeg → AW (m_X12_causeOf (d + 0) 0 0) 0 0 10 [(0, .ref 1), (1, .int x1), (2, .int x2), (3, .int x3), (4, .int (Int32.ofNat k))] [] h (kI (fun r h' => h' = h ∧ r = caP (h_i h 245) (h_i h 246) (h_i h 247) x1 x2 n k x3))
  | 0, k, x3, e => by
    have c := (ca_in I).2
    refine t_X12_causeOf_10 d h I.1 x1 x2 x3 (Int32.ofNat k) _ ⟨fun _ => ⟨rfl, rfl⟩, fun z => ?_⟩
    have z := q_nle z
    rw [on_j (by omega)] at z
    omega
  | n + 1, k, x3, e => by
    have c := (ca_in I).2
    have kk : (Int32.ofNat k).toNatClampNeg = k := on_k (by omega)
    have v : vp_in (Int32.ofNat k) 200 := dp_in (lo := 0) (hi := 199) ⟨by rw [on_j (by omega)]; omega, by rw [on_j (by omega)]; show _ ≤ (199 : Int); omega⟩ (by decide) (by decide)
    have go := fun y => co_lp d I x1 x2 n (k + 1) y (by omega)
    rw [← on_p1 k] at go
    refine t_X12_causeOf_10 d h I.1 x1 x2 x3 (Int32.ofNat k) _ ⟨fun z => ?_, fun _ => ⟨v, fun ne => ?_, fun e1 => ⟨v, fun l => ?_, fun l => ⟨v, ?_⟩⟩⟩⟩
    · have z := q_le.mp z
      rw [on_j (by omega)] at z
      omega
    · rw [kk] at ne
      have z := go x3
      rw [show caP (h_i h 245) (h_i h 246) (h_i h 247) x1 x2 n (k + 1) x3 = caP (h_i h 245) (h_i h 246) (h_i h 247) x1 x2 (n + 1) k x3 by
        show _ = caP (h_i h 245) (h_i h 246) (h_i h 247) x1 x2 n (k + 1) (if h_i h 245 k = x1 ∧ ¬ x2 < h_i h 247 k then h_i h 246 k else x3)
        rw [if_neg (fun y => ne y.1)]] at z
      exact z
    · rw [kk] at l
      have z := go x3
      rw [show caP (h_i h 245) (h_i h 246) (h_i h 247) x1 x2 n (k + 1) x3 = caP (h_i h 245) (h_i h 246) (h_i h 247) x1 x2 (n + 1) k x3 by
        show _ = caP (h_i h 245) (h_i h 246) (h_i h 247) x1 x2 n (k + 1) (if h_i h 245 k = x1 ∧ ¬ x2 < h_i h 247 k then h_i h 246 k else x3)
        rw [if_neg (fun y => y.2 l)]] at z
      exact z
    · rw [kk] at e1 l ⊢
      have z := go (h_i h 246 k)
      rw [show caP (h_i h 245) (h_i h 246) (h_i h 247) x1 x2 n (k + 1) (h_i h 246 k) = caP (h_i h 245) (h_i h 246) (h_i h 247) x1 x2 (n + 1) k x3 by
        show _ = caP (h_i h 245) (h_i h 246) (h_i h 247) x1 x2 n (k + 1) (if h_i h 245 k = x1 ∧ ¬ x2 < h_i h 247 k then h_i h 246 k else x3)
        rw [if_pos ⟨e1, l⟩]] at z
      exact z
/-- the cause of row i, as known at q: the class's, the reference's -/
def cauX (h : Hp_) (i q : Int32) : Int32 := if outP (h_i h 51 i.toNatClampNeg) (h_i h 52 i.toNatClampNeg) q = 2 then caP (h_i h 54) (h_i h 55) (h_i h 56) i q (h_i h 16 11).toNatClampNeg 0 (h_i h 53 i.toNatClampNeg) else -1
def cauM (h : Hp_) (i q : Int32) : Int32 := caP (h_i h 245) (h_i h 246) (h_i h 247) i q (h_i h 1 64).toNatClampNeg 0 (h_i h 243 i.toNatClampNeg)
theorem c_caX (d : Nat) {h : Hp_} (I : Iv h) (x1 x2 : Int32) (v : vp_in x1 400) : Ci (m_X7_causeAt (d + 1) 0 0) [.ref 16, .int x1, .int x2] h (fun r h' => h' = h ∧ r = cauX h x1 x2) := by
  refine t_X7_causeAt d h I.1 x1 x2 _ (Ci.mono (c_oaX d I x1 x2 v) (fun r h1 k => ?_))
  obtain ⟨e, k⟩ := k
  subst e
  unfold cauX
  refine ⟨I.1, fun e2 => ⟨v, ?_⟩, fun n2 => ⟨rfl, ?_⟩⟩
  · rw [k] at e2
    rw [if_pos e2]
    exact ca_lp d I x1 x2 _ 0 _ (Nat.zero_add _)
  · rw [k] at n2
    rw [if_neg n2]
theorem c_coM (d : Nat) {h : Hp_} (I : Iv h) (x1 x2 : Int32) (v : vp_in x1 400) : Ci (m_X12_causeOf (d + 0) 0 0) [.ref 1, .int x1, .int x2] h (fun r h' => h' = h ∧ r = cauM h x1 x2) := t_X12_causeOf d h I.1 x1 x2 _ ⟨v, co_lp d I x1 x2 _ 0 _ (Nat.zero_add _)⟩
def ExC (h : Hp_) : Prop := h_i h 16 11 = h_i h 1 64 ∧ ∀ k, k < (h_i h 16 11).toNatClampNeg → h_i h 54 k = h_i h 245 k ∧ h_i h 55 k = h_i h 246 k ∧ h_i h 56 k = h_i h 247 k
theorem cau_eq {h : Hp_} (x : ExM h) (c : ExC h) (i q : Int32) (hi : i.toNatClampNeg < (h_i h 16 7).toNatClampNeg) : cauX h i q = if sOP (h_i h 241 i.toNatClampNeg) (h_i h 242 i.toNatClampNeg) q = 2 then cauM h i q else -1 := by
  have s := (x.2.2.2.2.1 _ hi).1
  have so := stt_o q s
  unfold cauX
  rw [so]
  by_cases e : sOP (h_i h 241 i.toNatClampNeg) (h_i h 242 i.toNatClampNeg) q = 2
  · rw [if_pos e, if_pos e]
    unfold cauM
    have e3 : h_i h 243 i.toNatClampNeg = h_i h 53 i.toNatClampNeg := by
      rcases s with s | s | s
      · rw [← so] at e
        unfold outP at e
        rw [if_pos s.1] at e
        exact absurd e (by decide)
      · rw [← so] at e
        unfold outP at e
        rw [s.1] at e
        split at e
        · exact absurd e (by decide)
        · split at e
          · exact absurd e (by decide)
          · exact absurd e (by decide)
      · exact s.2.2.2.1
    rw [e3, ← c.1]
    exact caP_cg _ 0 _ (fun z hz => c.2 z (by omega))
  · rw [if_neg e, if_neg e]
/-! point, cause, causes -/
def exoC (ws : List Nat) : Bool := off ws 54 && off ws 55 && off ws 56 && off ws 245 && off ws 246 && off ws 247 && !inw ws 16 11 && !inw ws 1 64
theorem ExC.cg {h h' : Hp_} (e : ExC h) (n : h_i h' 16 11 = h_i h 16 11) (m : h_i h' 1 64 = h_i h 1 64) (a : h_i h' 54 = h_i h 54) (b : h_i h' 55 = h_i h 55) (c : h_i h' 56 = h_i h 56) (a' : h_i h' 245 = h_i h 245) (b' : h_i h' 246 = h_i h 246) (c' : h_i h' 247 = h_i h 247) : ExC h' := by
  unfold ExC
  rw [n, m, a, b, c, a', b', c']
  exact e
theorem ExC.fr {ws : List Nat} {h h' : Hp_} (e : ExC h) (f : Fr ws h h') (o : exoC ws = true) : ExC h' := by
  unfold exoC at o
  simp only [Bool.and_eq_true, Bool.not_eq_true'] at o
  obtain ⟨⟨⟨⟨⟨⟨⟨o1, o2⟩, o3⟩, o4⟩, o5⟩, o6⟩, o7⟩, o8⟩ := o
  exact e.cg (f.2 16 11 o7).1 (f.2 1 64 o8).1 (funext (fun k => fr_i f o1 k)) (funext (fun k => fr_i f o2 k)) (funext (fun k => fr_i f o3 k)) (funext (fun k => fr_i f o4 k)) (funext (fun k => fr_i f o5 k)) (funext (fun k => fr_i f o6 k))
theorem ExC.mf {W : List Nat} {h h' : Hp_} (e : ExC h) (f : Mf W h h') (o : exoC W = true) : ExC h' := by
  unfold exoC at o
  simp only [Bool.and_eq_true, Bool.not_eq_true'] at o
  obtain ⟨⟨⟨⟨⟨⟨⟨o1, o2⟩, o3⟩, o4⟩, o5⟩, o6⟩, o7⟩, o8⟩ := o
  exact e.cg (f.2.2.2 16 11 (by decide) o7).1 (f.1 64) (funext (fun k => (f.2.2.2 54 k (by decide) (off_inw o1 k)).1)) (funext (fun k => (f.2.2.2 55 k (by decide) (off_inw o2 k)).1)) (funext (fun k => (f.2.2.2 56 k (by decide) (off_inw o3 k)).1)) (funext (fun k => f.2.1 245 (by decide) (by decide) k)) (funext (fun k => f.2.1 246 (by decide) (by decide) k)) (funext (fun k => f.2.1 247 (by decide) (by decide) k))
theorem exC_F : ExC HF := by
  have er : h_i HF 16 11 = 0 := by decide +kernel
  refine ⟨by decide +kernel, fun k hk => ?_⟩
  rw [er] at hk
  exact absurd hk (by show ¬ k < 0; omega)
theorem hs_x (d : Nat) {h : Hp_} (I : Iv h) (x1 : Int32) : Ci (m_X7_has (d + 0) 0 0) [.ref 16, .int x1] h (fun r h' => h' = h ∧ ((r = 1 ∧ 0 ≤ x1.toInt ∧ x1.toInt < (h_i h 16 7).toInt) ∨ (r = 0 ∧ ¬ (0 ≤ x1.toInt ∧ x1.toInt < (h_i h 16 7).toInt)))) := by
  have t0 : (0 : Int32).toInt = 0 := rfl
  refine t_X7_has d h I.1 x1 _ ⟨fun l => ⟨rfl, Or.inr ⟨rfl, fun y => ?_⟩⟩, fun l => ⟨fun g => ⟨rfl, Or.inr ⟨rfl, fun y => ?_⟩⟩, fun g => ⟨rfl, Or.inl ⟨rfl, ?_, ?_⟩⟩⟩⟩
  · have := q_lt.mp l
    omega
  · have := q_le.mp g
    omega
  · have := q_nlt l
    omega
  · exact q_nle g
theorem v4 {h : Hp_} (I : Iv h) {x1 : Int32} (b : 0 ≤ x1.toInt ∧ x1.toInt < (h_i h 16 7).toInt) : vp_in x1 400 ∧ x1.toNatClampNeg < (h_i h 16 7).toNatClampNeg := by
  have r := rwX_in I
  have n := n_nat b.1
  exact ⟨dp_in (lo := 0) (hi := 399) ⟨b.1, by show _ ≤ (399 : Int); omega⟩ (by decide) (by decide), by omega⟩
theorem r63 {h : Hp_} (I : Iv h) (x : ExM h) {x1 : Int32} : (0 ≤ x1 ∧ x1 ≤ h_i h 1 63 - 1) ↔ (0 ≤ x1.toInt ∧ x1.toInt < (h_i h 16 7).toInt) := by
  have t0 : (0 : Int32).toInt = 0 := rfl
  have t1 : (1 : Int32).toInt = 1 := rfl
  have r := rwX_in I
  rw [← x.1.2.2.1]
  have s1 : (h_i h 16 7 - 1).toInt = (h_i h 16 7).toInt - 1 := by rw [tx_sub (by rw [t1]; omega) (by rw [t1]; omega), t1]
  refine ⟨fun y => ?_, fun y => ⟨q_le.mpr (by omega), q_le.mpr (by omega)⟩⟩
  have a := q_le.mp y.1
  have b := q_le.mp y.2
  omega
def pntV (h : Hp_) (i q w : Int32) : Int32 := if (0 ≤ q ∧ q ≤ h_i h 0 0) ∧ (0 ≤ i.toInt ∧ i.toInt < (h_i h 16 7).toInt) ∧ h_i h 50 i.toNatClampNeg ≤ q then (if w = 0 then h_i h 47 i.toNatClampNeg else if w = 1 then h_i h 48 i.toNatClampNeg else if w = 2 then h_i h 49 i.toNatClampNeg else if w = 3 then outP (h_i h 51 i.toNatClampNeg) (h_i h 52 i.toNatClampNeg) q else if w = 4 then cauX h i q else -1) else -1
theorem c_pnX (d : Nat) {h : Hp_} (I : Iv h) (x1 x2 x3 : Int32) : Ci (m_X11_point (d + 3) 0 0) [.ref 0, .int x1, .int x2, .int x3] h (fun r h' => h' = h ∧ r = pntV h x1 x2 x3) := by
  refine t_X11_point d h I.1 x1 x2 x3 _ (t_X11_isKnown d h I.1 x2 _ ⟨I.1, fun z => ⟨rfl, ?_⟩, fun z => ?_⟩)
  · unfold pntV
    rw [if_neg (fun y => bI_0.mp z y.1)]
  · have kq : 0 ≤ x2 ∧ x2 ≤ h_i h 0 0 := Decidable.byContradiction (fun n => z (bI_0.mpr n))
    refine Ci.mono (hs_x d I x1) (fun r h5 k => ?_)
    obtain ⟨e, k⟩ := k
    subst e
    rcases k with k | k
    · refine ⟨I.1, fun e0 => absurd (k.1.symm.trans e0) (by decide), fun _ => ?_⟩
      obtain ⟨v, _⟩ := v4 I k.2
      refine t_X7_tell d h5 I.1 x1 x2 x3 _ (Ci.mono (hs_x d I x1) (fun r h6 k' => ?_))
      obtain ⟨e, k'⟩ := k'
      subst e
      rcases k' with k' | k'
      · refine ⟨I.1, fun e0 => absurd (k'.1.symm.trans e0) (by decide), fun _ => ⟨v, fun l => ?_, fun l => ⟨I.1, rfl, ?_⟩⟩⟩
        · have P : pntV h6 x1 x2 x3 = (if x3 = 0 then h_i h6 47 x1.toNatClampNeg else if x3 = 1 then h_i h6 48 x1.toNatClampNeg else if x3 = 2 then h_i h6 49 x1.toNatClampNeg else if x3 = 3 then outP (h_i h6 51 x1.toNatClampNeg) (h_i h6 52 x1.toNatClampNeg) x2 else if x3 = 4 then cauX h6 x1 x2 else -1) := by
            unfold pntV
            rw [if_pos ⟨kq, k.2, l⟩]
          rw [P]
          refine ⟨fun e => ⟨v, I.1, rfl, ?_⟩, fun e => ⟨v, I.1, rfl, ?_⟩, fun e => ⟨v, I.1, rfl, ?_⟩, fun e => Ci.mono (c_oaX d I x1 x2 v) (fun r h7 q => ?_), fun e => Ci.mono (c_caX d I x1 x2 v) (fun r h7 q => ?_), fun e => ⟨I.1, rfl, ?_⟩⟩
          · rw [if_pos e]
          · rw [if_neg (by rw [e]; decide), if_pos e]
          · rw [if_neg (by rw [e]; decide), if_neg (by rw [e]; decide), if_pos e]
          · obtain ⟨e7, q⟩ := q
            subst e7
            rw [if_neg (by rw [e]; decide), if_neg (by rw [e]; decide), if_neg (by rw [e]; decide), if_pos e]
            exact ⟨I.1, I.1, rfl, q⟩
          · obtain ⟨e7, q⟩ := q
            subst e7
            rw [if_neg (by rw [e]; decide), if_neg (by rw [e]; decide), if_neg (by rw [e]; decide), if_neg (by rw [e]; decide), if_pos e]
            exact ⟨I.1, I.1, rfl, q⟩
          · rw [if_neg e.1, if_neg e.2.1, if_neg e.2.2.1, if_neg e.2.2.2.1, if_neg e.2.2.2.2]
        · unfold pntV
          rw [if_neg (fun y => l y.2.2)]
      · exact absurd k.2 k'.2
    · refine ⟨I.1, fun _ => ⟨rfl, ?_⟩, fun n => absurd k.1 n⟩
      unfold pntV
      rw [if_neg (fun y => k.2 y.2.1)]
theorem c_pnM (d : Nat) {h : Hp_} (I : Iv h) (x : ExM h) (c : ExC h) (x1 x2 x3 : Int32) : Ci (m_X12_point (d + 2) 0 0) [.ref 1, .int x1, .int x2, .int x3] h (fun r h' => h' = h ∧ r = pntV h x1 x2 x3) := by
  have e10 := x.1.2.1
  refine t_X12_point d h I.1 x1 x2 x3 _ ⟨fun n => ⟨rfl, ?_⟩, fun y => ⟨fun n => ⟨rfl, ?_⟩, fun kq => ?_⟩⟩
  · unfold pntV
    rw [if_neg (fun y => n ((r63 I x).mpr y.2.1))]
  · unfold pntV
    rw [if_neg (fun y => n (by rw [← e10]; exact y.1))]
  · have b := (r63 I x).mp y
    obtain ⟨v, l⟩ := v4 I b
    have q := x.2.2.2.2.1 _ l
    rw [← e10] at kq
    have so := stt_o x2 q.1
    rw [← q.2.1.2.2.2]
    refine ⟨v, fun lq => ?_, fun lq => ⟨rfl, ?_⟩⟩
    · have P : pntV h x1 x2 x3 = (if x3 = 0 then h_i h 47 x1.toNatClampNeg else if x3 = 1 then h_i h 48 x1.toNatClampNeg else if x3 = 2 then h_i h 49 x1.toNatClampNeg else if x3 = 3 then outP (h_i h 51 x1.toNatClampNeg) (h_i h 52 x1.toNatClampNeg) x2 else if x3 = 4 then cauX h x1 x2 else -1) := by
        unfold pntV
        rw [if_pos ⟨kq, b, lq⟩]
      rw [P]
      refine ⟨fun e => ⟨v, rfl, ?_⟩, fun e => ⟨v, rfl, ?_⟩, fun e => ⟨v, rfl, ?_⟩, fun e => Ci.mono (c_soM d I x1 x2 v) (fun r h7 z => ?_), fun e => Ci.mono (c_soM d I x1 x2 v) (fun r h7 z => ?_), fun e => ⟨rfl, ?_⟩⟩
      · rw [if_pos e, q.2.1.1]
      · rw [if_neg (by rw [e]; decide), if_pos e, q.2.1.2.1]
      · rw [if_neg (by rw [e]; decide), if_neg (by rw [e]; decide), if_pos e, q.2.1.2.2.1]
      · obtain ⟨e7, z⟩ := z
        subst e7
        rw [if_neg (by rw [e]; decide), if_neg (by rw [e]; decide), if_neg (by rw [e]; decide), if_pos e]
        exact ⟨I.1, rfl, z.trans so.symm⟩
      · obtain ⟨e7, z⟩ := z
        subst e7
        rw [if_neg (by rw [e]; decide), if_neg (by rw [e]; decide), if_neg (by rw [e]; decide), if_neg (by rw [e]; decide), if_pos e, cau_eq x c x1 x2 l]
        refine ⟨I.1, fun n2 => ⟨rfl, ?_⟩, fun e2 => Ci.mono (c_coM d I x1 x2 v) (fun r h8 u => ?_)⟩
        · rw [z] at n2
          rw [if_neg n2]
        · obtain ⟨e8, u⟩ := u
          subst e8
          rw [z] at e2
          rw [if_pos e2]
          exact ⟨I.1, rfl, u⟩
      · rw [if_neg e.1, if_neg e.2.1, if_neg e.2.2.1, if_neg e.2.2.2.1, if_neg e.2.2.2.2]
    · unfold pntV
      rw [if_neg (fun y => lq y.2.2)]
/-! cause, causes -/
def okCs (h : Hp_) (x1 x2 : Int32) : Prop := (0 ≤ x1.toInt ∧ x1.toInt < (h_i h 16 7).toInt) ∧ (1 ≤ x2 ∧ x2 ≤ 9) ∧ h_i h 51 x1.toNatClampNeg = 2 ∧ h_i h 16 11 < 200
def wCx : List Nat := [16011, 54999, 55999, 56999]
def wCm : List Nat := [1064, 245999, 246999, 247999]
def CsX (x1 x2 : Int32) (h : Hp_) (r : Int32) (h' : Hp_) : Prop := (okCs h x1 x2 → r = 1 ∧ h_i h' 16 11 = h_i h 16 11 + 1 ∧ h_i h' 54 = up1 (h_i h 54) (h_i h 16 11).toNatClampNeg x1 ∧ h_i h' 55 = up1 (h_i h 55) (h_i h 16 11).toNatClampNeg x2 ∧ h_i h' 56 = up1 (h_i h 56) (h_i h 16 11).toNatClampNeg (h_i h 0 0)) ∧ (¬ okCs h x1 x2 → r = 0 ∧ h' = h)
def CsM (ok : Prop) (x1 x2 : Int32) (h : Hp_) (r : Int32) (h' : Hp_) : Prop := (ok → r = 1 ∧ h_i h' 1 64 = h_i h 1 64 + 1 ∧ h_i h' 245 = up1 (h_i h 245) (h_i h 1 64).toNatClampNeg x1 ∧ h_i h' 246 = up1 (h_i h 246) (h_i h 1 64).toNatClampNeg x2 ∧ h_i h' 247 = up1 (h_i h 247) (h_i h 1 64).toNatClampNeg (h_i h 1 0)) ∧ (¬ ok → r = 0 ∧ h' = h)
theorem c_csX (d : Nat) {h : Hp_} (I : Iv h) (x1 x2 : Int32) : Ci (m_X11_cause (d + 2) 0 0) [.ref 0, .int x1, .int x2] h (fun r h' => Iv h' ∧ Fr wCx h h' ∧ CsX x1 x2 h r h') := by
  have no : ¬ okCs h x1 x2 → Iv h ∧ Fr wCx h h ∧ CsX x1 x2 h 0 h := fun n => ⟨I, Fr.rf _ _, fun y => absurd y n, fun _ => ⟨rfl, rfl⟩⟩
  refine t_X11_cause d h I.1 x1 x2 _ (Ci.mono (hs_x d I x1) (fun r h1 k => ?_))
  obtain ⟨e, k⟩ := k
  subst e
  rcases k with k | k
  · refine ⟨I.1, fun e0 => absurd (k.1.symm.trans e0) (by decide), fun _ => ⟨fun n => no (fun o => n o.2.1), fun y2 => ?_⟩⟩
    obtain ⟨v, _⟩ := v4 I k.2
    refine t_X7_tellAnew d h1 I.1 x1 x2 _ _ (Ci.mono (hs_x d I x1) (fun r h2 k' => ?_))
    obtain ⟨e, k'⟩ := k'
    subst e
    rcases k' with k' | k'
    · refine ⟨I.1, fun e0 => absurd (k'.1.symm.trans e0) (by decide), fun _ => ⟨v, fun n => ⟨I.1, fun _ => no (fun o => n o.2.2.1), fun y => absurd rfl y⟩, fun e2 => ⟨fun l => ?_, fun n => ⟨I.1, fun _ => no (fun o => n o.2.2.2), fun y => absurd rfl y⟩⟩⟩⟩
      have c := (ca_in I).1
      have t200 : (200 : Int32).toInt = 200 := rfl
      have t1 : (1 : Int32).toInt = 1 := rfl
      have l' := q_lt.mp l
      have ex : (h_i h2 16 11 + 1).toInt = (h_i h2 16 11).toInt + 1 := tx_add (by rw [t1]; omega) (by rw [t1]; omega)
      have v2 : vp_in (h_i h2 16 11) 200 := dp_in (lo := 0) (hi := 199) ⟨by show (0 : Int) ≤ _; omega, by show _ ≤ (199 : Int); omega⟩ (by decide) (by decide)
      have i54 := fun {g : Hp_} (J : Iv g) (k : Nat) (y : Int32) => J.im (a := 54) (k := k) (x := y) (by rw [tfa_tf (show tfa 54 = some rtop by decide +kernel)]; exact rtop_in _) (jw_jr (by decide) (by decide) _)
      have i55 := fun {g : Hp_} (J : Iv g) (k : Nat) (y : Int32) => J.im (a := 55) (k := k) (x := y) (by rw [tfa_tf (show tfa 55 = some rtop by decide +kernel)]; exact rtop_in _) (jw_jr (by decide) (by decide) _)
      have i56 := fun {g : Hp_} (J : Iv g) (k : Nat) (y : Int32) => J.im (a := 56) (k := k) (x := y) (by rw [tfa_tf (show tfa 56 = some rtop by decide +kernel)]; exact rtop_in _) (jw_jr (by decide) (by decide) _)
      have I4 : Iv (h_im (h_im (h_im (h_im h2 54 (h_i h2 16 11).toNatClampNeg x1) 55 (h_i h2 16 11).toNatClampNeg x2) 56 (h_i h2 16 11).toNatClampNeg (h_i h2 0 0)) 16 11 (h_i h2 16 11 + 1)) := (i56 (i55 (i54 I _ _) _ _) _ _).im (by rw [show tf 16 11 = (0, 200) by decide +kernel]; exact ⟨by show (0 : Int) ≤ _; omega, by show _ ≤ (200 : Int); omega⟩) (by decide)
      refine ⟨v2, v2, v2, I4.1, fun e => absurd e (by decide), fun _ => ⟨I4, ?_, fun _ => ⟨rfl, im_at, ?_, ?_, ?_⟩, fun n => absurd ⟨k.2, y2, e2, l⟩ n⟩⟩
      · exact ((((Fr.rf _ _).im (inw_row (by decide +kernel) _)).im (inw_row (by decide +kernel) _)).im (inw_row (by decide +kernel) _)).im (by decide +kernel)
      · rw [im_oth (by decide), im_oth (by decide), im_oth (by decide), im_row]
      · rw [im_oth (by decide), im_oth (by decide), im_row, im_oth (by decide)]
      · rw [im_oth (by decide), im_row, im_oth (by decide), im_oth (by decide)]
    · exact absurd k.2 k'.2
  · exact ⟨I.1, fun _ => no (fun o => k.2 o.1), fun n => absurd k.1 n⟩
theorem ok_cs {h : Hp_} (I : Iv h) (x : ExM h) (c : ExC h) {x1 x2 : Int32} : okCs h x1 x2 ↔ ((0 ≤ x1 ∧ x1 ≤ h_i h 1 63 - 1) ∧ sOP (h_i h 241 x1.toNatClampNeg) (h_i h 242 x1.toNatClampNeg) (h_i h 1 0) = 2 ∧ (1 ≤ x2 ∧ x2 ≤ 9) ∧ ¬ h_i h 1 64 = 200) := by
  have t200 : (200 : Int32).toInt = 200 := rfl
  have cc := (ca_in I).1
  have key : (0 ≤ x1.toInt ∧ x1.toInt < (h_i h 16 7).toInt) → (h_i h 51 x1.toNatClampNeg = 2 ↔ sOP (h_i h 241 x1.toNatClampNeg) (h_i h 242 x1.toNatClampNeg) (h_i h 1 0) = 2) := fun b => by
    obtain ⟨_, l⟩ := v4 I b
    have q := x.2.2.2.2.1 _ l
    rw [← stt_o _ q.1, ← x.1.2.1]
    unfold outP
    by_cases e : h_i h 51 x1.toNatClampNeg = 0
    · rw [if_pos e, e]
    · have t := q.2.2 e
      rw [if_neg e, if_neg (fun y => by have := q_lt.mp y; omega)]
  have full : h_i h 16 11 < 200 ↔ ¬ h_i h 1 64 = 200 := by
    rw [← c.1]
    refine ⟨fun l e => ?_, fun n => q_lt.mpr ?_⟩
    · have := q_lt.mp l
      rw [e] at this
      omega
    · rcases Int.lt_or_le (h_i h 16 11).toInt 200 with u | u
      · omega
      · exact absurd (Int32.toInt_inj.mp (by omega)) n
  unfold okCs
  rw [r63 I x]
  exact ⟨fun o => ⟨o.1, (key o.1).mp o.2.2.1, o.2.1, full.mp o.2.2.2⟩, fun o => ⟨o.1, o.2.2.1, (key o.1).mpr o.2.1, full.mpr o.2.2.2⟩⟩
theorem c_csM (d : Nat) {h : Hp_} (I : Iv h) (x1 x2 : Int32) (r4 : (0 ≤ x1 ∧ x1 ≤ h_i h 1 63 - 1) → vp_in x1 400) : Ci (m_X12_cause (d + 1) 0 0) [.ref 1, .int x1, .int x2] h (fun r h' => Iv h' ∧ Fr wCm h h' ∧ CsM ((0 ≤ x1 ∧ x1 ≤ h_i h 1 63 - 1) ∧ sOP (h_i h 241 x1.toNatClampNeg) (h_i h 242 x1.toNatClampNeg) (h_i h 1 0) = 2 ∧ (1 ≤ x2 ∧ x2 ≤ 9) ∧ ¬ h_i h 1 64 = 200) x1 x2 h r h') := by
  have no : ¬ ((0 ≤ x1 ∧ x1 ≤ h_i h 1 63 - 1) ∧ sOP (h_i h 241 x1.toNatClampNeg) (h_i h 242 x1.toNatClampNeg) (h_i h 1 0) = 2 ∧ (1 ≤ x2 ∧ x2 ≤ 9) ∧ ¬ h_i h 1 64 = 200) → Iv h ∧ Fr wCm h h ∧ CsM ((0 ≤ x1 ∧ x1 ≤ h_i h 1 63 - 1) ∧ sOP (h_i h 241 x1.toNatClampNeg) (h_i h 242 x1.toNatClampNeg) (h_i h 1 0) = 2 ∧ (1 ≤ x2 ∧ x2 ≤ 9) ∧ ¬ h_i h 1 64 = 200) x1 x2 h 0 h := fun n => ⟨I, Fr.rf _ _, fun y => absurd y n, fun _ => ⟨rfl, rfl⟩⟩
  refine t_X12_cause d h I.1 x1 x2 _ ⟨fun n => no (fun o => n o.1), fun y => Ci.mono (c_soM d I x1 _ (r4 y)) (fun r h4 k => ?_)⟩
  obtain ⟨e, k⟩ := k
  subst e
  refine ⟨I.1, fun n => no (fun o => n (k.trans o.2.1)), fun e2 => ⟨fun n => no (fun o => n o.2.2.1), fun y2 => ⟨fun n => ?_, fun e => no (fun o => o.2.2.2 e)⟩⟩⟩
  have c := (ca_in I).2
  have t200 : (200 : Int32).toInt = 200 := rfl
  have t1 : (1 : Int32).toInt = 1 := rfl
  have l' : (h_i h4 1 64).toInt < 200 := by
    rcases Int.lt_or_le (h_i h4 1 64).toInt 200 with u | u
    · exact u
    · exact absurd (Int32.toInt_inj.mp (by omega)) n
  have ex : (h_i h4 1 64 + 1).toInt = (h_i h4 1 64).toInt + 1 := tx_add (by rw [t1]; omega) (by rw [t1]; omega)
  have v2 : vp_in (h_i h4 1 64) 200 := dp_in (lo := 0) (hi := 199) ⟨by show (0 : Int) ≤ _; omega, by show _ ≤ (199 : Int); omega⟩ (by decide) (by decide)
  have nr := I.2.1 1 0
  rw [show tf 1 0 = (0, 20000) by decide +kernel] at nr
  have b1 := r4 y
  have I1 : Iv (h_im h4 245 (h_i h4 1 64).toNatClampNeg x1) := I.im (by rw [tfa_tf (show tfa 245 = some rtop by decide +kernel)]; exact rtop_in _) (jw_jr (by decide) (by decide) _)
  have I2 : Iv (h_im (h_im h4 245 (h_i h4 1 64).toNatClampNeg x1) 246 (h_i h4 1 64).toNatClampNeg x2) := I1.im (by rw [tfa_tf (show tfa 246 = some rtop by decide +kernel)]; exact rtop_in _) (jw_jr (by decide) (by decide) _)
  have I3 : Iv (h_im (h_im (h_im h4 245 (h_i h4 1 64).toNatClampNeg x1) 246 (h_i h4 1 64).toNatClampNeg x2) 247 (h_i h4 1 64).toNatClampNeg (h_i h4 1 0)) := I2.im (by rw [tfa_tf (show tfa 247 = some rtop by decide +kernel)]; exact rtop_in _) (jw_jr (by decide) (by decide) _)
  have I4 := I3.im (a := 1) (k := 64) (x := h_i h4 1 64 + 1) (by rw [show tf 1 64 = (0, 200) by decide +kernel]; exact ⟨by show (0 : Int) ≤ _; omega, by show _ ≤ (200 : Int); omega⟩) (by decide)
  refine ⟨v2, v2, v2, I4, ?_, fun _ => ⟨rfl, im_at, ?_, ?_, ?_⟩, fun z => absurd ⟨y, k.symm.trans e2, y2, n⟩ z⟩
  · exact ((((Fr.rf _ _).im (inw_row (by decide +kernel) _)).im (inw_row (by decide +kernel) _)).im (inw_row (by decide +kernel) _)).im (by decide +kernel)
  · rw [im_oth (by decide), im_oth (by decide), im_oth (by decide), im_row]
  · rw [im_oth (by decide), im_oth (by decide), im_row, im_oth (by decide)]
  · rw [im_oth (by decide), im_row, im_oth (by decide), im_oth (by decide)]
theorem ExC.cs {h h1 h2 : Hp_} {x1 x2 r1 r2 : Int32} {ok : Prop} (I : Iv h) (x : ExM h) (c : ExC h) (f1 : Fr wCx h h1) (f2 : Fr wCm h1 h2) (k1 : CsX x1 x2 h r1 h1) (k2 : CsM ok x1 x2 h1 r2 h2) (oe : okCs h x1 x2 ↔ ok) : ExC h2 ∧ r1 = r2 := by
  by_cases o : okCs h x1 x2
  · obtain ⟨a1, a2, a3, a4, a5⟩ := k1.1 o
    obtain ⟨b1, b2, b3, b4, b5⟩ := k2.1 (oe.mp o)
    have e64 : h_i h1 1 64 = h_i h 16 11 := ((f1.2 1 64 (by decide +kernel)).1).trans c.1.symm
    have e10 : h_i h1 1 0 = h_i h 0 0 := ((f1.2 1 0 (by decide +kernel)).1).trans x.1.2.1.symm
    rw [e64] at b2 b3 b4 b5
    rw [e10] at b5
    rw [show h_i h1 245 = h_i h 245 from funext (fun k => fr_i f1 (by decide +kernel) k)] at b3
    rw [show h_i h1 246 = h_i h 246 from funext (fun k => fr_i f1 (by decide +kernel) k)] at b4
    rw [show h_i h1 247 = h_i h 247 from funext (fun k => fr_i f1 (by decide +kernel) k)] at b5
    have n11 : h_i h2 16 11 = h_i h 16 11 + 1 := ((f2.2 16 11 (by decide +kernel)).1).trans a2
    have g54 : h_i h2 54 = h_i h1 54 := funext (fun k => fr_i f2 (by decide +kernel) k)
    have g55 : h_i h2 55 = h_i h1 55 := funext (fun k => fr_i f2 (by decide +kernel) k)
    have g56 : h_i h2 56 = h_i h1 56 := funext (fun k => fr_i f2 (by decide +kernel) k)
    have cc := (ca_in I).1
    have t1 : (1 : Int32).toInt = 1 := rfl
    have ex : (h_i h 16 11 + 1).toInt = (h_i h 16 11).toInt + 1 := tx_add (by rw [t1]; omega) (by rw [t1]; omega)
    have nx := n_nat (x := h_i h 16 11 + 1) (by omega)
    refine ⟨⟨n11.trans b2.symm, fun k hk => ?_⟩, a1.trans b1.symm⟩
    rw [n11] at hk
    rw [g54, g55, g56, a3, a4, a5, b3, b4, b5]
    by_cases e : k = (h_i h 16 11).toNatClampNeg
    · rw [e, up1_at, up1_at, up1_at, up1_at, up1_at, up1_at]
      exact ⟨rfl, rfl, rfl⟩
    · rw [up1_ne e, up1_ne e, up1_ne e, up1_ne e, up1_ne e, up1_ne e]
      exact c.2 k (by omega)
  · obtain ⟨a1, a2⟩ := k1.2 o
    obtain ⟨b1, b2⟩ := k2.2 (fun y => o (oe.mpr y))
    rw [b2, a2]
    exact ⟨c, a1.trans b1.symm⟩
def cnC (h : Hp_) (c q : Int32) : Nat → Nat → Int32 → Int32
  | 0, _, a => a
  | n + 1, k, a => cnC h c q n (k + 1) (if cauX h (Int32.ofNat k) q = c then a + 1 else a)
def cssV (h : Hp_) (c q : Int32) : Int32 := if (1 ≤ c ∧ c ≤ 9) ∧ (0 ≤ q ∧ q ≤ h_i h 0 0) then cnC h c q (h_i h 16 7).toNatClampNeg 0 0 else -1
theorem cn_lpX (d : Nat) {h : Hp_} (I : Iv h) (x1 x2 : Int32) : ∀ (n k : Nat) (x3 : Int32), k + n = (h_i h 16 7).toNatClampNeg → AW (m_X7_countCause (d + 2) 0 0) 0 0 5 [(0, .ref 16), (1, .int x1), (2, .int x2), (3, .int x3), (4, .int (Int32.ofNat k))] [] h (kI (fun r h' => h' = h ∧ r = cnC h x1 x2 n k x3))
  | 0, k, x3, e => by
    have c := rwX_in I
    refine t_X7_countCause_5 d h I.1 x1 x2 x3 (Int32.ofNat k) _ ⟨fun _ => ⟨rfl, rfl⟩, fun z => ?_⟩
    have z := q_nle z
    rw [on_j (by omega)] at z
    omega
  | n + 1, k, x3, e => by
    have c := rwX_in I
    have v : vp_in (Int32.ofNat k) 400 := dp_in (lo := 0) (hi := 399) ⟨by rw [on_j (by omega)]; omega, by rw [on_j (by omega)]; show _ ≤ (399 : Int); omega⟩ (by decide) (by decide)
    have go := fun y => cn_lpX d I x1 x2 n (k + 1) y (by omega)
    rw [← on_p1 k] at go
    refine t_X7_countCause_5 d h I.1 x1 x2 x3 (Int32.ofNat k) _ ⟨fun z => ?_, fun _ => Ci.mono (c_caX d I _ x2 v) (fun r h2 q => ?_)⟩
    · have z := q_le.mp z
      rw [on_j (by omega)] at z
      omega
    · obtain ⟨e2, q⟩ := q
      subst e2
      refine ⟨I.1, fun ne => ?_, fun eq => ?_⟩
      · rw [q] at ne
        have z := go x3
        rw [show cnC h2 x1 x2 n (k + 1) x3 = cnC h2 x1 x2 (n + 1) k x3 by
          show _ = cnC h2 x1 x2 n (k + 1) (if cauX h2 (Int32.ofNat k) x2 = x1 then x3 + 1 else x3)
          rw [if_neg ne]] at z
        exact z
      · rw [q] at eq
        have z := go (x3 + 1)
        rw [show cnC h2 x1 x2 n (k + 1) (x3 + 1) = cnC h2 x1 x2 (n + 1) k x3 by
          show _ = cnC h2 x1 x2 n (k + 1) (if cauX h2 (Int32.ofNat k) x2 = x1 then x3 + 1 else x3)
          rw [if_pos eq]] at z
        exact z
theorem cn_lpM (d : Nat) {h : Hp_} (I : Iv h) (x : ExM h) (c : ExC h) (x1 x2 : Int32) (p1 : 1 ≤ x1) : ∀ (n k : Nat) (x3 : Int32), k + n = (h_i h 16 7).toNatClampNeg → AW (m_X12_causes (d + 2) 0 0) 0 0 25 [(0, .ref 1), (1, .int x1), (2, .int x2), (3, .int x3), (4, .int (Int32.ofNat k))] [] h (kI (fun r h' => h' = h ∧ r = cnC h x1 x2 n k x3))
  | 0, k, x3, e => by
    have cc := rwX_in I
    refine t_X12_causes_25 d h I.1 x1 x2 x3 (Int32.ofNat k) _ ⟨fun _ => ⟨rfl, rfl⟩, fun z => ?_⟩
    have z := q_nle z
    rw [← x.1.2.2.1, on_j (by omega)] at z
    omega
  | n + 1, k, x3, e => by
    have cc := rwX_in I
    have kk : (Int32.ofNat k).toNatClampNeg = k := on_k (by omega)
    have n1 : ¬ (-1 : Int32) = x1 := fun y => by rw [← y] at p1; exact absurd p1 (by decide)
    have v : vp_in (Int32.ofNat k) 400 := dp_in (lo := 0) (hi := 399) ⟨by rw [on_j (by omega)]; omega, by rw [on_j (by omega)]; show _ ≤ (399 : Int); omega⟩ (by decide) (by decide)
    have ce := cau_eq x c (Int32.ofNat k) x2 (by rw [kk]; omega)
    have go := fun y => cn_lpM d I x c x1 x2 p1 n (k + 1) y (by omega)
    rw [← on_p1 k] at go
    have no : ¬ cauX h (Int32.ofNat k) x2 = x1 → AW (m_X12_causes (d + 2) 0 0) 0 0 25 [(0, .ref 1), (1, .int x1), (2, .int x2), (3, .int (x3 + 0)), (4, .int (Int32.ofNat k + 1))] [] h (kI (fun r h' => h' = h ∧ r = cnC h x1 x2 (n + 1) k x3)) := fun ne => by
      have z := go x3
      rw [show cnC h x1 x2 n (k + 1) x3 = cnC h x1 x2 (n + 1) k x3 by
        show _ = cnC h x1 x2 n (k + 1) (if cauX h (Int32.ofNat k) x2 = x1 then x3 + 1 else x3)
        rw [if_neg ne]] at z
      rw [Int32.add_zero]
      exact z
    refine t_X12_causes_25 d h I.1 x1 x2 x3 (Int32.ofNat k) _ ⟨fun z => ?_, fun _ => Ci.mono (c_soM d I _ x2 v) (fun r h2 q => ?_)⟩
    · have z := q_le.mp z
      rw [← x.1.2.2.1, on_j (by omega)] at z
      omega
    · obtain ⟨e2, q⟩ := q
      subst e2
      refine ⟨I.1, fun ne => no ?_, fun eq => Ci.mono (c_coM d I _ x2 v) (fun r8 h3 u => ?_)⟩
      · rw [q] at ne
        rw [ce, if_neg ne]
        exact n1
      · obtain ⟨e3, u⟩ := u
        subst e3
        rw [q] at eq
        rw [if_pos eq] at ce
        refine ⟨I.1, fun ne => no ?_, fun ey => ?_⟩
        · rw [ce]
          rw [u] at ne
          exact ne
        · rw [u, ← ce] at ey
          have z := go (x3 + 1)
          rw [show cnC h3 x1 x2 n (k + 1) (x3 + 1) = cnC h3 x1 x2 (n + 1) k x3 by
            show _ = cnC h3 x1 x2 n (k + 1) (if cauX h3 (Int32.ofNat k) x2 = x1 then x3 + 1 else x3)
            rw [if_pos ey]] at z
          exact z
theorem c_ctX (d : Nat) {h : Hp_} (I : Iv h) (x1 x2 : Int32) : Ci (m_X11_causes (d + 3) 0 0) [.ref 0, .int x1, .int x2] h (fun r h' => h' = h ∧ r = cssV h x1 x2) := by
  refine t_X11_causes d h I.1 x1 x2 _ ⟨fun n => ⟨rfl, by unfold cssV; rw [if_neg (fun y => n y.1)]⟩, fun y => t_X11_isKnown d h I.1 x2 _ ⟨I.1, fun z => ⟨rfl, by unfold cssV; rw [if_neg (fun y => bI_0.mp z y.2)]⟩, fun z => ?_⟩⟩
  have kq : 0 ≤ x2 ∧ x2 ≤ h_i h 0 0 := Decidable.byContradiction (fun n => z (bI_0.mpr n))
  refine t_X7_countCause d h x1 x2 _ ?_
  have w := cn_lpX d I x1 x2 _ 0 0 (Nat.zero_add _)
  unfold cssV
  rw [if_pos ⟨y, kq⟩]
  exact AW.mono w (fun v h' k => by
    obtain ⟨r, e, k⟩ := k
    obtain ⟨e2, k⟩ := k
    subst e2
    exact ⟨r, e, I.1, rfl, k⟩)
theorem c_ctM (d : Nat) {h : Hp_} (I : Iv h) (x : ExM h) (c : ExC h) (x1 x2 : Int32) : Ci (m_X12_causes (d + 2) 0 0) [.ref 1, .int x1, .int x2] h (fun r h' => h' = h ∧ r = cssV h x1 x2) := by
  refine t_X12_causes d h I.1 x1 x2 _ ⟨fun n => ⟨rfl, by unfold cssV; rw [if_neg (fun y => n y.1)]⟩, fun y => ⟨fun kq => ?_, fun n => ⟨rfl, by unfold cssV; rw [if_neg (fun y => n (by rw [← x.1.2.1]; exact y.2))]⟩⟩⟩
  rw [← x.1.2.1] at kq
  have w := cn_lpM d I x c x1 x2 y.1 _ 0 0 (Nat.zero_add _)
  unfold cssV
  rw [if_pos ⟨y, kq⟩]
  exact w
/-! MEN: how many points each met and missed -/
def cnR (f o : Nat → Int32) (j v : Int32) : Nat → Nat
  | 0 => 0
  | n + 1 => cnR f o j v n + (if f n = j ∧ o n = v then 1 else 0)
theorem cnR_cg {f o f' o' : Nat → Int32} {j v : Int32} : ∀ n : Nat, (∀ k, k < n → f k = f' k ∧ o k = o' k) → cnR f o j v n = cnR f' o' j v n
  | 0, _ => rfl
  | n + 1, e => by
    show cnR f o j v n + (if f n = j ∧ o n = v then 1 else 0) = cnR f' o' j v n + (if f' n = j ∧ o' n = v then 1 else 0)
    rw [cnR_cg n (fun k hk => e k (by omega)), (e n (by omega)).1, (e n (by omega)).2]
theorem cnR_up {f o : Nat → Int32} {j v w : Int32} {r : Nat} (nv : ¬ v = 0) (o0 : o r = 0) : ∀ n : Nat, r < n → cnR f (up1 o r w) j v n = cnR f o j v n + (if f r = j ∧ w = v then 1 else 0)
  | 0, h => absurd h (by omega)
  | n + 1, h => by
    show cnR f (up1 o r w) j v n + (if f n = j ∧ up1 o r w n = v then 1 else 0) = cnR f o j v n + (if f n = j ∧ o n = v then 1 else 0) + (if f r = j ∧ w = v then 1 else 0)
    by_cases c : n = r
    · subst c
      rw [cnR_cg (o' := o) n (fun k hk => ⟨rfl, up1_ne (by omega)⟩), up1_at, o0, if_neg (c := f n = j ∧ (0 : Int32) = v) (fun y => nv y.2.symm)]
      omega
    · rw [cnR_up nv o0 n (by omega), up1_ne c]
      omega
/-- events of sort v -/
def cE (v : Int32) : List Ev2 → Nat
  | [] => 0
  | e :: E => (if e.1 = v then 1 else 0) + cE v E
theorem cE_1 : ∀ E : List Ev2, cE 1 E = c1 E
  | [] => rfl
  | e :: E => by
    show (if e.1 = 1 then 1 else 0) + cE 1 E = (if e.1 = 1 then 1 else 0) + c1 E
    rw [cE_1 E]
theorem cE_2 : ∀ E : List Ev2, (∀ e ∈ E, e.1 = 1 ∨ e.1 = 2) → cE 2 E = c2 E
  | [], _ => rfl
  | e :: E, h => by
    show (if e.1 = 2 then 1 else 0) + cE 2 E = (if e.1 = 1 then 0 else 1) + c2 E
    rw [cE_2 E (fun y hy => h y (List.mem_cons_of_mem _ hy))]
    rcases h e (List.mem_cons_self ..) with q | q
    · rw [if_neg (by rw [q]; decide), if_pos q]
    · rw [if_pos q, if_neg (by rw [q]; decide)]
theorem cnR_rz {f : Nat → Int32} {i j v : Int32} (nv : ¬ v = 0) : ∀ (E : List Ev2) (r n : Nat) (o : Nat → Int32), (E = [] ∨ r + E.length ≤ n) → (∀ k, r ≤ k → k < r + E.length → o k = 0 ∧ f k = i) → cnR f (rz Prod.fst r E o) j v n = cnR f o j v n + (if i = j then cE v E else 0)
  | [], r, n, o, _, _ => by
    show cnR f o j v n = cnR f o j v n + (if i = j then 0 else 0)
    split <;> rfl
  | e :: E, r, n, o, l, h => by
    have l' : r + 1 + E.length ≤ n := by
      have : (e :: E).length = E.length + 1 := rfl
      rcases l with l | l
      · cases l
      · omega
    show cnR f (rz Prod.fst (r + 1) E (up1 o r e.1)) j v n = cnR f o j v n + (if i = j then (if e.1 = v then 1 else 0) + cE v E else 0)
    rw [cnR_rz nv E (r + 1) n (up1 o r e.1) (Or.inr l') (fun k a b => by
      have z := h k (by omega) (by show k < r + (E.length + 1); omega)
      exact ⟨by rw [up1_ne (by omega)]; exact z.1, z.2⟩)]
    have z := h r (Nat.le_refl _) (by show r < r + (E.length + 1); omega)
    rw [cnR_up nv z.1 n (by omega), z.2]
    by_cases c : i = j
    · rw [if_pos c, if_pos c]
      by_cases q : e.1 = v
      · rw [if_pos ⟨c, q⟩, if_pos q]
        omega
      · rw [if_neg (fun y => q y.2), if_neg q]
        omega
    · rw [if_neg c, if_neg c, if_neg (fun y => c y.1)]
def CtI {β : Type} (own : Nat → Int32) (rw m : Nat) (s : Pst β) : Prop := ∀ j, j < m → s.1 j 15 = Int32.ofNat (cnR own s.2.1 (Int32.ofNat j) 1 rw) ∧ s.1 j 16 = Int32.ofNat (cnR own s.2.1 (Int32.ofNat j) 2 rw)
theorem ct_ev {β : Type} {own : Nat → Int32} {rw m : Nat} {s s' : Pst β} (C : CtI own rw m s) (m12 : m ≤ 12) {j : Nat} (hj : j < m) {E : List Ev2} {r : Nat} (he : ∀ e ∈ E, e.1 = 1 ∨ e.1 = 2) (rl : E = [] ∨ r + E.length ≤ rw) (op : ∀ k, r ≤ k → k < r + E.length → s.2.1 k = 0 ∧ own k = Int32.ofNat j) (e15 : s'.1 j 15 = s.1 j 15 + Int32.ofNat (c1 E)) (e16 : s'.1 j 16 = s.1 j 16 + Int32.ofNat (c2 E)) (ho : ∀ l, l < m → l ≠ j → s'.1 l = s.1 l) (hr : s'.2.1 = rz Prod.fst r E s.2.1) : CtI own rw m s' := fun l hl => by
  have d1 := cnR_rz (f := own) (i := Int32.ofNat j) (j := Int32.ofNat l) (v := 1) (by decide) E r rw s.2.1 rl op
  have d2 := cnR_rz (f := own) (i := Int32.ofNat j) (j := Int32.ofNat l) (v := 2) (by decide) E r rw s.2.1 rl op
  rw [hr, d1, d2, cE_1, cE_2 E he]
  by_cases c : l = j
  · subst c
    rw [if_pos rfl, if_pos rfl, e15, e16, (C l hl).1, (C l hl).2, Int32.ofNat_add, Int32.ofNat_add]
    exact ⟨rfl, rfl⟩
  · have ne : ¬ Int32.ofNat j = Int32.ofNat l := fun y => c (on_ne (by omega) (by omega) y.symm)
    rw [if_neg ne, if_neg ne, ho l hl c]
    exact C l hl
section MEN
variable {β : Type}
theorem ct_man {lP : Nat → Int32 → (Nat → Int32) → β → β} {tB : Int32 → Int32 → β → β} {n : Int32} {w : Int32 → Int32 → Int32} {BL : Nat → List Sp3} {nb rw m : Nat} {own : Nat → Int32} {s : Pst β} (hl : ∀ k, k < nb → (BL k).length ≤ 150) (H : pI w BL nb rw own m s) (m12 : m ≤ 12) {j : Nat} (hj : j < m) (C : CtI own rw m s) : CtI own rw m (pMan lP tB n w BL j s) := by
  unfold pMan
  by_cases y : s.1 j 7 = n
  · rw [if_pos y]
    have R := Rk.go (n := n) (w := w) (x := (pX BL (s.1 j)).1) (L := (pX BL (s.1 j)).2) (M := s.1 j)
    have bd : ((pGo n w BL (s.1 j)).2 = [] ∨ (s.1 j 11).toNatClampNeg + (pGo n w BL (s.1 j)).2.length ≤ rw) ∧ ∀ k, (s.1 j 11).toNatClampNeg ≤ k → k < (s.1 j 11).toNatClampNeg + (pGo n w BL (s.1 j)).2.length → s.2.1 k = 0 ∧ own k = Int32.ofNat j := by
      by_cases y1 : s.1 j 4 = 1
      · obtain ⟨i', _, _, b8, hd, e9, _, r0, r1, r2⟩ := kmb_x hl ((H j hj).1.2 y1)
        have n11 := n_nat r0
        have ll : (pGo n w BL (s.1 j)).2.length ≤ _ := R.2.2.1
        exact ⟨Or.inr (by omega), fun k a b => (H j hj).2.2 y1 k (by omega) (by omega)⟩
      · have e : (pGo n w BL (s.1 j)).2 = [] := fGo_e y1
        rw [e]
        exact ⟨Or.inl rfl, fun k a b => absurd b (by show ¬ k < _ + 0; omega)⟩
    refine ct_ev C m12 hj R.2.1 bd.1 bd.2 ?_ ?_ (fun l _ ne => if_neg ne) rfl
    · show (if j = j then (pGo n w BL (s.1 j)).1 else s.1 j) 15 = _
      rw [if_pos rfl]
      exact R.2.2.2.2.1
    · show (if j = j then (pGo n w BL (s.1 j)).1 else s.1 j) 16 = _
      rw [if_pos rfl]
      exact R.2.2.2.2.2
  · rw [if_neg y]
    exact C
theorem ct_men {lP : Nat → Int32 → (Nat → Int32) → β → β} {tB : Int32 → Int32 → β → β} {n : Int32} {w : Int32 → Int32 → Int32} {BL : Nat → List Sp3} {nb rw m : Nat} {own : Nat → Int32} (W : WOk w) (hb : ∀ k x, k < nb → x ∈ BL k → stR x) (hl : ∀ k, k < nb → (BL k).length ≤ 150) (r4 : rw ≤ 400) (p0 : 0 ≤ n.toInt) (m12 : m ≤ 12) : ∀ (j : Nat) {s : Pst β}, j ≤ m → pI w BL nb rw own m s → CtI own rw m s → CtI own rw m (pMen lP tB n w BL j s)
  | 0, _, _, _, C => C
  | j + 1, _, hj, H, C => ct_man hl (pI_men W hb hl r4 p0 m12 j (by omega) H) m12 (by omega) (ct_men W hb hl r4 p0 m12 j (by omega) H C)
theorem ct_tk {lP : Nat → Int32 → (Nat → Int32) → β → β} {tB : Int32 → Int32 → β → β} {nB : Int32 → (Nat → Int32) → β → β} {n : Int32} {w : Int32 → Int32 → Int32} {BL : Nat → List Sp3} {nb rw m : Nat} {own : Nat → Int32} (W : WOk w) (hb : ∀ k x, k < nb → x ∈ BL k → stR x) (hl : ∀ k, k < nb → (BL k).length ≤ 150) (r4 : rw ≤ 400) (p0 : 0 ≤ n.toInt ∧ n.toInt ≤ 20000) (m12 : m ≤ 12) : ∀ (i : Nat) {s : Pst β}, i ≤ 20000 → pI w BL nb rw own m s → CtI own rw m s → CtI own rw m (pTk lP tB nB w BL m n i s)
  | 0, _, _, _, C => C
  | i + 1, s, hi, H, C => ct_men W hb hl r4 (by rw [tx_add (by rw [on_j (by omega)]; omega) (by rw [on_j (by omega)]; omega), on_j (by omega)]; omega) m12 m (s := pOv nB (n + Int32.ofNat i) (pTk lP tB nB w BL m n i s)) (Nat.le_refl _) (pI_tk W hb hl r4 p0 m12 i (by omega) H) (fun j hj => ct_tk W hb hl r4 p0 m12 i (by omega) H C j hj)
end MEN
theorem Rk.d {cz : Int32} : ∀ (k : Nat) (M : Nat → Int32), Rk k M (dRow cz k M, List.replicate k (2, cz))
  | 0, M => Rk.rf (fun _ _ => rfl) rfl rfl rfl
  | k + 1, M => by
    have a : Rk 1 M (sRow (2, cz) M, [(2, cz)]) := Rk.row (Or.inr rfl) (Nat.le_refl _)
    have c := a.tr (Rk.d (cz := cz) k (sRow (2, cz) M))
    rw [Nat.add_comm] at c
    exact c
theorem dp_c {cz : Int32} {M : Nat → Int32} : (fDp cz M).1 15 = M 15 + Int32.ofNat (c1 (fDp cz M).2) ∧ (fDp cz M).1 16 = M 16 + Int32.ofNat (c2 (fDp cz M).2) := by
  unfold fDp
  split
  · exact ⟨(Rk.d _ M).2.2.2.2.1, (Rk.d _ M).2.2.2.2.2⟩
  · exact ⟨(i_0 _).symm, (i_0 _).symm⟩
theorem dw_c {n : Int32} {w : Int32 → Int32 → Int32} {x2 x3 : Int32} {M : Nat → Int32} : (fDw n w x2 x3 M).1 15 = M 15 + Int32.ofNat (c1 (fDw n w x2 x3 M).2) ∧ (fDw n w x2 x3 M).1 16 = M 16 + Int32.ofNat (c2 (fDw n w x2 x3 M).2) := by
  have d := dp_c (cz := 3) (M := M)
  unfold fDw
  show (if (fDp 3 M).1 6 = -1 then _ else _ : Nat → Int32) 15 = _ ∧ (if (fDp 3 M).1 6 = -1 then _ else _ : Nat → Int32) 16 = _
  split
  · have r := Rk.dr (m := 0) (n := n) (w := w) (M := up1 (up1 (up1 (up1 (fDp 3 M).1 4 3) 13 x2) 14 x3) 7 (-1))
    have a := r.2.2.2.2.1
    have b := r.2.2.2.2.2
    exact ⟨(a.trans (i_0 _)).trans d.1, (b.trans (i_0 _)).trans d.2⟩
  · exact d
theorem cnR_ext {f o : Nat → Int32} {j v : Int32} (nv : ¬ v = 0) {n : Nat} : ∀ m : Nat, (∀ k, n ≤ k → k < n + m → o k = 0) → cnR f o j v (n + m) = cnR f o j v n
  | 0, _ => rfl
  | m + 1, h => by
    show cnR f o j v (n + m) + (if f (n + m) = j ∧ o (n + m) = v then 1 else 0) = cnR f o j v n
    rw [h (n + m) (by omega) (by omega), if_neg (fun y => nv y.2.symm)]
    exact cnR_ext nv m (fun k a b => h k a (by omega))
/-! MEN: the counts in the heap; years -/
def ExN (h : Hp_) : Prop := (h_i h 0 7).toNatClampNeg ≤ 12 ∧ CtI (h_i h 47) (h_i h 16 7).toNatClampNeg (h_i h 0 7).toNatClampNeg (sX h) ∧ (∀ k, k < (h_i h 16 7).toNatClampNeg → ∃ l, l < (h_i h 0 7).toNatClampNeg ∧ h_i h 47 k = Int32.ofNat l) ∧ ∀ j, j < (h_i h 0 7).toNatClampNeg → h_i h (401 + j) 2 = h_i h 205 j
def exoY (ws : List Nat) : Bool := !inw ws 0 7 && !inw ws 16 7 && off ws 47 && off ws 51 && off ws 205 && off ws 401
theorem ExN.cg {h h' : Hp_} (x : ExN h) (n7 : h_i h' 0 7 = h_i h 0 7) (nr : h_i h' 16 7 = h_i h 16 7) (a : h_i h' 47 = h_i h 47) (b : h_i h' 51 = h_i h 51) (y : h_i h' 205 = h_i h 205) (c : ∀ j, j < 12 → h_i h' (401 + j) = h_i h (401 + j)) : ExN h' := by
  obtain ⟨m12, C, O, Y⟩ := x
  unfold ExN
  rw [n7, nr, a, y]
  refine ⟨m12, fun j hj => ?_, O, fun j hj => ?_⟩
  · have z := C j hj
    show h_i h' (401 + j) 15 = Int32.ofNat (cnR (h_i h 47) (h_i h' 51) (Int32.ofNat j) 1 (h_i h 16 7).toNatClampNeg) ∧ h_i h' (401 + j) 16 = Int32.ofNat (cnR (h_i h 47) (h_i h' 51) (Int32.ofNat j) 2 (h_i h 16 7).toNatClampNeg)
    rw [c j (by omega), b]
    exact z
  · rw [c j (by omega)]
    exact Y j hj
theorem ExN.fr {ws : List Nat} {h h' : Hp_} (x : ExN h) (f : Fr ws h h') (o : exoY ws = true) : ExN h' := by
  unfold exoY at o
  simp only [Bool.and_eq_true, Bool.not_eq_true'] at o
  obtain ⟨⟨⟨⟨⟨o1, o2⟩, o3⟩, o4⟩, o5⟩, o6⟩ := o
  exact x.cg (f.2 0 7 o1).1 (f.2 16 7 o2).1 (funext (fun k => fr_i f o3 k)) (funext (fun k => fr_i f o4 k)) (funext (fun k => fr_i f o5 k)) (fun j hj => funext (fun k => (f.2 (401 + j) k (by
    rw [inw_ce (b := 401) ((cn_man hj).trans (by decide))]
    exact off_inw o6 k)).1))
theorem exN_F : ExN HF := by
  have e7 : h_i HF 0 7 = 0 := by decide +kernel
  have er : h_i HF 16 7 = 0 := by decide +kernel
  have z : (0 : Int32).toNatClampNeg = 0 := rfl
  refine ⟨by rw [e7, z]; omega, fun j hj => ?_, fun k hk => ?_, fun j hj => ?_⟩
  · rw [e7, z] at hj
    omega
  · rw [er, z] at hk
    omega
  · rw [e7, z] at hj
    omega
theorem CtI.cs {β : Type} {own : Nat → Int32} {rw m : Nat} {s s' : Pst β} (C : CtI own rw m s) (e1 : ∀ j, j < m → s'.1 j 15 = s.1 j 15 ∧ s'.1 j 16 = s.1 j 16) (e2 : s'.2.1 = s.2.1) : CtI own rw m s' := fun j hj => by
  rw [(e1 j hj).1, (e1 j hj).2, e2]
  exact C j hj
theorem ExN.ev {h h1 h2 : Hp_} {j : Nat} {n : Int32} {M' : Nat → Int32} {E : List Ev2} {b1 : Unit} (x : ExN h) (xm : ExM h) (hj : j < (h_i h 0 7).toNatClampNeg) (f1 : Fr wMx h h1) (f2 : Fr mwR h1 h2) (k1 : Sxm PU (401 + j) n M' (h_i h (401 + j) 11).toNatClampNeg E b1 h h1) (he : ∀ e ∈ E, e.1 = 1 ∨ e.1 = 2) (er : E = [] ∨ (h_i h (401 + j) 4 = 1 ∧ (h_i h (401 + j) 11).toInt + (E.length : Int) ≤ (h_i h (401 + j) 12).toInt)) (e15 : M' 15 = h_i h (401 + j) 15 + Int32.ofNat (c1 E)) (e16 : M' 16 = h_i h (401 + j) 16 + Int32.ofNat (c2 E)) (e2 : M' 2 = h_i h (401 + j) 2) : ExN h2 := by
  obtain ⟨m12, C, O, Y⟩ := x
  have i1 : ∀ a k, inw wMx a k = false → inw mwR a k = false → h_i h2 a k = h_i h a k := fun a k o1 o2 => ((f2.2 a k o2).1).trans (f1.2 a k o1).1
  have r1 : ∀ a, off wMx a = true → off mwR a = true → h_i h2 a = h_i h a := fun a o1 o2 => funext (fun k => i1 a k (off_inw o1 k) (off_inw o2 k))
  have n07 : h_i h2 0 7 = h_i h 0 7 := i1 0 7 (by decide +kernel) (by decide +kernel)
  have nr : h_i h2 16 7 = h_i h 16 7 := i1 16 7 (by decide +kernel) (by decide +kernel)
  have c2' : ∀ l, l < 12 → h_i h2 (401 + l) = h_i h1 (401 + l) := fun l hl => funext (fun k => (f2.2 (401 + l) k (by
    rw [inw_ce (b := 401) ((cn_man hl).trans (by decide))]
    exact off_inw (by decide +kernel) k)).1)
  have cj : h_i h2 (401 + j) = M' := (c2' j (by omega)).trans k1.2.2.1
  have co : ∀ l, l < 12 → l ≠ j → h_i h2 (401 + l) = h_i h (401 + l) := fun l hl ne => (c2' l hl).trans (funext (fun k => k1.2.1.i (401 + l) k (by omega) (by
    rw [inw_ce (b := 401) ((cn_man hl).trans (by decide))]
    exact off_inw (by decide +kernel) k)))
  have g51 : h_i h2 51 = rz Prod.fst (h_i h (401 + j) 11).toNatClampNeg E (h_i h 51) := (funext (fun k => fr_i f2 (by decide +kernel) k)).trans k1.2.2.2.1.1
  have bd : (E = [] ∨ (h_i h (401 + j) 11).toNatClampNeg + E.length ≤ (h_i h 16 7).toNatClampNeg) ∧ ∀ k, (h_i h (401 + j) 11).toNatClampNeg ≤ k → k < (h_i h (401 + j) 11).toNatClampNeg + E.length → h_i h 51 k = 0 ∧ h_i h 47 k = Int32.ofNat j := by
    rcases er with er | er
    · rw [er]
      exact ⟨Or.inl rfl, fun k a b => absurd b (by show ¬ k < _ + 0; omega)⟩
    · obtain ⟨i, y, L, q1, q2, q3⟩ := (xm.2.2.1 j hj).1.2 er.1
      have q11 : 0 ≤ (h_i h (401 + j) 11).toInt := q3.2.2.1
      have q12 : (h_i h (401 + j) 12).toInt ≤ ((h_i h 16 7).toNatClampNeg : Int) := q3.2.2.2.2
      have n11 := n_nat q11
      exact ⟨Or.inr (by omega), fun k a b => (xm.2.2.1 j hj).2.2 er.1 k (by show (h_i h (401 + j) 11).toInt ≤ _; omega) (by show _ < (h_i h (401 + j) 12).toInt; omega)⟩
  unfold ExN
  rw [n07, nr, r1 47 (by decide +kernel) (by decide +kernel), r1 205 (by decide +kernel) (by decide +kernel)]
  refine ⟨m12, ct_ev C m12 hj he bd.1 bd.2 (by show h_i h2 (401 + j) 15 = _; rw [cj]; exact e15) (by show h_i h2 (401 + j) 16 = _; rw [cj]; exact e16) (fun l hl ne => co l (by omega) ne) g51, O, fun l hl => ?_⟩
  by_cases c : l = j
  · rw [c, cj, e2]
    exact Y j hj
  · rw [co l (by omega) c]
    exact Y l hl
theorem ExN.tk {h h1 h2 : Hp_} {x1 r1 r2 : Int32} {N' : Nat} (x : ExN h) (I : Iv h) (xm : ExM h) (R : ExR h) (S : ExS h) (k1 : Tkx PU lU tU nU (h_i h 0 7).toNatClampNeg N' (sX h) x1 h r1 h1) (k2 : Tkm PU lU tU nU (h_i h 0 7).toNatClampNeg (h_i h 16 7).toNatClampNeg (sX h) x1 h1 r2 h2) : ExN h2 := by
  have f := k1.1.2.1
  have e10 : h_i h1 1 0 = h_i h 0 0 := (f.1 0).trans xm.1.2.1.symm
  have rg := I.2.1 0 0
  rw [show tf 0 0 = (0, 20000) by decide +kernel] at rg
  have g0 : 0 ≤ (h_i h 0 0).toInt := rg.1
  have g1 : (h_i h 0 0).toInt ≤ 20000 := rg.2
  by_cases o : okt (h_i h 0 0) x1
  · obtain ⟨a1, a2, a3⟩ := k1.2.1 o
    obtain ⟨b1, b2, b3⟩ := k2.2.1 (by rw [e10]; exact o)
    obtain ⟨m12, C, O, Y⟩ := x
    have x0 := q_le.mp o.1.1
    have x5 := q_le.mp o.1.2
    have t0 : (0 : Int32).toInt = 0 := rfl
    have t5 : (1500 : Int32).toInt = 1500 := rfl
    have nx := n_nat (x := x1) (by omega)
    have P := ct_tk (lP := lU) (tB := tU) (nB := nU) (wok I R.2) (bL_hb S) (bL_hl I _) (rwX_in I).1 ⟨g0, g1⟩ m12 x1.toNatClampNeg (by omega) xm.2.2.1 C
    have F2 := fun l => fx_tk (lP := lU) (tB := tU) (nB := nU) (n := h_i h 0 0) (w := wI h) (BL := bL h) (m := (h_i h 0 7).toNatClampNeg) (l := l) (k := 2) (by decide) x1.toNatClampNeg (sX h)
    generalize pTk lU tU nU (wI h) (bL h) (h_i h 0 7).toNatClampNeg (h_i h 0 0) x1.toNatClampNeg (sX h) = s at a2 P F2
    have c1' : ∀ a k, a < 200 → inw (0 :: 15 :: wgM) a k = false → inw wtM a k = false → h_i h2 a k = h_i h a k := fun a k l p q => ((b2.2 a k q).1).trans (a3 a k l p)
    have n07 : h_i h2 0 7 = h_i h 0 7 := c1' 0 7 (by decide) (by decide +kernel) (by decide +kernel)
    have nr : h_i h2 16 7 = h_i h 16 7 := c1' 16 7 (by decide) (by decide +kernel) (by decide +kernel)
    have e47 : h_i h2 47 = h_i h 47 := funext (fun k => c1' 47 k (by decide) (off_inw (by decide +kernel) k) (off_inw (by decide +kernel) k))
    have e205 : h_i h2 205 = h_i h 205 := (funext (fun k => fr_i b2 (by decide +kernel) k)).trans (funext (fun k => f.2.1 205 (by decide) (by decide) k))
    have e51 : h_i h2 51 = s.2.1 := (funext (fun k => fr_i b2 (by decide +kernel) k)).trans a2.2.1.1
    have cm : ∀ l, l < (h_i h 0 7).toNatClampNeg → h_i h2 (401 + l) = s.1 l := fun l hl => (funext (fun k => (b2.2 (401 + l) k (by
      rw [inw_ce (b := 401) ((cn_man (by omega)).trans (by decide))]
      exact off_inw (by decide +kernel) k)).1)).trans (a2.1 l hl)
    unfold ExN
    rw [n07, nr, e47, e205]
    refine ⟨m12, P.cs (fun j hj => ?_) e51, O, fun l hl => ?_⟩
    · have z := cm j hj
      exact ⟨congrFun z 15, congrFun z 16⟩
    · rw [cm l hl, F2 l]
      exact Y l hl
  · rw [k2.2.2 (by rw [e10]; exact o), k1.2.2 o]
    exact x
theorem ExN.bg {h h1 h2 : Hp_} {x1 x2 r1 r2 : Int32} (x : ExN h) (I : Iv h) (xm : ExM h) (f : Fr wBx h h1) (k1 : BgX x1 x2 h r1 h1) (k2 : BgM x1 x2 h h1 r2 h2) (f2 : Fr mwB h1 h2) : ExN h2 := by
  by_cases c : BgK x1 x2 h
  case neg =>
    rw [(k2.2 c).2, (k1.2 c).2]
    exact x
  obtain ⟨_, z1⟩ := k1.1 c
  obtain ⟨cM, cB, c4, cR⟩ := c
  obtain ⟨m12, C, O, Y⟩ := x
  have hj := (xm.rk I cM).1
  have r4 := rwX_in I
  have mm := menX_in I
  have y2 := cM.2
  have ej : x1 = Int32.ofNat x1.toNatClampNeg := (on_of ⟨cM.1, by omega⟩).symm
  have Rs := Rk.st (n := h_i h 0 0) (w := wI h) (bL h x2.toNatClampNeg) (up1 (up1 (up1 (up1 (up1 (up1 (h_i h (401 + x1.toNatClampNeg)) 4 1) 8 x2) 9 0) 10 (h_i h 0 0)) 11 (Int32.ofNat (h_i h 16 7).toNatClampNeg)) 12 (Int32.ofNat ((h_i h 16 7).toNatClampNeg + mts (bL h x2.toNatClampNeg))))
  have eF : BgF x1 x2 h = fSt (h_i h 0 0) (wI h) (bL h x2.toNatClampNeg) (up1 (up1 (up1 (up1 (up1 (up1 (h_i h (401 + x1.toNatClampNeg)) 4 1) 8 x2) 9 0) 10 (h_i h 0 0)) 11 (Int32.ofNat (h_i h 16 7).toNatClampNeg)) 12 (Int32.ofNat ((h_i h 16 7).toNatClampNeg + mts (bL h x2.toNatClampNeg)))) := rfl
  rw [← eF] at Rs
  have F15 : (BgF x1 x2 h).1 15 = h_i h (401 + x1.toNatClampNeg) 15 + Int32.ofNat (c1 (BgF x1 x2 h).2) := Rs.2.2.2.2.1
  have F16 : (BgF x1 x2 h).1 16 = h_i h (401 + x1.toNatClampNeg) 16 + Int32.ofNat (c2 (BgF x1 x2 h).2) := Rs.2.2.2.2.2
  have F2 : (BgF x1 x2 h).1 2 = h_i h (401 + x1.toNatClampNeg) 2 := Rs.1 2 (by decide)
  have FE := Rs.2.1
  have FL : (BgF x1 x2 h).2.length ≤ mts (bL h x2.toNatClampNeg) := Rs.2.2.1
  generalize BgF x1 x2 h = F at z1 F15 F16 F2 FE FL
  have ql := ptL_l (bL h x2.toNatClampNeg)
  generalize ptL (bL h x2.toNatClampNeg) = Q at z1 ql
  have n07 : h_i h2 0 7 = h_i h 0 7 := ((f2.2 0 7 (by decide +kernel)).1).trans (f.2 0 7 (by decide +kernel)).1
  have nr : h_i h2 16 7 = Int32.ofNat ((h_i h 16 7).toNatClampNeg + Q.length) := ((f2.2 16 7 (by decide +kernel)).1).trans z1.2.2.2.2.1
  have nr' : (h_i h2 16 7).toNatClampNeg = (h_i h 16 7).toNatClampNeg + mts (bL h x2.toNatClampNeg) := by rw [nr, ql, on_k (by omega)]
  have e2 : ∀ a, off mwB a = true → h_i h2 a = h_i h1 a := fun a o => funext (fun k => fr_i f2 o k)
  have g47 := (e2 47 (by decide +kernel)).trans z1.2.2.2.1.1
  have g51 := (e2 51 (by decide +kernel)).trans z1.2.2.2.2.2.1.1
  have e205 : h_i h2 205 = h_i h 205 := (e2 205 (by decide +kernel)).trans (funext (fun k => fr_i f (by decide +kernel) k))
  have c2' : ∀ l, l < 12 → h_i h2 (401 + l) = h_i h1 (401 + l) := fun l hl => funext (fun k => (f2.2 (401 + l) k (by
    rw [inw_ce (b := 401) ((cn_man hl).trans (by decide))]
    exact off_inw (by decide +kernel) k)).1)
  have cj : h_i h2 (401 + x1.toNatClampNeg) = F.1 := (c2' _ (by omega)).trans z1.2.2.1
  have co : ∀ l, l < 12 → l ≠ x1.toNatClampNeg → h_i h2 (401 + l) = h_i h (401 + l) := fun l hl ne => (c2' l hl).trans (funext (fun k => z1.2.1.i (401 + l) k (by omega) (by
    rw [inw_ce (b := 401) ((cn_man hl).trans (by decide))]
    exact off_inw (by decide +kernel) k)))
  have own : ∀ k, (h_i h 16 7).toNatClampNeg ≤ k → k < (h_i h 16 7).toNatClampNeg + mts (bL h x2.toNatClampNeg) → rz (fun _ => x1) (h_i h 16 7).toNatClampNeg Q (h_i h 47) k = x1 := fun k a b => by
    obtain ⟨e, he, _⟩ := rz_at (fun _ => x1) Q (h_i h 16 7).toNatClampNeg (h_i h 47) (k := k) a (by omega)
    exact he
  have ct : ∀ l (v : Int32), ¬ v = 0 → cnR (rz (fun _ => x1) (h_i h 16 7).toNatClampNeg Q (h_i h 47)) (h_i h 51) l v ((h_i h 16 7).toNatClampNeg + mts (bL h x2.toNatClampNeg)) = cnR (h_i h 47) (h_i h 51) l v (h_i h 16 7).toNatClampNeg := fun l v nv => by
    rw [cnR_ext nv _ (fun k a b => xm.2.2.2.2.2 k a (by omega))]
    exact cnR_cg _ (fun k hk => ⟨rz_o _ _ _ _ _ (Or.inl hk), rfl⟩)
  have C' : CtI (rz (fun _ => x1) (h_i h 16 7).toNatClampNeg Q (h_i h 47)) ((h_i h 16 7).toNatClampNeg + mts (bL h x2.toNatClampNeg)) (h_i h 0 7).toNatClampNeg (sX h) := fun l hl => by
    show _ = Int32.ofNat (cnR _ (h_i h 51) _ _ _) ∧ _ = Int32.ofNat (cnR _ (h_i h 51) _ _ _)
    rw [ct _ 1 (by decide), ct _ 2 (by decide)]
    exact C l hl
  unfold ExN
  rw [n07, nr', g47, e205]
  refine ⟨m12, ct_ev C' m12 hj FE (Or.inr (by omega)) (fun k a b => ⟨xm.2.2.2.2.2 k a (by omega), (own k a (by omega)).trans ej⟩) (by show h_i h2 (401 + x1.toNatClampNeg) 15 = _; rw [cj]; exact F15) (by show h_i h2 (401 + x1.toNatClampNeg) 16 = _; rw [cj]; exact F16) (fun l hl ne => co l (by omega) ne) g51, fun k hk => ?_, fun l hl => ?_⟩
  · by_cases ck : k < (h_i h 16 7).toNatClampNeg
    · rw [rz_o _ _ _ _ _ (Or.inl ck)]
      exact O k ck
    · exact ⟨x1.toNatClampNeg, hj, (own k (by omega) hk).trans ej⟩
  · by_cases el : l = x1.toNatClampNeg
    · rw [el, cj, F2]
      exact Y _ hj
    · rw [co l (by omega) el]
      exact Y l hl
theorem cnR_0 {f o : Nat → Int32} {j v : Int32} : ∀ n : Nat, (∀ k, k < n → ¬ f k = j) → cnR f o j v n = 0
  | 0, _ => rfl
  | n + 1, h => by
    show cnR f o j v n + (if f n = j ∧ o n = v then 1 else 0) = 0
    rw [if_neg (fun y => h n (by omega) y.1), cnR_0 n (fun k hk => h k (by omega))]
theorem ExN.cn {h h1 h2 : Hp_} {x1 x2 x3 r1 r2 : Int32} (x : ExN h) (I : Iv h) (xm : ExM h) (k1 : Cy x1 x2 x3 h r1 h1 ∧ CyA x1 x2 x3 h h1) (k2 : ocm (h_i h1 1 7) x1 x2 x3 r2 (h_i h2 1 7) ∧ CwA x1 x2 x3 h1 h2) : ExN h2 := by
  obtain ⟨ky, ka, kn⟩ := k1
  obtain ⟨km, kb, kc⟩ := k2
  have mm := menX_in I
  have nm := n_nat mm.1
  have e17 : h_i h1 1 7 = h_i h 0 7 := (ky.1.2.1.1 7).trans xm.1.1.symm
  rw [e17] at kb kc
  have oe := okc_m (x1 := x1) (x2 := x2) (x3 := x3) mm
  by_cases o : okc (h_i h 0 7) x1 x2 x3
  case neg =>
    rw [kc (fun y => o (oe.mpr y)), kn o]
    exact x
  obtain ⟨aN, aO, a0⟩ := ka o
  obtain ⟨bN, by5, f2, bO⟩ := kb (oe.mp o)
  obtain ⟨m12, C, O, Y⟩ := x
  have t12 : (12 : Int32).toInt = 12 := rfl
  have t1 : (1 : Int32).toInt = 1 := rfl
  have lt := q_lt.mp o.2.2.2
  have ex : (h_i h 0 7 + 1).toInt = (h_i h 0 7).toInt + 1 := tx_add (by rw [t1]; omega) (by rw [t1]; omega)
  have n1 := n_nat (x := h_i h 0 7 + 1) (by omega)
  have e07 : h_i h1 0 7 = h_i h 0 7 + 1 := by
    rcases ky.2.1 with p | p
    · exact p.2.2
    · exact absurd o p.1
  have m07 : (h_i h 0 7 + 1).toNatClampNeg = (h_i h 0 7).toNatClampNeg + 1 := by omega
  have i2 : ∀ a, off wcM a = true → h_i h2 a = h_i h1 a := fun a q => funext (fun k => fr_i f2 q k)
  have n07 : h_i h2 0 7 = h_i h 0 7 + 1 := ((f2.2 0 7 (by decide +kernel)).1).trans e07
  have ia : ∀ a, a ≠ 0 → a < 401 → off wcM a = true → h_i h2 a = h_i h a := fun a n l q => (i2 a q).trans (aO a (by omega) n)
  have nr : h_i h2 16 7 = h_i h 16 7 := congrFun (ia 16 (by decide) (by decide) (by decide +kernel)) 7
  have e47 := ia 47 (by decide) (by decide) (by decide +kernel)
  have e51 := ia 51 (by decide) (by decide) (by decide +kernel)
  have c2' : ∀ l, l < 12 → h_i h2 (401 + l) = h_i h1 (401 + l) := fun l hl => funext (fun k => (f2.2 (401 + l) k (by
    rw [inw_ce (b := 401) ((cn_man hl).trans (by decide))]
    exact off_inw (by decide +kernel) k)).1)
  unfold ExN
  rw [n07, nr, e47, m07]
  refine ⟨by omega, fun l hl => ?_, fun k hk => ?_, fun l hl => ?_⟩
  · show h_i h2 (401 + l) 15 = Int32.ofNat (cnR (h_i h 47) (h_i h2 51) (Int32.ofNat l) 1 _) ∧ h_i h2 (401 + l) 16 = Int32.ofNat (cnR (h_i h 47) (h_i h2 51) (Int32.ofNat l) 2 _)
    rw [e51, c2' l (by omega)]
    by_cases e : l = (h_i h 0 7).toNatClampNeg
    · have no : ∀ k, k < (h_i h 16 7).toNatClampNeg → ¬ h_i h 47 k = Int32.ofNat l := fun k hk y => by
        obtain ⟨q, hq, eq⟩ := O k hk
        rw [eq] at y
        have := on_ne (by omega) (by omega) y
        omega
      rw [cnR_0 _ no, cnR_0 _ no, e, aN]
      exact ⟨rfl, rfl⟩
    · rw [aO (401 + l) (by omega) (by omega)]
      exact C l (by omega)
  · obtain ⟨q, hq, eq⟩ := O k hk
    exact ⟨q, by omega, eq⟩
  · rw [c2' l (by omega)]
    by_cases e : l = (h_i h 0 7).toNatClampNeg
    · rw [e, aN, by5.1]
      rfl
    · rw [aO (401 + l) (by omega) (by omega), bO 205 l (by decide) e, aO 205 (by omega) (by decide)]
      exact Y l (by omega)
end
section
/-! what the readers put down: tokens (sort, argument), behind what is found -/
abbrev Tk2 : Type := Int32 × Int32
abbrev Rcf (α : Type) : Type := Nat → Bool × Nat × List α
abbrev Rce : Type := Rcf Tk2
def k2pre {α : Type} (E : List α) (R : Bool × Nat × List α) : Bool × Nat × List α := (R.1, R.2.1, E ++ R.2.2)
def k2app (R : Bool × Nat × List Tk2) (E : List Tk2) : Bool × Nat × List Tk2 := (R.1, R.2.1, R.2.2 ++ E)
theorem k2pre_0 {α : Type} (R : Bool × Nat × List α) : k2pre [] R = R := rfl
theorem k2pre_a {α : Type} (E F : List α) (R : Bool × Nat × List α) : k2pre E (k2pre F R) = k2pre (E ++ F) R := by
  unfold k2pre
  rw [List.append_assoc]
def k2sq {α : Type} (f g : Rcf α) : Rcf α := fun a => if (f a).1 = true then k2pre (f a).2.2 (g (f a).2.1) else f a
def k2lp {α : Type} (b : Nat → Int32) (n : Nat) (sp : Int32 → Bool) (op : Int32 → List α) (f : Rcf α) : Nat → Rcf α
  | 0, a => (true, ska b n a, [])
  | k + 1, a => if sp (skv b n a) = true then (if (f (ska b n a + 1)).1 = true then k2pre ((f (ska b n a + 1)).2.2 ++ op (skv b n a)) (k2lp b n sp op f k (f (ska b n a + 1)).2.1) else f (ska b n a + 1)) else (true, ska b n a, [])
/-- blanks ahead don't matter -/
def Cne {α : Type} (b : Nat → Int32) (n : Nat) (f : Rcf α) : Prop := ∀ a, f (ska b n a) = f a
/-- the place behind lies further on; no more tokens than signs -/
def Fwe (b : Nat → Int32) (n : Nat) (f : Rce) : Prop := ∀ a, (f a).1 = true → ska b n a < (f a).2.1 ∧ (f a).2.1 ≤ n ∧ ska b n (f a).2.1 = (f a).2.1 ∧ (f a).2.2.length + ska b n a ≤ (f a).2.1
/-- the same of one that may find nothing -/
def Fwz (b : Nat → Int32) (n : Nat) (f : Rce) : Prop := ∀ p, ska b n p = p → p ≤ n → (f p).1 = true → p ≤ (f p).2.1 ∧ (f p).2.1 ≤ n ∧ ska b n (f p).2.1 = (f p).2.1 ∧ (f p).2.2.length + p ≤ (f p).2.1
/-- what it finds is what the other finds -/
def Pje {α : Type} (f : Rcf α) (g : Rcg) : Prop := ∀ a, (f a).1 = (g a).1 ∧ (f a).2.1 = (g a).2
theorem Pje.sq {α : Type} {f g : Rcf α} {f' g' : Rcg} (p : Pje f f') (q : Pje g g') : Pje (k2sq f g) (sqr f' g') := fun a => by
  unfold k2sq sqr
  rw [(p a).1, (p a).2]
  by_cases c : (f' a).1 = true
  · rw [if_pos c, if_pos c]
    exact q _
  · rw [if_neg c, if_neg c]
    exact p a
theorem Pje.lp {α : Type} {b : Nat → Int32} {n : Nat} {sp : Int32 → Bool} {op : Int32 → List α} {f : Rcf α} {f' : Rcg} (p : Pje f f') : ∀ k : Nat, Pje (k2lp b n sp op f k) (lpr b n sp f' k)
  | 0 => fun _ => ⟨rfl, rfl⟩
  | k + 1 => fun a => by
    unfold k2lp lpr
    by_cases c : sp (skv b n a) = true
    · rw [if_pos c, if_pos c, (p (ska b n a + 1)).1, (p (ska b n a + 1)).2]
      by_cases d : (f' (ska b n a + 1)).1 = true
      · rw [if_pos d, if_pos d]
        exact Pje.lp p k _
      · rw [if_neg d, if_neg d]
        exact p _
    · rw [if_neg c, if_neg c]
      exact ⟨rfl, rfl⟩
theorem Cne.sq {α : Type} {b : Nat → Int32} {n : Nat} {f g : Rcf α} (h : Cne b n f) : Cne b n (k2sq f g) := fun a => by
  unfold k2sq
  rw [h a]
theorem Cne.lp {α : Type} {b : Nat → Int32} {n : Nat} {sp : Int32 → Bool} {op : Int32 → List α} {f : Rcf α} (k : Nat) : Cne b n (k2lp b n sp op f k) := fun a => by
  cases k with
  | zero =>
    show (true, ska b n (ska b n a), []) = (true, ska b n a, [])
    rw [ska_i]
  | succ k =>
    show (if sp (skv b n (ska b n a)) = true then (if (f (ska b n (ska b n a) + 1)).1 = true then k2pre ((f (ska b n (ska b n a) + 1)).2.2 ++ op (skv b n (ska b n a))) (k2lp b n sp op f k (f (ska b n (ska b n a) + 1)).2.1) else f (ska b n (ska b n a) + 1)) else (true, ska b n (ska b n a), [])) = _
    rw [ska_i, skv_i]
    rfl
theorem k2sq_a {α : Type} (f g k : Rcf α) : k2sq (k2sq f g) k = k2sq f (k2sq g k) := funext (fun a => by
  unfold k2sq
  by_cases c : (f a).1 = true
  · rw [if_pos c, if_pos c]
    by_cases d : (g (f a).2.1).1 = true
    · show (if (g (f a).2.1).1 = true then k2pre ((f a).2.2 ++ (g (f a).2.1).2.2) (k (g (f a).2.1).2.1) else _) = _
      rw [if_pos d, if_pos d, k2pre_a]
    · show (if (g (f a).2.1).1 = true then _ else k2pre (f a).2.2 (g (f a).2.1)) = _
      rw [if_neg d, if_neg d]
  · rw [if_neg c, if_neg c, if_neg c])
theorem Fwe.sq {b : Nat → Int32} {n : Nat} {f g : Rce} (hf : Fwe b n f) (hg : Fwz b n g) : Fwe b n (k2sq f g) := fun a h => by
  unfold k2sq at h ⊢
  by_cases c : (f a).1 = true
  · rw [if_pos c] at h ⊢
    have q := hf a c
    have r := hg _ q.2.2.1 q.2.1 h
    refine ⟨?_, r.2.1, r.2.2.1, ?_⟩
    · show ska b n a < (g (f a).2.1).2.1
      omega
    · show ((f a).2.2 ++ (g (f a).2.1).2.2).length + ska b n a ≤ (g (f a).2.1).2.1
      rw [List.length_append]
      omega
  · rw [if_neg c] at h
    exact absurd h c
theorem Fwz.sq {b : Nat → Int32} {n : Nat} {f g : Rce} (hf : Fwz b n f) (hg : Fwz b n g) : Fwz b n (k2sq f g) := fun p e l h => by
  unfold k2sq at h ⊢
  by_cases c : (f p).1 = true
  · rw [if_pos c] at h ⊢
    have q := hf p e l c
    have r := hg _ q.2.2.1 q.2.1 h
    refine ⟨?_, r.2.1, r.2.2.1, ?_⟩
    · show p ≤ (g (f p).2.1).2.1
      omega
    · show ((f p).2.2 ++ (g (f p).2.1).2.2).length + p ≤ (g (f p).2.1).2.1
      rw [List.length_append]
      omega
  · rw [if_neg c] at h
    exact absurd h c
theorem Fwe.z {b : Nat → Int32} {n : Nat} {f : Rce} (hf : Fwe b n f) : Fwz b n f := fun p e _ h => by
  have q := hf p h
  rw [e] at q
  exact ⟨by omega, q.2.1, q.2.2.1, q.2.2.2⟩
theorem Fwz.lp {b : Nat → Int32} {n : Nat} {sp : Int32 → Bool} {op : Int32 → List Tk2} {f : Rce} (ho : ∀ c, (op c).length ≤ 1) (hf : Fwe b n f) : ∀ k : Nat, Fwz b n (k2lp b n sp op f k)
  | 0 => fun p e l _ => by
    show p ≤ ska b n p ∧ ska b n p ≤ n ∧ ska b n (ska b n p) = ska b n p ∧ 0 + p ≤ ska b n p
    rw [e]
    exact ⟨Nat.le_refl _, l, e, by omega⟩
  | k + 1 => fun p e l h => by
    unfold k2lp at h ⊢
    by_cases c : sp (skv b n p) = true
    · rw [if_pos c] at h ⊢
      by_cases d : (f (ska b n p + 1)).1 = true
      · rw [if_pos d] at h ⊢
        have q := hf _ d
        have g := ska_ge (b := b) (n := n) (a := ska b n p + 1)
        have r := Fwz.lp (op := op) (sp := sp) ho hf k _ q.2.2.1 q.2.1 h
        have o := ho (skv b n p)
        rw [e] at q g r ⊢
        refine ⟨?_, r.2.1, r.2.2.1, ?_⟩
        · show p ≤ (k2lp b n sp op f k (f (p + 1)).2.1).2.1
          omega
        · show (((f (p + 1)).2.2 ++ op (skv b n p)) ++ (k2lp b n sp op f k (f (p + 1)).2.1).2.2).length + p ≤ (k2lp b n sp op f k (f (p + 1)).2.1).2.1
          rw [List.length_append, List.length_append]
          omega
      · rw [if_neg d] at h
        exact absurd h d
    · rw [if_neg c]
      show p ≤ ska b n p ∧ ska b n p ≤ n ∧ ska b n (ska b n p) = ska b n p ∧ 0 + p ≤ ska b n p
      rw [e]
      exact ⟨Nat.le_refl _, l, e, by omega⟩
/-! the grammar, with tokens -/
def k2ex (b : Nat → Int32) (n : Nat) (c : Int32) : Rce := fun a => if skv b n a = c then (true, ska b n (ska b n a + 1), []) else (false, ska b n a, [])
def k2on (b : Nat → Int32) (n : Nat) (sp : Int32 → Bool) : Rce := fun a => if sp (skv b n a) = true then (true, ska b n (ska b n a + 1), [(1, skv b n a)]) else (false, ska b n a, [])
def k2nv (b : Nat → Int32) (n a : Nat) : Int32 := (nml b n 4 0 (ska b n a)).2.2
def k2at (b : Nat → Int32) (n : Nat) (lt : Int32 → Bool) (z : Bool) (f : Rce) : Rce := fun a => if dgb (skv b n a) = true then ((nm0 b n a).1, (nm0 b n a).2, [(0, k2nv b n a)]) else if skv b n a = 91 then (if z = true then (false, ska b n a, []) else k2sq f (k2ex b n 93) (ska b n a + 1)) else k2on b n lt a
def k2tm (b : Nat → Int32) (n : Nat) (f : Rce) : Rce := k2sq f (k2lp b n (isq 42) (fun _ => [(7, 0)]) f 160)
def pmo (c : Int32) : List Tk2 := if c = 43 then [(5, 0)] else [(6, 0)]
def k2sm (b : Nat → Int32) (n : Nat) (f : Rce) : Rce := k2sq (k2tm b n f) (k2lp b n pmb pmo (k2tm b n f) 160)
def k2ss (b : Nat → Int32) (n : Nat) (lt : Int32 → Bool) : Nat → Rce
  | 0 => k2sm b n (k2at b n lt true (fun a => (false, a, [])))
  | r + 1 => k2sm b n (k2at b n lt false (k2ss b n lt r))
def cpo (c : Int32) : Tk2 := if c = 61 then (8, 0) else if c = 60 then (9, 0) else (10, 0)
def k2cm (b : Nat → Int32) (n : Nat) (f : Rce) : Rce := fun a => if sgb (skv b n a) = true then k2app (f (ska b n a + 1)) [cpo (skv b n a)] else (false, ska b n a, [])
def k2mu (b : Nat → Int32) (n : Nat) (u : Rce) : Rce := k2lp b n (isq 38) (fun _ => [(11, 0)]) u 160
def k2pt (b : Nat → Int32) (n : Nat) (u : Rce) : Rce := k2sq u (k2mu b n u)
def k2mp (b : Nat → Int32) (n : Nat) (u : Rce) : Rce := k2sq (k2mu b n u) (k2lp b n (isq 124) (fun _ => [(12, 0)]) (k2pt b n u) 160)
def k2cd (b : Nat → Int32) (n : Nat) (u : Rce) : Rce := k2sq u (k2mp b n u)
def k2un (b : Nat → Int32) (n : Nat) (lt : Int32 → Bool) : Nat → Rce
  | 0 => fun a => if skv b n a = 33 ∨ skv b n a = 40 then (false, ska b n a, []) else k2sq (k2ss b n lt 0) (k2cm b n (k2ss b n lt 0)) a
  | r + 1 => fun a => if skv b n a = 33 then k2app (k2un b n lt r (ska b n a + 1)) [(2, 0)] else if skv b n a = 40 then k2sq (k2cd b n (k2un b n lt r)) (k2ex b n 41) (ska b n a + 1) else k2sq (k2ss b n lt (r + 1)) (k2cm b n (k2ss b n lt (r + 1))) a
/-! they find what the recognizers find -/
theorem Pje.ex {b : Nat → Int32} {n : Nat} {c : Int32} : Pje (k2ex b n c) (exr b n c) := fun a => by
  unfold k2ex exr
  split <;> exact ⟨rfl, rfl⟩
theorem Pje.on {b : Nat → Int32} {n : Nat} {sp : Int32 → Bool} : Pje (k2on b n sp) (onr b n sp) := fun a => by
  unfold k2on onr
  split <;> exact ⟨rfl, rfl⟩
theorem Pje.at {b : Nat → Int32} {n : Nat} {lt : Int32 → Bool} {z : Bool} {f : Rce} {f' : Rcg} (p : Pje f f') : Pje (k2at b n lt z f) (atm b n lt z f') := fun a => by
  unfold k2at atm
  by_cases c : dgb (skv b n a) = true
  · rw [if_pos c, if_pos c]
    exact ⟨rfl, rfl⟩
  · rw [if_neg c, if_neg c]
    by_cases d : skv b n a = 91
    · rw [if_pos d, if_pos d]
      by_cases e : z = true
      · rw [if_pos e, if_pos e]
        exact ⟨rfl, rfl⟩
      · rw [if_neg e, if_neg e]
        exact (p.sq Pje.ex) _
    · rw [if_neg d, if_neg d]
      exact Pje.on _
theorem Pje.tm {b : Nat → Int32} {n : Nat} {f : Rce} {f' : Rcg} (p : Pje f f') : Pje (k2tm b n f) (trm b n f') := p.sq (p.lp 160)
theorem Pje.sm {b : Nat → Int32} {n : Nat} {f : Rce} {f' : Rcg} (p : Pje f f') : Pje (k2sm b n f) (smm b n f') := (p.tm).sq ((p.tm).lp 160)
theorem Pje.ss {b : Nat → Int32} {n : Nat} {lt : Int32 → Bool} : ∀ r : Nat, Pje (k2ss b n lt r) (sms b n lt r)
  | 0 => Pje.sm (Pje.at (fun _ => ⟨rfl, rfl⟩))
  | r + 1 => Pje.sm (Pje.at (Pje.ss r))
theorem Pje.cm {b : Nat → Int32} {n : Nat} {f : Rce} {f' : Rcg} (p : Pje f f') : Pje (k2cm b n f) (cmq b n f') := fun a => by
  unfold k2cm cmq
  by_cases c : sgb (skv b n a) = true
  · rw [if_pos c, if_pos c]
    exact p _
  · rw [if_neg c, if_neg c]
    exact ⟨rfl, rfl⟩
theorem Pje.mu {b : Nat → Int32} {n : Nat} {u : Rce} {u' : Rcg} (p : Pje u u') : Pje (k2mu b n u) (mun b n u') := p.lp 160
theorem Pje.pt {b : Nat → Int32} {n : Nat} {u : Rce} {u' : Rcg} (p : Pje u u') : Pje (k2pt b n u) (prt b n u') := p.sq p.mu
theorem Pje.mp {b : Nat → Int32} {n : Nat} {u : Rce} {u' : Rcg} (p : Pje u u') : Pje (k2mp b n u) (mpt b n u') := (p.mu).sq ((p.pt).lp 160)
theorem Pje.cd {b : Nat → Int32} {n : Nat} {u : Rce} {u' : Rcg} (p : Pje u u') : Pje (k2cd b n u) (cnd b n u') := p.sq p.mp
theorem Pje.un {b : Nat → Int32} {n : Nat} {lt : Int32 → Bool} : ∀ r : Nat, Pje (k2un b n lt r) (unt b n lt r)
  | 0 => fun a => by
    unfold k2un unt
    by_cases c : skv b n a = 33 ∨ skv b n a = 40
    · rw [if_pos c, if_pos c]
      exact ⟨rfl, rfl⟩
    · rw [if_neg c, if_neg c]
      exact ((Pje.ss 0).sq ((Pje.ss 0).cm)) _
  | r + 1 => fun a => by
    unfold k2un unt
    by_cases c : skv b n a = 33
    · rw [if_pos c, if_pos c]
      exact Pje.un r _
    · rw [if_neg c, if_neg c]
      by_cases d : skv b n a = 40
      · rw [if_pos d, if_pos d]
        exact ((Pje.un r).cd.sq Pje.ex) _
      · rw [if_neg d, if_neg d]
        exact ((Pje.ss (r + 1)).sq ((Pje.ss (r + 1)).cm)) _
/-! blanks ahead don't matter -/
theorem Cne.ex {b : Nat → Int32} {n : Nat} {c : Int32} : Cne b n (k2ex b n c) := fun a => by
  unfold k2ex
  rw [skv_i, ska_i]
theorem Cne.on {b : Nat → Int32} {n : Nat} {sp : Int32 → Bool} : Cne b n (k2on b n sp) := fun a => by
  unfold k2on
  rw [skv_i, ska_i]
theorem Cne.at {b : Nat → Int32} {n : Nat} {lt : Int32 → Bool} {z : Bool} {f : Rce} : Cne b n (k2at b n lt z f) := fun a => by
  unfold k2at k2nv
  rw [skv_i, ska_i, nm0_c, Cne.on a]
theorem Cne.ss {b : Nat → Int32} {n : Nat} {lt : Int32 → Bool} (r : Nat) : Cne b n (k2ss b n lt r) := by
  cases r with
  | zero => exact Cne.sq (Cne.sq Cne.at)
  | succ r => exact Cne.sq (Cne.sq Cne.at)
theorem Cne.cm {b : Nat → Int32} {n : Nat} {f : Rce} : Cne b n (k2cm b n f) := fun a => by
  unfold k2cm
  rw [skv_i, ska_i]
theorem Cne.un {b : Nat → Int32} {n : Nat} {lt : Int32 → Bool} (r : Nat) : Cne b n (k2un b n lt r) := fun a => by
  cases r with
  | zero =>
    unfold k2un
    rw [skv_i, ska_i, Cne.sq (Cne.ss 0) a]
  | succ r =>
    unfold k2un
    rw [skv_i, ska_i, Cne.sq (Cne.ss (r + 1)) a]
theorem Cne.mp {b : Nat → Int32} {n : Nat} {u : Rce} : Cne b n (k2mp b n u) := Cne.sq (Cne.lp 160)
theorem Cne.cd {b : Nat → Int32} {n : Nat} {u : Rce} (h : Cne b n u) : Cne b n (k2cd b n u) := Cne.sq h
theorem k2pt_a {b : Nat → Int32} {n : Nat} (u : Rce) : k2cd b n u = k2sq (k2pt b n u) (k2lp b n (isq 124) (fun _ => [(12, 0)]) (k2pt b n u) 160) := by
  unfold k2cd k2mp
  rw [← k2sq_a]
  rfl
/-! how far they go -/
theorem Fwe.ex {b : Nat → Int32} {n : Nat} {c : Int32} (hc : ¬ c = -1) : Fwe b n (k2ex b n c) := fun a h => by
  unfold k2ex at h ⊢
  by_cases q : skv b n a = c
  · rw [if_pos q] at h ⊢
    have z := nxt_f (skv_l (by rw [q]; exact hc))
    exact ⟨z.1, z.2.1, z.2.2, by show 0 + ska b n a ≤ ska b n (ska b n a + 1); have := z.1; omega⟩
  · rw [if_neg q] at h
    exact absurd h (by simp)
theorem Fwe.on {b : Nat → Int32} {n : Nat} {sp : Int32 → Bool} (hc : sp (-1) = false) : Fwe b n (k2on b n sp) := fun a h => by
  unfold k2on at h ⊢
  by_cases q : sp (skv b n a) = true
  · rw [if_pos q] at h ⊢
    have z := nxt_f (skv_l (fun e => by rw [e, hc] at q; exact absurd q (by decide)))
    exact ⟨z.1, z.2.1, z.2.2, by show 1 + ska b n a ≤ ska b n (ska b n a + 1); have := z.1; omega⟩
  · rw [if_neg q] at h
    exact absurd h (by simp)
/-- from one sign further on -/
theorem Fwe.st {b : Nat → Int32} {n : Nat} {f : Rce} (hf : Fwe b n f) {a : Nat} (h : (f (ska b n a + 1)).1 = true) : ska b n a < (f (ska b n a + 1)).2.1 ∧ (f (ska b n a + 1)).2.1 ≤ n ∧ ska b n (f (ska b n a + 1)).2.1 = (f (ska b n a + 1)).2.1 ∧ (f (ska b n a + 1)).2.2.length + (ska b n a + 1) ≤ (f (ska b n a + 1)).2.1 := by
  have q := hf _ h
  have g := ska_ge (b := b) (n := n) (a := ska b n a + 1)
  exact ⟨by omega, q.2.1, q.2.2.1, by omega⟩
theorem Fwe.at {b : Nat → Int32} {n : Nat} {lt : Int32 → Bool} {z : Bool} {f : Rce} (hl : lt (-1) = false) (hf : z = false → Fwe b n f) : Fwe b n (k2at b n lt z f) := fun a h => by
  unfold k2at at h ⊢
  by_cases c : dgb (skv b n a) = true
  · rw [if_pos c] at h ⊢
    have q := nm0_f (b := b) (n := n) a h
    refine ⟨q.1, q.2.1, q.2.2, ?_⟩
    show 1 + ska b n a ≤ (nm0 b n a).2
    have := q.1
    omega
  · rw [if_neg c] at h ⊢
    by_cases d : skv b n a = 91
    · rw [if_pos d] at h ⊢
      by_cases e : z = true
      · rw [if_pos e] at h
        exact absurd h (by simp)
      · rw [if_neg e] at h ⊢
        have k := ((hf (by simpa using e)).sq (Fwe.ex (c := 93) (by decide)).z).st h
        exact ⟨k.1, k.2.1, k.2.2.1, by omega⟩
    · rw [if_neg d] at h ⊢
      exact Fwe.on hl a h
theorem Fwe.tm {b : Nat → Int32} {n : Nat} {f : Rce} (hf : Fwe b n f) : Fwe b n (k2tm b n f) := hf.sq (Fwz.lp (fun _ => Nat.le_refl _) hf 160)
theorem pmo_1 (c : Int32) : (pmo c).length ≤ 1 := by
  unfold pmo
  split <;> exact Nat.le_refl _
theorem Fwe.sm {b : Nat → Int32} {n : Nat} {f : Rce} (hf : Fwe b n f) : Fwe b n (k2sm b n f) := (hf.tm).sq (Fwz.lp pmo_1 hf.tm 160)
theorem Fwe.ss {b : Nat → Int32} {n : Nat} {lt : Int32 → Bool} (hl : lt (-1) = false) : ∀ r : Nat, Fwe b n (k2ss b n lt r)
  | 0 => Fwe.sm (Fwe.at hl (fun e => absurd e (by decide)))
  | r + 1 => Fwe.sm (Fwe.at hl (fun _ => Fwe.ss hl r))
theorem Fwe.cm {b : Nat → Int32} {n : Nat} {f : Rce} (hf : Fwe b n f) : Fwe b n (k2cm b n f) := fun a h => by
  unfold k2cm at h ⊢
  by_cases c : sgb (skv b n a) = true
  · rw [if_pos c] at h ⊢
    have k := hf.st h
    refine ⟨k.1, k.2.1, k.2.2.1, ?_⟩
    show ((f (ska b n a + 1)).2.2 ++ [cpo (skv b n a)]).length + ska b n a ≤ (f (ska b n a + 1)).2.1
    rw [List.length_append]
    show (f (ska b n a + 1)).2.2.length + 1 + ska b n a ≤ _
    omega
  · rw [if_neg c] at h
    exact absurd h (by simp)
theorem Fwz.mu {b : Nat → Int32} {n : Nat} {u : Rce} (hu : Fwe b n u) : Fwz b n (k2mu b n u) := Fwz.lp (fun _ => Nat.le_refl _) hu 160
theorem Fwe.pt {b : Nat → Int32} {n : Nat} {u : Rce} (hu : Fwe b n u) : Fwe b n (k2pt b n u) := hu.sq (Fwz.mu hu)
theorem Fwz.mp {b : Nat → Int32} {n : Nat} {u : Rce} (hu : Fwe b n u) : Fwz b n (k2mp b n u) := (Fwz.mu hu).sq (Fwz.lp (fun _ => Nat.le_refl _) hu.pt 160)
theorem Fwe.cd {b : Nat → Int32} {n : Nat} {u : Rce} (hu : Fwe b n u) : Fwe b n (k2cd b n u) := hu.sq (Fwz.mp hu)
theorem Fwe.un {b : Nat → Int32} {n : Nat} {lt : Int32 → Bool} (hl : lt (-1) = false) : ∀ r : Nat, Fwe b n (k2un b n lt r)
  | 0 => fun a h => by
    unfold k2un at h ⊢
    by_cases c : skv b n a = 33 ∨ skv b n a = 40
    · rw [if_pos c] at h
      exact absurd h (by simp)
    · rw [if_neg c] at h ⊢
      exact ((Fwe.ss hl 0).sq (Fwe.ss hl 0).cm.z) a h
  | r + 1 => fun a h => by
    unfold k2un at h ⊢
    by_cases c : skv b n a = 33
    · rw [if_pos c] at h ⊢
      have k := (Fwe.un hl r).st h
      refine ⟨k.1, k.2.1, k.2.2.1, ?_⟩
      show ((k2un b n lt r (ska b n a + 1)).2.2 ++ [(2, 0)]).length + ska b n a ≤ (k2un b n lt r (ska b n a + 1)).2.1
      rw [List.length_append]
      show (k2un b n lt r (ska b n a + 1)).2.2.length + 1 + ska b n a ≤ _
      omega
    · rw [if_neg c] at h ⊢
      by_cases d : skv b n a = 40
      · rw [if_pos d] at h ⊢
        have k := ((Fwe.un hl r).cd.sq (Fwe.ex (c := 41) (by decide)).z).st h
        exact ⟨k.1, k.2.1, k.2.2.1, by omega⟩
      · rw [if_neg d] at h ⊢
        exact ((Fwe.ss hl (r + 1)).sq (Fwe.ss hl (r + 1)).cm.z) a h
/-! tokens: what stands on the pile behind them (false: a number, true: yes or no) -/
def ty1 (t : Tk2) (s : List Bool) : Option (List Bool) :=
  if t.1 = 0 ∨ t.1 = 1 then some (false :: s)
  else if t.1 = 2 then (match s with | true :: s => some (true :: s) | _ => none)
  else if t.1 = 5 ∨ t.1 = 6 ∨ t.1 = 7 then (match s with | false :: false :: s => some (false :: s) | _ => none)
  else if t.1 = 8 ∨ t.1 = 9 ∨ t.1 = 10 then (match s with | false :: false :: s => some (true :: s) | _ => none)
  else if t.1 = 11 ∨ t.1 = 12 then (match s with | true :: true :: s => some (true :: s) | _ => none)
  else none
def tyL : List Tk2 → List Bool → Option (List Bool)
  | [], s => some s
  | t :: E, s => match ty1 t s with | some s' => tyL E s' | none => none
theorem tyL_a : ∀ (E F : List Tk2) (s s' : List Bool), tyL E s = some s' → tyL (E ++ F) s = tyL F s'
  | [], F, s, s', h => by
    have h : some s = some s' := h
    rw [Option.some.inj h]
    rfl
  | t :: E, F, s, s', h => by
    show (match ty1 t s with | some s' => tyL (E ++ F) s' | none => none) = _
    have h : (match ty1 t s with | some s' => tyL E s' | none => none) = some s' := h
    cases e : ty1 t s with
    | none =>
      rw [e] at h
      cases h
    | some q =>
      rw [e] at h
      exact tyL_a E F q s' h
/-- these tokens put one thing of the kind down -/
def Put1 (y : Bool) (E : List Tk2) : Prop := ∀ s, tyL E s = some (y :: s)
def Wty (y : Bool) (f : Rce) : Prop := ∀ a, (f a).1 = true → Put1 y (f a).2.2
/-- these take one thing and put one of the same kind -/
def Swp (y : Bool) (E : List Tk2) : Prop := ∀ s, tyL E (y :: s) = some (y :: s)
def Wsw (y : Bool) (f : Rce) : Prop := ∀ a, (f a).1 = true → Swp y (f a).2.2
theorem Put1.sw {y : Bool} {E F : List Tk2} (p : Put1 y E) (q : Swp y F) : Put1 y (E ++ F) := fun s => by
  rw [tyL_a E F s _ (p s)]
  exact q s
theorem Swp.sw {y : Bool} {E F : List Tk2} (p : Swp y E) (q : Swp y F) : Swp y (E ++ F) := fun s => by
  rw [tyL_a E F _ _ (p s)]
  exact q s
theorem Wty.sq {y : Bool} {f g : Rce} (p : Wty y f) (q : Wsw y g) : Wty y (k2sq f g) := fun a h => by
  unfold k2sq at h ⊢
  by_cases c : (f a).1 = true
  · rw [if_pos c] at h ⊢
    exact (p a c).sw (q _ h)
  · rw [if_neg c] at h
    exact absurd h c
theorem Wsw.sq {y : Bool} {f g : Rce} (p : Wsw y f) (q : Wsw y g) : Wsw y (k2sq f g) := fun a h => by
  unfold k2sq at h ⊢
  by_cases c : (f a).1 = true
  · rw [if_pos c] at h ⊢
    exact (p a c).sw (q _ h)
  · rw [if_neg c] at h
    exact absurd h c
theorem Wsw.lp {b : Nat → Int32} {n : Nat} {sp : Int32 → Bool} {op : Int32 → List Tk2} {y : Bool} {f : Rce} (p : Wty y f) (o : ∀ c s, tyL (op c) (y :: y :: s) = some (y :: s)) : ∀ k : Nat, Wsw y (k2lp b n sp op f k)
  | 0 => fun _ _ _ => rfl
  | k + 1 => fun a h => by
    unfold k2lp at h ⊢
    by_cases c : sp (skv b n a) = true
    · rw [if_pos c] at h ⊢
      by_cases d : (f (ska b n a + 1)).1 = true
      · rw [if_pos d] at h ⊢
        have z := Wsw.lp (b := b) (n := n) (sp := sp) p o k _ h
        intro s
        show tyL (((f (ska b n a + 1)).2.2 ++ op (skv b n a)) ++ _) (y :: s) = some (y :: s)
        rw [tyL_a _ _ (y :: s) (y :: s) (by rw [tyL_a _ _ _ _ (p _ d (y :: s))]; exact o _ s)]
        exact z s
      · rw [if_neg d] at h
        exact absurd h d
    · rw [if_neg c]
      exact fun _ => rfl
theorem Wty.on {b : Nat → Int32} {n : Nat} {sp : Int32 → Bool} : Wty false (k2on b n sp) := fun a h => by
  unfold k2on at h ⊢
  by_cases q : sp (skv b n a) = true
  · rw [if_pos q]
    exact fun _ => rfl
  · rw [if_neg q] at h
    exact absurd h (by simp)
theorem Wsw.ex {b : Nat → Int32} {n : Nat} {c : Int32} {y : Bool} : Wsw y (k2ex b n c) := fun a h => by
  unfold k2ex at h ⊢
  by_cases q : skv b n a = c
  · rw [if_pos q]
    exact fun _ => rfl
  · rw [if_neg q] at h
    exact absurd h (by simp)
theorem Wty.at {b : Nat → Int32} {n : Nat} {lt : Int32 → Bool} {z : Bool} {f : Rce} (hf : z = false → Wty false f) : Wty false (k2at b n lt z f) := fun a h => by
  unfold k2at at h ⊢
  by_cases c : dgb (skv b n a) = true
  · rw [if_pos c]
    exact fun _ => rfl
  · rw [if_neg c] at h ⊢
    by_cases d : skv b n a = 91
    · rw [if_pos d] at h ⊢
      by_cases e : z = true
      · rw [if_pos e] at h
        exact absurd h (by simp)
      · rw [if_neg e] at h ⊢
        exact (hf (by simpa using e)).sq Wsw.ex _ h
    · rw [if_neg d] at h ⊢
      exact Wty.on a h
theorem Wty.tm {b : Nat → Int32} {n : Nat} {f : Rce} (p : Wty false f) : Wty false (k2tm b n f) := p.sq (Wsw.lp p (fun _ _ => rfl) 160)
theorem Wty.sm {b : Nat → Int32} {n : Nat} {f : Rce} (p : Wty false f) : Wty false (k2sm b n f) := p.tm.sq (Wsw.lp p.tm (fun c s => by
  unfold pmo
  split <;> rfl) 160)
theorem Wty.ss {b : Nat → Int32} {n : Nat} {lt : Int32 → Bool} : ∀ r : Nat, Wty false (k2ss b n lt r)
  | 0 => Wty.sm (Wty.at (fun e => absurd e (by decide)))
  | r + 1 => Wty.sm (Wty.at (fun _ => Wty.ss r))
/-- a number, and a comparison with another -/
def Wcp (f : Rce) : Prop := ∀ a, (f a).1 = true → ∀ s, tyL (f a).2.2 (false :: s) = some (true :: s)
theorem Wcp.cm {b : Nat → Int32} {n : Nat} {f : Rce} (p : Wty false f) : Wcp (k2cm b n f) := fun a h s => by
  unfold k2cm at h ⊢
  by_cases c : sgb (skv b n a) = true
  · rw [if_pos c] at h ⊢
    show tyL ((f (ska b n a + 1)).2.2 ++ [cpo (skv b n a)]) (false :: s) = some (true :: s)
    rw [tyL_a _ _ _ _ (p _ h (false :: s))]
    unfold cpo
    split
    · rfl
    · split <;> rfl
  · rw [if_neg c] at h
    exact absurd h (by simp)
theorem Wty.cp {f g : Rce} (p : Wty false f) (q : Wcp g) : Wty true (k2sq f g) := fun a h => by
  unfold k2sq at h ⊢
  by_cases c : (f a).1 = true
  · rw [if_pos c] at h ⊢
    intro s
    show tyL ((f a).2.2 ++ (g (f a).2.1).2.2) s = _
    rw [tyL_a _ _ _ _ (p a c s)]
    exact q _ h s
  · rw [if_neg c] at h
    exact absurd h c
theorem Wcp.sw {f g : Rce} (p : Wcp f) (q : Wsw true g) : Wcp (k2sq f g) := fun a h s => by
  unfold k2sq at h ⊢
  by_cases c : (f a).1 = true
  · rw [if_pos c] at h ⊢
    show tyL ((f a).2.2 ++ (g (f a).2.1).2.2) (false :: s) = _
    rw [tyL_a _ _ _ _ (p a c s)]
    exact q _ h s
  · rw [if_neg c] at h
    exact absurd h c
theorem Wsw.mu {b : Nat → Int32} {n : Nat} {u : Rce} (p : Wty true u) : Wsw true (k2mu b n u) := Wsw.lp p (fun _ _ => rfl) 160
theorem Wty.pt {b : Nat → Int32} {n : Nat} {u : Rce} (p : Wty true u) : Wty true (k2pt b n u) := p.sq (Wsw.mu p)
theorem Wsw.mp {b : Nat → Int32} {n : Nat} {u : Rce} (p : Wty true u) : Wsw true (k2mp b n u) := (Wsw.mu p).sq (Wsw.lp p.pt (fun _ _ => rfl) 160)
theorem Wty.cd {b : Nat → Int32} {n : Nat} {u : Rce} (p : Wty true u) : Wty true (k2cd b n u) := p.sq (Wsw.mp p)
theorem Wty.un {b : Nat → Int32} {n : Nat} {lt : Int32 → Bool} : ∀ r : Nat, Wty true (k2un b n lt r)
  | 0 => fun a h => by
    unfold k2un at h ⊢
    by_cases c : skv b n a = 33 ∨ skv b n a = 40
    · rw [if_pos c] at h
      exact absurd h (by simp)
    · rw [if_neg c] at h ⊢
      exact (Wty.ss 0).cp (Wcp.cm (Wty.ss 0)) a h
  | r + 1 => fun a h => by
    unfold k2un at h ⊢
    by_cases c : skv b n a = 33
    · rw [if_pos c] at h ⊢
      exact Put1.sw (Wty.un r _ h) (fun _ => rfl)
    · rw [if_neg c] at h ⊢
      by_cases d : skv b n a = 40
      · rw [if_pos d] at h ⊢
        exact (Wty.un r).cd.sq Wsw.ex _ h
      · rw [if_neg d] at h ⊢
        exact (Wty.ss (r + 1)).cp (Wcp.cm (Wty.ss (r + 1))) a h
/-! letters of a token: only such as the sort has; numbers are small -/
def tkO (lt : Int32 → Bool) (t : Tk2) : Prop := (t.1 = 1 → lt t.2 = true) ∧ (t.1 = 0 → 0 ≤ t.2.toInt ∧ t.2.toInt ≤ 9999) ∧ (¬ t.1 = 0 → ¬ t.1 = 1 → t.2 = 0) ∧ (t.1 = 0 ∨ t.1 = 1 ∨ t.1 = 2 ∨ t.1 = 5 ∨ t.1 = 6 ∨ t.1 = 7 ∨ t.1 = 8 ∨ t.1 = 9 ∨ t.1 = 10 ∨ t.1 = 11 ∨ t.1 = 12)
def Otk (lt : Int32 → Bool) (f : Rce) : Prop := ∀ a, (f a).1 = true → ∀ t ∈ (f a).2.2, tkO lt t
theorem tkO_op {lt : Int32 → Bool} {o : Int32} (h : o = 2 ∨ o = 5 ∨ o = 6 ∨ o = 7 ∨ o = 8 ∨ o = 9 ∨ o = 10 ∨ o = 11 ∨ o = 12) : tkO lt (o, 0) := by
  refine ⟨fun e => ?_, fun e => ?_, fun _ _ => rfl, Or.inr (Or.inr h)⟩
  · have e : o = 1 := e
    rw [e] at h
    exact absurd h (by decide)
  · have e : o = 0 := e
    rw [e] at h
    exact absurd h (by decide)
theorem Otk.sq {lt : Int32 → Bool} {f g : Rce} (p : Otk lt f) (q : Otk lt g) : Otk lt (k2sq f g) := fun a h => by
  unfold k2sq at h ⊢
  by_cases c : (f a).1 = true
  · rw [if_pos c] at h ⊢
    intro t ht
    rcases List.mem_append.mp ht with z | z
    · exact p a c t z
    · exact q _ h t z
  · rw [if_neg c] at h
    exact absurd h c
theorem Otk.lp {b : Nat → Int32} {n : Nat} {sp : Int32 → Bool} {op : Int32 → List Tk2} {lt : Int32 → Bool} {f : Rce} (p : Otk lt f) (o : ∀ c, ∀ t ∈ op c, tkO lt t) : ∀ k : Nat, Otk lt (k2lp b n sp op f k)
  | 0 => fun _ _ t ht => by cases ht
  | k + 1 => fun a h => by
    unfold k2lp at h ⊢
    by_cases c : sp (skv b n a) = true
    · rw [if_pos c] at h ⊢
      by_cases d : (f (ska b n a + 1)).1 = true
      · rw [if_pos d] at h ⊢
        intro t ht
        rcases List.mem_append.mp ht with z | z
        · rcases List.mem_append.mp z with z | z
          · exact p _ d t z
          · exact o _ t z
        · exact Otk.lp p o k _ h t z
      · rw [if_neg d] at h
        exact absurd h d
    · rw [if_neg c]
      exact fun t ht => by cases ht
theorem Otk.ex {b : Nat → Int32} {n : Nat} {c : Int32} {lt : Int32 → Bool} : Otk lt (k2ex b n c) := fun a h => by
  unfold k2ex at h ⊢
  by_cases q : skv b n a = c
  · rw [if_pos q]
    exact fun t ht => by cases ht
  · rw [if_neg q] at h
    exact absurd h (by simp)
theorem Otk.on {b : Nat → Int32} {n : Nat} {lt : Int32 → Bool} : Otk lt (k2on b n lt) := fun a h => by
  unfold k2on at h ⊢
  by_cases q : lt (skv b n a) = true
  · rw [if_pos q]
    intro t ht
    rw [List.mem_singleton.mp ht]
    exact ⟨fun _ => q, fun e => absurd (show (1 : Int32) = 0 from e) (by decide), fun _ e => absurd rfl e, Or.inr (Or.inl rfl)⟩
  · rw [if_neg q] at h
    exact absurd h (by simp)
theorem Otk.at {b : Nat → Int32} {n : Nat} {lt : Int32 → Bool} {z : Bool} {f : Rce} (hf : z = false → Otk lt f) : Otk lt (k2at b n lt z f) := fun a h => by
  unfold k2at at h ⊢
  by_cases c : dgb (skv b n a) = true
  · rw [if_pos c] at h ⊢
    intro t ht
    rw [List.mem_singleton.mp ht]
    refine ⟨fun e => absurd (show (0 : Int32) = 1 from e) (by decide), fun _ => ?_, fun e => absurd rfl e, Or.inl rfl⟩
    have d : (nml b n 4 0 (ska b n a)).1 = true := by
      have h : (nm0 b n a).1 = true := h
      unfold nm0 at h
      rw [if_pos c] at h
      by_cases d : (nml b n 4 0 (ska b n a)).1 = true
      · exact d
      · rw [if_neg d] at h
        exact absurd h (by simp)
    have v := nml_v (b := b) (n := n) 4 0 (ska b n a) 0 (by decide) (by decide) (by decide) d
    have p : (((0 + 1) * 10 ^ 4 : Nat) : Int) = 10000 := by decide
    rw [p] at v
    exact ⟨v.1, by show (nml b n 4 0 (ska b n a)).2.2.toInt ≤ 9999; omega⟩
  · rw [if_neg c] at h ⊢
    by_cases d : skv b n a = 91
    · rw [if_pos d] at h ⊢
      by_cases e : z = true
      · rw [if_pos e] at h
        exact absurd h (by simp)
      · rw [if_neg e] at h ⊢
        exact (hf (by simpa using e)).sq Otk.ex _ h
    · rw [if_neg d] at h ⊢
      exact Otk.on a h
theorem tkO_1 {lt : Int32 → Bool} {o : Int32} (h : o = 2 ∨ o = 5 ∨ o = 6 ∨ o = 7 ∨ o = 8 ∨ o = 9 ∨ o = 10 ∨ o = 11 ∨ o = 12) : ∀ t ∈ [((o, 0) : Tk2)], tkO lt t := fun t ht => by
  rw [List.mem_singleton.mp ht]
  exact tkO_op h
theorem Otk.tm {b : Nat → Int32} {n : Nat} {lt : Int32 → Bool} {f : Rce} (p : Otk lt f) : Otk lt (k2tm b n f) := p.sq (Otk.lp p (fun _ => tkO_1 (by decide)) 160)
theorem Otk.sm {b : Nat → Int32} {n : Nat} {lt : Int32 → Bool} {f : Rce} (p : Otk lt f) : Otk lt (k2sm b n f) := p.tm.sq (Otk.lp p.tm (fun c => by
  unfold pmo
  split
  · exact tkO_1 (by decide)
  · exact tkO_1 (by decide)) 160)
theorem Otk.ss {b : Nat → Int32} {n : Nat} {lt : Int32 → Bool} : ∀ r : Nat, Otk lt (k2ss b n lt r)
  | 0 => Otk.sm (Otk.at (fun e => absurd e (by decide)))
  | r + 1 => Otk.sm (Otk.at (fun _ => Otk.ss r))
theorem Otk.cm {b : Nat → Int32} {n : Nat} {lt : Int32 → Bool} {f : Rce} (p : Otk lt f) : Otk lt (k2cm b n f) := fun a h => by
  unfold k2cm at h ⊢
  by_cases c : sgb (skv b n a) = true
  · rw [if_pos c] at h ⊢
    intro t ht
    rcases List.mem_append.mp ht with z | z
    · exact p _ h t z
    · rw [List.mem_singleton.mp z]
      unfold cpo
      split
      · exact tkO_op (by decide)
      · split
        · exact tkO_op (by decide)
        · exact tkO_op (by decide)
  · rw [if_neg c] at h
    exact absurd h (by simp)
theorem Otk.mu {b : Nat → Int32} {n : Nat} {lt : Int32 → Bool} {u : Rce} (p : Otk lt u) : Otk lt (k2mu b n u) := Otk.lp p (fun _ => tkO_1 (by decide)) 160
theorem Otk.pt {b : Nat → Int32} {n : Nat} {lt : Int32 → Bool} {u : Rce} (p : Otk lt u) : Otk lt (k2pt b n u) := p.sq p.mu
theorem Otk.mp {b : Nat → Int32} {n : Nat} {lt : Int32 → Bool} {u : Rce} (p : Otk lt u) : Otk lt (k2mp b n u) := p.mu.sq (Otk.lp p.pt (fun _ => tkO_1 (by decide)) 160)
theorem Otk.cd {b : Nat → Int32} {n : Nat} {lt : Int32 → Bool} {u : Rce} (p : Otk lt u) : Otk lt (k2cd b n u) := p.sq p.mp
theorem Otk.un {b : Nat → Int32} {n : Nat} {lt : Int32 → Bool} : ∀ r : Nat, Otk lt (k2un b n lt r)
  | 0 => fun a h => by
    unfold k2un at h ⊢
    by_cases c : skv b n a = 33 ∨ skv b n a = 40
    · rw [if_pos c] at h
      exact absurd h (by simp)
    · rw [if_neg c] at h ⊢
      exact (Otk.ss 0).sq (Otk.cm (Otk.ss 0)) a h
  | r + 1 => fun a h => by
    unfold k2un at h ⊢
    by_cases c : skv b n a = 33
    · rw [if_pos c] at h ⊢
      intro t ht
      rcases List.mem_append.mp ht with z | z
      · exact Otk.un r _ h t z
      · exact tkO_1 (by decide) t z
    · rw [if_neg c] at h ⊢
      by_cases d : skv b n a = 40
      · rw [if_pos d] at h ⊢
        exact (Otk.un r).cd.sq Otk.ex _ h
      · rw [if_neg d] at h ⊢
        exact (Otk.ss (r + 1)).sq (Otk.cm (Otk.ss (r + 1))) a h
/-! the class's reader, with what it puts down -/
abbrev xc (h : Hp_) : Nat := (h_i h 11 9).toNatClampNeg
theorem x9_in {h : Hp_} (I : Iv h) : 0 ≤ (h_i h 11 9).toInt ∧ (h_i h 11 9).toInt ≤ 164 := by
  have rg := I.2.1 11 9
  rw [show tf 11 9 = (0, 164) by decide +kernel] at rg
  exact ⟨rg.1, rg.2⟩
theorem xc_i {h : Hp_} (I : Iv h) : (xc h : Int) = (h_i h 11 9).toInt := n_nat (x9_in I).1
def pk4 (o x : Int32) : Int32 := o ||| (x <<< ((4 : Int32) &&& 31))
def tkx (s : Nat) (t : Tk2) : Int32 := pk4 t.1 (if t.1 = 1 then ixq s (xch t.2) else t.2)
/-- from h0 to h these ints came behind the code -/
def Cdx (h0 h : Hp_) (E : List Int32) : Prop := xc h = xc h0 + E.length ∧ (∀ k, k < xc h0 → h_i h 33 k = h_i h0 33 k) ∧ ∀ i v, E[i]? = some v → h_i h 33 (xc h0 + i) = v
theorem Cdx.rf (h : Hp_) : Cdx h h [] := ⟨rfl, fun _ _ => rfl, fun i v e => by cases e⟩
theorem Cdx.tr {h0 h1 h2 : Hp_} {E F : List Int32} (a : Cdx h0 h1 E) (c : Cdx h1 h2 F) : Cdx h0 h2 (E ++ F) := by
  refine ⟨by rw [c.1, a.1, List.length_append]; omega, fun k hk => (c.2.1 k (by rw [a.1]; omega)).trans (a.2.1 k hk), fun i v e => ?_⟩
  by_cases l : i < E.length
  · rw [List.getElem?_append_left l] at e
    rw [c.2.1 _ (by rw [a.1]; omega)]
    exact a.2.2 i v e
  · rw [List.getElem?_append_right (by omega)] at e
    have z := c.2.2 _ v e
    rw [a.1, show xc h0 + E.length + (i - E.length) = xc h0 + i by omega] at z
    exact z
theorem Cdx.fr {h0 h h' : Hp_} {E : List Int32} {ws : List Nat} (a : Cdx h0 h E) (f : Fr ws h h') (o : (off ws 33 && !inw ws 11 9) = true) : Cdx h0 h' E := by
  rw [Bool.and_eq_true, Bool.not_eq_true'] at o
  refine ⟨?_, fun k hk => (fr_i f o.1 k).trans (a.2.1 k hk), fun i v e => (fr_i f o.1 _).trans (a.2.2 i v e)⟩
  show (h_i h' 11 9).toNatClampNeg = _
  rw [(f.2 11 9 o.2).1]
  exact a.1
theorem Cdx.f0 {h h' : Hp_} {ws : List Nat} (f : Fr ws h h') (o : (off ws 33 && !inw ws 11 9) = true) : Cdx h h' [] := (Cdx.rf h).fr f o
/-- room in the code -/
def Cbx (b : Nat → Int32) (n : Nat) (h : Hp_) : Prop := xc h ≤ ska b n (xa h) + 1
def Fxe (b : Nat → Int32) (n s : Nat) (T : Bool × Nat × List Tk2) (h0 : Hp_) (r : Int32) (h : Hp_) : Prop := (r = 1 ∧ T.1 = true ∧ ska b n (xa h) = T.2.1 ∧ h_i h 11 3 = h_i h0 11 3 ∧ Cdx h0 h (T.2.2.map (tkx s))) ∨ (r = 0 ∧ T.1 = false ∧ h_i h 11 3 = Int32.ofNat T.2.1)
def Sxe (b : Nat → Int32) (n s : Nat) (T : Bool × Nat × List Tk2) (g : Rce) (h0 : Hp_) (x : Int32) (h : Hp_) : Prop := (x = 1 ∧ (∃ E : List Tk2, T = k2pre E (g (xa h)) ∧ Cdx h0 h (E.map (tkx s)) ∧ E.length + ska b n (xa h0) ≤ ska b n (xa h)) ∧ h_i h 11 3 = h_i h0 11 3) ∨ (x = 0 ∧ T.1 = false ∧ h_i h 11 3 = Int32.ofNat T.2.1)
def Xe (b : Nat → Int32) (n s : Nat) (T : Bool × Nat × List Tk2) (h : Hp_) (r : Int32) (h' : Hp_) : Prop := Iv h' ∧ Fr wzx h h' ∧ Fxe b n s T h r h'
theorem Fxe.z {b : Nat → Int32} {n s : Nat} {T : Bool × Nat × List Tk2} {h0 : Hp_} {r : Int32} {h : Hp_} (F : Fxe b n s T h0 r h) : r = 0 ∨ r = 1 := F.elim (fun y => Or.inr y.1) (fun y => Or.inl y.1)
theorem Fxe.n {b : Nat → Int32} {n s : Nat} {T : Bool × Nat × List Tk2} {h0 : Hp_} {r : Int32} {h : Hp_} (F : Fxe b n s T h0 r h) (e : r = 0) : Fxe b n s T h0 0 h := by
  rcases F with F | F
  · rw [e] at F
    exact absurd F.1 (by decide)
  · exact Or.inr ⟨rfl, F.2⟩
theorem Fxe.y {b : Nat → Int32} {n s : Nat} {T : Bool × Nat × List Tk2} {h0 : Hp_} {r : Int32} {h : Hp_} (F : Fxe b n s T h0 r h) (e : ¬ r = 0) : Fxe b n s T h0 1 h := by
  rcases F with F | F
  · exact Or.inl ⟨rfl, F.2⟩
  · exact absurd F.1 e
theorem Fxe.ok {b : Nat → Int32} {n s : Nat} {T : Bool × Nat × List Tk2} {h0 : Hp_} {r : Int32} {h : Hp_} (F : Fxe b n s T h0 r h) (e : ¬ r = 0) : T.1 = true ∧ ska b n (xa h) = T.2.1 ∧ h_i h 11 3 = h_i h0 11 3 ∧ Cdx h0 h (T.2.2.map (tkx s)) := by
  rcases F with F | F
  · exact F.2
  · exact absurd F.1 e
/-- the same by the recognizer -/
theorem Fxe.q {b : Nat → Int32} {n s : Nat} {T : Bool × Nat × List Tk2} {h0 : Hp_} {r : Int32} {h : Hp_} (F : Fxe b n s T h0 r h) : Fxq b n (T.1, T.2.1) h0 r h := by
  rcases F with F | F
  · exact Or.inl ⟨F.1, F.2.1, F.2.2.1, F.2.2.2.1⟩
  · exact Or.inr F
theorem Fxe.mv {b : Nat → Int32} {n s : Nat} {T : Bool × Nat × List Tk2} {h0 : Hp_} {r : Int32} {h h' : Hp_} (F : Fxe b n s T h0 r h) {ws : List Nat} (f : Fr ws h h') (o : (!inw ws 11 2 && !inw ws 11 3) = true) (o2 : (off ws 33 && !inw ws 11 9) = true) : Fxe b n s T h0 r h' := by
  rw [Bool.and_eq_true, Bool.not_eq_true', Bool.not_eq_true'] at o
  have e2 : h_i h' 11 2 = h_i h 11 2 := (f.2 11 2 o.1).1
  have e3 : h_i h' 11 3 = h_i h 11 3 := (f.2 11 3 o.2).1
  rcases F with F | F
  · refine Or.inl ⟨F.1, F.2.1, ?_, by rw [e3]; exact F.2.2.2.1, F.2.2.2.2.fr f o2⟩
    show ska b n (h_i h' 11 2).toNatClampNeg = _
    rw [e2]
    exact F.2.2.1
  · exact Or.inr ⟨F.1, F.2.1, by rw [e3]; exact F.2.2⟩
theorem Fxe.b {b : Nat → Int32} {n s : Nat} {T : Bool × Nat × List Tk2} {h0 h1 : Hp_} {r : Int32} {h : Hp_} (F : Fxe b n s T h0 r h) (e : h_i h0 11 3 = h_i h1 11 3) (c : Cdx h1 h0 []) : Fxe b n s T h1 r h := by
  rcases F with F | F
  · exact Or.inl ⟨F.1, F.2.1, F.2.2.1, F.2.2.2.1.trans e, c.tr F.2.2.2.2⟩
  · exact Or.inr F
theorem sqe {b : Nat → Int32} {n s : Nat} {f g : Rce} {h0 : Hp_} {r : Int32} {h : Hp_} (c : Cne b n g) (fw : Fwe b n f) (F : Fxe b n s (f (xa h0)) h0 r h) : Sxe b n s (k2sq f g (xa h0)) g h0 r h := by
  rcases F with F | F
  · refine Or.inl ⟨F.1, ⟨(f (xa h0)).2.2, ?_, F.2.2.2.2, ?_⟩, F.2.2.2.1⟩
    · unfold k2sq
      rw [if_pos F.2.1, ← F.2.2.1, c]
    · rw [F.2.2.1]
      exact (fw _ F.2.1).2.2.2
  · have e : k2sq f g (xa h0) = f (xa h0) := by
      unfold k2sq
      exact if_neg (by rw [F.2.1]; decide)
    rw [e]
    exact Or.inr F
/-- the same of one that may find nothing -/
theorem sqez {b : Nat → Int32} {n s : Nat} {f g : Rce} {h0 : Hp_} {r : Int32} {h : Hp_} (c : Cne b n g) (cf : Cne b n f) (ln : xa h0 ≤ n) (fw : Fwz b n f) (F : Fxe b n s (f (xa h0)) h0 r h) : Sxe b n s (k2sq f g (xa h0)) g h0 r h := by
  rcases F with F | F
  · refine Or.inl ⟨F.1, ⟨(f (xa h0)).2.2, ?_, F.2.2.2.2, ?_⟩, F.2.2.2.1⟩
    · unfold k2sq
      rw [if_pos F.2.1, ← F.2.2.1, c]
    · rw [F.2.2.1]
      have z := fw (ska b n (xa h0)) ska_i (ska_le ln) (by rw [cf]; exact F.2.1)
      rw [cf] at z
      exact z.2.2.2
  · have e : k2sq f g (xa h0) = f (xa h0) := by
      unfold k2sq
      exact if_neg (by rw [F.2.1]; decide)
    rw [e]
    exact Or.inr F
theorem sqe2 {b : Nat → Int32} {n s : Nat} {f g : Rce} {a : Nat} {h0 : Hp_} {r r2 : Int32} {h h2 : Hp_} (c : Cne b n g) (F : Fxe b n s (f a) h0 r h) (e : ¬ r = 0) (G : Fxe b n s (g (xa h)) h r2 h2) : Fxe b n s (k2sq f g a) h0 r2 h2 := by
  have k := F.ok e
  have e1 : k2sq f g a = k2pre (f a).2.2 (g (xa h)) := by
    unfold k2sq
    rw [if_pos k.1, ← k.2.1, c]
  rw [e1]
  rcases G with G | G
  · refine Or.inl ⟨G.1, G.2.1, G.2.2.1, G.2.2.2.1.trans k.2.2.1, ?_⟩
    show Cdx h0 h2 (((f a).2.2 ++ (g (xa h)).2.2).map (tkx s))
    rw [List.map_append]
    exact k.2.2.2.tr G.2.2.2.2
  · exact Or.inr G
theorem sqen {b : Nat → Int32} {n s : Nat} {f g : Rce} {a : Nat} {h0 : Hp_} {r : Int32} {h : Hp_} (F : Fxe b n s (f a) h0 r h) (e : r = 0) : Fxe b n s (k2sq f g a) h0 0 h := by
  have k := F.n e
  rcases k with k | k
  · exact absurd k.1 (by decide)
  · have e1 : k2sq f g a = f a := by
      unfold k2sq
      exact if_neg (by rw [k.2.1]; decide)
    rw [e1]
    exact Or.inr k
theorem Sxe.z {b : Nat → Int32} {n s : Nat} {T : Bool × Nat × List Tk2} {g : Rce} {h0 : Hp_} {x : Int32} {h : Hp_} (F : Sxe b n s T g h0 x h) : x = 0 ∨ x = 1 := F.elim (fun y => Or.inr y.1) (fun y => Or.inl y.1)
theorem Sxe.n {b : Nat → Int32} {n s : Nat} {T : Bool × Nat × List Tk2} {g : Rce} {h0 : Hp_} {x : Int32} {h : Hp_} (F : Sxe b n s T g h0 x h) (e : x = 0) : Fxe b n s T h0 x h := by
  rcases F with F | F
  · rw [e] at F
    exact absurd F.1 (by decide)
  · exact Or.inr F
theorem Sxe.ok {b : Nat → Int32} {n s : Nat} {T : Bool × Nat × List Tk2} {g : Rce} {h0 : Hp_} {x : Int32} {h : Hp_} (F : Sxe b n s T g h0 x h) (e : ¬ x = 0) : x = 1 ∧ (∃ E : List Tk2, T = k2pre E (g (xa h)) ∧ Cdx h0 h (E.map (tkx s)) ∧ E.length + ska b n (xa h0) ≤ ska b n (xa h)) ∧ h_i h 11 3 = h_i h0 11 3 := by
  rcases F with F | F
  · exact F
  · exact absurd F.1 e
theorem Sxe.cb {b : Nat → Int32} {n s : Nat} {T : Bool × Nat × List Tk2} {g : Rce} {h0 : Hp_} {x : Int32} {h : Hp_} (F : Sxe b n s T g h0 x h) (e : ¬ x = 0) (c : Cbx b n h0) : Cbx b n h := by
  obtain ⟨_, ⟨E, _, k, l⟩, _⟩ := F.ok e
  have z := k.1
  rw [List.length_map] at z
  unfold Cbx at c ⊢
  omega
theorem Fxe.cb {b : Nat → Int32} {n s : Nat} {f : Rce} {h0 : Hp_} {r : Int32} {h : Hp_} (F : Fxe b n s (f (xa h0)) h0 r h) (e : ¬ r = 0) (fw : Fwe b n f) (c : Cbx b n h0) : Cbx b n h := by
  obtain ⟨k1, k2, _, k4⟩ := F.ok e
  have z := k4.1
  rw [List.length_map] at z
  have q := (fw _ k1).2.2.2
  unfold Cbx at c ⊢
  omega
theorem le0 {b : Nat → Int32} {n s : Nat} {T : Bool × Nat × List Tk2} {sp : Int32 → Bool} {op : Int32 → List Tk2} {f : Rce} {h0 : Hp_} {x : Int32} {h : Hp_} (F : Sxe b n s T (k2lp b n sp op f 0) h0 x h) : Fxe b n s T h0 x h := by
  rcases F with ⟨e, ⟨E, e1, c, l⟩, e3⟩ | F
  · refine Or.inl ⟨e, by rw [e1]; rfl, by rw [e1]; rfl, e3, ?_⟩
    rw [e1]
    show Cdx h0 h ((E ++ []).map (tkx s))
    rw [List.append_nil]
    exact c
  · exact Or.inr F
theorem lex {b : Nat → Int32} {n s k : Nat} {T : Bool × Nat × List Tk2} {sp : Int32 → Bool} {op : Int32 → List Tk2} {f : Rce} {h0 : Hp_} {x r : Int32} {h h5 : Hp_} (F : Sxe b n s T (k2lp b n sp op f (k + 1)) h0 x h) (w : ¬ x = 0) (L : Pk b n h r h5) (ns : sp r = false) : Fxe b n s T h0 x h5 := by
  obtain ⟨e, ⟨E, e1, c, l⟩, e3⟩ := F.ok w
  have e2 : k2lp b n sp op f (k + 1) (xa h) = (true, ska b n (xa h), []) := by
    unfold k2lp
    exact if_neg (by rw [← L.2.2.2, ns]; decide)
  rw [e2] at e1
  refine Or.inl ⟨e, by rw [e1]; rfl, by rw [e1, L.i, L.2.2.1]; rfl, by rw [(L.2.1.2 11 3 (by decide +kernel)).1]; exact e3, ?_⟩
  rw [e1]
  show Cdx h0 h5 ((E ++ []).map (tkx s))
  rw [List.append_nil]
  exact c.fr L.2.1 (by decide +kernel)
theorem les {b : Nat → Int32} {n s k : Nat} {T : Bool × Nat × List Tk2} {sp : Int32 → Bool} {op : Int32 → List Tk2} {f : Rce} {h0 : Hp_} {x r r9 : Int32} {h h6 h9 : Hp_} (ho : (op r).length ≤ 1) (fw : Fwe b n f) (F : Sxe b n s T (k2lp b n sp op f (k + 1)) h0 x h) (w : ¬ x = 0) (er : r = skv b n (xa h)) (ys : sp r = true) (e6 : h_i h6 11 3 = h_i h 11 3) (c6 : Cdx h h6 []) (G : Fxe b n s (k2app (f (ska b n (xa h) + 1)) (op r)) h6 r9 h9) : Sxe b n s T (k2lp b n sp op f k) h0 r9 h9 := by
  obtain ⟨_, ⟨E, e1, c, l⟩, e3⟩ := F.ok w
  have e2 : k2lp b n sp op f (k + 1) (xa h) = if (f (ska b n (xa h) + 1)).1 = true then k2pre ((f (ska b n (xa h) + 1)).2.2 ++ op r) (k2lp b n sp op f k (f (ska b n (xa h) + 1)).2.1) else f (ska b n (xa h) + 1) := by
    rw [er]
    show (if sp (skv b n (xa h)) = true then _ else _) = _
    rw [if_pos (by rw [← er]; exact ys)]
  rw [e2] at e1
  rcases G with ⟨g1, g2, g3, g4, g5⟩ | ⟨g1, g2, g3⟩
  · have g2 : (f (ska b n (xa h) + 1)).1 = true := g2
    have g3 : ska b n (xa h9) = (f (ska b n (xa h) + 1)).2.1 := g3
    rw [if_pos g2, ← g3, Cne.lp k, k2pre_a] at e1
    refine Or.inl ⟨g1, ⟨_, e1, ?_, ?_⟩, (g4.trans e6).trans e3⟩
    · rw [List.map_append]
      exact c.tr (c6.tr g5)
    · have q := (fw.st g2).2.2.2
      rw [List.length_append, List.length_append, g3]
      omega
  · have g2 : (f (ska b n (xa h) + 1)).1 = false := g2
    rw [if_neg (by rw [g2]; decide)] at e1
    refine Or.inr ⟨g1, by rw [e1]; exact g2, ?_⟩
    rw [e1]
    exact g3
theorem Sxe.mv {b : Nat → Int32} {n s : Nat} {T : Bool × Nat × List Tk2} {g : Rce} {h0 : Hp_} {x : Int32} {h h' : Hp_} (F : Sxe b n s T g h0 x h) {ws : List Nat} (f : Fr ws h h') (o : (!inw ws 11 2 && !inw ws 11 3) = true) (o2 : (off ws 33 && !inw ws 11 9) = true) : Sxe b n s T g h0 x h' := by
  rw [Bool.and_eq_true, Bool.not_eq_true', Bool.not_eq_true'] at o
  have e2 : xa h' = xa h := by
    show (h_i h' 11 2).toNatClampNeg = _
    rw [(f.2 11 2 o.1).1]
  have e3 : h_i h' 11 3 = h_i h 11 3 := (f.2 11 3 o.2).1
  rcases F with ⟨q, ⟨E, e1, c, l⟩, g3⟩ | F
  · exact Or.inl ⟨q, ⟨E, by rw [e2]; exact e1, c.fr f o2, by rw [e2]; exact l⟩, by rw [e3]; exact g3⟩
  · exact Or.inr ⟨F.1, F.2.1, by rw [e3]; exact F.2.2⟩
/-- room behind a look, and one sign further -/
theorem Cbx.pk {b : Nat → Int32} {n : Nat} {h h1 : Hp_} {r : Int32} (c : Cbx b n h) (L : Pk b n h r h1) : Cbx b n h1 := by
  have e : xc h1 = xc h := by
    show (h_i h1 11 9).toNatClampNeg = _
    rw [(L.2.1.2 11 9 (by decide +kernel)).1]
  unfold Cbx at c ⊢
  rw [L.i, L.2.2.1, e]
  exact c
theorem Cbx.nx {b : Nat → Int32} {n : Nat} {h h6 : Hp_} (c : Cbx b n h) (F6 : Fr [11002] h h6) (a6 : xa h6 = ska b n (xa h) + 1) : Cbx b n h6 := by
  have e : xc h6 = xc h := by
    show (h_i h6 11 9).toNatClampNeg = _
    rw [(F6.2 11 9 (by decide +kernel)).1]
  have g := ska_ge (b := b) (n := n) (a := ska b n (xa h) + 1)
  unfold Cbx at c ⊢
  rw [a6, e]
  omega
theorem Cbx.em {b : Nat → Int32} {n s : Nat} {f : Rce} {h : Hp_} (I : Iv h) (t : Tx b n s h) (c : Cbx b n h) (fw : Fwe b n f) (y : (f (xa h)).1 = true) : xc h + (f (xa h)).2.2.length < 164 := by
  have q := fw _ y
  have ni := xn_i I
  rw [t.2.1] at ni
  have z1 := (x1_in I).2
  unfold Cbx at c
  omega
theorem c_eme (d : Nat) {h : Hp_} (I : Iv h) (x1 x2 : Int32) (l : xc h < 164) : Ci (m_X8_emit (d + 1) 0 0) [.ref 11, .int x1, .int x2] h (fun r h' => Iv h' ∧ Fr [11009, 33999] h h' ∧ r = Int32.ofNat (xc h) ∧ Cdx h h' [pk4 x1 x2]) := by
  have t1 : (1 : Int32).toInt = 1 := rfl
  have t164 : (164 : Int32).toInt = 164 := rfl
  have b9 := x9_in I
  have ci := xc_i I
  have ex : (h_i h 11 9 + 1).toInt = (h_i h 11 9).toInt + 1 := tx_add (by rw [t1]; omega) (by rw [t1]; omega)
  refine t_X8_emit d h I.1 x1 x2 _ ⟨fun _ => t_X10_pack d h x1 x2 _ ⟨I.1, dp_in (lo := 0) (hi := 163) ⟨b9.1, by show _ ≤ (163 : Int); omega⟩ (by decide) (by decide), ?_, ?_, ?_, ?_⟩, fun z => ?_⟩
  · exact (tr_ 33 (by decide +kernel) I _ _ (by decide) (by decide)).im (by rw [show tf 11 9 = (0, 164) by decide +kernel]; exact ⟨by omega, by omega⟩) (by decide)
  · exact ((Fr.rf _ _).im (inw_row (by decide +kernel) _)).im (by decide +kernel)
  · have z : ((h_i h 11 9 + 1) - 1).toInt = (h_i h 11 9).toInt := by
      rw [tx_sub (by rw [t1]; omega) (by rw [t1]; omega), t1, ex]
      omega
    rw [Int32.toInt_inj.mp z]
    exact (of_nat32 b9.1).symm
  · refine ⟨?_, fun k hk => ?_, fun i v e => ?_⟩
    · show (h_i (h_im _ 11 9 _) 11 9).toNatClampNeg = xc h + 1
      rw [im_at]
      have k := n_nat (x := h_i h 11 9 + 1) (by omega)
      omega
    · have hk' : k < (h_i h 11 9).toNatClampNeg := hk
      rw [im_ne (by decide), h_i_im, if_neg (fun y => by have z : k = (h_i h 11 9).toNatClampNeg := y.2; omega)]
    · cases i with
      | zero =>
        have e : some (pk4 x1 x2) = some v := e
        rw [im_ne (by decide)]
        show h_i (h_im h 33 (xc h) _) 33 (xc h + 0) = v
        rw [Nat.add_zero, im_at, ← Option.some.inj e]
        rfl
      | succ i => cases e
  · have z := q_nlt z
    omega
/-- a token more, behind what was found -/
theorem c_emq (d : Nat) {b : Nat → Int32} {n s : Nat} {T : Bool × Nat × List Tk2} {h0 h : Hp_} {r : Int32} (I : Iv h) (F : Fxe b n s T h0 r h) (l : T.1 = true → xc h0 + T.2.2.length < 164) (t : Tk2) (x : Int32) (ex : T.1 = true → pk4 t.1 x = tkx s t) (b1 : 0 ≤ t.1.toInt ∧ t.1.toInt ≤ 12) (b2 : -1 ≤ x.toInt ∧ x.toInt ≤ 9999) : Ci (m_X8_emit (d + 1) 0 0) [.ref 11, .int t.1, .int x] h (fun _ h' => Iv h' ∧ Fr [11009, 33999] h h' ∧ Fxe b n s (k2app T [t]) h0 r h') := by
  rcases F with F | F
  · have z := F.2.2.2.2.1
    rw [List.length_map] at z
    have lh : xc h < 164 := by have := l F.2.1; omega
    refine Ci.mono (c_eme d I t.1 x lh) (fun r2 h' k => ⟨k.1, k.2.1, Or.inl ⟨F.1, F.2.1, ?_, ?_, ?_⟩⟩)
    · show ska b n (h_i h' 11 2).toNatClampNeg = T.2.1
      rw [(k.2.1.2 11 2 (by decide +kernel)).1]
      exact F.2.2.1
    · rw [(k.2.1.2 11 3 (by decide +kernel)).1]
      exact F.2.2.2.1
    · show Cdx h0 h' ((T.2.2 ++ [t]).map (tkx s))
      rw [List.map_append]
      have c := k.2.2.2
      rw [ex F.2.1] at c
      exact F.2.2.2.2.tr c
  · exact Ci.mono (c_em d I t.1 x b1 b2) (fun r2 h' k => ⟨k.1, k.2.1, Or.inr ⟨F.1, F.2.1, by rw [(k.2.1.2 11 3 (by decide +kernel)).1]; exact F.2.2⟩⟩)
/-! the class: sums and conditions, with what they put down -/
def Rxe (b : Nat → Int32) (n s : Nat) (S : Rce) (C : Nat → Hp_ → (Int32 → Hp_ → Prop) → Prop) : Prop := ∀ (d : Nat) (h : Hp_), Iv h → Tx b n s h → Cbx b n h → C d h (fun r h' => Xe b n s (S (xa h)) h r h')
theorem Xe.t {b : Nat → Int32} {n s : Nat} {T : Bool × Nat × List Tk2} {h h' : Hp_} {r : Int32} (X : Xe b n s T h r h') (t : Tx b n s h) : Tx b n s h' := t.fr X.2.1 (by decide +kernel)
theorem c_fle {b : Nat → Int32} {n s : Nat} (d : Nat) {h h4 : Hp_} {r3 : Int32} (L : Pk b n h r3 h4) {T : Bool × Nat × List Tk2} (e : T = (false, ska b n (xa h), [])) : Ci (m_X8_fail (d + 0) 0 0) [.ref 11] h4 (fun r h' => Wf h' ∧ ((r = 0 ∨ r = 1) ∧ Xe b n s T h r h')) := by
  refine Ci.mono (c_fl d L.1) (fun r2 h2 k => ⟨k.2.1.1, Or.inl k.1, k.2.1, (L.2.1.more (by decide +kernel)).tr (k.2.2.1.more (by decide +kernel)), Or.inr ⟨k.1, ?_, ?_⟩⟩)
  · rw [e]
  · rw [e, k.2.2.2, L.2.2.1]
theorem c_exe (d : Nat) {b : Nat → Int32} {n s : Nat} {h : Hp_} (I : Iv h) (t : Tx b n s h) (x : Int32) (hx : ¬ x = -1) : Ci (m_X8_expect (d + 1) 0 0) [.ref 11, .int x] h (fun r h' => Xe b n s (k2ex b n x (xa h)) h r h') := by
  refine t_X8_expect d h I.1 x _ (Ci.mono (c_pk d I t) (fun r h1 L => ⟨L.1.1, fun er => ?_, fun nr => c_fle d L ?_⟩))
  · obtain ⟨I6, F6, a6⟩ := nxx I t L (by rw [er]; exact hx)
    have e : k2ex b n x (xa h) = (true, ska b n (ska b n (xa h) + 1), []) := by
      unfold k2ex
      rw [if_pos (by rw [← L.2.2.2]; exact er)]
    rw [e]
    exact ⟨I6, F6.more (by decide +kernel), Or.inl ⟨rfl, rfl, by rw [a6], (F6.2 11 3 (by decide +kernel)).1, Cdx.f0 F6 (by decide +kernel)⟩⟩
  · unfold k2ex
    rw [if_neg (by rw [← L.2.2.2]; exact nr)]
theorem c_ratoe {b : Nat → Int32} {n s : Nat} (hs : s = 1 ∨ s = 2) (e : Nat) (x1 : Int32) (z : Bool) (f : Rce) (hz : z = true ↔ ¬ x1 < 6) (B : x1 < 6 → Rxe b n s f (fun d h K => Ci (m_X8_readSum (d + e + 53) 0 0) [.ref 11, .int (x1 + 1)] h K)) : Rxe b n s (k2at b n (ltb s) z f) (fun d h K => Ci (m_X8_readAtom (d + e + 61) 0 0) [.ref 11, .int x1] h K) := by
  intro d h I t cb
  have s4 : s < 4 := by omega
  have ni := xn_i I
  rw [t.2.1] at ni
  have z1 := (x1_in I).2
  have ai := xa_i I
  have a2 := (x2_in I).2
  refine t_X8_readAtom (d + e) h I.1 x1 _ (Ci.mono (c_pk (d + e) I t) (fun r3 h1 L => ⟨L.1.1, Ci.mono (c_dgx (d + e) h1 r3) (fun r6 h4 q => ?_)⟩))
  obtain ⟨eh, q⟩ := q
  subst eh
  have t4 : Tx b n s h4 := t.fr L.2.1 (by decide +kernel)
  have F4 : Fr wzx h h4 := L.2.1.more (by decide +kernel)
  have e3 : h_i h4 11 3 = h_i h 11 3 := fw3 L.2.1 (by decide +kernel)
  have rm : xc h < 164 ∨ n < ska b n (xa h) := by
    unfold Cbx at cb
    omega
  refine ⟨L.1.1, fun r0 => ?_, fun r1 => ?_⟩
  · have nd : ¬ dgb (skv b n (xa h)) = true := by
      rw [← L.2.2.2]
      rcases q with q | q
      · rw [r0] at q
        exact absurd q.1 (by decide)
      · exact q.2
    refine ⟨fun n91 => ⟨fun nm => ?_, fun em => c_fle (d + e) L ?_⟩, fun e91 => ⟨fun lt => ?_, fun nlt => c_fle (d + e) L ?_⟩⟩
    · have bb := L.in I t nm
      have il := ix_let bb
      have ir := ix_rng bb s4
      have lt : (0 ≤ ixq s (xch r3)) ↔ ltb s r3 = true := by
        rcases hs with u | u <;> subst u
        · exact il.1
        · exact il.2.1
      have ea : k2at b n (ltb s) z f (xa h) = k2on b n (ltb s) (xa h) := by
        unfold k2at
        rw [if_neg nd, if_neg (by rw [← L.2.2.2]; exact n91)]
      refine ⟨s, s4, t4.2.2, Ci.mono (c_ix1f (d + e) s s4 h4 (xch r3)) (fun r15 h13 k => ?_)⟩
      obtain ⟨er, eh⟩ := k
      subst eh
      subst er
      refine ⟨L.1.1, fun p => ?_, fun np => c_fle (d + e) L ?_⟩
      · obtain ⟨I6, F6, a6⟩ := nxx I t L nm
        have l := skv_l (b := b) (n := n) (a := xa h) (by rw [← L.2.2.2]; exact nm)
        have lc : xc h < 164 := by omega
        have e2 : k2at b n (ltb s) z f (xa h) = k2app (true, ska b n (ska b n (xa h) + 1), []) [(1, r3)] := by
          rw [ea]
          unfold k2on
          rw [if_pos (by rw [← L.2.2.2]; exact lt.mp p), ← L.2.2.2]
          rfl
        have G : Fxe b n s (true, ska b n (ska b n (xa h) + 1), []) h 1 (h_im h13 11 2 ((h_i h13 11 2) + 1)) := Or.inl ⟨rfl, rfl, by rw [a6], fw3 F6 (by decide +kernel), Cdx.f0 F6 (by decide +kernel)⟩
        rw [e2]
        exact Ci.mono (c_emq (d + e) I6 G (fun _ => lc) (1, r3) (ixq s (xch r3)) (fun _ => rfl) (show 0 ≤ (1 : Int32).toInt ∧ (1 : Int32).toInt ≤ 12 from by decide) ⟨ir.1, by omega⟩) (fun r19 h17 k => ⟨k.1.1, k.1, (F6.more (by decide +kernel)).tr (k.2.1.more (by decide +kernel)), k.2.2⟩)
      · rw [ea]
        unfold k2on
        exact if_neg (by rw [← L.2.2.2]; exact fun y => np (lt.mpr y))
    · unfold k2at
      rw [if_neg nd, if_neg (by rw [← L.2.2.2]; exact n91)]
      unfold k2on
      refine if_neg ?_
      rw [← L.2.2.2, em]
      rcases hs with u | u <;> subst u <;> decide
    · have ea : k2at b n (ltb s) z f (xa h) = k2sq f (k2ex b n 93) (ska b n (xa h) + 1) := by
        unfold k2at
        rw [if_neg nd, if_pos (by rw [← L.2.2.2]; exact e91), if_neg (fun y => hz.mp y lt)]
      obtain ⟨I6, F6, a6⟩ := nxx I t L (by rw [e91]; decide)
      refine Ci.mono (B lt d _ I6 (t.fr F6 (by decide +kernel)) (cb.nx F6 a6)) (fun r32 h30 X => ?_)
      have G := X.2.2
      rw [a6] at G
      have g3 := fw3 F6 (by decide +kernel)
      have c6 : Cdx h _ [] := Cdx.f0 F6 (by decide +kernel)
      have FX : Fr wzx h h30 := (F6.more (by decide +kernel)).tr X.2.1
      have t30 : Tx b n s h30 := t.fr FX (by decide +kernel)
      refine ⟨X.1.1, fun y0 => ⟨X.1, FX, ?_⟩, fun y1 => Ci.mono (c_exe (d + e) X.1 t30 93 (by decide)) (fun r36 h34 Y => ⟨Y.1.1, fun w0 => ⟨Y.1, FX.tr Y.2.1, ?_⟩, fun w1 => ⟨Y.1, FX.tr Y.2.1, ?_⟩⟩)⟩
      · rw [ea]
        exact (sqen (g := k2ex b n 93) G y0).b g3 c6
      · rw [ea]
        exact ((sqe2 Cne.ex G y1 Y.2.2).n w0).b g3 c6
      · rw [ea]
        exact ((sqe2 Cne.ex G y1 Y.2.2).y w1).b g3 c6
    · unfold k2at
      rw [if_neg nd, if_pos (by rw [← L.2.2.2]; exact e91), if_pos (hz.mpr nlt)]
  · have yd : dgb (skv b n (xa h)) = true := by
      rw [← L.2.2.2]
      rcases q with q | q
      · exact q.2
      · exact absurd q.1 r1
    have lc : xc h < 164 := by have := (dgb_l yd).1; omega
    have ea : k2at b n (ltb s) z f (xa h) = k2app ((nm0 b n (xa h)).1, (nm0 b n (xa h)).2, []) [(0, k2nv b n (xa h))] := by
      unfold k2at
      rw [if_pos yd]
      rfl
    have n0 := nmr_0 (b := b) (n := n) (a := xa h4)
    have nc : nm0 b n (xa h4) = nm0 b n (xa h) := by rw [L.2.2.1, nm0_c]
    rw [nc] at n0
    have cd4 : Cdx h h4 [] := Cdx.f0 L.2.1 (by decide +kernel)
    rw [ea]
    refine Ci.mono (c_rn (d + e) L.1 t4 0 9999) (fun r44 h42 N => ?_)
    have FX : Fr wzx h h42 := F4.tr (N.2.1.more (by decide +kernel))
    have cd42 : Cdx h h42 [] := cd4.fr N.2.1 (by decide +kernel)
    rcases N.2.2 with M | M
    · have v := nmr_b M.1
      have er : r44 = k2nv b n (xa h) := by
        have v2 := M.2.1
        unfold nmr at v2
        have M1 := M.1
        unfold nmr at M1
        rw [L.2.2.1, skv_i, ska_i, if_pos yd] at v2 M1
        by_cases c1 : (nml b n 4 0 (ska b n (xa h))).1 = true
        · rw [if_pos c1] at v2 M1
          by_cases c2 : (0 : Int32) ≤ (nml b n 4 0 (ska b n (xa h))).2.2 ∧ (nml b n 4 0 (ska b n (xa h))).2.2 ≤ 9999
          · rw [if_pos c2] at v2
            exact v2
          · rw [if_neg c2] at M1
            exact absurd M1 (by simp)
        · rw [if_neg c1] at M1
          exact absurd M1 (by simp)
      rw [← M.2.1] at v
      have v0 := q_le.mp v.1
      have v1 := q_le.mp v.2
      have o0 : (0 : Int32).toInt = 0 := rfl
      have o9 : (9999 : Int32).toInt = 9999 := rfl
      have G : Fxe b n s ((nm0 b n (xa h)).1, (nm0 b n (xa h)).2, []) h 1 h42 := Or.inl ⟨rfl, by show (nm0 b n (xa h)).1 = true; rw [← n0.1]; exact M.1, by show _ = (nm0 b n (xa h)).2; rw [← n0.2]; exact M.2.2.1, M.2.2.2.trans e3, cd42⟩
      refine ⟨N.1.1, Ci.mono (c_emq (d + e) N.1 G (fun _ => lc) (0, k2nv b n (xa h)) r44 (fun _ => by rw [er]; rfl) (show 0 ≤ (0 : Int32).toInt ∧ (0 : Int32).toInt ≤ 12 from by decide) ⟨by omega, by omega⟩) (fun r47 h45 k => ⟨k.1.1, fun em => ?_, fun nm => ⟨k.1, FX.tr (k.2.1.more (by decide +kernel)), k.2.2⟩⟩)⟩
      rw [em] at v0
      exact absurd v0 (by decide)
    · have G : Fxe b n s ((nm0 b n (xa h)).1, (nm0 b n (xa h)).2, []) h 0 h42 := Or.inr ⟨rfl, by show (nm0 b n (xa h)).1 = false; rw [← n0.1]; exact M.1, by show _ = Int32.ofNat (nm0 b n (xa h)).2; rw [← n0.2]; exact M.2.2⟩
      have nf : (nm0 b n (xa h)).1 = false := by rw [← n0.1]; exact M.1
      exact ⟨N.1.1, Ci.mono (c_emq (d + e) N.1 G (fun y => absurd (nf.symm.trans y) (by decide)) (0, k2nv b n (xa h)) r44 (fun y => absurd (nf.symm.trans y) (by decide)) (show 0 ≤ (0 : Int32).toInt ∧ (0 : Int32).toInt ≤ 12 from by decide) (by rw [M.2.1]; decide)) (fun r47 h45 k => ⟨k.1.1, fun em => ⟨k.1, FX.tr (k.2.1.more (by decide +kernel)), k.2.2⟩, fun nm => absurd M.2.1 nm⟩)⟩
theorem c_rtere {b : Nat → Int32} {n s : Nat} (e : Nat) (x1 : Int32) (f : Rce) (fw : Fwe b n f) (A : Rxe b n s f (fun d h K => Ci (m_X8_readAtom (d + e + 51) 0 0) [.ref 11, .int x1] h K)) : Rxe b n s (k2tm b n f) (fun d h K => Ci (m_X8_readTerm (d + e + 52) 0 0) [.ref 11, .int x1] h K) := by
  intro d h I t cb
  have lp : ∀ (k : Nat) (x2 x3 : Int32) (h2 : Hp_), x3.toInt + k = 160 → Iv h2 → Fr wzx h h2 → Sxe b n s (k2tm b n f (xa h)) (k2lp b n (isq 42) (fun _ => [(7, 0)]) f k) h x2 h2 → AW (m_X8_readTerm (d + e + 52) 0 0) 0 0 8 [(0, .ref 11), (1, .int x1), (2, .int x2), (3, .int x3)] [] h2 (kI (fun r h' => Xe b n s (k2tm b n f (xa h)) h r h')) := by
    intro k
    induction k with
    | zero =>
      intro x2 x3 h2 m I2 F2 S
      exact t_X8_readTerm_8 (d + e) h2 I2.1 x1 x2 x3 _ ⟨fun _ => ⟨S.z, I2, F2, le0 S⟩, fun z => absurd ((x160 m).1 rfl) z⟩
    | succ k ih =>
      intro x2 x3 h2 m I2 F2 S
      have t2 : Tx b n s h2 := t.fr F2 (by decide +kernel)
      refine t_X8_readTerm_8 (d + e) h2 I2.1 x1 x2 x3 _ ⟨fun z => absurd z ((x160 m).2 (by omega)), fun _ => ⟨fun y0 => ⟨S.z, I2, F2, S.n y0⟩, fun y1 => Ci.mono (c_pk (d + e) I2 t2) (fun r h5 L => ⟨L.1.1, fun nr => ⟨S.z, L.1, F2.tr (L.2.1.more (by decide +kernel)), lex S y1 L (decide_eq_false nr)⟩, fun er => ?_⟩)⟩⟩
      obtain ⟨I6, F6, a6⟩ := nxx I2 t2 L (by rw [er]; decide)
      have t6 := t2.fr F6 (by decide +kernel)
      have cb6 := (S.cb y1 cb).nx F6 a6
      refine Ci.mono (A d _ I6 t6 cb6) (fun r15 h13 X => ⟨X.1.1, Ci.mono (c_emq (d + e) X.1 X.2.2 (fun y => cb6.em I6 t6 fw y) (7, 0) 0 (fun _ => rfl) (by decide) (by decide)) (fun r18 h16 k2 => ⟨k2.1.1, ?_⟩)⟩)
      have G := k2.2.2
      rw [a6] at G
      exact ih r15 (x3 + 1) h16 (x161 m) k2.1 ((F2.tr ((F6.more (by decide +kernel)).tr X.2.1)).tr (k2.2.1.more (by decide +kernel))) (les (Nat.le_refl _) fw S y1 L.2.2.2 (decide_eq_true er) (fw3 F6 (by decide +kernel)) (Cdx.f0 F6 (by decide +kernel)) G)
  exact t_X8_readTerm (d + e) h I.1 x1 _ (Ci.mono (A d h I t cb) (fun r3 h1 X => ⟨X.1.1, lp 160 r3 0 h1 (by decide) X.1 X.2.1 (sqe (f := f) (Cne.lp 160) fw X.2.2)⟩))
theorem c_rsume {b : Nat → Int32} {n s : Nat} (e : Nat) (x1 : Int32) (f : Rce) (fw : Fwe b n f) (A : Rxe b n s (k2tm b n f) (fun d h K => Ci (m_X8_readTerm (d + e + 52) 0 0) [.ref 11, .int x1] h K)) : Rxe b n s (k2sm b n f) (fun d h K => Ci (m_X8_readSum (d + e + 53) 0 0) [.ref 11, .int x1] h K) := by
  intro d h I t cb
  have lp : ∀ (k : Nat) (x2 x3 : Int32) (h2 : Hp_), x3.toInt + k = 160 → Iv h2 → Fr wzx h h2 → Sxe b n s (k2sm b n f (xa h)) (k2lp b n pmb pmo (k2tm b n f) k) h x2 h2 → AW (m_X8_readSum (d + e + 53) 0 0) 0 0 8 [(0, .ref 11), (1, .int x1), (2, .int x2), (3, .int x3)] [] h2 (kI (fun r h' => Xe b n s (k2sm b n f (xa h)) h r h')) := by
    intro k
    induction k with
    | zero =>
      intro x2 x3 h2 m I2 F2 S
      exact t_X8_readSum_8 (d + e) h2 I2.1 x1 x2 x3 _ ⟨fun _ => ⟨S.z, I2, F2, le0 S⟩, fun z => absurd ((x160 m).1 rfl) z⟩
    | succ k ih =>
      intro x2 x3 h2 m I2 F2 S
      have t2 : Tx b n s h2 := t.fr F2 (by decide +kernel)
      have go : ¬ x2 = 0 → ∀ (o : Int32) (r : Int32) (h5 : Hp_), 0 ≤ o.toInt ∧ o.toInt ≤ 12 → pmo r = [(o, 0)] → ¬ o = 1 → Pk b n h2 r h5 → pmb r = true → ¬ r = -1 → Ci (m_X8_readTerm (d + e + 52) 0 0) [.ref 11, .int x1] (h_im h5 11 2 ((h_i h5 11 2) + 1)) (fun r18 h16 => Wf h16 ∧ (Ci (m_X8_emit (d + e + 1) 0 0) [.ref 11, .int o, .int 0] h16 (fun _ h19 => Wf h19 ∧ (AW (m_X8_readSum (d + e + 53) 0 0) 0 0 8 [(0, .ref 11), (1, .int x1), (2, .int r18), (3, .int (x3 + 1))] [] h19 (kI (fun r h' => Xe b n s (k2sm b n f (xa h)) h r h')))))) := fun y1 o r h5 ob eo o1 L pr nr => by
        obtain ⟨I6, F6, a6⟩ := nxx I2 t2 L nr
        have t6 := t2.fr F6 (by decide +kernel)
        have cb6 := (S.cb y1 cb).nx F6 a6
        refine Ci.mono (A d _ I6 t6 cb6) (fun r15 h13 X => ⟨X.1.1, Ci.mono (c_emq (d + e) X.1 X.2.2 (fun y => cb6.em I6 t6 fw.tm y) (o, 0) 0 (fun _ => by unfold tkx; rw [if_neg o1]) ob (by decide)) (fun r18 h16 k2 => ⟨k2.1.1, ?_⟩)⟩)
        have G := k2.2.2
        rw [a6, ← eo] at G
        exact ih r15 (x3 + 1) h16 (x161 m) k2.1 ((F2.tr ((F6.more (by decide +kernel)).tr X.2.1)).tr (k2.2.1.more (by decide +kernel))) (les (pmo_1 r) fw.tm S y1 L.2.2.2 pr (fw3 F6 (by decide +kernel)) (Cdx.f0 F6 (by decide +kernel)) G)
      refine t_X8_readSum_8 (d + e) h2 I2.1 x1 x2 x3 _ ⟨fun z => absurd z ((x160 m).2 (by omega)), fun _ => ⟨fun y0 => ⟨S.z, I2, F2, S.n y0⟩, fun y1 => Ci.mono (c_pk (d + e) I2 t2) (fun r h5 L => ⟨L.1.1, fun e43 => ?_, fun n43 => ?_⟩)⟩⟩
      · refine Ci.mono (c_pk (d + e) L.1 (t2.fr L.2.1 (by decide +kernel))) (fun r14 h12 M => ?_)
        have LM := L.tr M
        exact ⟨M.1.1, fun ne => absurd (LM.2.trans e43) ne, fun _ => go y1 5 r h12 (by decide) (by rw [e43]; rfl) (by decide) LM.1 (by rw [e43]; decide) (by rw [e43]; decide)⟩
      · refine Ci.mono (c_pk (d + e) L.1 (t2.fr L.2.1 (by decide +kernel))) (fun r14 h12 M => ?_)
        have LM := L.tr M
        refine ⟨M.1.1, fun n45 => ⟨S.z, M.1, F2.tr (LM.1.2.1.more (by decide +kernel)), lex S y1 LM.1 (decide_eq_false (fun y => y.elim n43 (fun z => n45 (LM.2.trans z))))⟩, fun e45 => ?_⟩
        refine Ci.mono (c_pk (d + e) M.1 (t2.fr LM.1.2.1 (by decide +kernel))) (fun r35 h33 N => ?_)
        have LN := LM.1.tr N
        have e45' : r = 45 := LM.2.symm.trans e45
        exact ⟨N.1.1, fun _ => go y1 6 r h33 (by decide) (by rw [e45']; rfl) (by decide) LN.1 (by rw [e45']; decide) (by rw [e45']; decide), fun y => absurd (LN.2.symm.trans y) n43⟩
  exact t_X8_readSum (d + e) h I.1 x1 _ (Ci.mono (A d h I t cb) (fun r3 h1 X => ⟨X.1.1, lp 160 r3 0 h1 (by decide) X.1 X.2.1 (sqe (f := k2tm b n f) (Cne.lp 160) fw.tm X.2.2)⟩))
/-- sums at every depth -/
theorem e_sums {b : Nat → Int32} {n s : Nat} (hs : s = 1 ∨ s = 2) : ∀ (r : Nat), r ≤ 6 → Rxe b n s (k2ss b n (ltb s) r) (fun d h K => Ci (m_X8_readSum (d + 10 * (r + 1) + 53) 0 0) [.ref 11, .int (Int32.ofNat (6 - r))] h K)
  | 0, _ => fun d h I t cb => c_rsume 10 (Int32.ofNat (6 - 0)) (k2at b n (ltb s) true (fun a => (false, a, []))) (Fwe.at (ltb_m hs) (fun e => absurd e (by decide))) (c_rtere 10 (Int32.ofNat (6 - 0)) (k2at b n (ltb s) true (fun a => (false, a, []))) (Fwe.at (ltb_m hs) (fun e => absurd e (by decide))) (fun d h I t cb => by
    have q : Ci (m_X8_readAtom (d + 0 + 61) 0 0) [.ref 11, .int (Int32.ofNat (6 - 0))] h (fun q h' => Xe b n s (k2at b n (ltb s) true (fun a => (false, a, [])) (xa h)) h q h') := c_ratoe hs 0 (Int32.ofNat (6 - 0)) true (fun a => (false, a, [])) (by decide) (fun y => absurd y (by decide)) d h I t cb
    rw [show d + 0 + 61 = d + 10 + 51 by omega] at q
    exact q)) d h I t cb
  | r + 1, hr => fun d h I t cb => by
    have o : (Int32.ofNat (6 - (r + 1))).toInt = ((6 - (r + 1) : Nat) : Int) := on_j (by omega)
    have o6 : (6 : Int32).toInt = 6 := rfl
    have o1 : (1 : Int32).toInt = 1 := rfl
    have ex : Int32.ofNat (6 - (r + 1)) + 1 = Int32.ofNat (6 - r) := by
      refine Int32.toInt_inj.mp ?_
      rw [tx_add (by rw [o1]; omega) (by rw [o1]; omega), o1, o, on_j (by omega)]
      omega
    have lt : Int32.ofNat (6 - (r + 1)) < 6 := q_lt.mpr (by rw [o, o6]; omega)
    have B : Rxe b n s (k2ss b n (ltb s) r) (fun d h K => Ci (m_X8_readSum (d + 10 * (r + 1) + 53) 0 0) [.ref 11, .int (Int32.ofNat (6 - (r + 1)) + 1)] h K) := by
      rw [ex]
      exact e_sums hs r (by omega)
    have fw : Fwe b n (k2at b n (ltb s) false (k2ss b n (ltb s) r)) := Fwe.at (ltb_m hs) (fun _ => Fwe.ss (ltb_m hs) r)
    have k := c_rsume (10 * (r + 1 + 1)) (Int32.ofNat (6 - (r + 1))) (k2at b n (ltb s) false (k2ss b n (ltb s) r)) fw (c_rtere (10 * (r + 1 + 1)) (Int32.ofNat (6 - (r + 1))) (k2at b n (ltb s) false (k2ss b n (ltb s) r)) fw (fun d h I t cb => by
      have q : Ci (m_X8_readAtom (d + 10 * (r + 1) + 61) 0 0) [.ref 11, .int (Int32.ofNat (6 - (r + 1)))] h (fun q h' => Xe b n s (k2at b n (ltb s) false (k2ss b n (ltb s) r) (xa h)) h q h') := c_ratoe hs (10 * (r + 1)) (Int32.ofNat (6 - (r + 1))) false _ ⟨fun y => absurd y (by decide), fun y => absurd lt y⟩ (fun _ => B) d h I t cb
      rw [show d + 10 * (r + 1) + 61 = d + 10 * (r + 1 + 1) + 51 by omega] at q
      exact q)) d h I t cb
    exact k
theorem c_rcme {b : Nat → Int32} {n s : Nat} (e : Nat) (x1 : Int32) (f : Rce) (fw : Fwe b n f) (A : Rxe b n s f (fun d h K => Ci (m_X8_readSum (d + e + 53) 0 0) [.ref 11, .int x1] h K)) : Rxe b n s (k2cm b n f) (fun d h K => Ci (m_X8_readComparison (d + e + 54) 0 0) [.ref 11, .int x1] h K) := by
  intro d h I t cb
  refine t_X8_readComparison (d + e) h I.1 x1 _ (Ci.mono (c_pk (d + e) I t) (fun r3 h1 L => ⟨L.1.1, Ci.mono (c_cpx (d + e) h1 r3) (fun r6 h4 q => ?_)⟩))
  obtain ⟨eh, q⟩ := q
  subst eh
  refine ⟨L.1.1, fun r1 => ?_, fun r0 => c_fle (d + e) L ?_⟩
  · have q : sgb r3 = true ∧ ¬ r3 = -1 := by
      rcases q with q | q
      · exact q.2
      · exact absurd q.1 r1
    obtain ⟨I6, F6, a6⟩ := nxx I t L q.2
    have t6 := t.fr F6 (by decide +kernel)
    have cb6 := cb.nx F6 a6
    refine Ci.mono (A d _ I6 t6 cb6) (fun r10 h8 X => ?_)
    have FX : Fr wzx h h8 := (F6.more (by decide +kernel)).tr X.2.1
    have go : ∀ o : Int32, 0 ≤ o.toInt ∧ o.toInt ≤ 12 → ¬ o = 1 → cpo r3 = (o, 0) → Ci (m_X8_emit (d + e + 1) 0 0) [.ref 11, .int o, .int 0] h8 (fun _ h13 => Wf h13 ∧ ((r10 = 0 ∨ r10 = 1) ∧ (Xe b n s (k2cm b n f (xa h)) h r10 h13))) := fun o ob o1 eo => Ci.mono (c_emq (d + e) X.1 X.2.2 (fun y => cb6.em I6 t6 fw y) (o, 0) 0 (fun _ => by unfold tkx; rw [if_neg o1]) ob (by decide)) (fun _ h13 k => ⟨k.1.1, X.2.2.z, k.1, FX.tr (k.2.1.more (by decide +kernel)), by
      have G := k.2.2
      rw [a6] at G
      have ea : k2cm b n f (xa h) = k2app (f (ska b n (xa h) + 1)) [(o, 0)] := by
        unfold k2cm
        rw [if_pos (by rw [← L.2.2.2]; exact q.1), ← L.2.2.2, eo]
      rw [ea]
      exact G.b (fw3 F6 (by decide +kernel)) (Cdx.f0 F6 (by decide +kernel))⟩)
    refine ⟨X.1.1, fun n61 => ⟨fun n60 => go 10 (by decide) (by decide) ?_, fun e60 => go 9 (by decide) (by decide) ?_⟩, fun e61 => go 8 (by decide) (by decide) ?_⟩
    · unfold cpo
      rw [if_neg n61, if_neg n60]
    · unfold cpo
      rw [if_neg n61, if_pos e60]
    · unfold cpo
      rw [if_pos e61]
  · unfold k2cm
    refine if_neg ?_
    rw [← L.2.2.2]
    rcases q with q | q
    · exact absurd r0 q.1
    · rw [q.2]
      decide
theorem c_rmue {b : Nat → Int32} {n s : Nat} (e : Nat) (x1 : Int32) (u : Rce) (fw : Fwe b n u) (A : Rxe b n s u (fun d h K => Ci (m_X8_readUnit (d + e + 55) 0 0) [.ref 11, .int x1] h K)) : Rxe b n s (k2mu b n u) (fun d h K => Ci (m_X8_readMoreUnits (d + e + 56) 0 0) [.ref 11, .int x1] h K) := by
  intro d h I t cb
  have lp : ∀ (k : Nat) (x2 x3 : Int32) (h2 : Hp_), x3.toInt + k = 160 → Iv h2 → Fr wzx h h2 → Sxe b n s (k2mu b n u (xa h)) (k2lp b n (isq 38) (fun _ => [(11, 0)]) u k) h x2 h2 → AW (m_X8_readMoreUnits (d + e + 56) 0 0) 0 0 4 [(0, .ref 11), (1, .int x1), (2, .int x2), (3, .int x3)] [] h2 (kI (fun r h' => Xe b n s (k2mu b n u (xa h)) h r h')) := by
    intro k
    induction k with
    | zero =>
      intro x2 x3 h2 m I2 F2 S
      exact t_X8_readMoreUnits_4 (d + e) h2 I2.1 x1 x2 x3 _ ⟨fun _ => ⟨S.z, I2, F2, le0 S⟩, fun z => absurd ((x160 m).1 rfl) z⟩
    | succ k ih =>
      intro x2 x3 h2 m I2 F2 S
      have t2 : Tx b n s h2 := t.fr F2 (by decide +kernel)
      refine t_X8_readMoreUnits_4 (d + e) h2 I2.1 x1 x2 x3 _ ⟨fun z => absurd z ((x160 m).2 (by omega)), fun _ => ⟨fun y0 => ⟨S.z, I2, F2, S.n y0⟩, fun y1 => Ci.mono (c_pk (d + e) I2 t2) (fun r h5 L => ⟨L.1.1, fun nr => ⟨S.z, L.1, F2.tr (L.2.1.more (by decide +kernel)), lex S y1 L (decide_eq_false nr)⟩, fun er => ?_⟩)⟩⟩
      obtain ⟨I6, F6, a6⟩ := nxx I2 t2 L (by rw [er]; decide)
      have t6 := t2.fr F6 (by decide +kernel)
      have cb6 := (S.cb y1 cb).nx F6 a6
      refine Ci.mono (A d _ I6 t6 cb6) (fun r15 h13 X => ⟨X.1.1, Ci.mono (c_emq (d + e) X.1 X.2.2 (fun y => cb6.em I6 t6 fw y) (11, 0) 0 (fun _ => rfl) (by decide) (by decide)) (fun r18 h16 k2 => ⟨k2.1.1, ?_⟩)⟩)
      have G := k2.2.2
      rw [a6] at G
      exact ih r15 (x3 + 1) h16 (x161 m) k2.1 ((F2.tr ((F6.more (by decide +kernel)).tr X.2.1)).tr (k2.2.1.more (by decide +kernel))) (les (Nat.le_refl _) fw S y1 L.2.2.2 (decide_eq_true er) (fw3 F6 (by decide +kernel)) (Cdx.f0 F6 (by decide +kernel)) G)
  exact t_X8_readMoreUnits (d + e) h x1 _ (lp 160 1 0 h (by decide) I (Fr.rf _ _) (Or.inl ⟨rfl, ⟨[], rfl, Cdx.rf h, by show 0 + _ ≤ _; omega⟩, rfl⟩))
theorem xa_n {b : Nat → Int32} {n s : Nat} {h : Hp_} {T : Bool × Nat × List Tk2} {h0 : Hp_} {r : Int32} (F : Fxe b n s T h0 r h) (e : ¬ r = 0) (l : T.2.1 ≤ n) : xa h ≤ n := by
  have k := (F.ok e).2.1
  have g := ska_ge (b := b) (n := n) (a := xa h)
  omega
theorem c_rmpe {b : Nat → Int32} {n s : Nat} (e : Nat) (x1 : Int32) (u : Rce) (fw : Fwe b n u) (A : Rxe b n s u (fun d h K => Ci (m_X8_readUnit (d + e + 55) 0 0) [.ref 11, .int x1] h K)) (d : Nat) (h : Hp_) (I : Iv h) (t : Tx b n s h) (cb : Cbx b n h) (ln : xa h ≤ n) : Ci (m_X8_readMoreParts (d + e + 57) 0 0) [.ref 11, .int x1] h (fun r h' => Xe b n s (k2mp b n u (xa h)) h r h') := by
  have M := c_rmue e x1 u fw A
  have lp : ∀ (k : Nat) (x2 x3 : Int32) (h2 : Hp_), x3.toInt + k = 160 → Iv h2 → Fr wzx h h2 → Sxe b n s (k2mp b n u (xa h)) (k2lp b n (isq 124) (fun _ => [(12, 0)]) (k2pt b n u) k) h x2 h2 → AW (m_X8_readMoreParts (d + e + 57) 0 0) 0 0 8 [(0, .ref 11), (1, .int x1), (2, .int x2), (3, .int x3)] [] h2 (kI (fun r h' => Xe b n s (k2mp b n u (xa h)) h r h')) := by
    intro k
    induction k with
    | zero =>
      intro x2 x3 h2 m I2 F2 S
      exact t_X8_readMoreParts_8 (d + e) h2 I2.1 x1 x2 x3 _ ⟨fun _ => ⟨S.z, I2, F2, le0 S⟩, fun z => absurd ((x160 m).1 rfl) z⟩
    | succ k ih =>
      intro x2 x3 h2 m I2 F2 S
      have t2 : Tx b n s h2 := t.fr F2 (by decide +kernel)
      refine t_X8_readMoreParts_8 (d + e) h2 I2.1 x1 x2 x3 _ ⟨fun z => absurd z ((x160 m).2 (by omega)), fun _ => ⟨fun y0 => ⟨S.z, I2, F2, S.n y0⟩, fun y1 => Ci.mono (c_pk (d + e) I2 t2) (fun r h5 L => ⟨L.1.1, fun nr => ⟨S.z, L.1, F2.tr (L.2.1.more (by decide +kernel)), lex S y1 L (decide_eq_false nr)⟩, fun er => ?_⟩)⟩⟩
      obtain ⟨I6, F6, a6⟩ := nxx I2 t2 L (by rw [er]; decide)
      have t6 : Tx b n s (h_im h5 11 2 ((h_i h5 11 2) + 1)) := t2.fr F6 (by decide +kernel)
      have cb6 := (S.cb y1 cb).nx F6 a6
      have em : ∀ (w : Int32) (h13 : Hp_), Iv h13 → Fr wzx h2 h13 → Fxe b n s (k2pt b n u (xa (h_im h5 11 2 ((h_i h5 11 2) + 1)))) (h_im h5 11 2 ((h_i h5 11 2) + 1)) w h13 → Ci (m_X8_emit (d + e + 1) 0 0) [.ref 11, .int 12, .int 0] h13 (fun _ h17 => Wf h17 ∧ (AW (m_X8_readMoreParts (d + e + 57) 0 0) 0 0 8 [(0, .ref 11), (1, .int x1), (2, .int w), (3, .int (x3 + 1))] [] h17 (kI (fun r h' => Xe b n s (k2mp b n u (xa h)) h r h')))) := fun w h13 I13 F13 G => Ci.mono (c_emq (d + e) I13 G (fun y => cb6.em I6 t6 fw.pt y) (12, 0) 0 (fun _ => rfl) (by decide) (by decide)) (fun r18 h16 k2 => ⟨k2.1.1, by
        have G := k2.2.2
        rw [a6] at G
        exact ih w (x3 + 1) h16 (x161 m) k2.1 ((F2.tr F13).tr (k2.2.1.more (by decide +kernel))) (les (Nat.le_refl _) fw.pt S y1 L.2.2.2 (decide_eq_true er) (fw3 F6 (by decide +kernel)) (Cdx.f0 F6 (by decide +kernel)) G)⟩)
      refine Ci.mono (A d _ I6 t6 cb6) (fun r15 h13 X => ?_)
      have G := X.2.2
      have F13 : Fr wzx h2 h13 := (F6.more (by decide +kernel)).tr X.2.1
      refine ⟨X.1.1, fun y => em 0 h13 X.1 F13 (sqen (g := k2mu b n u) G y), fun ny => Ci.mono (M d h13 X.1 (X.t t6) (G.cb ny fw cb6)) (fun r22 h20 Y => ⟨Y.1.1, fun w0 => em 0 h20 Y.1 (F13.tr Y.2.1) ((sqe2 (Cne.lp 160) G ny Y.2.2).n w0), fun w1 => em 1 h20 Y.1 (F13.tr Y.2.1) ((sqe2 (Cne.lp 160) G ny Y.2.2).y w1)⟩)⟩
  exact t_X8_readMoreParts (d + e) h I.1 x1 _ (Ci.mono (M d h I t cb) (fun r3 h1 X => ⟨X.1.1, lp 160 r3 0 h1 (by decide) X.1 X.2.1 (sqez (f := k2mu b n u) (Cne.lp 160) (Cne.lp 160) ln (Fwz.mu fw) X.2.2)⟩))
theorem c_rcde {b : Nat → Int32} {n s : Nat} (e : Nat) (x1 : Int32) (u : Rce) (fw : Fwe b n u) (A : Rxe b n s u (fun d h K => Ci (m_X8_readUnit (d + e + 55) 0 0) [.ref 11, .int x1] h K)) : Rxe b n s (k2cd b n u) (fun d h K => Ci (m_X8_readCondition (d + e + 58) 0 0) [.ref 11, .int x1] h K) := by
  intro d h I t cb
  exact t_X8_readCondition (d + e) h I.1 x1 _ (Ci.mono (A d h I t cb) (fun r3 h1 X => ⟨X.1.1, fun y0 => ⟨X.1, X.2.1, sqen (g := k2mp b n u) X.2.2 y0⟩, fun y1 => Ci.mono (c_rmpe e x1 u fw A d h1 X.1 (X.t t) (X.2.2.cb y1 fw cb) (xa_n X.2.2 y1 (fw _ (X.2.2.ok y1).1).2.1)) (fun r7 h5 Y => ⟨Y.1.1, fun w0 => ⟨Y.1, X.2.1.tr Y.2.1, (sqe2 Cne.mp X.2.2 y1 Y.2.2).n w0⟩, fun w1 => ⟨Y.1, X.2.1.tr Y.2.1, (sqe2 Cne.mp X.2.2 y1 Y.2.2).y w1⟩⟩)⟩))
/-- units at every depth -/
theorem e_units {b : Nat → Int32} {n s : Nat} (hs : s = 1 ∨ s = 2) : ∀ (r : Nat), r ≤ 6 → Rxe b n s (k2un b n (ltb s) r) (fun d h K => Ci (m_X8_readUnit (d + 10 * (r + 2) + 55) 0 0) [.ref 11, .int (Int32.ofNat (6 - r))] h K) := by
  intro r
  induction r with
  | zero =>
    intro _ d h I t cb
    have S := e_sums (b := b) (n := n) hs 0 (by omega)
    have fs : Fwe b n (k2ss b n (ltb s) 0) := Fwe.ss (ltb_m hs) 0
    have C := c_rcme 10 _ _ fs S
    have tree := t_X8_readUnit (d + 10) h I.1 (Int32.ofNat (6 - 0)) (fun q h' => Xe b n s (k2un b n (ltb s) 0 (xa h)) h q h') (Ci.mono (c_pk (d + 10) I t) (fun r3 h1 L => ?_))
    · rw [show d + 10 + 65 = d + 10 * (0 + 2) + 55 by omega] at tree
      exact tree
    have bad : (r3 = 33 ∨ r3 = 40) → k2un b n (ltb s) 0 (xa h) = (false, ska b n (xa h), []) := fun y => by
      unfold k2un
      exact if_pos (by rw [← L.2.2.2]; exact y)
    refine ⟨L.1.1, fun e33 => ⟨fun y => absurd y (by decide), fun _ => c_fle (d + 10) L (bad (Or.inl e33))⟩, fun n33 => ⟨fun e40 => ⟨fun y => absurd y (by decide), fun _ => c_fle (d + 10) L (bad (Or.inr e40))⟩, fun n40 => ?_⟩⟩
    have ea : k2un b n (ltb s) 0 (xa h) = k2sq (k2ss b n (ltb s) 0) (k2cm b n (k2ss b n (ltb s) 0)) (xa h1) := by
      unfold k2un
      rw [if_neg (by rw [← L.2.2.2]; exact fun y => y.elim n33 n40), L.2.2.1, Cne.sq (Cne.ss 0)]
    have t1 : Tx b n s h1 := t.fr L.2.1 (by decide +kernel)
    have g3 : h_i h1 11 3 = h_i h 11 3 := fw3 L.2.1 (by decide +kernel)
    have c1 : Cdx h h1 [] := Cdx.f0 L.2.1 (by decide +kernel)
    have F1 : Fr wzx h h1 := L.2.1.more (by decide +kernel)
    rw [ea]
    exact Ci.mono (S d h1 L.1 t1 (cb.pk L)) (fun r50 h48 X => ⟨X.1.1, fun y0 => ⟨X.1, F1.tr X.2.1, (sqen (g := k2cm b n (k2ss b n (ltb s) 0)) X.2.2 y0).b g3 c1⟩, fun y1 => Ci.mono (C d h48 X.1 (X.t t1) (X.2.2.cb y1 fs (cb.pk L))) (fun r54 h52 Y => ⟨Y.1.1, fun w0 => ⟨Y.1, (F1.tr X.2.1).tr Y.2.1, ((sqe2 Cne.cm X.2.2 y1 Y.2.2).n w0).b g3 c1⟩, fun w1 => ⟨Y.1, (F1.tr X.2.1).tr Y.2.1, ((sqe2 Cne.cm X.2.2 y1 Y.2.2).y w1).b g3 c1⟩⟩)⟩)
  | succ r ih =>
    intro hr d h I t cb
    have o : (Int32.ofNat (6 - (r + 1))).toInt = ((6 - (r + 1) : Nat) : Int) := on_j (by omega)
    have o6 : (6 : Int32).toInt = 6 := rfl
    have o1 : (1 : Int32).toInt = 1 := rfl
    have ex : Int32.ofNat (6 - (r + 1)) + 1 = Int32.ofNat (6 - r) := by
      refine Int32.toInt_inj.mp ?_
      rw [tx_add (by rw [o1]; omega) (by rw [o1]; omega), o1, o, on_j (by omega)]
      omega
    have lt : Int32.ofNat (6 - (r + 1)) < 6 := q_lt.mpr (by rw [o, o6]; omega)
    have S := e_sums (b := b) (n := n) hs (r + 1) hr
    have fs : Fwe b n (k2ss b n (ltb s) (r + 1)) := Fwe.ss (ltb_m hs) (r + 1)
    have fu : Fwe b n (k2un b n (ltb s) r) := Fwe.un (ltb_m hs) r
    have C := c_rcme _ _ _ fs S
    have U : Rxe b n s (k2un b n (ltb s) r) (fun d h K => Ci (m_X8_readUnit (d + 10 * (r + 2) + 55) 0 0) [.ref 11, .int (Int32.ofNat (6 - (r + 1)) + 1)] h K) := by
      rw [ex]
      exact ih (by omega)
    have D := c_rcde _ _ _ fu U
    have tree := t_X8_readUnit (d + 10 * (r + 2)) h I.1 (Int32.ofNat (6 - (r + 1))) (fun q h' => Xe b n s (k2un b n (ltb s) (r + 1) (xa h)) h q h') (Ci.mono (c_pk (d + 10 * (r + 2)) I t) (fun r3 h1 L => ?_))
    · rw [show d + 10 * (r + 2) + 65 = d + 10 * (r + 1 + 2) + 55 by omega] at tree
      exact tree
    have F1 : Fr wzx h h1 := L.2.1.more (by decide +kernel)
    refine ⟨L.1.1, fun e33 => ⟨fun _ => ⟨fun _ => ?_, fun e40 => absurd (e33.symm.trans e40) (by decide)⟩, fun y => absurd lt y⟩, fun n33 => ⟨fun e40 => ⟨fun _ => ⟨fun n40 => absurd e40 n40, fun _ => ?_⟩, fun y => absurd lt y⟩, fun n40 => ?_⟩⟩
    · have ea : k2un b n (ltb s) (r + 1) (xa h) = k2app (k2un b n (ltb s) r (ska b n (xa h) + 1)) [(2, 0)] := by
        show (if skv b n (xa h) = 33 then k2app (k2un b n (ltb s) r (ska b n (xa h) + 1)) [(2, 0)] else _) = _
        exact if_pos (by rw [← L.2.2.2]; exact e33)
      obtain ⟨I6, F6, a6⟩ := nxx I t L (by rw [e33]; decide)
      have t6 := t.fr F6 (by decide +kernel)
      have cb6 := cb.nx F6 a6
      refine Ci.mono (U d _ I6 t6 cb6) (fun r9 h7 X => ?_)
      refine ⟨X.1.1, Ci.mono (c_emq (d + 10 * (r + 2)) X.1 X.2.2 (fun y => cb6.em I6 t6 fu y) (2, 0) 0 (fun _ => rfl) (by decide) (by decide)) (fun _ h10 k => ⟨k.1.1, X.2.2.z, k.1, ((F6.more (by decide +kernel)).tr X.2.1).tr (k.2.1.more (by decide +kernel)), ?_⟩)⟩
      have G := k.2.2
      rw [a6, ← ea] at G
      exact G.b (fw3 F6 (by decide +kernel)) (Cdx.f0 F6 (by decide +kernel))
    · have ea : k2un b n (ltb s) (r + 1) (xa h) = k2sq (k2cd b n (k2un b n (ltb s) r)) (k2ex b n 41) (ska b n (xa h) + 1) := by
        show (if skv b n (xa h) = 33 then _ else if skv b n (xa h) = 40 then k2sq (k2cd b n (k2un b n (ltb s) r)) (k2ex b n 41) (ska b n (xa h) + 1) else _) = _
        rw [if_neg (by rw [← L.2.2.2]; exact n33), if_pos (by rw [← L.2.2.2]; exact e40)]
      obtain ⟨I6, F6, a6⟩ := nxx I t L (by rw [e40]; decide)
      refine Ci.mono (D d _ I6 (t.fr F6 (by decide +kernel)) (cb.nx F6 a6)) (fun r16 h14 X => ?_)
      have G := X.2.2
      rw [a6] at G
      have g3 := fw3 F6 (by decide +kernel)
      have c6 : Cdx h _ [] := Cdx.f0 F6 (by decide +kernel)
      have FX : Fr wzx h h14 := (F6.more (by decide +kernel)).tr X.2.1
      rw [ea]
      exact ⟨X.1.1, fun y0 => ⟨X.1, FX, (sqen (g := k2ex b n 41) G y0).b g3 c6⟩, fun y1 => Ci.mono (c_exe (d + 10 * (r + 2)) X.1 (t.fr FX (by decide +kernel)) 41 (by decide)) (fun r20 h18 Y => ⟨Y.1.1, fun w0 => ⟨Y.1, FX.tr Y.2.1, ((sqe2 Cne.ex G y1 Y.2.2).n w0).b g3 c6⟩, fun w1 => ⟨Y.1, FX.tr Y.2.1, ((sqe2 Cne.ex G y1 Y.2.2).y w1).b g3 c6⟩⟩)⟩
    · have ea : k2un b n (ltb s) (r + 1) (xa h) = k2sq (k2ss b n (ltb s) (r + 1)) (k2cm b n (k2ss b n (ltb s) (r + 1))) (xa h1) := by
        show (if skv b n (xa h) = 33 then _ else if skv b n (xa h) = 40 then _ else k2sq (k2ss b n (ltb s) (r + 1)) (k2cm b n (k2ss b n (ltb s) (r + 1))) (xa h)) = _
        rw [if_neg (by rw [← L.2.2.2]; exact n33), if_neg (by rw [← L.2.2.2]; exact n40), L.2.2.1, Cne.sq (Cne.ss (r + 1))]
      have t1 : Tx b n s h1 := t.fr L.2.1 (by decide +kernel)
      have g3 : h_i h1 11 3 = h_i h 11 3 := fw3 L.2.1 (by decide +kernel)
      have c1 : Cdx h h1 [] := Cdx.f0 L.2.1 (by decide +kernel)
      rw [ea]
      exact Ci.mono (S d h1 L.1 t1 (cb.pk L)) (fun r50 h48 X => ⟨X.1.1, fun y0 => ⟨X.1, F1.tr X.2.1, (sqen (g := k2cm b n (k2ss b n (ltb s) (r + 1))) X.2.2 y0).b g3 c1⟩, fun y1 => Ci.mono (C d h48 X.1 (X.t t1) (X.2.2.cb y1 fs (cb.pk L))) (fun r54 h52 Y => ⟨Y.1.1, fun w0 => ⟨Y.1, (F1.tr X.2.1).tr Y.2.1, ((sqe2 Cne.cm X.2.2 y1 Y.2.2).n w0).b g3 c1⟩, fun w1 => ⟨Y.1, (F1.tr X.2.1).tr Y.2.1, ((sqe2 Cne.cm X.2.2 y1 Y.2.2).y w1).b g3 c1⟩⟩)⟩)
end
section
/-! clauses (what must hold, what is answered), and what the class's code of them is -/
abbrev Cl2 : Type := List Tk2 × List Tk2
abbrev Rcl : Type := Nat → Bool × Nat × Cl2
def anX (s o : Nat) (A : List Tk2) : List Int32 := pk4 3 (Int32.ofNat (o + 1 + A.length + 1)) :: (A.map (tkx s) ++ [pk4 4 0])
def clX (s o : Nat) (c : Cl2) : List Int32 := if c.1.length = 0 then c.2.map (tkx s) ++ [pk4 4 0] else c.1.map (tkx s) ++ anX s (o + c.1.length) c.2
def clN (c : Cl2) : Nat := if c.1.length = 0 then c.2.length + 1 else c.1.length + (c.2.length + 2)
theorem anX_l (s o : Nat) (A : List Tk2) : (anX s o A).length = A.length + 2 := by
  unfold anX
  rw [List.length_cons, List.length_append, List.length_map]
  rfl
theorem clX_l (s o : Nat) (c : Cl2) : (clX s o c).length = clN c := by
  unfold clX clN
  split
  · rw [List.length_append, List.length_map]
    rfl
  · rw [List.length_append, List.length_map, anX_l]
def rlX (s : Nat) : Nat → List Cl2 → List Int32
  | _, [] => []
  | o, c :: C => clX s o c ++ rlX s (o + clN c) C
def rlN : List Cl2 → Nat
  | [] => 0
  | c :: C => clN c + rlN C
theorem rlX_l (s : Nat) : ∀ (C : List Cl2) (o : Nat), (rlX s o C).length = rlN C
  | [], _ => rfl
  | c :: C, o => by
    show (clX s o c ++ rlX s (o + clN c) C).length = clN c + rlN C
    rw [List.length_append, clX_l, rlX_l s C]
theorem rlN_a : ∀ (C D : List Cl2), rlN (C ++ D) = rlN C + rlN D
  | [], D => (Nat.zero_add _).symm
  | c :: C, D => by
    show clN c + rlN (C ++ D) = clN c + rlN C + rlN D
    rw [rlN_a C D]
    omega
theorem rlX_a (s : Nat) : ∀ (C D : List Cl2) (o : Nat), rlX s o (C ++ D) = rlX s o C ++ rlX s (o + rlN C) D
  | [], D, o => rfl
  | c :: C, D, o => by
    show clX s o c ++ rlX s (o + clN c) (C ++ D) = (clX s o c ++ rlX s (o + clN c) C) ++ rlX s (o + (clN c + rlN C)) D
    rw [rlX_a s C D, List.append_assoc, Nat.add_assoc]
/-! the clauses' grammar -/
def k2pr (f g : Rce) : Rcl := fun a => if (f a).1 = true then ((g (f a).2.1).1, (g (f a).2.1).2.1, ((f a).2.2, (g (f a).2.1).2.2)) else (false, (f a).2.1, ([], []))
def vdv (x : Int32) : Int32 := if x = 120 then 0 else if x = 110 then 1 else if x = 114 then 2 else 3
def k2vd (b : Nat → Int32) (n : Nat) : Rce := fun a => if vdb (skv b n a) = true then (true, ska b n (ska b n a + 1), [(0, vdv (skv b n a))]) else (false, ska b n a, [])
def k2av (b : Nat → Int32) (n : Nat) : Rce := k2sq (k2ex b n 63) (k2vd b n)
def k2pa (b : Nat → Int32) (n : Nat) : Rce := k2sq (k2ex b n 63) (k2ss b n ltp 6)
def k2ac (b : Nat → Int32) (n : Nat) : Rcl := k2pr (k2cd b n (k2un b n lta 6)) (k2av b n)
def k2p1 (b : Nat → Int32) (n : Nat) : Rce := k2sq (k2ss b n ltp 6) (k2sq (k2cm b n (k2ss b n ltp 6)) (k2mp b n (k2un b n ltp 6)))
def k2pc (b : Nat → Int32) (n : Nat) : Rcl := fun a => if skv b n a = 33 ∨ skv b n a = 40 then k2pr (k2cd b n (k2un b n ltp 6)) (k2pa b n) a else if (k2ss b n ltp 6 a).1 = true then (if sgb (skv b n (k2ss b n ltp 6 a).2.1) = true then k2pr (k2p1 b n) (k2pa b n) a else (true, (k2ss b n ltp 6 a).2.1, ([], (k2ss b n ltp 6 a).2.2))) else (false, (k2ss b n ltp 6 a).2.1, ([], []))
def k2c (b : Nat → Int32) (n s : Nat) : Rcl := if s = 1 then k2ac b n else k2pc b n
def k21 (cl : Rcl) : Rcf Cl2 := fun a => ((cl a).1, (cl a).2.1, [(cl a).2.2])
def k2ru (b : Nat → Int32) (n s : Nat) : Rcf Cl2 := k2sq (k21 (k2c b n s)) (k2lp b n (isq 59) (fun _ => []) (k21 (k2c b n s)) 160)
theorem Cne.vd {b : Nat → Int32} {n : Nat} : Cne b n (k2vd b n) := fun a => by
  unfold k2vd
  rw [skv_i, ska_i]
theorem k2pr_c {b : Nat → Int32} {n : Nat} {f g : Rce} (c : Cne b n f) (a : Nat) : k2pr f g (ska b n a) = k2pr f g a := by
  unfold k2pr
  rw [c a]
theorem k2ac_c {b : Nat → Int32} {n : Nat} (a : Nat) : k2ac b n (ska b n a) = k2ac b n a := k2pr_c (Cne.cd (Cne.un 6)) a
theorem k2pc_c {b : Nat → Int32} {n : Nat} (a : Nat) : k2pc b n (ska b n a) = k2pc b n a := by
  unfold k2pc
  rw [skv_i, k2pr_c (Cne.cd (Cne.un 6)), Cne.ss 6, k2pr_c (f := k2p1 b n) (Cne.sq (Cne.ss 6))]
theorem k2c_c {b : Nat → Int32} {n s : Nat} (a : Nat) : k2c b n s (ska b n a) = k2c b n s a := by
  unfold k2c
  split
  · exact k2ac_c a
  · exact k2pc_c a
theorem Cne.cl {b : Nat → Int32} {n s : Nat} : Cne b n (k21 (k2c b n s)) := fun a => by
  unfold k21
  rw [k2c_c]
/-- how far a clause goes -/
def Fwc (b : Nat → Int32) (n : Nat) (f : Rcl) : Prop := ∀ a, (f a).1 = true → ska b n a < (f a).2.1 ∧ (f a).2.1 ≤ n ∧ ska b n (f a).2.1 = (f a).2.1 ∧ clN (f a).2.2 + ska b n a ≤ (f a).2.1 + 1
theorem Fwe.vd {b : Nat → Int32} {n : Nat} : Fwe b n (k2vd b n) := fun a h => by
  unfold k2vd at h ⊢
  by_cases q : vdb (skv b n a) = true
  · rw [if_pos q] at h ⊢
    have z := nxt_f (skv_l (fun e => by rw [e] at q; exact absurd q (by decide)))
    exact ⟨z.1, z.2.1, z.2.2, by show 1 + ska b n a ≤ ska b n (ska b n a + 1); have := z.1; omega⟩
  · rw [if_neg q] at h
    exact absurd h (by simp)
/-- an answer behind its '?': a sign more than tokens -/
def Fwa (b : Nat → Int32) (n : Nat) (g : Rce) : Prop := ∀ p, ska b n p = p → p ≤ n → (g p).1 = true → p < (g p).2.1 ∧ (g p).2.1 ≤ n ∧ ska b n (g p).2.1 = (g p).2.1 ∧ (g p).2.2.length + 1 + p ≤ (g p).2.1
theorem Fwa.of {b : Nat → Int32} {n : Nat} {g : Rce} (hg : Fwe b n g) : Fwa b n (k2sq (k2ex b n 63) g) := fun p e l h => by
  unfold k2sq at h ⊢
  by_cases c : (k2ex b n 63 p).1 = true
  · rw [if_pos c] at h ⊢
    have q := Fwe.ex (b := b) (n := n) (c := 63) (by decide) p c
    have r := hg _ h
    have r1 : ska b n (k2ex b n 63 p).2.1 < (g (k2ex b n 63 p).2.1).2.1 := r.1
    have e2 : (k2ex b n 63 p).2.2 = [] := by
      unfold k2ex
      split <;> rfl
    rw [q.2.2.1] at r r1
    rw [e] at q
    refine ⟨?_, r.2.1, r.2.2.1, ?_⟩
    · show p < (g (k2ex b n 63 p).2.1).2.1
      omega
    · show ((k2ex b n 63 p).2.2 ++ (g (k2ex b n 63 p).2.1).2.2).length + 1 + p ≤ (g (k2ex b n 63 p).2.1).2.1
      rw [e2, List.nil_append]
      have := r.2.2.2
      omega
  · rw [if_neg c] at h
    exact absurd h c
theorem Fwc.pr {b : Nat → Int32} {n : Nat} {f g : Rce} (hf : Fwe b n f) (hg : Fwa b n g) : Fwc b n (k2pr f g) := fun a h => by
  unfold k2pr at h ⊢
  by_cases c : (f a).1 = true
  · rw [if_pos c] at h ⊢
    have q := hf a c
    have r := hg _ q.2.2.1 q.2.1 h
    refine ⟨?_, r.2.1, r.2.2.1, ?_⟩
    · show ska b n a < (g (f a).2.1).2.1
      omega
    · show clN ((f a).2.2, (g (f a).2.1).2.2) + ska b n a ≤ (g (f a).2.1).2.1 + 1
      have u := q.2.2.2
      have v := r.2.2.2
      unfold clN
      split
      · show (g (f a).2.1).2.2.length + 1 + ska b n a ≤ _
        omega
      · show (f a).2.2.length + ((g (f a).2.1).2.2.length + 2) + ska b n a ≤ _
        omega
  · rw [if_neg c] at h
    exact absurd h (by simp)
theorem Fwe.p1 {b : Nat → Int32} {n : Nat} : Fwe b n (k2p1 b n) := (Fwe.ss (by decide) 6).sq ((Fwe.ss (by decide) 6).cm.z.sq (Fwz.mp (Fwe.un (by decide) 6)))
theorem Fwc.c {b : Nat → Int32} {n s : Nat} : Fwc b n (k2c b n s) := by
  unfold k2c
  split
  · exact Fwc.pr (Fwe.cd (Fwe.un (by decide) 6)) (Fwa.of Fwe.vd)
  · intro a h
    unfold k2pc at h ⊢
    by_cases c : skv b n a = 33 ∨ skv b n a = 40
    · rw [if_pos c] at h ⊢
      exact Fwc.pr (Fwe.cd (Fwe.un (by decide) 6)) (Fwa.of (Fwe.ss (by decide) 6)) a h
    · rw [if_neg c] at h ⊢
      by_cases d : (k2ss b n ltp 6 a).1 = true
      · rw [if_pos d] at h ⊢
        by_cases e : sgb (skv b n (k2ss b n ltp 6 a).2.1) = true
        · rw [if_pos e] at h ⊢
          exact Fwc.pr Fwe.p1 (Fwa.of (Fwe.ss (by decide) 6)) a h
        · rw [if_neg e]
          have q := Fwe.ss (b := b) (n := n) (lt := ltp) (by decide) 6 a d
          refine ⟨q.1, q.2.1, q.2.2.1, ?_⟩
          show (k2ss b n ltp 6 a).2.2.length + 1 + ska b n a ≤ (k2ss b n ltp 6 a).2.1 + 1
          have := q.2.2.2
          omega
      · rw [if_neg d] at h
        exact absurd h (by simp)
/-- what is found is what the recognizers find -/
theorem pj_pr {f g : Rce} {f' g' : Rcg} (p : Pje f f') (q : Pje g g') (a : Nat) : (k2pr f g a).1 = (sqr f' g' a).1 ∧ (k2pr f g a).2.1 = (sqr f' g' a).2 := by
  unfold k2pr sqr
  rw [(p a).1, (p a).2]
  by_cases c : (f' a).1 = true
  · rw [if_pos c, if_pos c]
    exact q _
  · rw [if_neg c, if_neg c]
    exact ⟨(by simpa using c : (f' a).1 = false).symm, rfl⟩
theorem Pje.vd {b : Nat → Int32} {n : Nat} : Pje (k2vd b n) (onr b n vdb) := fun a => by
  unfold k2vd onr
  split <;> exact ⟨rfl, rfl⟩
theorem pj_c {b : Nat → Int32} {n s : Nat} (hs : s = 1 ∨ s = 2) : Pje (k21 (k2c b n s)) (clq b n s) := fun a => by
  have P2 : Pje (k2pa b n) (pan b n) := Pje.ex.sq (Pje.ss 6)
  rcases hs with u | u <;> subst u
  · exact pj_pr (Pje.cd (Pje.un 6)) (Pje.ex.sq Pje.vd) a
  · show (k2pc b n a).1 = (pcl_ b n a).1 ∧ (k2pc b n a).2.1 = (pcl_ b n a).2
    unfold k2pc pcl_
    by_cases c : skv b n a = 33 ∨ skv b n a = 40
    · rw [if_pos c, if_pos c]
      exact pj_pr (Pje.cd (Pje.un 6)) P2 a
    · rw [if_neg c, if_neg c]
      have S := Pje.ss (b := b) (n := n) (lt := ltp) 6 a
      by_cases d : (sms b n ltp 6 a).1 = true
      · rw [S.1, if_pos d, S.2]
        have e1 : ∀ g : Rcg, sqr (sms b n ltp 6) g a = g (sms b n ltp 6 a).2 := fun g => by
          unfold sqr
          exact if_pos d
        rw [e1]
        by_cases e : sgb (skv b n (sms b n ltp 6 a).2) = true
        · rw [if_pos e, if_pos e]
          have P1 : Pje (k2p1 b n) (sqr (sms b n ltp 6) (sqr (cmq b n (sms b n ltp 6)) (mpt b n (unt b n ltp 6)))) := (Pje.ss 6).sq ((Pje.ss 6).cm.sq (Pje.un 6).mp)
          have z := pj_pr P1 P2 a
          rw [sqr_a, sqr_a, e1] at z
          exact z
        · rw [if_neg e, if_neg e]
          exact ⟨rfl, rfl⟩
      · rw [S.1, if_neg d, S.2]
        have e1 : ∀ g : Rcg, sqr (sms b n ltp 6) g a = sms b n ltp 6 a := fun g => by
          unfold sqr
          exact if_neg d
        rw [e1]
        exact ⟨(by simpa using d : (sms b n ltp 6 a).1 = false).symm, rfl⟩
theorem pj_ru {b : Nat → Int32} {n s : Nat} (hs : s = 1 ∨ s = 2) : Pje (k2ru b n s) (ruq b n (clq b n s)) := (pj_c hs).sq ((pj_c hs).lp 160)
/-- what a clause is made of -/
def clO (s : Nat) (c : Cl2) : Prop := (c.1.length = 0 ∨ Put1 true c.1) ∧ Put1 false c.2 ∧ (∀ t ∈ c.1, tkO (ltb s) t) ∧ ∀ t ∈ c.2, tkO (ltb s) t
theorem Wty.vd {b : Nat → Int32} {n : Nat} : Wty false (k2vd b n) := fun a h => by
  unfold k2vd at h ⊢
  by_cases q : vdb (skv b n a) = true
  · rw [if_pos q]
    exact fun _ => rfl
  · rw [if_neg q] at h
    exact absurd h (by simp)
theorem Otk.vd {b : Nat → Int32} {n : Nat} {lt : Int32 → Bool} : Otk lt (k2vd b n) := fun a h => by
  unfold k2vd at h ⊢
  by_cases q : vdb (skv b n a) = true
  · rw [if_pos q]
    intro t ht
    rw [List.mem_singleton.mp ht]
    refine ⟨fun e => absurd (show (0 : Int32) = 1 from e) (by decide), fun _ => ?_, fun e => absurd rfl e, Or.inl rfl⟩
    show 0 ≤ (vdv (skv b n a)).toInt ∧ (vdv (skv b n a)).toInt ≤ 9999
    unfold vdv
    split
    · decide
    · split
      · decide
      · split <;> decide
  · rw [if_neg q] at h
    exact absurd h (by simp)
theorem Wty.aw {b : Nat → Int32} {n : Nat} {c : Int32} {y : Bool} {g : Rce} (p : Wty y g) : Wty y (k2sq (k2ex b n c) g) := fun a h => by
  unfold k2sq at h ⊢
  by_cases q : (k2ex b n c a).1 = true
  · rw [if_pos q] at h ⊢
    have e2 : (k2ex b n c a).2.2 = [] := by
      unfold k2ex
      split <;> rfl
    show Put1 y ((k2ex b n c a).2.2 ++ (g (k2ex b n c a).2.1).2.2)
    rw [e2, List.nil_append]
    exact p _ h
  · rw [if_neg q] at h
    exact absurd h q
theorem clO_pr {s : Nat} {f g : Rce} (wf : Wty true f) (wg : Wty false g) (of_ : Otk (ltb s) f) (og : Otk (ltb s) g) (a : Nat) (h : (k2pr f g a).1 = true) : clO s (k2pr f g a).2.2 := by
  unfold k2pr at h ⊢
  by_cases c : (f a).1 = true
  · rw [if_pos c] at h ⊢
    exact ⟨Or.inr (wf a c), wg _ h, of_ a c, og _ h⟩
  · rw [if_neg c] at h
    exact absurd h (by simp)
theorem clO_c {b : Nat → Int32} {n s : Nat} (hs : s = 1 ∨ s = 2) (a : Nat) (h : (k2c b n s a).1 = true) : clO s (k2c b n s a).2.2 := by
  rcases hs with u | u <;> subst u
  · exact clO_pr (s := 1) (Wty.cd (Wty.un 6)) (Wty.aw Wty.vd) (Otk.cd (Otk.un 6)) (Otk.ex.sq Otk.vd) a h
  · have h : (k2pc b n a).1 = true := h
    show clO 2 (k2pc b n a).2.2
    unfold k2pc at h ⊢
    have wa : Wty false (k2pa b n) := Wty.aw (Wty.ss 6)
    have oa : Otk (ltb 2) (k2pa b n) := Otk.ex.sq (Otk.ss 6)
    by_cases c : skv b n a = 33 ∨ skv b n a = 40
    · rw [if_pos c] at h ⊢
      exact clO_pr (s := 2) (Wty.cd (Wty.un 6)) wa (Otk.cd (Otk.un 6)) oa a h
    · rw [if_neg c] at h ⊢
      by_cases d : (k2ss b n ltp 6 a).1 = true
      · rw [if_pos d] at h ⊢
        by_cases e : sgb (skv b n (k2ss b n ltp 6 a).2.1) = true
        · rw [if_pos e] at h ⊢
          exact clO_pr (s := 2) (f := k2p1 b n) ((Wty.ss 6).cp ((Wcp.cm (Wty.ss 6)).sw (Wsw.mp (Wty.un 6)))) wa ((Otk.ss 6).sq ((Otk.cm (Otk.ss 6)).sq (Otk.mp (Otk.un 6)))) oa a h
        · rw [if_neg e]
          exact ⟨Or.inl rfl, Wty.ss 6 a d, fun t ht => (by cases ht), Otk.ss (lt := ltp) 6 a d⟩
      · rw [if_neg d] at h
        exact absurd h (by simp)
theorem clO_lp {b : Nat → Int32} {n s : Nat} (hs : s = 1 ∨ s = 2) : ∀ (k a : Nat), (k2lp b n (isq 59) (fun _ => []) (k21 (k2c b n s)) k a).1 = true → ∀ c ∈ (k2lp b n (isq 59) (fun _ => []) (k21 (k2c b n s)) k a).2.2, clO s c
  | 0, a, _ => fun c hc => by cases hc
  | k + 1, a, h => by
    unfold k2lp at h ⊢
    by_cases q : isq 59 (skv b n a) = true
    · rw [if_pos q] at h ⊢
      by_cases d : (k21 (k2c b n s) (ska b n a + 1)).1 = true
      · rw [if_pos d] at h ⊢
        intro c hc
        rcases List.mem_append.mp hc with z | z
        · rw [List.append_nil] at z
          rw [List.mem_singleton.mp z]
          exact clO_c hs _ d
        · exact clO_lp hs k _ h c z
      · rw [if_neg d] at h
        exact absurd h d
    · rw [if_neg q]
      exact fun c hc => by cases hc
theorem clO_ru {b : Nat → Int32} {n s : Nat} (hs : s = 1 ∨ s = 2) (h : (k2ru b n s 0).1 = true) : ∀ c ∈ (k2ru b n s 0).2.2, clO s c := by
  unfold k2ru k2sq at h ⊢
  by_cases d : (k21 (k2c b n s) 0).1 = true
  · rw [if_pos d] at h ⊢
    intro c hc
    rcases List.mem_append.mp hc with z | z
    · rw [List.mem_singleton.mp z]
      exact clO_c hs _ d
    · exact clO_lp hs 160 _ h c z
  · rw [if_neg d] at h
    exact absurd h d
/-! the class: clauses and rules, with what they put down -/
theorem pk_4 (o x : Int32) : o ||| (x <<< ((4 : Int32) &&& 31)) = pk4 o x := rfl
/-- the end of a clause that has no condition -/
theorem c_ec0 (d : Nat) {h : Hp_} (I : Iv h) (l : xc h < 164) : Cv (m_X8_endClause (d + 2) 0 0) [.ref 11, .int (-1)] h (fun h' => Iv h' ∧ Fr [11009, 33999] h h' ∧ Cdx h h' [pk4 4 0]) := by
  refine t_X8_endClause d h I.1 (-1) _ (Ci.mono (c_eme d I 4 0 l) (fun r h1 k => ⟨k.1.1, fun _ => ⟨k.1, k.2.1, k.2.2.2⟩, fun y => absurd y.1 (by decide)⟩))
/-- the end of a clause whose condition ends at j -/
theorem c_ecj (d : Nat) {h0 h1 h : Hp_} (I : Iv h) {A B : List Int32} {x : Int32} (ca : Cdx h0 h1 [x]) (cb : Cdx h1 h B) (l : xc h < 164) : Cv (m_X8_endClause (d + 2) 0 0) [.ref 11, .int (Int32.ofNat (xc h0))] h (fun h' => Iv h' ∧ Fr [11009, 33999] h h' ∧ Cdx h0 h' (pk4 3 (Int32.ofNat (xc h0 + 1 + B.length + 1)) :: (B ++ [pk4 4 0]))) := by
  have e1 : xc h1 = xc h0 + 1 := ca.1
  have e2 : xc h = xc h1 + B.length := cb.1
  refine t_X8_endClause d h I.1 _ _ (Ci.mono (c_eme d I 4 0 l) (fun r h2 k => ?_))
  obtain ⟨I2, F2, _, c2⟩ := k
  have e3 : xc h2 = xc h + 1 := c2.1
  have ci := xc_i I2
  have b9 := x9_in I2
  have o0 : (Int32.ofNat (xc h0)).toInt = (xc h0 : Int) := on_j (by omega)
  have k0 : (Int32.ofNat (xc h0)).toNatClampNeg = xc h0 := on_k (by omega)
  have t1 : (1 : Int32).toInt = 1 := rfl
  have t0 : (0 : Int32).toInt = 0 := rfl
  have m1 : (h_i h2 11 9 - 1).toInt = (h_i h2 11 9).toInt - 1 := by rw [tx_sub (by rw [t1]; omega) (by rw [t1]; omega), t1]
  refine ⟨I2.1, fun n => absurd ⟨q_le.mpr (by rw [o0, t0]; omega), q_le.mpr (by rw [o0, m1]; omega)⟩ n, fun _ => t_X10_pack d h2 3 _ _ ⟨I2.1, dp_in (lo := 0) (hi := 163) ⟨by rw [o0]; omega, by rw [o0]; show _ ≤ (163 : Int); omega⟩ (by decide) (by decide), tr_ 33 (by decide +kernel) I2 _ _ (by decide) (by decide), F2.im (inw_row (by decide +kernel) _), ?_, fun i hi => ?_, fun i v e => ?_⟩⟩
  · show (h_i (h_im h2 33 _ _) 11 9).toNatClampNeg = _
    rw [im_ne (by decide)]
    show xc h2 = xc h0 + ((B ++ [pk4 4 0]).length + 1)
    rw [List.length_append]
    show xc h2 = xc h0 + (B.length + 1 + 1)
    omega
  · rw [k0, h_i_im, if_neg (fun y => by have := y.2; omega), c2.2.1 i (by omega), cb.2.1 i (by omega), ca.2.1 i hi]
  · have s9 : h_i h2 11 9 = Int32.ofNat (xc h0 + 1 + B.length + 1) := by
      have e9 : (h_i h2 11 9).toNatClampNeg = xc h0 + 1 + B.length + 1 := by
        show xc h2 = _
        omega
      rw [← of_nat32 b9.1, e9]
    cases i with
    | zero =>
      have e : some (pk4 3 (Int32.ofNat (xc h0 + 1 + B.length + 1))) = some v := e
      rw [k0, Nat.add_zero, im_at, s9, ← Option.some.inj e]
      rfl
    | succ i =>
      have e : (B ++ [pk4 4 0])[i]? = some v := e
      rw [k0, h_i_im, if_neg (fun y => by have := y.2; omega)]
      by_cases lb : i < B.length
      · rw [List.getElem?_append_left lb] at e
        rw [c2.2.1 _ (by omega)]
        have z := cb.2.2 i v e
        rw [e1, show xc h0 + 1 + i = xc h0 + (i + 1) by omega] at z
        exact z
      · rw [List.getElem?_append_right (by omega)] at e
        have z := c2.2.2 _ v e
        have lt : i - B.length < 1 := (List.getElem?_eq_some_iff.mp e).1
        rw [show xc h + (i - B.length) = xc h0 + (i + 1) by omega] at z
        exact z
/-- what a clause, or an answer, has put down -/
def Fce (b : Nat → Int32) (n : Nat) (T : Bool × Nat) (E : List Int32) (h0 : Hp_) (r : Int32) (h : Hp_) : Prop := (r = 1 ∧ T.1 = true ∧ ska b n (xa h) = T.2 ∧ h_i h 11 3 = h_i h0 11 3 ∧ Cdx h0 h E) ∨ (r = 0 ∧ T.1 = false ∧ h_i h 11 3 = Int32.ofNat T.2)
def Xce (b : Nat → Int32) (n : Nat) (T : Bool × Nat) (E : List Int32) (h : Hp_) (r : Int32) (h' : Hp_) : Prop := Iv h' ∧ Fr wzx h h' ∧ Fce b n T E h r h'
theorem Fce.z {b : Nat → Int32} {n : Nat} {T : Bool × Nat} {E : List Int32} {h0 : Hp_} {r : Int32} {h : Hp_} (F : Fce b n T E h0 r h) : r = 0 ∨ r = 1 := F.elim (fun y => Or.inr y.1) (fun y => Or.inl y.1)
theorem Fce.n {b : Nat → Int32} {n : Nat} {T : Bool × Nat} {E : List Int32} {h0 : Hp_} {r : Int32} {h : Hp_} (F : Fce b n T E h0 r h) (e : r = 0) : Fce b n T E h0 0 h := by
  rcases F with F | F
  · rw [e] at F
    exact absurd F.1 (by decide)
  · exact Or.inr ⟨rfl, F.2⟩
theorem Fce.y {b : Nat → Int32} {n : Nat} {T : Bool × Nat} {E : List Int32} {h0 : Hp_} {r : Int32} {h : Hp_} (F : Fce b n T E h0 r h) (e : ¬ r = 0) : Fce b n T E h0 1 h := by
  rcases F with F | F
  · exact Or.inl ⟨rfl, F.2⟩
  · exact absurd F.1 e
theorem Fce.b {b : Nat → Int32} {n : Nat} {T : Bool × Nat} {E : List Int32} {h0 h1 : Hp_} {r : Int32} {h : Hp_} (F : Fce b n T E h0 r h) (e : h_i h0 11 3 = h_i h1 11 3) (c : Cdx h1 h0 []) : Fce b n T E h1 r h := by
  rcases F with F | F
  · exact Or.inl ⟨F.1, F.2.1, F.2.2.1, F.2.2.2.1.trans e, c.tr F.2.2.2.2⟩
  · exact Or.inr F
/-- a failing part fails the clause -/
theorem fce_n {b : Nat → Int32} {n s : Nat} {f g : Rce} {a : Nat} {E : List Int32} {h0 : Hp_} {r : Int32} {h : Hp_} (F : Fxe b n s (f a) h0 r h) (e : r = 0) : Fce b n ((k2pr f g a).1, (k2pr f g a).2.1) E h0 0 h := by
  have k := F.n e
  rcases k with k | k
  · exact absurd k.1 (by decide)
  · have e1 : k2pr f g a = (false, (f a).2.1, ([], [])) := by
      unfold k2pr
      exact if_neg (by rw [k.2.1]; decide)
    rw [e1]
    exact Or.inr ⟨rfl, rfl, k.2.2⟩
/-- a condition and its answer -/
theorem fce_2 {b : Nat → Int32} {n s : Nat} {f g : Rce} {a : Nat} {h0 : Hp_} {r r2 : Int32} {h h2 : Hp_} (c : Cne b n g) (nz : ¬ (f a).2.2.length = 0) (F : Fxe b n s (f a) h0 r h) (e : ¬ r = 0) (G : Fce b n ((g (xa h)).1, (g (xa h)).2.1) (anX s (xc h) (g (xa h)).2.2) h r2 h2) : Fce b n ((k2pr f g a).1, (k2pr f g a).2.1) (clX s (xc h0) (k2pr f g a).2.2) h0 r2 h2 := by
  have k := F.ok e
  have e1 : k2pr f g a = ((g (xa h)).1, (g (xa h)).2.1, ((f a).2.2, (g (xa h)).2.2)) := by
    unfold k2pr
    rw [if_pos k.1, ← k.2.1, c]
  rw [e1]
  rcases G with G | G
  · refine Or.inl ⟨G.1, G.2.1, G.2.2.1, G.2.2.2.1.trans k.2.2.1, ?_⟩
    show Cdx h0 h2 (clX s (xc h0) ((f a).2.2, (g (xa h)).2.2))
    unfold clX
    rw [if_neg nz]
    have z := k.2.2.2.1
    rw [List.length_map] at z
    have q := k.2.2.2.tr G.2.2.2.2
    rw [z] at q
    exact q
  · exact Or.inr G
theorem Put1.nz {y : Bool} {E : List Tk2} (p : Put1 y E) : ¬ E.length = 0 := fun e => by
  have z : E = [] := List.eq_nil_of_length_eq_zero e
  have q := p []
  rw [z] at q
  exact absurd (Option.some.inj q) (by simp)
theorem c_rpae {b : Nat → Int32} {n : Nat} (d : Nat) {h : Hp_} (I : Iv h) (t : Tx b n 2 h) (cb : Cbx b n h) : Ci (m_X8_readPayAnswer (d + 80 + 54) 0 0) [.ref 11] h (fun r h' => Xce b n ((k2pa b n (xa h)).1, (k2pa b n (xa h)).2.1) (anX 2 (xc h) (k2pa b n (xa h)).2.2) h r h') := by
  have S := e_sums (b := b) (n := n) (s := 2) (Or.inr rfl) 6 (by omega)
  have fs : Fwe b n (k2ss b n ltp 6) := Fwe.ss (by decide) 6
  have ni := xn_i I
  rw [t.2.1] at ni
  have z1 := (x1_in I).2
  refine t_X8_readPayAnswer (d + 80) h I.1 _ (Ci.mono (c_exe (d + 80) I t 63 (by decide)) (fun r3 h1 X => ⟨X.1.1, fun y1 => ?_, fun y0 => ⟨X.1, X.2.1, ?_⟩⟩))
  · have ok := X.2.2.ok y1
    have fe := Fwe.ex (b := b) (n := n) (c := 63) (by decide) (xa h) ok.1
    have e2 : (k2ex b n 63 (xa h)).2.2 = [] := by
      unfold k2ex
      split <;> rfl
    have c1 : Cdx h h1 [] := by
      have z := ok.2.2.2
      rw [e2] at z
      exact z
    have x1 : xc h1 = xc h := c1.1
    have lc : xc h1 < 164 := by
      unfold Cbx at cb
      omega
    refine Ci.mono (c_eme (d + 80) X.1 3 0 lc) (fun r7 h5 k => ⟨k.1.1, ?_⟩)
    obtain ⟨I5, F5', er7, c5⟩ := k
    have F5 : Fr wzx h h5 := X.2.1.tr (F5'.more (by decide +kernel))
    have t5 : Tx b n 2 h5 := t.fr F5 (by decide +kernel)
    have a5 : xa h5 = xa h1 := by
      show (h_i h5 11 2).toNatClampNeg = _
      rw [(F5'.2 11 2 (by decide +kernel)).1]
    have g5 : h_i h5 11 3 = h_i h 11 3 := ((F5'.2 11 3 (by decide +kernel)).1).trans ok.2.2.1
    have x5 : xc h5 = xc h1 + 1 := c5.1
    have cb5 : Cbx b n h5 := by
      unfold Cbx at cb ⊢
      rw [a5, ok.2.1]
      omega
    have s6 : Ci (m_X8_readSum (d + 10 + 10 * (6 + 1) + 53) 0 0) [.ref 11, .int (Int32.ofNat (6 - 6))] h5 (fun q h' => Xe b n 2 (k2ss b n (ltb 2) 6 (xa h5)) h5 q h') := S (d + 10) h5 I5 t5 cb5
    rw [show d + 10 + 10 * (6 + 1) + 53 = d + 80 + 53 by omega] at s6
    have ea : k2pa b n (xa h) = k2ss b n ltp 6 (xa h5) := by
      unfold k2pa k2sq
      rw [if_pos ok.1, ← ok.2.1, Cne.ss 6, e2, a5]
      rfl
    rw [ea]
    refine Ci.mono s6 (fun r10 h8 Y => ⟨Y.1.1, fun w1 => ?_, fun w0 => ⟨Y.1, F5.tr Y.2.1, ?_⟩⟩)
    · have oy := Y.2.2.ok w1
      have lc8 : xc h8 < 164 := by
        have z := oy.2.2.2.1
        rw [List.length_map] at z
        have q := cb5.em I5 t5 fs oy.1
        have q : xc h5 + (k2ss b n (ltb 2) 6 (xa h5)).2.2.length < 164 := q
        omega
      have ej := c_ecj (d + 80) (A := []) Y.1 (c1.tr c5) oy.2.2.2 lc8
      rw [er7, x1]
      refine Cv.mono ej (fun h12 k2 => ⟨k2.1.1, k2.1, (F5.tr Y.2.1).tr (k2.2.1.more (by decide +kernel)), Or.inl ⟨rfl, oy.1, ?_, ?_, ?_⟩⟩)
      · show ska b n (h_i h12 11 2).toNatClampNeg = _
        rw [(k2.2.1.2 11 2 (by decide +kernel)).1]
        exact oy.2.1
      · rw [(k2.2.1.2 11 3 (by decide +kernel)).1, oy.2.2.1]
        exact g5
      · have z := k2.2.2
        rw [List.length_map] at z
        exact z
    · rcases Y.2.2.n w0 with G | G
      · exact absurd G.1 (by decide)
      · exact Or.inr G
  · rcases X.2.2.n y0 with G | G
    · exact absurd G.1 (by decide)
    · have ea : k2pa b n (xa h) = k2ex b n 63 (xa h) := by
        unfold k2pa k2sq
        exact if_neg (by rw [G.2.1]; decide)
      rw [ea]
      exact Or.inr G
theorem vd_all : (List.range 256).all (fun j => decide (vdb (Int32.ofNat j) = true → ixq 3 (xch (Int32.ofNat j)) = vdv (Int32.ofNat j))) = true := by decide +kernel
theorem vd_ix {x : Int32} (b : 0 ≤ x.toInt ∧ x.toInt ≤ 255) (h : vdb x = true) : ixq 3 (xch x) = vdv x := by
  have e := of_nat32 b.1
  have k := n_nat b.1
  rw [← e] at h ⊢
  exact of_decide_eq_true (List.all_eq_true.mp vd_all _ (List.mem_range.mpr (by omega))) h
theorem c_race {b : Nat → Int32} {n : Nat} (d : Nat) {h : Hp_} (I : Iv h) (t : Tx b n 1 h) (cb : Cbx b n h) : Ci (m_X8_readActClause (d + 80 + 59) 0 0) [.ref 11] h (fun r h' => Xce b n ((k2ac b n (xa h)).1, (k2ac b n (xa h)).2.1) (clX 1 (xc h) (k2ac b n (xa h)).2.2) h r h') := by
  have U := e_units (b := b) (n := n) (s := 1) (Or.inl rfl) 6 (by omega)
  have fu : Fwe b n (k2un b n (ltb 1) 6) := Fwe.un (by decide) 6
  have C := c_rcde _ _ _ fu U
  have fc : Fwe b n (k2cd b n (k2un b n (ltb 1) 6)) := fu.cd
  have ni := xn_i I
  rw [t.2.1] at ni
  have z1 := (x1_in I).2
  refine t_X8_readActClause (d + 80) h I.1 _ (Ci.mono (C d h I t cb) (fun r3 h1 X => ⟨X.1.1, fun y0 => ⟨X.1, X.2.1, fce_n (f := k2cd b n (k2un b n (ltb 1) 6)) (g := k2av b n) X.2.2 y0⟩, fun y1 => ?_⟩))
  have cb1 : Cbx b n h1 := X.2.2.cb y1 fc cb
  have okX := X.2.2.ok y1
  have nz : ¬ (k2cd b n (k2un b n (ltb 1) 6) (xa h)).2.2.length = 0 := (Wty.cd (Wty.un 6) (xa h) okX.1).nz
  have up : ∀ (r : Int32) (h' : Hp_), Fce b n ((k2av b n (xa h1)).1, (k2av b n (xa h1)).2.1) (anX 1 (xc h1) (k2av b n (xa h1)).2.2) h1 r h' → Fce b n ((k2ac b n (xa h)).1, (k2ac b n (xa h)).2.1) (clX 1 (xc h) (k2ac b n (xa h)).2.2) h r h' := fun r h' G => fce_2 (f := k2cd b n (k2un b n (ltb 1) 6)) (g := k2av b n) (Cne.sq Cne.ex) nz X.2.2 y1 G
  refine Ci.mono (c_exe (d + 80) X.1 (X.t t) 63 (by decide)) (fun r7 h5 Y => ?_)
  have F5 : Fr wzx h h5 := X.2.1.tr Y.2.1
  refine ⟨Y.1.1, fun w1 => ?_, fun w0 => ⟨Y.1, F5, up 0 h5 ?_⟩⟩
  · have okY := Y.2.2.ok w1
    have fe := Fwe.ex (b := b) (n := n) (c := 63) (by decide) (xa h1) okY.1
    have e2 : (k2ex b n 63 (xa h1)).2.2 = [] := by
      unfold k2ex
      split <;> rfl
    have c5 : Cdx h1 h5 [] := by
      have z := okY.2.2.2
      rw [e2] at z
      exact z
    have x5 : xc h5 = xc h1 := c5.1
    have lc : xc h5 < 164 := by
      unfold Cbx at cb1
      omega
    refine Ci.mono (c_eme (d + 80) Y.1 3 0 lc) (fun r11 h9 k => ⟨k.1.1, ?_⟩)
    obtain ⟨I9, F9', er, c9⟩ := k
    have F9 : Fr wzx h h9 := F5.tr (F9'.more (by decide +kernel))
    have t9 : Tx b n 1 h9 := t.fr F9 (by decide +kernel)
    have a9 : xa h9 = xa h5 := by
      show (h_i h9 11 2).toNatClampNeg = _
      rw [(F9'.2 11 2 (by decide +kernel)).1]
    have g9 : h_i h9 11 3 = h_i h1 11 3 := ((F9'.2 11 3 (by decide +kernel)).1).trans okY.2.2.1
    have ea : k2av b n (xa h1) = k2vd b n (xa h9) := by
      unfold k2av k2sq
      rw [if_pos okY.1, ← okY.2.1, Cne.vd, e2, a9]
      rfl
    rw [ea] at up
    have fl : ∀ (h12 : Hp_) (r14 : Int32), Pk b n h9 r14 h12 → ¬ vdb r14 = true → Ci (m_X8_fail (d + 80 + 0) 0 0) [.ref 11] h12 (fun r h' => Wf h' ∧ ((r = 0 ∨ r = 1) ∧ Xce b n ((k2ac b n (xa h)).1, (k2ac b n (xa h)).2.1) (clX 1 (xc h) (k2ac b n (xa h)).2.2) h r h')) := fun h12 r14 L nv => by
      have e : k2vd b n (xa h9) = (false, ska b n (xa h9), []) := by
        unfold k2vd
        exact if_neg (by rw [← L.2.2.2]; exact nv)
      refine Ci.mono (c_fl (d + 80) L.1) (fun r2 h2 k => ⟨k.2.1.1, Or.inl k.1, k.2.1, F9.tr ((L.2.1.more (by decide +kernel)).tr (k.2.2.1.more (by decide +kernel))), up r2 h2 ?_⟩)
      rw [e]
      exact Or.inr ⟨k.1, rfl, by rw [k.2.2.2, L.2.2.1]⟩
    refine Ci.mono (c_pk (d + 80) I9 t9) (fun r14 h12 L => ⟨L.1.1, fun nm => ?_, fun em => fl h12 r14 L (by rw [em]; decide)⟩)
    have bb := L.in I9 t9 nm
    have il := (ix_let bb).2.2
    have ir := ix_rng bb (i := 3) (by decide)
    refine Ci.mono (c_ix1f (d + 80) 3 (by decide) h12 (xch r14)) (fun r18 h16 q => ?_)
    obtain ⟨er18, eh⟩ := q
    subst eh
    subst er18
    refine ⟨L.1.1, fun p => ?_, fun np => fl h16 r14 L (fun y => np (il.mpr y))⟩
    have yv := il.mp p
    obtain ⟨I6, F6, a6⟩ := nxx I9 t9 L nm
    have lsk : ska b n (xa h9) < n := skv_l (b := b) (n := n) (a := xa h9) (by rw [← L.2.2.2]; exact nm)
    have e6 : Cdx h9 _ [] := Cdx.f0 F6 (by decide +kernel)
    have x9 : xc h9 = xc h5 + 1 := c9.1
    have g9' := ska_ge (b := b) (n := n) (a := xa h9)
    have l6 : xc (h_im h16 11 2 ((h_i h16 11 2) + 1)) < 164 := by
      have z : xc (h_im h16 11 2 ((h_i h16 11 2) + 1)) = xc h9 := e6.1
      unfold Cbx at cb1
      omega
    refine Ci.mono (c_eme (d + 80) I6 0 (ixq 3 (xch r14)) l6) (fun r22 h20 k2 => ⟨k2.1.1, ?_⟩)
    obtain ⟨I20, F20, _, c20⟩ := k2
    have c20' : Cdx h9 h20 [pk4 0 (ixq 3 (xch r14))] := e6.tr c20
    have l20 : xc h20 < 164 := by
      have z : xc h20 = xc h9 + 1 := c20'.1
      unfold Cbx at cb1
      omega
    have ej := c_ecj (d + 80) (A := []) I20 (c5.tr c9) c20' l20
    have er' : r11 = Int32.ofNat (xc h1) := by rw [er, x5]
    rw [er']
    refine Cv.mono ej (fun h23 k3 => ⟨k3.1.1, k3.1, ((F9.tr (F6.more (by decide +kernel))).tr (F20.more (by decide +kernel))).tr (k3.2.1.more (by decide +kernel)), up 1 h23 ?_⟩)
    have e : k2vd b n (xa h9) = (true, ska b n (ska b n (xa h9) + 1), [(0, vdv r14)]) := by
      unfold k2vd
      rw [← L.2.2.2, if_pos yv]
    rw [e]
    have f23 : Fr [11009, 33999] _ h23 := F20.tr k3.2.1
    refine Or.inl ⟨rfl, rfl, ?_, ?_, ?_⟩
    · show ska b n (h_i h23 11 2).toNatClampNeg = _
      rw [(f23.2 11 2 (by decide +kernel)).1, ← a6]
    · rw [(f23.2 11 3 (by decide +kernel)).1, fw3 F6 (by decide +kernel)]
      exact g9
    · have z := k3.2.2
      rw [vd_ix bb yv] at z
      exact z
  · rcases Y.2.2.n w0 with G | G
    · exact absurd G.1 (by decide)
    · have ea : k2av b n (xa h1) = k2ex b n 63 (xa h1) := by
        unfold k2av k2sq
        exact if_neg (by rw [G.2.1]; decide)
      rw [ea]
      exact Or.inr G
/-! a fault lies on the tape -/
def Fzb (b : Nat → Int32) (n : Nat) (f : Rcg) : Prop := ∀ a, a ≤ n → (f a).1 = false → (f a).2 ≤ n
theorem Fzb.ex {b : Nat → Int32} {n : Nat} {c : Int32} : Fzb b n (exr b n c) := fun a l h => by
  unfold exr at h ⊢
  by_cases q : skv b n a = c
  · rw [if_pos q] at h
    exact absurd h (by simp)
  · rw [if_neg q]
    exact ska_le l
theorem Fzb.on {b : Nat → Int32} {n : Nat} {sp : Int32 → Bool} : Fzb b n (onr b n sp) := fun a l h => by
  unfold onr at h ⊢
  by_cases q : sp (skv b n a) = true
  · rw [if_pos q] at h
    exact absurd h (by simp)
  · rw [if_neg q]
    exact ska_le l
theorem Fzb.nm {b : Nat → Int32} {n : Nat} : Fzb b n (nm0 b n) := fun a l h => by
  unfold nm0 at h ⊢
  by_cases c : dgb (skv b n a) = true
  · rw [if_pos c] at h ⊢
    by_cases d : (nml b n 4 0 (ska b n a)).1 = true
    · rw [if_pos d] at h
      exact absurd h (by simp)
    · rw [if_neg d]
      exact (nml_p (b := b) (n := n) 4 0 (ska b n a) (ska_le l)).2.1
  · rw [if_neg c]
    exact ska_le l
theorem Fzb.sq {b : Nat → Int32} {n : Nat} {f g : Rcg} (wf : ∀ a, a ≤ n → (f a).1 = true → (f a).2 ≤ n) (zf : Fzb b n f) (zg : Fzb b n g) : Fzb b n (sqr f g) := fun a l h => by
  unfold sqr at h ⊢
  by_cases c : (f a).1 = true
  · rw [if_pos c] at h ⊢
    exact zg _ (wf a l c) h
  · rw [if_neg c]
    exact zf a l (by simpa using c)
theorem Fwd.l {b : Nat → Int32} {n : Nat} {f : Rcg} (h : Fwd b n f) (a : Nat) (_ : a ≤ n) (y : (f a).1 = true) : (f a).2 ≤ n := (h a y).2.1
theorem Fzb.lp {b : Nat → Int32} {n : Nat} {sp : Int32 → Bool} {f : Rcg} (hs : sp (-1) = false) (wf : Fwd b n f) (zf : Fzb b n f) : ∀ k : Nat, Fzb b n (lpr b n sp f k)
  | 0 => fun a l h => by
    exact absurd (show (true : Bool) = false from h) (by decide)
  | k + 1 => fun a l h => by
    unfold lpr at h ⊢
    by_cases c : sp (skv b n a) = true
    · rw [if_pos c] at h ⊢
      have s1 : ska b n a < n := skv_l (fun e => by rw [e, hs] at c; exact absurd c (by decide))
      by_cases d : (f (ska b n a + 1)).1 = true
      · rw [if_pos d] at h ⊢
        exact Fzb.lp hs wf zf k _ (wf _ d).2.1 h
      · rw [if_neg d]
        exact zf _ (by omega) (by simpa using d)
    · rw [if_neg c] at h
      exact absurd h (by simp)
theorem lpr_l {b : Nat → Int32} {n : Nat} {sp : Int32 → Bool} {f : Rcg} (wf : Fwd b n f) (k a : Nat) (l : a ≤ n) (h : (lpr b n sp f k a).1 = true) : (lpr b n sp f k a).2 ≤ n := by
  have e := lpr_c (b := b) (n := n) (sp := sp) (f := f) k a
  rw [← e] at h ⊢
  exact (lpr_f wf k _ ska_i (ska_le l) h).2.1
theorem Fzb.at {b : Nat → Int32} {n : Nat} {lt : Int32 → Bool} {z : Bool} {f : Rcg} (hf : z = false → Fwd b n f ∧ Fzb b n f) : Fzb b n (atm b n lt z f) := fun a l h => by
  unfold atm at h ⊢
  by_cases c : dgb (skv b n a) = true
  · rw [if_pos c] at h ⊢
    exact Fzb.nm a l h
  · rw [if_neg c] at h ⊢
    by_cases d : skv b n a = 91
    · rw [if_pos d] at h ⊢
      have s1 : ska b n a < n := skv_l (by rw [d]; decide)
      by_cases e : z = true
      · rw [if_pos e]
        exact ska_le l
      · rw [if_neg e] at h ⊢
        have q := hf (by simpa using e)
        exact Fzb.sq q.1.l q.2 Fzb.ex _ (by omega) h
    · rw [if_neg d] at h ⊢
      exact Fzb.on a l h
theorem Fzb.tm {b : Nat → Int32} {n : Nat} {f : Rcg} (wf : Fwd b n f) (zf : Fzb b n f) : Fzb b n (trm b n f) := Fzb.sq wf.l zf (Fzb.lp (by decide) wf zf 160)
theorem Fzb.sm {b : Nat → Int32} {n : Nat} {f : Rcg} (wf : Fwd b n f) (zf : Fzb b n f) : Fzb b n (smm b n f) := Fzb.sq (trm_f wf).l (Fzb.tm wf zf) (Fzb.lp (by decide) (trm_f wf) (Fzb.tm wf zf) 160)
theorem Fzb.ss {b : Nat → Int32} {n : Nat} {lt : Int32 → Bool} (hl : lt (-1) = false) : ∀ r : Nat, Fzb b n (sms b n lt r)
  | 0 => Fzb.sm (atm_f hl (Or.inl rfl)) (Fzb.at (fun e => absurd e (by decide)))
  | r + 1 => Fzb.sm (atm_f hl (Or.inr (sms_f hl r))) (Fzb.at (fun _ => ⟨sms_f hl r, Fzb.ss hl r⟩))
theorem Fzb.cm {b : Nat → Int32} {n : Nat} {f : Rcg} (zf : Fzb b n f) : Fzb b n (cmq b n f) := fun a l h => by
  unfold cmq at h ⊢
  by_cases c : sgb (skv b n a) = true
  · rw [if_pos c] at h ⊢
    have s1 : ska b n a < n := skv_l (fun e => by rw [e] at c; exact absurd c (by decide))
    exact zf _ (by omega) h
  · rw [if_neg c]
    exact ska_le l
theorem Fzb.mu {b : Nat → Int32} {n : Nat} {u : Rcg} (wu : Fwd b n u) (zu : Fzb b n u) : Fzb b n (mun b n u) := Fzb.lp (by decide) wu zu 160
theorem Fzb.pt {b : Nat → Int32} {n : Nat} {u : Rcg} (wu : Fwd b n u) (zu : Fzb b n u) : Fzb b n (prt b n u) := Fzb.sq wu.l zu (Fzb.mu wu zu)
theorem Fzb.mp {b : Nat → Int32} {n : Nat} {u : Rcg} (wu : Fwd b n u) (zu : Fzb b n u) : Fzb b n (mpt b n u) := Fzb.sq (fun a l h => lpr_l wu 160 a l h) (Fzb.mu wu zu) (Fzb.lp (by decide) (prt_f wu) (Fzb.pt wu zu) 160)
theorem Fzb.cd {b : Nat → Int32} {n : Nat} {u : Rcg} (wu : Fwd b n u) (zu : Fzb b n u) : Fzb b n (cnd b n u) := Fzb.sq wu.l zu (Fzb.mp wu zu)
theorem Fzb.un {b : Nat → Int32} {n : Nat} {lt : Int32 → Bool} (hl : lt (-1) = false) : ∀ r : Nat, Fzb b n (unt b n lt r)
  | 0 => fun a l h => by
    unfold unt at h ⊢
    by_cases c : skv b n a = 33 ∨ skv b n a = 40
    · rw [if_pos c]
      exact ska_le l
    · rw [if_neg c] at h ⊢
      exact Fzb.sq (sms_f hl 0).l (Fzb.ss hl 0) (Fzb.cm (Fzb.ss hl 0)) a l h
  | r + 1 => fun a l h => by
    unfold unt at h ⊢
    by_cases c : skv b n a = 33
    · rw [if_pos c] at h ⊢
      have s1 : ska b n a < n := skv_l (by rw [c]; decide)
      exact Fzb.un hl r _ (by omega) h
    · rw [if_neg c] at h ⊢
      by_cases d : skv b n a = 40
      · rw [if_pos d] at h ⊢
        have s1 : ska b n a < n := skv_l (by rw [d]; decide)
        exact Fzb.sq (cnd_f (unt_f hl r)).l (Fzb.cd (unt_f hl r) (Fzb.un hl r)) Fzb.ex _ (by omega) h
      · rw [if_neg d] at h ⊢
        exact Fzb.sq (sms_f hl (r + 1)).l (Fzb.ss hl (r + 1)) (Fzb.cm (Fzb.ss hl (r + 1))) a l h
theorem Fzb.pa {b : Nat → Int32} {n : Nat} : Fzb b n (pan b n) := Fzb.sq (exr_f (by decide)).l Fzb.ex (Fzb.ss (by decide) 6)
theorem Fzb.cl {b : Nat → Int32} {n s : Nat} : Fzb b n (clq b n s) := by
  have hl : ltp (-1) = false := by decide
  unfold clq
  split
  · exact Fzb.sq (cnd_f (unt_f (by decide) 6)).l (Fzb.cd (unt_f (by decide) 6) (Fzb.un (by decide) 6)) (Fzb.sq (exr_f (by decide)).l Fzb.ex Fzb.on)
  · intro a l h
    unfold pcl_ at h ⊢
    by_cases c : skv b n a = 33 ∨ skv b n a = 40
    · rw [if_pos c] at h ⊢
      exact Fzb.sq (cnd_f (unt_f hl 6)).l (Fzb.cd (unt_f hl 6) (Fzb.un hl 6)) Fzb.pa a l h
    · rw [if_neg c] at h ⊢
      refine Fzb.sq (sms_f hl 6).l (Fzb.ss hl 6) (fun p lp hp => ?_) a l h
      by_cases d : sgb (skv b n p) = true
      · rw [if_pos d] at hp ⊢
        exact Fzb.sq (cmq_f (sms_f hl 6)).l (Fzb.cm (Fzb.ss hl 6)) (Fzb.sq (fun a l h => by
          have e := mpt_c (b := b) (n := n) (u := unt b n ltp 6) a
          rw [← e] at h ⊢
          exact (mpt_w (unt_f hl 6) _ ska_i (ska_le l) h).2.1) (Fzb.mp (unt_f hl 6) (Fzb.un hl 6)) Fzb.pa) p lp hp
      · rw [if_neg d] at hp
        exact absurd hp (by simp)
theorem fault_le {b : Nat → Int32} {n s : Nat} (hs : s = 1 ∨ s = 2) (h : (k2ru b n s 0).1 = false) : (k2ru b n s 0).2.1 ≤ n := by
  have pj := pj_ru (b := b) (n := n) hs 0
  rw [pj.1] at h
  rw [pj.2]
  exact Fzb.sq (clq_f s).l Fzb.cl (Fzb.lp (by decide) (clq_f s) Fzb.cl 160) 0 (Nat.zero_le _) h
/-! the class: clauses of pay, and whole rules, with what they put down -/
theorem c_rpce {b : Nat → Int32} {n : Nat} (d : Nat) {h : Hp_} (I : Iv h) (t : Tx b n 2 h) (cb : Cbx b n h) : Ci (m_X8_readPayClause (d + 80 + 59) 0 0) [.ref 11] h (fun r h' => Xce b n ((k2pc b n (xa h)).1, (k2pc b n (xa h)).2.1) (clX 2 (xc h) (k2pc b n (xa h)).2.2) h r h') := by
  have S0 := e_sums (b := b) (n := n) (s := 2) (Or.inr rfl) 6 (by omega)
  have S : Rxe b n 2 (k2ss b n ltp 6) (fun d h K => Ci (m_X8_readSum (d + 80 + 53) 0 0) [.ref 11, .int 0] h K) := fun d h I t cb => by
    have s6 : Ci (m_X8_readSum (d + 10 + 10 * (6 + 1) + 53) 0 0) [.ref 11, .int (Int32.ofNat (6 - 6))] h (fun q h' => Xe b n 2 (k2ss b n (ltb 2) 6 (xa h)) h q h') := S0 (d + 10) h I t cb
    rw [show d + 10 + 10 * (6 + 1) + 53 = d + 80 + 53 by omega] at s6
    exact s6
  have fs : Fwe b n (k2ss b n ltp 6) := Fwe.ss (by decide) 6
  have fu : Fwe b n (k2un b n ltp 6) := Fwe.un (by decide) 6
  have U : Rxe b n 2 (k2un b n ltp 6) (fun d h K => Ci (m_X8_readUnit (d + 80 + 55) 0 0) [.ref 11, .int 0] h K) := e_units (b := b) (n := n) (s := 2) (Or.inr rfl) 6 (by omega)
  have C := c_rcde 80 0 _ fu U
  have CM := c_rcme 80 0 _ fs S
  refine t_X8_readPayClause (d + 80) h I.1 _ (Ci.mono (c_pk (d + 80) I t) (fun r3 h1 L => ?_))
  have t1 : Tx b n 2 h1 := t.fr L.2.1 (by decide +kernel)
  have F1 : Fr wzx h h1 := L.2.1.more (by decide +kernel)
  have g3 : h_i h1 11 3 = h_i h 11 3 := fw3 L.2.1 (by decide +kernel)
  have c1 : Cdx h h1 [] := Cdx.f0 L.2.1 (by decide +kernel)
  have x1 : xc h1 = xc h := c1.1
  have cb1 : Cbx b n h1 := cb.pk L
  have e1 : k2pc b n (xa h) = k2pc b n (xa h1) := by rw [L.2.2.1, k2pc_c]
  have v1 : skv b n (xa h1) = r3 := by rw [L.2.2.1, skv_i]; exact L.2.2.2.symm
  have up : ∀ (r : Int32) (h' : Hp_), Fce b n ((k2pc b n (xa h1)).1, (k2pc b n (xa h1)).2.1) (clX 2 (xc h1) (k2pc b n (xa h1)).2.2) h1 r h' → Fce b n ((k2pc b n (xa h)).1, (k2pc b n (xa h)).2.1) (clX 2 (xc h) (k2pc b n (xa h)).2.2) h r h' := fun r h' G => by
    rw [e1, ← x1]
    exact G.b g3 c1
  have cond : (r3 = 33 ∨ r3 = 40) → Ci (m_X8_readCondition (d + 80 + 58) 0 0) [.ref 11, .int 0] h1 (fun r7 h5 => Wf h5 ∧ ((r7 = 0 → Xce b n ((k2pc b n (xa h)).1, (k2pc b n (xa h)).2.1) (clX 2 (xc h) (k2pc b n (xa h)).2.2) h 0 h5) ∧ (¬ r7 = 0 → Ci (m_X8_readPayAnswer (d + 80 + 54) 0 0) [.ref 11] h5 (fun r11 h9 => Wf h9 ∧ ((r11 = 0 → Xce b n ((k2pc b n (xa h)).1, (k2pc b n (xa h)).2.1) (clX 2 (xc h) (k2pc b n (xa h)).2.2) h 0 h9) ∧ (¬ r11 = 0 → Xce b n ((k2pc b n (xa h)).1, (k2pc b n (xa h)).2.1) (clX 2 (xc h) (k2pc b n (xa h)).2.2) h 1 h9)))))) := fun c => by
    have ea : k2pc b n (xa h1) = k2pr (k2cd b n (k2un b n ltp 6)) (k2pa b n) (xa h1) := by
      unfold k2pc
      rw [if_pos (by rw [v1]; exact c)]
    rw [ea] at up
    refine Ci.mono (C d h1 L.1 t1 cb1) (fun r7 h5 X => ⟨X.1.1, fun y0 => ⟨X.1, F1.tr X.2.1, up 0 h5 (fce_n X.2.2 y0)⟩, fun y1 => Ci.mono (c_rpae d X.1 (X.t t1) (X.2.2.cb y1 fu.cd cb1)) (fun r11 h9 Y => ?_)⟩)
    have nz : ¬ (k2cd b n (k2un b n ltp 6) (xa h1)).2.2.length = 0 := (Wty.cd (Wty.un 6) (xa h1) (X.2.2.ok y1).1).nz
    have G := fce_2 (f := k2cd b n (k2un b n ltp 6)) (g := k2pa b n) (Cne.sq Cne.ex) nz X.2.2 y1 Y.2.2
    exact ⟨Y.1.1, fun w0 => ⟨Y.1, (F1.tr X.2.1).tr Y.2.1, up 0 h9 (G.n w0)⟩, fun w1 => ⟨Y.1, (F1.tr X.2.1).tr Y.2.1, up 1 h9 (G.y w1)⟩⟩
  refine ⟨L.1.1, fun e33 => cond (Or.inl e33), fun n33 => ⟨fun n40 => ?_, fun e40 => cond (Or.inr e40)⟩⟩
  have eb : k2pc b n (xa h1) = if (k2ss b n ltp 6 (xa h1)).1 = true then (if sgb (skv b n (k2ss b n ltp 6 (xa h1)).2.1) = true then k2pr (k2p1 b n) (k2pa b n) (xa h1) else (true, (k2ss b n ltp 6 (xa h1)).2.1, ([], (k2ss b n ltp 6 (xa h1)).2.2))) else (false, (k2ss b n ltp 6 (xa h1)).2.1, ([], [])) := by
    unfold k2pc
    rw [if_neg (by rw [v1]; exact fun y => y.elim n33 n40)]
  refine Ci.mono (S d h1 L.1 t1 cb1) (fun r16 h14 X => ⟨X.1.1, fun y1 => ?_, fun y0 => ⟨X.1, F1.tr X.2.1, up 0 h14 ?_⟩⟩)
  · have ok := X.2.2.ok y1
    have t14 := X.t t1
    have F14 : Fr wzx h h14 := F1.tr X.2.1
    have cb14 : Cbx b n h14 := X.2.2.cb y1 fs cb1
    rw [eb, if_pos ok.1, ← ok.2.1, skv_i] at up
    refine Ci.mono (c_pk (d + 80) X.1 t14) (fun r20 h18 M => ⟨M.1.1, Ci.mono (c_cpx (d + 80) h18 r20) (fun r23 h21 q => ?_)⟩)
    obtain ⟨eh, q⟩ := q
    subst eh
    have t21 : Tx b n 2 h21 := t14.fr M.2.1 (by decide +kernel)
    have F21 : Fr wzx h h21 := F14.tr (M.2.1.more (by decide +kernel))
    have g21 : h_i h21 11 3 = h_i h14 11 3 := fw3 M.2.1 (by decide +kernel)
    have c21 : Cdx h14 h21 [] := Cdx.f0 M.2.1 (by decide +kernel)
    have cb21 : Cbx b n h21 := cb14.pk M
    refine ⟨M.1.1, fun q0 => ?_, fun q1 => ?_⟩
    · have ns : ¬ sgb (skv b n (xa h14)) = true := by
        rw [← M.2.2.2]
        rcases q with q | q
        · exact absurd q0 q.1
        · rw [q.2]
          decide
      rw [if_neg ns] at up
      have lc : xc h21 < 164 := by
        have z := ok.2.2.2.1
        rw [List.length_map] at z
        have q := cb1.em L.1 t1 fs ok.1
        have z2 : xc h21 = xc h14 := c21.1
        omega
      refine Cv.mono (c_ec0 (d + 80) M.1 lc) (fun h25 k => ⟨k.1.1, k.1, F21.tr (k.2.1.more (by decide +kernel)), up 1 h25 (Or.inl ⟨rfl, rfl, ?_, ?_, ?_⟩)⟩)
      · show ska b n (h_i h25 11 2).toNatClampNeg = ska b n (xa h14)
        rw [(k.2.1.2 11 2 (by decide +kernel)).1]
        show ska b n (xa h21) = _
        rw [M.i, M.2.2.1]
      · rw [(k.2.1.2 11 3 (by decide +kernel)).1, g21]
        exact ok.2.2.1
      · show Cdx h1 h25 (clX 2 (xc h1) ([], (k2ss b n ltp 6 (xa h1)).2.2))
        exact (ok.2.2.2.fr M.2.1 (by decide +kernel)).tr k.2.2
    · have ys : sgb (skv b n (xa h14)) = true := by
        rw [← M.2.2.2]
        rcases q with q | q
        · exact q.2.1
        · exact absurd q.1 q1
      rw [if_pos ys] at up
      have fcm : Fwe b n (k2cm b n (k2ss b n ltp 6)) := fs.cm
      have join : ∀ (r : Int32) (h' : Hp_), Fxe b n 2 (k2sq (k2cm b n (k2ss b n ltp 6)) (k2mp b n (k2un b n ltp 6)) (xa h21)) h21 r h' → Fxe b n 2 (k2p1 b n (xa h1)) h1 r h' := fun r h' G => by
        rw [M.2.2.1, Cne.sq Cne.cm] at G
        exact sqe2 (g := k2sq (k2cm b n (k2ss b n ltp 6)) (k2mp b n (k2un b n ltp 6))) (Cne.sq Cne.cm) X.2.2 y1 (G.b g21 c21)
      refine Ci.mono (CM d h21 M.1 t21 cb21) (fun r30 h28 Y => ⟨Y.1.1, fun w0 => ⟨Y.1, F21.tr Y.2.1, up 0 h28 (fce_n (join 0 h28 (sqen Y.2.2 w0)) rfl)⟩, fun w1 => ?_⟩)
      have okY := Y.2.2.ok w1
      have cb28 : Cbx b n h28 := Y.2.2.cb w1 fcm cb21
      refine Ci.mono (c_rmpe 80 0 _ fu U d h28 Y.1 (Y.t t21) cb28 (xa_n Y.2.2 w1 (fcm _ okY.1).2.1)) (fun r34 h32 Z => ⟨Z.1.1, fun z0 => ⟨Z.1, (F21.tr Y.2.1).tr Z.2.1, up 0 h32 (fce_n (join r34 h32 (sqe2 Cne.mp Y.2.2 w1 Z.2.2)) z0)⟩, fun z1 => ?_⟩)
      have J := join r34 h32 (sqe2 Cne.mp Y.2.2 w1 Z.2.2)
      have cb32 : Cbx b n h32 := J.cb z1 Fwe.p1 cb1
      refine Ci.mono (c_rpae d Z.1 (Z.t (Y.t t21)) cb32) (fun r38 h36 V => ?_)
      have nz : ¬ (k2p1 b n (xa h1)).2.2.length = 0 := ((Wty.ss 6).cp ((Wcp.cm (Wty.ss 6)).sw (Wsw.mp (Wty.un 6))) (xa h1) (J.ok z1).1).nz
      have G := fce_2 (f := k2p1 b n) (g := k2pa b n) (Cne.sq Cne.ex) nz J z1 V.2.2
      exact ⟨V.1.1, fun v0 => ⟨V.1, ((F21.tr Y.2.1).tr Z.2.1).tr V.2.1, up 0 h36 (G.n v0)⟩, fun v1 => ⟨V.1, ((F21.tr Y.2.1).tr Z.2.1).tr V.2.1, up 1 h36 (G.y v1)⟩⟩
  · rcases X.2.2.n y0 with G | G
    · exact absurd G.1 (by decide)
    · rw [eb, if_neg (by rw [G.2.1]; decide)]
      exact Or.inr ⟨rfl, rfl, G.2.2⟩
/-! rules -/
def Fre (b : Nat → Int32) (n s : Nat) (T : Bool × Nat × List Cl2) (h0 : Hp_) (r : Int32) (h : Hp_) : Prop := (r = 1 ∧ T.1 = true ∧ ska b n (xa h) = T.2.1 ∧ h_i h 11 3 = h_i h0 11 3 ∧ Cdx h0 h (rlX s 0 T.2.2)) ∨ (r = 0 ∧ T.1 = false ∧ h_i h 11 3 = Int32.ofNat T.2.1)
def Sre (b : Nat → Int32) (n s : Nat) (T : Bool × Nat × List Cl2) (g : Rcf Cl2) (h0 : Hp_) (x : Int32) (h : Hp_) : Prop := (x = 1 ∧ (∃ C : List Cl2, T = k2pre C (g (xa h)) ∧ Cdx h0 h (rlX s 0 C)) ∧ Cbx b n h ∧ h_i h 11 3 = h_i h0 11 3) ∨ (x = 0 ∧ T.1 = false ∧ h_i h 11 3 = Int32.ofNat T.2.1)
theorem sre_1 {b : Nat → Int32} {n s : Nat} {g : Rcf Cl2} {h0 : Hp_} {r : Int32} {h : Hp_} (c : Cne b n g) (a0 : xa h0 = 0) (x0 : xc h0 = 0) (F : Fce b n ((k2c b n s (xa h0)).1, (k2c b n s (xa h0)).2.1) (clX s (xc h0) (k2c b n s (xa h0)).2.2) h0 r h) : Sre b n s (k2sq (k21 (k2c b n s)) g 0) g h0 r h := by
  rw [a0, x0] at F
  rcases F with F | F
  · have y : (k21 (k2c b n s) 0).1 = true := F.2.1
    have p : ska b n (xa h) = (k21 (k2c b n s) 0).2.1 := F.2.2.1
    refine Or.inl ⟨F.1, ⟨[(k2c b n s 0).2.2], ?_, ?_⟩, ?_, F.2.2.2.1⟩
    · unfold k2sq
      rw [if_pos y, ← p, c]
      rfl
    · show Cdx h0 h (clX s 0 (k2c b n s 0).2.2 ++ [])
      rw [List.append_nil]
      exact F.2.2.2.2
    · have z := F.2.2.2.2.1
      rw [clX_l, x0] at z
      have q := Fwc.c (s := s) 0 F.2.1
      have p' : ska b n (xa h) = (k2c b n s 0).2.1 := p
      unfold Cbx
      omega
  · have e : k2sq (k21 (k2c b n s)) g 0 = k21 (k2c b n s) 0 := by
      unfold k2sq
      exact if_neg (by rw [show (k21 (k2c b n s) 0).1 = false from F.2.1]; decide)
    rw [e]
    exact Or.inr F
theorem Sre.ok {b : Nat → Int32} {n s : Nat} {T : Bool × Nat × List Cl2} {g : Rcf Cl2} {h0 : Hp_} {x : Int32} {h : Hp_} (F : Sre b n s T g h0 x h) (e : ¬ x = 0) : x = 1 ∧ (∃ C : List Cl2, T = k2pre C (g (xa h)) ∧ Cdx h0 h (rlX s 0 C)) ∧ Cbx b n h ∧ h_i h 11 3 = h_i h0 11 3 := by
  rcases F with F | F
  · exact F
  · exact absurd F.1 e
theorem Sre.n {b : Nat → Int32} {n s : Nat} {T : Bool × Nat × List Cl2} {g : Rcf Cl2} {h0 : Hp_} {x : Int32} {h : Hp_} (F : Sre b n s T g h0 x h) (e : x = 0) : Fre b n s T h0 0 h := by
  rcases F with F | F
  · rw [e] at F
    exact absurd F.1 (by decide)
  · exact Or.inr ⟨rfl, F.2⟩
theorem lre_0 {b : Nat → Int32} {n s : Nat} {T : Bool × Nat × List Cl2} {sp : Int32 → Bool} {op : Int32 → List Cl2} {f : Rcf Cl2} {h0 : Hp_} {x : Int32} {h : Hp_} (F : Sre b n s T (k2lp b n sp op f 0) h0 x h) : Fre b n s T h0 x h := by
  rcases F with ⟨e, ⟨C, e1, c⟩, _, e3⟩ | F
  · refine Or.inl ⟨e, by rw [e1]; rfl, by rw [e1]; rfl, e3, ?_⟩
    rw [e1]
    show Cdx h0 h (rlX s 0 (C ++ []))
    rw [List.append_nil]
    exact c
  · exact Or.inr F
theorem lre_x {b : Nat → Int32} {n s k : Nat} {T : Bool × Nat × List Cl2} {sp : Int32 → Bool} {op : Int32 → List Cl2} {f : Rcf Cl2} {h0 : Hp_} {x r : Int32} {h h5 : Hp_} (F : Sre b n s T (k2lp b n sp op f (k + 1)) h0 x h) (w : ¬ x = 0) (L : Pk b n h r h5) (ns : sp r = false) : Fre b n s T h0 x h5 := by
  obtain ⟨e, ⟨C, e1, c⟩, _, e3⟩ := F.ok w
  have e2 : k2lp b n sp op f (k + 1) (xa h) = (true, ska b n (xa h), []) := by
    unfold k2lp
    exact if_neg (by rw [← L.2.2.2, ns]; decide)
  rw [e2] at e1
  refine Or.inl ⟨e, by rw [e1]; rfl, by rw [e1, L.i, L.2.2.1]; rfl, by rw [(L.2.1.2 11 3 (by decide +kernel)).1]; exact e3, ?_⟩
  rw [e1]
  show Cdx h0 h5 (rlX s 0 (C ++ []))
  rw [List.append_nil]
  exact c.fr L.2.1 (by decide +kernel)
theorem lre_s {b : Nat → Int32} {n s k : Nat} {T : Bool × Nat × List Cl2} {sp : Int32 → Bool} {h0 : Hp_} {x r r9 : Int32} {h h6 h9 : Hp_} (x0 : xc h0 = 0) (F : Sre b n s T (k2lp b n sp (fun _ => []) (k21 (k2c b n s)) (k + 1)) h0 x h) (w : ¬ x = 0) (er : r = skv b n (xa h)) (ys : sp r = true) (e6 : h_i h6 11 3 = h_i h 11 3) (c6 : Cdx h h6 []) (a6 : xa h6 = ska b n (xa h) + 1) (G : Fce b n ((k2c b n s (xa h6)).1, (k2c b n s (xa h6)).2.1) (clX s (xc h6) (k2c b n s (xa h6)).2.2) h6 r9 h9) : Sre b n s T (k2lp b n sp (fun _ => []) (k21 (k2c b n s)) k) h0 r9 h9 := by
  obtain ⟨_, ⟨C, e1, c⟩, cb, e3⟩ := F.ok w
  have e2 : k2lp b n sp (fun _ => []) (k21 (k2c b n s)) (k + 1) (xa h) = if (k21 (k2c b n s) (ska b n (xa h) + 1)).1 = true then k2pre ((k21 (k2c b n s) (ska b n (xa h) + 1)).2.2 ++ []) (k2lp b n sp (fun _ => []) (k21 (k2c b n s)) k (k21 (k2c b n s) (ska b n (xa h) + 1)).2.1) else k21 (k2c b n s) (ska b n (xa h) + 1) := by
    show (if sp (skv b n (xa h)) = true then _ else _) = _
    rw [if_pos (by rw [← er]; exact ys)]
  rw [e2, List.append_nil] at e1
  have x6 : xc h6 = xc h := c6.1
  have xh : xc h = rlN C := by
    have z := c.1
    rw [rlX_l, x0, Nat.zero_add] at z
    exact z
  have gg := ska_ge (b := b) (n := n) (a := xa h6)
  rw [a6] at G
  rcases G with ⟨g1, g2, g3, g4, g5⟩ | ⟨g1, g2, g3⟩
  · have g2 : (k21 (k2c b n s) (ska b n (xa h) + 1)).1 = true := g2
    have g3 : ska b n (xa h9) = (k21 (k2c b n s) (ska b n (xa h) + 1)).2.1 := g3
    rw [if_pos g2, ← g3, Cne.lp k, k2pre_a] at e1
    refine Or.inl ⟨g1, ⟨_, e1, ?_⟩, ?_, (g4.trans e6).trans e3⟩
    · show Cdx h0 h9 (rlX s 0 (C ++ [(k2c b n s (ska b n (xa h) + 1)).2.2]))
      rw [rlX_a]
      have z := c.tr (c6.tr g5)
      rw [x6, xh] at z
      show Cdx h0 h9 (rlX s 0 C ++ (clX s (0 + rlN C) (k2c b n s (ska b n (xa h) + 1)).2.2 ++ []))
      rw [List.append_nil, Nat.zero_add]
      exact z
    · have z := g5.1
      rw [clX_l, x6] at z
      have q := Fwc.c (s := s) (ska b n (xa h) + 1) g2
      have p' : ska b n (xa h9) = (k2c b n s (ska b n (xa h) + 1)).2.1 := g3
      have g := ska_ge (b := b) (n := n) (a := ska b n (xa h) + 1)
      unfold Cbx at cb ⊢
      omega
  · have g2 : (k21 (k2c b n s) (ska b n (xa h) + 1)).1 = false := g2
    rw [if_neg (by rw [g2]; decide)] at e1
    refine Or.inr ⟨g1, by rw [e1]; exact g2, ?_⟩
    rw [e1]
    exact g3
/-- the code of a rule stands in the reader -/
def Crx (s : Nat) (C : List Cl2) (h : Hp_) : Prop := xc h = rlN C ∧ ∀ i v, (rlX s 0 C)[i]? = some v → h_i h 33 i = v
theorem c_rre {b : Nat → Int32} {n : Nat} (s : Nat) (hs : s = 1 ∨ s = 2) (d : Nat) {h : Hp_} (I : Iv h) (hb : h_i h 31 = b) (hn : xn h = n) (x1 : Int32) (hx : (x1 = 0 ∧ s = 2) ∨ (¬ x1 = 0 ∧ s = 1)) : Ci (m_X8_readRule (d + 80 + 60) 0 0) [.ref 11, .int x1] h (fun r h' => r = h_i h' 11 3 ∧ Iv h' ∧ Fr wzr h h' ∧ h_i h' 11 3 = enq b n (ruq b n (clq b n s)) ∧ (h_i h' 11 3 = -1 → (k2ru b n s 0).1 = true ∧ Crx s (k2ru b n s 0).2.2 h')) := by
  have pj := pj_ru (b := b) (n := n) hs 0
  have cl : ∀ (d : Nat) (h : Hp_), Iv h → Tx b n s h → Cbx b n h → (x1 = 0 → Ci (m_X8_readPayClause (d + 80 + 59) 0 0) [.ref 11] h (fun r h' => Xce b n ((k2c b n s (xa h)).1, (k2c b n s (xa h)).2.1) (clX s (xc h) (k2c b n s (xa h)).2.2) h r h')) ∧ (¬ x1 = 0 → Ci (m_X8_readActClause (d + 80 + 59) 0 0) [.ref 11] h (fun r h' => Xce b n ((k2c b n s (xa h)).1, (k2c b n s (xa h)).2.1) (clX s (xc h) (k2c b n s (xa h)).2.2) h r h')) := fun d h I t cb => by
    rcases hx with u | u
    · obtain ⟨u, v⟩ := u
      subst v
      exact ⟨fun _ => c_rpce d I t cb, fun y => absurd u y⟩
    · obtain ⟨u, v⟩ := u
      subst v
      exact ⟨fun y => absurd y u, fun _ => c_race d I t cb⟩
  have body : ∀ h0, Iv h0 → Fr wzr h h0 → Tx b n s h0 → xa h0 = 0 → xc h0 = 0 → h_i h0 11 3 = -1 → ∀ (k : Nat) (x2 x3 : Int32) (h2 : Hp_), x3.toInt + k = 160 → Iv h2 → Fr wzx h0 h2 → Sre b n s (k2ru b n s 0) (k2lp b n (isq 59) (fun _ => []) (k21 (k2c b n s)) k) h0 x2 h2 → AW (m_X8_readRule (d + 80 + 60) 0 0) 0 0 33 [(0, .ref 11), (1, .int x1), (2, .int x2), (3, .int x3)] [] h2 (kI (fun r h' => r = h_i h' 11 3 ∧ Iv h' ∧ Fr wzr h h' ∧ h_i h' 11 3 = enq b n (ruq b n (clq b n s)) ∧ (h_i h' 11 3 = -1 → (k2ru b n s 0).1 = true ∧ Crx s (k2ru b n s 0).2.2 h'))) := by
    intro h0 I0 F0 t0 a0 x0 w0
    have n160 : n ≤ 160 := by
      have a := xn_i I0
      rw [t0.2.1] at a
      have c := (x1_in I0).2
      omega
    have fin0 : ∀ h3, Iv h3 → Fr wzx h0 h3 → Fre b n s (k2ru b n s 0) h0 0 h3 → (h_i h3 11 3 = h_i h3 11 3 ∧ Iv h3 ∧ Fr wzr h h3 ∧ h_i h3 11 3 = enq b n (ruq b n (clq b n s)) ∧ (h_i h3 11 3 = -1 → (k2ru b n s 0).1 = true ∧ Crx s (k2ru b n s 0).2.2 h3)) := fun h3 I3 F3 G => by
      rcases G with G | G
      · exact absurd G.1 (by decide)
      · have e : h_i h3 11 3 = enq b n (ruq b n (clq b n s)) := by
          unfold enq
          rw [if_neg (by rw [← pj.1, G.2.1]; decide), ← pj.2]
          exact G.2.2
        refine ⟨rfl, I3, F0.tr (F3.more (by decide +kernel)), e, fun y => ?_⟩
        have p160 : (k2ru b n s 0).2.1 ≤ 160 := by
          have q := fault_le (b := b) (n := n) hs G.2.1
          omega
        exact absurd (G.2.2.symm.trans y) (on_mm p160)
    have fin1 : ∀ h3 x, Iv h3 → Fr wzx h0 h3 → ¬ x = 0 → Fre b n s (k2ru b n s 0) h0 x h3 → Ci (m_X8_peek (d + 80 + 0) 0 0) [.ref 11] h3 (fun r26 h24 => Wf h24 ∧ ((r26 = (-1) → (h_i h24 11 3 = h_i h24 11 3 ∧ Iv h24 ∧ Fr wzr h h24 ∧ h_i h24 11 3 = enq b n (ruq b n (clq b n s)) ∧ (h_i h24 11 3 = -1 → (k2ru b n s 0).1 = true ∧ Crx s (k2ru b n s 0).2.2 h24))) ∧ (¬ r26 = (-1) → Ci (m_X8_fail (d + 80 + 0) 0 0) [.ref 11] h24 (fun r30 h28 => Wf h28 ∧ (h_i h28 11 3 = h_i h28 11 3 ∧ Iv h28 ∧ Fr wzr h h28 ∧ h_i h28 11 3 = enq b n (ruq b n (clq b n s)) ∧ (h_i h28 11 3 = -1 → (k2ru b n s 0).1 = true ∧ Crx s (k2ru b n s 0).2.2 h28)))))) := fun h3 x I3 F3 nx G => by
      have ok : (k2ru b n s 0).1 = true ∧ ska b n (xa h3) = (k2ru b n s 0).2.1 ∧ h_i h3 11 3 = h_i h0 11 3 ∧ Cdx h0 h3 (rlX s 0 (k2ru b n s 0).2.2) := by
        rcases G with G | G
        · exact G.2
        · exact absurd G.1 nx
      have t3 : Tx b n s h3 := t0.fr F3 (by decide +kernel)
      have y1 : (ruq b n (clq b n s) 0).1 = true := by rw [← pj.1]; exact ok.1
      have y2 : ska b n (xa h3) = (ruq b n (clq b n s) 0).2 := by rw [← pj.2]; exact ok.2.1
      refine Ci.mono (c_pk (d + 80) I3 t3) (fun r h5 L => ⟨L.1.1, fun em => ⟨rfl, L.1, F0.tr ((F3.tr (L.2.1.more (by decide +kernel))).more (by decide +kernel)), ?_, fun _ => ⟨ok.1, ?_⟩⟩, fun nm => Ci.mono (c_fl (d + 80) L.1) (fun r2 h6 k => ⟨k.2.1.1, rfl, k.2.1, F0.tr ((F3.tr ((L.2.1.more (by decide +kernel)).tr (k.2.2.1.more (by decide +kernel)))).more (by decide +kernel)), ?_, fun y => ?_⟩)⟩)
      · have nl := ska_0 (L.2.2.2.symm.trans em) (fun k _ => b_nm I0 t0 k)
        unfold enq
        rw [if_pos y1, ← y2, if_neg nl, fw3 L.2.1 (by decide +kernel), ok.2.2.1]
        exact w0
      · have z := ok.2.2.2.fr L.2.1 (by decide +kernel)
        have z1 := z.1
        rw [rlX_l, x0, Nat.zero_add] at z1
        refine ⟨z1, fun i v e => ?_⟩
        have q := z.2.2 i v e
        rw [x0, Nat.zero_add] at q
        exact q
      · have l := skv_l (by rw [← L.2.2.2]; exact nm)
        unfold enq
        rw [if_pos y1, ← y2, if_pos l, k.2.2.2, L.2.2.1]
      · have l : ska b n (xa h3) < n := skv_l (by rw [← L.2.2.2]; exact nm)
        rw [k.2.2.2, L.2.2.1] at y
        exact absurd y (on_mm (by omega))
    intro k
    induction k with
    | zero =>
      intro x2 x3 h2 m I2 F2 S
      refine t_X8_readRule_33 (d + 80) h2 I2.1 x1 x2 x3 _ ⟨fun _ => ⟨fun y0 => fin0 h2 I2 F2 (S.n y0), fun y1 => fin1 h2 x2 I2 F2 y1 (lre_0 S)⟩, fun z => absurd ((x160 m).1 rfl) z⟩
    | succ k ih =>
      intro x2 x3 h2 m I2 F2 S
      have t2 : Tx b n s h2 := t0.fr F2 (by decide +kernel)
      refine t_X8_readRule_33 (d + 80) h2 I2.1 x1 x2 x3 _ ⟨fun z => absurd z ((x160 m).2 (by omega)), fun _ => ⟨fun y0 => ⟨fun _ => fin0 h2 I2 F2 (S.n y0), fun y1 => absurd y0 y1⟩, fun y1 => Ci.mono (c_pk (d + 80) I2 t2) (fun r h5 L => ⟨L.1.1, fun nr => ⟨fun y0 => absurd y0 y1, fun _ => fin1 h5 x2 L.1 (F2.tr (L.2.1.more (by decide +kernel))) y1 (lre_x S y1 L (decide_eq_false nr))⟩, fun er => ?_⟩)⟩⟩
      obtain ⟨I6, F6, a6⟩ := nxx I2 t2 L (by rw [er]; decide)
      have C := cl d _ I6 (t2.fr F6 (by decide +kernel)) ((S.ok y1).2.2.1.nx F6 a6)
      have go : ∀ r15 h13, Xce b n ((k2c b n s (xa (h_im h5 11 2 ((h_i h5 11 2) + 1)))).1, (k2c b n s (xa (h_im h5 11 2 ((h_i h5 11 2) + 1)))).2.1) (clX s (xc (h_im h5 11 2 ((h_i h5 11 2) + 1))) (k2c b n s (xa (h_im h5 11 2 ((h_i h5 11 2) + 1)))).2.2) (h_im h5 11 2 ((h_i h5 11 2) + 1)) r15 h13 → Wf h13 ∧ AW (m_X8_readRule (d + 80 + 60) 0 0) 0 0 33 [(0, .ref 11), (1, .int x1), (2, .int r15), (3, .int (x3 + 1))] [] h13 (kI (fun r h' => r = h_i h' 11 3 ∧ Iv h' ∧ Fr wzr h h' ∧ h_i h' 11 3 = enq b n (ruq b n (clq b n s)) ∧ (h_i h' 11 3 = -1 → (k2ru b n s 0).1 = true ∧ Crx s (k2ru b n s 0).2.2 h'))) := fun r15 h13 X => ⟨X.1.1, ih r15 (x3 + 1) h13 (x161 m) X.1 (F2.tr ((F6.more (by decide +kernel)).tr X.2.1)) (lre_s x0 S y1 L.2.2.2 (decide_eq_true er) (fw3 F6 (by decide +kernel)) (Cdx.f0 F6 (by decide +kernel)) a6 X.2.2)⟩
      exact ⟨fun y => Ci.mono (C.1 y) go, fun y => Ci.mono (C.2 y) go⟩
  have st : ∀ i, i = s → Cv (m_X8_restart (d + 80 + 0) 0 0) [.ref 11, .ref (1000 + i)] h (fun h2 => Wf h2 ∧ ((x1 = 0 → Ci (m_X8_readPayClause (d + 80 + 59) 0 0) [.ref 11] h2 (fun r8 h6 => Wf h6 ∧ (AW (m_X8_readRule (d + 80 + 60) 0 0) 0 0 33 [(0, .ref 11), (1, .int x1), (2, .int r8), (3, .int 0)] [] h6 (kI (fun r h' => r = h_i h' 11 3 ∧ Iv h' ∧ Fr wzr h h' ∧ h_i h' 11 3 = enq b n (ruq b n (clq b n s)) ∧ (h_i h' 11 3 = -1 → (k2ru b n s 0).1 = true ∧ Crx s (k2ru b n s 0).2.2 h')))))) ∧ (¬ x1 = 0 → Ci (m_X8_readActClause (d + 80 + 59) 0 0) [.ref 11] h2 (fun r11 h9 => Wf h9 ∧ (AW (m_X8_readRule (d + 80 + 60) 0 0) 0 0 33 [(0, .ref 11), (1, .int x1), (2, .int r11), (3, .int 0)] [] h9 (kI (fun r h' => r = h_i h' 11 3 ∧ Iv h' ∧ Fr wzr h h' ∧ h_i h' 11 3 = enq b n (ruq b n (clq b n s)) ∧ (h_i h' 11 3 = -1 → (k2ru b n s 0).1 = true ∧ Crx s (k2ru b n s 0).2.2 h')))))))) := fun i ei => by
    subst ei
    refine Cv.mono (c_rst (d + 80) I i (by omega)) (fun h2 k => ?_)
    have t2 : Tx b n i h2 := ⟨(funext (fun j => fr_i k.2.1 (by decide +kernel) j)).trans hb, by show (h_i h2 11 1).toNatClampNeg = n; rw [(k.2.1.2 11 1 (by decide +kernel)).1]; exact hn, k.2.2.2.2.1⟩
    have a2 : xa h2 = 0 := by
      show (h_i h2 11 2).toNatClampNeg = 0
      rw [k.2.2.1]
      rfl
    have x2 : xc h2 = 0 := by
      show (h_i h2 11 9).toNatClampNeg = 0
      rw [k.2.2.2.2.2.2.2]
      rfl
    have F2 : Fr wzr h h2 := k.2.1.more (by decide +kernel)
    have C := cl d h2 k.1 t2 (by unfold Cbx; omega)
    have go : ∀ r8 h6, Xce b n ((k2c b n i (xa h2)).1, (k2c b n i (xa h2)).2.1) (clX i (xc h2) (k2c b n i (xa h2)).2.2) h2 r8 h6 → Wf h6 ∧ AW (m_X8_readRule (d + 80 + 60) 0 0) 0 0 33 [(0, .ref 11), (1, .int x1), (2, .int r8), (3, .int 0)] [] h6 (kI (fun r h' => r = h_i h' 11 3 ∧ Iv h' ∧ Fr wzr h h' ∧ h_i h' 11 3 = enq b n (ruq b n (clq b n i)) ∧ (h_i h' 11 3 = -1 → (k2ru b n i 0).1 = true ∧ Crx i (k2ru b n i 0).2.2 h'))) := fun r8 h6 X => ⟨X.1.1, body h2 k.1 F2 t2 a2 x2 k.2.2.2.1 160 r8 0 h6 (by decide) X.1 X.2.1 (sre_1 (Cne.lp 160) a2 x2 X.2.2)⟩
    exact ⟨k.1.1, fun y => Ci.mono (C.1 y) go, fun y => Ci.mono (C.2 y) go⟩
  refine t_X8_readRule (d + 80) h I.1 x1 _ ⟨fun y => ?_, fun y => ?_⟩
  · refine st 2 ?_
    rcases hx with u | u
    · exact u.2.symm
    · exact absurd y u.1
  · refine st 1 ?_
    rcases hx with u | u
    · exact absurd u.1 y
    · exact u.2.symm
end
