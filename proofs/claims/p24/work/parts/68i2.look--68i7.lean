section
/-! LOOKS, the class: see, look, tellNoted; what the men's machine wants of them -/
theorem up1_2 (M : Nat → Int32) (k : Nat) (x y : Int32) : up1 (up1 M k x) k y = up1 M k y := funext (fun j => by
  by_cases e : j = k
  · rw [e, up1_at, up1_at]
  · rw [up1_ne e, up1_ne e, up1_ne e])
theorem look_hi {a : Nat} (h1 : 401 ≤ a) (k : Nat) : inw wz_X11_look a k = false := by
  refine off_inw ?_ k
  unfold off
  refine List.all_eq_true.mpr (fun w hw => ?_)
  have z : wz_X11_look.all (fun w => decide (w ≤ 72999)) = true := by decide
  have y := of_decide_eq_true (List.all_eq_true.mp z w hw)
  have c : 401 ≤ cn a := by
    unfold cn
    cases Nat.ble 401 a && Nat.ble a 412 with
    | true => exact Nat.le_refl _
    | false => exact h1
  have b : Nat.ble (w + 1) (1000 * cn a) = true := Nat.ble_eq_true_of_le (by omega)
  rw [b, Bool.true_or]
/-- a sighting before it is judged: rows of h1 out of those of h -/
theorem c_seeX (d : Nat) {E : Enl} {b : Bl} {h : Hp_} (I : Iv h) (P : PBl E b h) {j : Nat} (hj : j < E.2.2.1) (hc : Cn h (401 + j)) {f : Nat} (hf : (f : Int) < (h_i h 17 7).toInt) {n : Int32} (en : h_i h 0 0 = n) {pl : Nat → Int32} (ep : (fun k => h_i h (401 + k) 5) = pl) (cs : csn f (pl j) n b) : Cv (m_X11_see (d + 4) 0 0) [.ref 0, .ref (401 + j), .int (Int32.ofNat f)] h (fun h' => Iv h' ∧ Fr wz_X11_look h h' ∧ PBl E (sg1 E j n pl f b) h') := by
  obtain ⟨pS, ⟨r17, r18, r62, r63, r64, r65, r66, r67, r68, r69, r70, r71, r72⟩, pE⟩ := P
  have r := iq17 I
  have hm := pE.1 j hj
  have n300 : ¬ 300 ≤ h_i h 17 16 := by rw [r17]; exact cs.1
  have n3 := q_nle n300
  have t300 : (300 : Int32).toInt = 300 := rfl
  have t1 : (1 : Int32).toInt = 1 := rfl
  have b9 : 0 ≤ (h_i h 17 16).toInt ∧ (h_i h 17 16).toInt ≤ 299 := ⟨r.2.1, by omega⟩
  have e16 : (h_i h 17 16 + 1).toInt = (h_i h 17 16).toInt + 1 := by rw [tx_add (by rw [t1]; omega) (by rw [t1]; omega), t1]
  have s57 := pS 57 (by decide)
  have s58 := pS 58 (by decide)
  have s59 := pS 59 (by decide)
  have s61 := pS 61 (by decide)
  have s37 := pS 37 (by decide)
  have s38 := pS 38 (by decide)
  have s13 := pS 13 (by decide)
  have s21 := pS 21 (by decide)
  have s104 := pS 104 (by decide)
  have s105 := pS 105 (by decide)
  have s106 := pS 106 (by decide)
  have s107 := pS 107 (by decide)
  refine t_X11_see d h I.1 (401 + j) hc.2.2 (by omega) _ _ (Ci.mono (c_wrt d I hf n300 _ _) (fun r3 h1 k1 => ?_))
  obtain ⟨er3, I1, F1, w17, w62, w64, w65, w66, w67, w68, w69, w70⟩ := k1
  subst er3
  have sh1 : h_sh h1 (401 + j) = some (12, 17) := by rw [F1.1]; exact hc.2.2
  have u16 : h_i h1 17 16 = h_i h 17 16 + 1 := by rw [w17, up1_at]
  have lt1 : 0 ≤ (h_i h 17 16).toInt ∧ (h_i h 17 16).toInt < (h_i h1 17 16).toInt := ⟨b9.1, by rw [u16, e16]; omega⟩
  have m1 : ∀ k, h_i h1 (401 + j) k = h_i h (401 + j) k := fun k => (F1.2 (401 + j) k (inw_sub (a := wz_X4_write) (b := wz_X11_look) (by decide +kernel) (look_hi (by omega) k))).1
  have n1 : h_i h1 0 0 = n := by rw [(F1.2 0 0 (by decide +kernel)).1]; exact en
  refine ⟨I1.1, sh1, Ci.mono (c_cls d I1 ⟨hc.1, hc.2.1, sh1⟩ _ _) (fun r7 h5 k5 => ?_)⟩
  obtain ⟨e7, e5⟩ := k5
  subst e5
  rw [m1, m1, hm.1, hm.2.1, n1, en, funext (fun k => fr_i F1 (a := 104) (by decide +kernel) k), funext (fun k => fr_i F1 (a := 105) (by decide +kernel) k), funext (fun k => fr_i F1 (a := 106) (by decide +kernel) k), funext (fun k => fr_i F1 (a := 107) (by decide +kernel) k), fr_i F1 (a := 21) (by decide +kernel) 4, s104, s105, s106, s107, s21] at e7
  have e7 : r7 = rkB E j n b := e7
  refine ⟨I1.1, sh1, Cv.mono (c_sl d I1 lt1 5 (t := 5) rfl (by decide) r7) (fun h9 k9 => ?_)⟩
  obtain ⟨I9, e9⟩ := k9
  have F9 : Fr wz_X4_write h h9 := by rw [e9]; exact F1.im (inw_row (by decide +kernel) _)
  have sh9 : h_sh h9 (401 + j) = some (12, 17) := by rw [F9.1]; exact hc.2.2
  have pl9 : (fun k => h_i h9 (401 + k) 5) = pl := by
    rw [← ep]
    exact funext (fun k => (F9.2 (401 + k) 5 (inw_sub (a := wz_X4_write) (b := wz_X11_look) (by decide +kernel) (look_hi (by omega) 5))).1)
  have P9 : PE E h9 := pE.fr F9 (by decide +kernel)
  refine ⟨I9.1, sh9, Ci.mono (c_cma d I9 P9.2.1.1 P9.2.1.2 (fun j hj => (P9.1 j hj).2.2) _) (fun r15 h13 k13 => ?_)⟩
  obtain ⟨e13, e15⟩ := k13
  subst e13
  rw [pl9, show h_i h13 (401 + j) 5 = pl j from congrFun pl9 j] at e15
  have u9 : h_i h13 17 16 = h_i h5 17 16 := by rw [e9]; exact im_ne (by decide)
  refine ⟨I9.1, sh9, Cv.mono (c_sl d I9 ⟨lt1.1, by rw [u9]; exact lt1.2⟩ 6 (t := 6) rfl (by decide) r15) (fun h17 k17 => ?_)⟩
  obtain ⟨I17, e17⟩ := k17
  have F17 : Fr wz_X4_write h h17 := by rw [e17]; exact F9.im (inw_row (by decide +kernel) _)
  have sh17 : h_sh h17 (401 + j) = some (12, 17) := by rw [F17.1]; exact hc.2.2
  have P17 : PE E h17 := pE.fr F17 (by decide +kernel)
  have o17 : ∀ a, a ≠ 70 → h_i h17 a = h_i h5 a := fun a na => by rw [e17, im_oth na, e9, im_oth na]
  have nsb : nsB (h_i h) = nsB b := by show (h_i h 17 16).toNatClampNeg = _; rw [r17]
  have L70 : h_i h17 70 = lrB E j n pl f b := by
    rw [e17, im_row, e9, im_row, w70, e7, e15, nsb, s57, s61, s58, r62, s59, r70, show (h_i h 17 16).toNatClampNeg = nsB b from nsb, en]
    rfl
  refine ⟨I17.1, sh17, Ci.mono (c_inf d I17 _ _) (fun r23 h21 k21 => ?_)⟩
  obtain ⟨e21, e23⟩ := k21
  subst e21
  refine ⟨I17.1, sh17, Ci.mono (c_lenf d 1 (by decide) h21) (fun r27 h25 k25 => ?_)⟩
  obtain ⟨e27, e25⟩ := k25
  subst e25
  have e27 : r27 = 9 := e27
  rw [e27, e23]
  refine ⟨I17.1, sh17, Ci.mono (c_ans d (E := E) I17 P17.2.2.2 b9 _ _) (fun r31 h29 k29 => ?_)⟩
  obtain ⟨I29, F29, e31⟩ := k29
  have n17 : h_i h25 0 0 = n := by rw [(F17.2 0 0 (by decide +kernel)).1]; exact en
  have q31 : r31 = dnB E j n pl f b := by
    rw [e31, n17, en, L70]
    unfold dnB evB foB
    rw [o17 37 (by decide), o17 38 (by decide), o17 13 (by decide), funext (fun k => fr_i F1 (a := 37) (by decide +kernel) k), funext (fun k => fr_i F1 (a := 38) (by decide +kernel) k), fr_i F1 (a := 13) (by decide +kernel) 5, s37, s38, s13, show (h_i h 17 16).toNatClampNeg = nsB b from nsb]
  have F29' : Fr wz_X11_look h h29 := (F17.more (by decide +kernel)).tr (F29.more (by decide +kernel))
  have sh29 : h_sh h29 (401 + j) = some (12, 17) := by rw [F29'.1]; exact hc.2.2
  have o29 : ∀ a, a ≠ 70 → off [41999] a = true → h_i h29 a = h_i h5 a := fun a na oa => by rw [show h_i h29 a = h_i h25 a from funext (fun k => fr_i F29 oa k)]; exact o17 a na
  have L29 : h_i h29 70 = lrB E j n pl f b := by rw [show h_i h29 70 = h_i h25 70 from funext (fun k => fr_i F29 (by decide +kernel) k)]; exact L70
  have pe29 : PE E h29 := pE.fr F29' (by decide +kernel)
  have w29 : wI h29 (h_i h29 (401 + j) 5) 0 = E.2.1 (pl j) 0 := by
    rw [pe29.2.2.1, (F29'.2 (401 + j) 5 (look_hi (by omega) 5)).1, ← ep]
  have a17 : h_i h29 17 = up1 (h_i h 17) 16 (h_i h 17 16 + 1) := by rw [o29 17 (by decide) (by decide +kernel), w17]
  have u29 : 0 ≤ (h_i h 17 16).toInt ∧ (h_i h 17 16).toInt < (h_i h29 17 16).toInt := ⟨b9.1, by rw [a17, up1_at, e16]; omega⟩
  have nn : (h_i h 17 16).toNatClampNeg = nsB b := nsb
  -- what is the same in both cases
  have fin : ∀ (x3 : Int32) (g h' : Hp_), Iv g → Fr [18003, 71999, 72999] h29 g → x3 = (if dnB E j n pl f b = 3 ∧ b 18 3 < 30 then b 18 3 else -1) → h_i g 71 = sg1 E j n pl f b 71 → h_i g 72 = sg1 E j n pl f b 72 → h_i g 18 = sg1 E j n pl f b 18 → Stq (h_i h 17 16) r31 x3 (E.2.1 (pl j) 0) g h' → Wf h' ∧ (Iv h' ∧ Fr wz_X11_look h h' ∧ PBl E (sg1 E j n pl f b) h') := by
    intro x3 g h' Ig Fg ex g71 g72 g18 st
    obtain ⟨I', F', t67, t68, t69, t63, t17⟩ := st
    have Fh : Fr wz_X11_look h h' := (F29'.tr (Fg.more (by decide +kernel))).tr (F'.more (by decide +kernel))
    have og : ∀ a, off [18003, 71999, 72999] a = true → h_i g a = h_i h29 a := fun a oa => funext (fun k => fr_i Fg oa k)
    have ot : ∀ a, off wz_X4_settle a = true → h_i h' a = h_i g a := fun a oa => funext (fun k => fr_i F' oa k)
    refine ⟨I'.1, I', Fh, fun a ha => ?_, ⟨?_, ?_, ?_, ?_, ?_, ?_, ?_, ?_, ?_, ?_, ?_, ?_, ?_⟩, pE.fr Fh (by decide +kernel)⟩
    · rw [sg1_s ha, ← pS a ha]
      have z : lkS.all (fun a => off wz_X11_look a) = true := by decide +kernel
      exact funext (fun k => fr_i Fh (List.all_eq_true.mp z a ha) k)
    · rw [t17, og 17 (by decide +kernel), a17, r17, q31]
      show _ = (if dnB E j n pl f b = 3 then up1 (up1 (b 17) 16 (b 17 16 + 1)) 8 (b 17 8 + 1) else up1 (b 17) 16 (b 17 16 + 1))
      rw [up1_ne (by decide : (8 : Nat) ≠ 16)]
    · rw [ot 18 (by decide +kernel)]
      exact g18
    · rw [ot 62 (by decide +kernel), og 62 (by decide +kernel), o29 62 (by decide) (by decide +kernel), w62, r62]
      rfl
    · rw [t63, og 63 (by decide +kernel), o29 63 (by decide) (by decide +kernel), funext (fun k => fr_i F1 (a := 63) (by decide +kernel) k), r63, q31, og 65 (by decide +kernel), o29 65 (by decide) (by decide +kernel), w65, show nsB (h_i h) = (h_i h 17 16).toNatClampNeg from rfl, up1_at, on_k (n := f) (by omega)]
      rfl
    · rw [ot 64 (by decide +kernel), og 64 (by decide +kernel), o29 64 (by decide) (by decide +kernel), w64, r64, nsb, hm.1]
      rfl
    · rw [ot 65 (by decide +kernel), og 65 (by decide +kernel), o29 65 (by decide) (by decide +kernel), w65, r65, nsb]
      rfl
    · rw [ot 66 (by decide +kernel), og 66 (by decide +kernel), o29 66 (by decide) (by decide +kernel), w66, r66, nsb, en]
      rfl
    · rw [t67, og 67 (by decide +kernel), o29 67 (by decide) (by decide +kernel), w67, nsb, nn, up1_2, r67, q31]
      rfl
    · rw [t68, og 68 (by decide +kernel), o29 68 (by decide) (by decide +kernel), w68, nsb, nn, up1_2, r68, ex]
      rfl
    · rw [t69, og 69 (by decide +kernel), o29 69 (by decide) (by decide +kernel), w69, og 66 (by decide +kernel), o29 66 (by decide) (by decide +kernel), w66, nsb, nn, up1_2, up1_at, r69, q31, en]
      show _ = up1 (b 69) (nsB b) (if ¬ dnB E j n pl f b ≤ 1 ∧ ¬ E.2.1 (pl j) 0 = -1 then n + E.2.1 (pl j) 0 else -1)
      by_cases y : ¬ dnB E j n pl f b ≤ 1 ∧ ¬ E.2.1 (pl j) 0 = -1
      · rw [if_pos y, if_pos y]
      · rw [if_neg y, if_neg y]
    · rw [ot 70 (by decide +kernel), og 70 (by decide +kernel), L29]
      rfl
    · rw [ot 71 (by decide +kernel)]
      exact g71
    · rw [ot 72 (by decide +kernel)]
      exact g72
  have a18 : h_i h29 18 = b 18 := by rw [o29 18 (by decide) (by decide +kernel), funext (fun k => fr_i F1 (a := 18) (by decide +kernel) k), r18]
  have a71 : h_i h29 71 = b 71 := by rw [o29 71 (by decide) (by decide +kernel), funext (fun k => fr_i F1 (a := 71) (by decide +kernel) k), r71]
  have a72 : h_i h29 72 = b 72 := by rw [o29 72 (by decide) (by decide +kernel), funext (fun k => fr_i F1 (a := 72) (by decide +kernel) k), r72]
  refine ⟨I29.1, sh29, fun ne => Ci.mono (c_mn d I29 _ _) (fun r36 h34 k34 => ?_), fun e3 => ?_⟩
  · obtain ⟨e34, e36⟩ := k34
    subst e34
    rw [e36, w29]
    have nd : ¬ (dnB E j n pl f b = 3 ∧ b 18 3 < 30) := fun u => ne (q31.trans u.1)
    refine ⟨I29.1, Cv.mono (c_stl d I29 u29 r31 (-1) _) (fun h37 st => fin _ h34 h37 I29 (Fr.rf _ _) (if_neg nd).symm ?_ ?_ ?_ st)⟩
    · rw [a71]
      exact (if_neg nd).symm
    · rw [a72]
      exact (if_neg nd).symm
    · rw [a18]
      exact (if_neg nd).symm
  · have hf29 : (f : Int) < (h_i h29 17 7).toInt := by rw [a17, up1_ne (by decide)]; exact hf
    have d3 : dnB E j n pl f b = 3 := q31.symm.trans e3
    refine Ci.mono (c_kof d I29 hf29) (fun r42 h40 k40 => ?_)
    obtain ⟨e42, e40⟩ := k40
    subst e40
    have k57 : h_i h40 57 f = b 57 f := by rw [o29 57 (by decide) (by decide +kernel), fr_i F1 (a := 57) (by decide +kernel) f, s57]
    have n40 : h_i h40 0 0 = n := by rw [(F29'.2 0 0 (by decide +kernel)).1]; exact en
    rw [e42]
    refine ⟨I29.1, sh29, Ci.mono (c_sta d I29 (dp_rg I29 57 f (show tfa 57 = some (0, 9) by decide +kernel)) _) (fun r46 h44 k44 => ?_)⟩
    obtain ⟨I44, F44, e46, g71, g72, g18⟩ := k44
    rw [a18, a71, k57] at g71
    rw [a18, a72, n40] at g72
    rw [a18] at g18
    rw [a18] at e46
    have c30 : ∀ {α : Type} (x y : α), (if dnB E j n pl f b = 3 ∧ b 18 3 < 30 then x else y) = (if b 18 3 < 30 then x else y) := fun x y => by
      by_cases u : b 18 3 < 30
      · rw [if_pos ⟨d3, u⟩, if_pos u]
      · rw [if_neg (fun v => u v.2), if_neg u]
    have pe44 : PE E h44 := pe29.fr F44 (by decide +kernel)
    have w44 : wI h44 (h_i h44 (401 + j) 5) 0 = E.2.1 (pl j) 0 := by
      rw [pe44.2.2.1, ← ep]
      show E.2.1 (h_i h44 (401 + j) 5) 0 = E.2.1 (h_i h (401 + j) 5) 0
      rw [(F44.2 (401 + j) 5 (inw_sub (a := [18003, 71999, 72999]) (b := wz_X11_look) (by decide +kernel) (look_hi (by omega) 5))).1, (F29'.2 (401 + j) 5 (look_hi (by omega) 5)).1]
    refine ⟨I44.1, by rw [F44.1]; exact sh29, Ci.mono (c_mn d I44 _ _) (fun r50 h48 k48 => ?_)⟩
    obtain ⟨e48, e50⟩ := k48
    subst e48
    rw [e50, w44]
    have u44 : 0 ≤ (h_i h 17 16).toInt ∧ (h_i h 17 16).toInt < (h_i h48 17 16).toInt := ⟨b9.1, by rw [fr_i F44 (a := 17) (by decide +kernel) 16]; exact u29.2⟩
    refine ⟨I44.1, Cv.mono (c_stl d I44 u44 r31 r46 _) (fun h51 st => fin _ h48 h51 I44 F44 (e46.trans (c30 _ _).symm) ?_ ?_ ?_ st)⟩
    · rw [g71]
      exact (c30 _ _).symm
    · rw [g72]
      exact (c30 _ _).symm
    · rw [g18]
      exact (c30 _ _).symm
theorem sg1_17 {E : Enl} {j : Nat} {n : Int32} {pl : Nat → Int32} {f : Nat} {b : Bl} : sg1 E j n pl f b 17 7 = b 17 7 := by
  show (if dnB E j n pl f b = 3 then up1 (up1 (b 17) 16 (b 17 16 + 1)) 8 (b 17 8 + 1) else up1 (b 17) 16 (b 17 16 + 1)) 7 = b 17 7
  by_cases y : dnB E j n pl f b = 3
  · rw [if_pos y, up1_ne (by decide), up1_ne (by decide)]
  · rw [if_neg y, up1_ne (by decide)]
theorem lkN_17 {E : Enl} {j : Nat} {n : Int32} {pl : Nat → Int32} {b : Bl} : ∀ k, lkN E j n pl k b 17 7 = b 17 7
  | 0 => rfl
  | k + 1 => by
    show lk1 E j n pl k (lkN E j n pl k b) 17 7 = b 17 7
    unfold lk1
    by_cases y : csn k (pl j) n (lkN E j n pl k b)
    · rw [if_pos y, sg1_17, lkN_17 k]
    · rw [if_neg y, lkN_17 k]
theorem c_lookX (d : Nat) {E : Enl} {b : Bl} {h : Hp_} (I : Iv h) (P : PBl E b h) {c : Nat} (hc : Cn h c) : Cv (m_X11_look (d + 5) 0 0) [.ref 0, .ref c] h (fun h' => Iv h' ∧ Fr wz_X11_look h h' ∧ PBl E (lXm (lPB E) c h b) h') := by
  have c1 := hc.1
  have c2 := hc.2.1
  have mm := menX_in I
  have em := P.2.2.2.1
  have hj : c - 401 < E.2.2.1 := by
    refine Decidable.byContradiction (fun n => ?_)
    have z := I.2.2.2.2.2.2.1 (c - 401) (by omega) (by rw [em.1, on_j (by have := em.2; omega)]; omega)
    rw [show 401 + (c - 401) = c by omega, hc.2.2] at z
    cases z
  have ec : 401 + (c - 401) = c := by omega
  generalize hjj : c - 401 = j at *
  have cj : c = 401 + j := ec.symm
  subst cj
  have r := iq17 I
  have n7 := n_nat r.1.1
  have b7 : b 17 7 = h_i h 17 7 := by rw [P.2.1.1]
  have lp : ∀ (k i : Nat) (h2 : Hp_), i + k = (h_i h 17 7).toNatClampNeg → Iv h2 → Fr wz_X11_look h h2 → PBl E (lkN E j (h_i h 0 0) (fun k => h_i h (401 + k) 5) i b) h2 → AW (m_X11_look (d + 5) 0 0) 0 0 2 [(0, .ref 0), (1, .ref (401 + j)), (2, .int (Int32.ofNat i))] [] h2 (kV (fun h' => Iv h' ∧ Fr wz_X11_look h h' ∧ PBl E (lXm (lPB E) (401 + j) h b) h')) := by
    intro k
    induction k with
    | zero =>
      intro i h2 e I2 F2 P2
      have e7 : h_i h2 17 7 = h_i h 17 7 := (F2.2 17 7 (by decide +kernel)).1
      have sh2 : h_sh h2 (401 + j) = some (12, 17) := by rw [F2.1]; exact hc.2.2
      refine t_X11_look_2 d h2 I2.1 (401 + j) sh2 (by omega) _ _ ⟨fun _ => ⟨I2, F2, ?_⟩, fun z => ?_⟩
      · unfold lXm lPB
        rw [hjj, b7, ← e]
        exact P2
      · have z := q_nle z
        rw [e7, on_j (by omega)] at z
        omega
    | succ k ih =>
      intro i h2 e I2 F2 P2
      have e7 : h_i h2 17 7 = h_i h 17 7 := (F2.2 17 7 (by decide +kernel)).1
      have sh2 : h_sh h2 (401 + j) = some (12, 17) := by rw [F2.1]; exact hc.2.2
      have n2 : h_i h2 0 0 = h_i h 0 0 := (F2.2 0 0 (by decide +kernel)).1
      have p2 : (fun k => h_i h2 (401 + k) 5) = (fun k => h_i h (401 + k) 5) := funext (fun k => (F2.2 (401 + k) 5 (look_hi (by omega) 5)).1)
      have oi := on_j (n := i) (by omega)
      have hf : (i : Int) < (h_i h2 17 7).toInt := by rw [e7]; omega
      refine t_X11_look_2 d h2 I2.1 (401 + j) sh2 (by omega) _ _ ⟨fun z => ?_, fun _ => Ci.mono (c_cbs d I2 hf _ _) (fun r4 h4 k4 => ?_)⟩
      · have z := q_le.mp z
        rw [e7, oi] at z
        omega
      · obtain ⟨e4, k4⟩ := k4
        subst e4
        rw [n2, show h_i h4 (401 + j) 5 = h_i h (401 + j) 5 from congrFun p2 j] at k4
        have cq : csn i (h_i h (401 + j) 5) (h_i h 0 0) (h_i h4) ↔ csn i (h_i h (401 + j) 5) (h_i h 0 0) (lkN E j (h_i h 0 0) (fun k => h_i h (401 + k) 5) i b) := by
          unfold csn
          rw [P2.2.1.1, P2.2.1.2.2.2.1, P2.1 58 (by decide), P2.1 59 (by decide), P2.1 60 (by decide)]
        refine ⟨I2.1, sh2, fun z => ?_, fun z => ?_⟩
        · rcases k4 with k4 | k4
          · rw [k4.2] at z
            exact absurd z (by decide)
          · rw [on_s (by omega)]
            refine ih (i + 1) h4 (by omega) I2 F2 ?_
            show PBl E (lk1 E j (h_i h 0 0) (fun k => h_i h (401 + k) 5) i (lkN E j (h_i h 0 0) (fun k => h_i h (401 + k) 5) i b)) h4
            unfold lk1
            rw [if_neg (fun u => k4.1 (cq.mpr u))]
            exact P2
        · rcases k4 with k4 | k4
          · refine Cv.mono (c_seeX d I2 P2 hj ⟨hc.1, hc.2.1, sh2⟩ hf n2 p2 (cq.mp k4.1)) (fun h7 k7 => ⟨k7.1.1, by rw [k7.2.1.1]; exact sh2, ?_⟩)
            rw [on_s (by omega)]
            refine ih (i + 1) h7 (by omega) k7.1 (F2.tr k7.2.1) ?_
            show PBl E (lk1 E j (h_i h 0 0) (fun k => h_i h (401 + k) 5) i (lkN E j (h_i h 0 0) (fun k => h_i h (401 + k) 5) i b)) h7
            unfold lk1
            rw [if_pos (cq.mp k4.1)]
            exact k7.2.2
          · rw [k4.2] at z
            exact absurd rfl z
  exact t_X11_look d h (401 + j) hc.2.2 (by omega) _ (lp (h_i h 17 7).toNatClampNeg 0 h (by omega) I (Fr.rf _ _) P)
theorem tnB_o {x1 x2 : Int32} {b : Bl} {a : Nat} (n : a ≠ 69) : tnB x1 x2 b a = b a := if_neg n
theorem tnK_s (i : Nat) (x1 x2 : Int32) (b : Bl) : tnK (i + 1) x1 x2 b = if b 64 i = x1 ∧ b 67 i = 1 ∧ b 69 i = -1 then up1 (tnK i x1 x2 b) i x2 else tnK i x1 x2 b := by
  funext k
  by_cases y : b 64 i = x1 ∧ b 67 i = 1 ∧ b 69 i = -1
  · rw [if_pos y]
    by_cases e : k = i
    · rw [e, up1_at]
      exact if_pos ⟨by omega, y⟩
    · rw [up1_ne e]
      unfold tnK
      by_cases z : k < i ∧ b 64 k = x1 ∧ b 67 k = 1 ∧ b 69 k = -1
      · rw [if_pos z, if_pos ⟨by omega, z.2⟩]
      · rw [if_neg z, if_neg (fun u => z ⟨by omega, u.2⟩)]
  · rw [if_neg y]
    unfold tnK
    by_cases z : k < i ∧ b 64 k = x1 ∧ b 67 k = 1 ∧ b 69 k = -1
    · rw [if_pos z, if_pos ⟨by omega, z.2⟩]
    · rw [if_neg z, if_neg (fun u => by
        by_cases e : k = i
        · exact y (e ▸ u.2)
        · exact z ⟨by omega, u.2⟩)]
theorem tnK_i (i : Nat) (x1 x2 : Int32) (b : Bl) : tnK i x1 x2 b i = b 69 i := if_neg (fun u => by omega)
theorem c_tnX (d : Nat) {E : Enl} {b : Bl} {h : Hp_} (I : Iv h) (P : PBl E b h) (x1 x2 : Int32) : Cv (m_X4_tellNoted (d + 0) 0 0) [.ref 17, .int x1, .int x2] h (fun h' => Iv h' ∧ Fr wz_X11_look h h' ∧ PBl E (tnB x1 x2 b) h') := by
  obtain ⟨pS, ⟨r17, r18, r62, r63, r64, r65, r66, r67, r68, r69, r70, r71, r72⟩, pE⟩ := P
  have r := iq17 I
  have n16 := n_nat r.2.1
  have lp : ∀ (k i : Nat) (h2 : Hp_), i + k = (h_i h 17 16).toNatClampNeg → Iv h2 → Fr [69999] h h2 → h_i h2 69 = tnK i x1 x2 b → AW (m_X4_tellNoted (d + 0) 0 0) 0 0 2 [(0, .ref 17), (1, .int x1), (2, .int x2), (3, .int (Int32.ofNat i))] [] h2 (kV (fun h' => Iv h' ∧ Fr wz_X11_look h h' ∧ PBl E (tnB x1 x2 b) h')) := by
    intro k
    induction k with
    | zero =>
      intro i h2 e I2 F2 R2
      have g : ∀ a, off [69999] a = true → h_i h2 a = h_i h a := fun a oa => funext (fun k => fr_i F2 oa k)
      refine t_X4_tellNoted_2 d h2 I2.1 x1 x2 _ _ ⟨fun _ => ⟨I2, F2.more (by decide +kernel), fun a ha => ?_, ⟨?_, ?_, ?_, ?_, ?_, ?_, ?_, ?_, ?_, ?_, ?_, ?_, ?_⟩, pE.fr F2 (by decide +kernel)⟩, fun z => ?_⟩
      · have z : lkS.all (fun a => off [69999] a && decide (a ≠ 69)) = true := by decide +kernel
        have y := List.all_eq_true.mp z a ha
        rw [Bool.and_eq_true] at y
        rw [tnB_o (of_decide_eq_true y.2), g a y.1]
        exact pS a ha
      · exact (g 17 (by decide +kernel)).trans (r17.trans (tnB_o (by decide)).symm)
      · exact (g 18 (by decide +kernel)).trans (r18.trans (tnB_o (by decide)).symm)
      · exact (g 62 (by decide +kernel)).trans (r62.trans (tnB_o (by decide)).symm)
      · exact (g 63 (by decide +kernel)).trans (r63.trans (tnB_o (by decide)).symm)
      · exact (g 64 (by decide +kernel)).trans (r64.trans (tnB_o (by decide)).symm)
      · exact (g 65 (by decide +kernel)).trans (r65.trans (tnB_o (by decide)).symm)
      · exact (g 66 (by decide +kernel)).trans (r66.trans (tnB_o (by decide)).symm)
      · exact (g 67 (by decide +kernel)).trans (r67.trans (tnB_o (by decide)).symm)
      · exact (g 68 (by decide +kernel)).trans (r68.trans (tnB_o (by decide)).symm)
      · rw [R2, show i = (h_i h 17 16).toNatClampNeg by omega, r17]
        rfl
      · exact (g 70 (by decide +kernel)).trans (r70.trans (tnB_o (by decide)).symm)
      · exact (g 71 (by decide +kernel)).trans (r71.trans (tnB_o (by decide)).symm)
      · exact (g 72 (by decide +kernel)).trans (r72.trans (tnB_o (by decide)).symm)
      · have z := q_nle z
        rw [fr_i F2 (a := 17) (by decide +kernel) 16, on_j (by omega)] at z
        omega
    | succ k ih =>
      intro i h2 e I2 F2 R2
      have oi := on_j (n := i) (by omega)
      have ki := on_k (n := i) (by omega)
      have v : vp_in (Int32.ofNat i) 300 := on_in (by omega) (by decide)
      have e64 : h_i h2 64 i = b 64 i := by rw [fr_i F2 (a := 64) (by decide +kernel) i, r64]
      have e67 : h_i h2 67 i = b 67 i := by rw [fr_i F2 (a := 67) (by decide +kernel) i, r67]
      have e69 : h_i h2 69 i = b 69 i := by rw [R2, tnK_i]
      have st := tnK_s i x1 x2 b
      refine t_X4_tellNoted_2 d h2 I2.1 x1 x2 _ _ ⟨fun z => ?_, fun _ => ⟨v, ?_⟩⟩
      · have z := q_le.mp z
        rw [fr_i F2 (a := 17) (by decide +kernel) 16, oi] at z
        omega
      · rw [ki, e64, e67, e69, on_s (by omega)]
        refine ⟨fun z => ?_, fun a1 => ⟨v, fun z => ?_, fun a2 => ⟨v, fun z => ?_, fun a3 => ⟨v, ?_⟩⟩⟩⟩
        · exact ih (i + 1) h2 (by omega) I2 F2 (by rw [st, if_neg (fun u => z u.1)]; exact R2)
        · exact ih (i + 1) h2 (by omega) I2 F2 (by rw [st, if_neg (fun u => z u.2.1)]; exact R2)
        · exact ih (i + 1) h2 (by omega) I2 F2 (by rw [st, if_neg (fun u => z u.2.2)]; exact R2)
        · exact ih (i + 1) _ (by omega) (tr_ 69 (by decide +kernel) I2 _ _ (by decide) (by decide)) (F2.im (inw_row (by decide +kernel) _)) (by rw [im_row, st, if_pos ⟨a1, a2, a3⟩, R2])
  refine t_X4_tellNoted d h x1 x2 _ (lp (h_i h 17 16).toNatClampNeg 0 h (by omega) I (Fr.rf _ _) ?_)
  rw [r69]
  exact funext (fun k => (if_neg (fun u => by omega)).symm)
theorem pbL (E : Enl) : PBok (PBl E) tnB (lXm (lPB E)) := ⟨fun b h a k x o P => P.im (by
    rcases o with o | o | o
    · exact Or.inl ⟨o.1, o.2.1, o.2.2.1⟩
    · exact Or.inr (Or.inl o)
    · exact Or.inr (Or.inr (Or.inl o))), fun b h c x hc P => (P.im (a := c) (k := 5) (x := x) (Or.inl ⟨hc.1, hc.2.1, by decide⟩)).cs (fun _ _ _ _ => rfl) (fun _ => rfl), fun d b h x1 x2 I _ P => c_tnX d I P x1 x2, fun d b h c I hc P => c_lookX d I P hc⟩
noncomputable abbrev nBl : Int32 → (Nat → Int32) → Bl → Bl := fun _ _ b => b
theorem inw15 {a : Nat} (n : a ≠ 0) (k : Nat) : inw [15] a k = false := by
  refine off_inw ?_ k
  unfold off
  refine List.all_eq_true.mpr (fun w hw => ?_)
  have e : w = 15 := List.mem_singleton.mp hw
  have c : 1 ≤ cn a := by
    unfold cn
    cases Nat.ble 401 a && Nat.ble a 412 with
    | true => show 1 ≤ 401; omega
    | false => show 1 ≤ a; omega
  have b : Nat.ble (w + 1) (1000 * cn a) = true := Nat.ble_eq_true_of_le (by omega)
  rw [b, Bool.true_or]
theorem pbtL (E : Enl) : PBtk (PBl E) nBl := ⟨fun b h c N x I hc hs hn P => PBl.im (h := h_lm h c (h_i h 0 0).toNatClampNeg (h_l h 0 14)) (P.cs (fun _ _ _ _ => rfl) (fun _ => rfl)) (Or.inr (Or.inr (Or.inr ⟨rfl, rfl⟩))), fun b h h' I f z P => P.cs (fun a k o l => by
    by_cases e : a = 0
    · rw [e, z]
    · exact (f.2.2.2 a k l (inw15 e k)).1) (fun k => (f.2.2.2 15 k (by decide) (inw15 (by decide) k)).2)⟩
end
section
/-! LOOKS, the reference -/
noncomputable def TM (CC : Nat → List Cl2) (nk : Nat) (h : Hp_) : Prop := ∀ k : Nat, k < nk → (∀ c ∈ CC k, clO 1 c) ∧ At_ (h_i h 231) (560 * k) (rlM (CC k)) ∧ h_i h 232 k = Int32.ofNat (rlM (CC k)).length ∧ (rlM (CC k)).length ≤ 560
noncomputable def PEm (E : Enl) (b : Bl) (h : Hp_) : Prop := (∀ k : Nat, k < 40 → b 104 k = h_i h 221 k ∧ b 105 k = h_i h 222 k ∧ b 106 k = h_i h 223 k ∧ b 107 k = h_i h 224 k) ∧ (∀ j : Nat, j < 12 → h_i h 204 j = E.2.2.2 j) ∧ (∀ k : Nat, k < (b 13 5).toNatClampNeg → h_i h 233 k = b 37 k ∧ h_i h 234 k = b 38 k) ∧ (h_i h 1 7 = Int32.ofNat E.2.2.1 ∧ E.2.2.1 ≤ 12) ∧ (ExP h ∧ wI h = E.2.1) ∧ TM E.1 (b 13 5).toNatClampNeg h ∧ h_i h 1 29 = b 21 4 ∧ h_i h 235 0 = b 13 5
noncomputable def PMl (E : Enl) (b : Bl) (h : Hp_) : Prop := (h_i h 1 80 = b 17 16 ∧ h_i h 1 79 = b 17 7 ∧ h_i h 1 96 = b 18 3) ∧ (∀ f : Nat, f < 80 → (f < (b 17 7).toNatClampNeg → (h_i h 249 f = b 57 f ∧ h_i h 250 f = b 58 f ∧ h_i h 251 f = b 59 f ∧ h_i h 252 f = b 60 f ∧ h_i h 253 f = b 61 f) ∧ (0 ≤ (b 58 f).toInt ∧ (b 58 f).toInt < 16)) ∧ h_i h 254 f = b 63 f ∧ b 62 f = cAt (b 65) (Int32.ofNat f) (nsB b)) ∧ (∀ i : Nat, i < nsB b → (h_i h 255 i = b 64 i ∧ h_i h 256 i = b 65 i ∧ h_i h 257 i = b 66 i ∧ h_i h 258 i = b 67 i ∧ h_i h 259 i = b 68 i ∧ h_i h 260 i = b 69 i) ∧ ∀ t : Nat, t < 9 → h_i h 261 (9 * i + t) = b 70 (9 * i + t)) ∧ (∀ i : Nat, i < (b 18 3).toNatClampNeg → h_i h 262 i = b 71 i ∧ h_i h 263 i = b 72 i) ∧ PEm E b h
noncomputable def pmR : List Nat := [204, 221, 222, 223, 224, 231, 232, 233, 234, 235, 30]
noncomputable def pmW : List Nat := [249, 250, 251, 252, 253, 254, 255, 256, 257, 258, 259, 260, 261, 262, 263]
theorem PEm.fr {E : Enl} {b : Bl} {ws : List Nat} {h h' : Hp_} (p : PEm E b h) (f : Fr ws h h') (o : (pmR.all (fun a => off ws a) && (!inw ws 1 7 && !inw ws 1 29)) = true) (x : ExP h → ExP h') : PEm E b h' := by
  rw [Bool.and_eq_true, Bool.and_eq_true, Bool.not_eq_true', Bool.not_eq_true'] at o
  have g : ∀ a, a ∈ pmR → h_i h' a = h_i h a := fun a ha => funext (fun k => fr_i f (List.all_eq_true.mp o.1 a ha) k)
  obtain ⟨a1, a2, a3, a4, a5, a6, a7, a8⟩ := p
  refine ⟨?_, ?_, ?_, ⟨?_, a4.2⟩, ⟨x a5.1, ?_⟩, fun k hk => ?_, ?_, ?_⟩
  · rw [g 221 (by decide), g 222 (by decide), g 223 (by decide), g 224 (by decide)]
    exact a1
  · rw [g 204 (by decide)]
    exact a2
  · rw [g 233 (by decide), g 234 (by decide)]
    exact a3
  · rw [(f.2 1 7 o.2.1).1]
    exact a4.1
  · rw [← a5.2]
    funext u v
    unfold wI
    rw [g 30 (by decide)]
  · rw [g 231 (by decide), g 232 (by decide)]
    exact a6 k hk
  · rw [(f.2 1 29 o.2.2).1]
    exact a7
  · rw [g 235 (by decide)]
    exact a8
theorem PEm.b {E : Enl} {b b' : Bl} {h : Hp_} (p : PEm E b h) (e : ∀ a ∈ lkS, b' a = b a) : PEm E b' h := by
  unfold PEm
  rw [e 104 (by decide), e 105 (by decide), e 106 (by decide), e 107 (by decide), e 37 (by decide), e 38 (by decide), e 13 (by decide), e 21 (by decide)]
  exact p
theorem PMl.fr {E : Enl} {b : Bl} {ws : List Nat} {h h' : Hp_} (p : PMl E b h) (f : Fr ws h h') (o : (pmR.all (fun a => off ws a) && (!inw ws 1 7 && !inw ws 1 29)) = true) (o2 : (pmW.all (fun a => off ws a) && (!inw ws 1 80 && !inw ws 1 79 && !inw ws 1 96)) = true) (x : ExP h → ExP h') : PMl E b h' := by
  rw [Bool.and_eq_true, Bool.and_eq_true, Bool.and_eq_true, Bool.not_eq_true', Bool.not_eq_true', Bool.not_eq_true'] at o2
  have g : ∀ a, a ∈ pmW → h_i h' a = h_i h a := fun a ha => funext (fun k => fr_i f (List.all_eq_true.mp o2.1 a ha) k)
  obtain ⟨a1, a2, a3, a4, a5⟩ := p
  refine ⟨?_, ?_, ?_, ?_, a5.fr f o x⟩
  · rw [(f.2 1 80 o2.2.1.1).1, (f.2 1 79 o2.2.1.2).1, (f.2 1 96 o2.2.2).1]
    exact a1
  · rw [g 249 (by decide), g 250 (by decide), g 251 (by decide), g 252 (by decide), g 253 (by decide), g 254 (by decide)]
    exact a2
  · rw [g 255 (by decide), g 256 (by decide), g 257 (by decide), g 258 (by decide), g 259 (by decide), g 260 (by decide), g 261 (by decide)]
    exact a3
  · rw [g 262 (by decide), g 263 (by decide)]
    exact a4
theorem hr_eq {n : Int32} (b : 0 ≤ n.toInt ∧ n.toInt ≤ 20000) : n / 60 - n / 60 / 24 * 24 = hrN n := by
  have t60 : (60 : Int32).toInt = 60 := rfl
  have t24 : (24 : Int32).toInt = 24 := rfl
  have t14 : (1440 : Int32).toInt = 1440 := rfl
  have a : (n / 60).toInt = n.toInt / 60 := by rw [ti_div b.1 (by rw [t60]; decide), t60]
  have c : (n / 60 / 24).toInt = n.toInt / 60 / 24 := by rw [ti_div (by rw [a]; omega) (by rw [t24]; decide), t24, a]
  have e : (n / 1440).toInt = n.toInt / 1440 := by rw [ti_div b.1 (by rw [t14]; decide), t14]
  have f : (n / 60 / 24 * 24).toInt = n.toInt / 60 / 24 * 24 := by rw [tx_mul (by rw [c, t24]; omega) (by rw [c, t24]; omega), c, t24]
  have g : (n / 1440 * 1440).toInt = n.toInt / 1440 * 1440 := by rw [tx_mul (by rw [e, t14]; omega) (by rw [e, t14]; omega), e, t14]
  have k : (n - n / 1440 * 1440).toInt = n.toInt - n.toInt / 1440 * 1440 := by rw [tx_sub (by rw [g]; omega) (by rw [g]; omega), g]
  refine Int32.toInt_inj.mp ?_
  unfold hrN
  rw [ti_div (by rw [k]; omega) (by rw [t60]; decide), t60, k, tx_sub (by rw [a, f]; omega) (by rw [a, f]; omega), a, f]
  omega
theorem lt9v (v e : Nat → Int32) {c : Int32} (o : ltb 1 c = true) : ltN v 9 e c.toNatClampNeg = v (ixq 1 (xch c)).toNatClampNeg := by
  have o : c = 107 ∨ c = 119 ∨ c = 112 ∨ c = 104 ∨ c = 100 ∨ c = 99 ∨ c = 110 ∨ c = 101 ∨ c = 116 := of_decide_eq_true o
  rcases o with u | u | u | u | u | u | u | u | u <;> subst u
  · rw [show (107 : Int32).toNatClampNeg = 107 by simp, show (ixq 1 (xch 107)).toNatClampNeg = 0 by decide +kernel]; rfl
  · rw [show (119 : Int32).toNatClampNeg = 119 by simp, show (ixq 1 (xch 119)).toNatClampNeg = 1 by decide +kernel]; rfl
  · rw [show (112 : Int32).toNatClampNeg = 112 by simp, show (ixq 1 (xch 112)).toNatClampNeg = 2 by decide +kernel]; rfl
  · rw [show (104 : Int32).toNatClampNeg = 104 by simp, show (ixq 1 (xch 104)).toNatClampNeg = 3 by decide +kernel]; rfl
  · rw [show (100 : Int32).toNatClampNeg = 100 by simp, show (ixq 1 (xch 100)).toNatClampNeg = 4 by decide +kernel]; rfl
  · rw [show (99 : Int32).toNatClampNeg = 99 by simp, show (ixq 1 (xch 99)).toNatClampNeg = 5 by decide +kernel]; rfl
  · rw [show (110 : Int32).toNatClampNeg = 110 by simp, show (ixq 1 (xch 110)).toNatClampNeg = 6 by decide +kernel]; rfl
  · rw [show (101 : Int32).toNatClampNeg = 101 by simp, show (ixq 1 (xch 101)).toNatClampNeg = 7 by decide +kernel]; rfl
  · rw [show (116 : Int32).toNatClampNeg = 116 by simp, show (ixq 1 (xch 116)).toNatClampNeg = 8 by decide +kernel]; rfl
theorem i20 {h : Hp_} (I : Iv h) : 0 ≤ (h_i h 235 0).toInt ∧ (h_i h 235 0).toInt ≤ 20 := by
  have c13 := dp_rg I 235 0 (show tfa 235 = some (0, 20) by decide +kernel)
  exact ⟨c13.1, c13.2⟩
theorem foB_b {dy q : Int32} {b : Bl} (c : 0 ≤ (b 13 5).toInt ∧ (b 13 5).toInt ≤ 20) : foB dy q b = -1 ∨ (0 ≤ (foB dy q b).toInt ∧ (foB dy q b).toInt < (b 13 5).toInt) := by
  have n := n_nat c.1
  rcases fob_b (b 37) (b 38) dy q (b 13 5).toNatClampNeg (by omega) with e | e
  · exact Or.inl e
  · exact Or.inr ⟨e.1, by have := e.2; unfold foB; omega⟩
/-- lets, with its answer -/
theorem c_letM (d : Nat) {E : Enl} {b : Bl} {h : Hp_} (I : Iv h) (P : PEm E b h) (i : Nat) (hi : i < 300) (q : Int32) : Ci (m_X12_lets (d + 6) 0 0) [.ref 1, .int (Int32.ofNat i), .int q] h (fun r h' => Iv h' ∧ Fr wzL h h' ∧ r = evB E (h_i h 257 i / 1440) q (h_i h 261) i b) := by
  have vi : vp_in (Int32.ofNat i) 300 := on_in hi (by decide)
  have ki : (Int32.ofNat i).toNatClampNeg = i := on_k (by omega)
  have oi := on_j (n := i) (by omega)
  have t9 : (9 : Int32).toInt = 9 := rfl
  have c20 := i20 I
  rw [P.2.2.2.2.2.2.2] at c20
  have n13 := n_nat c20.1
  refine t_X12_lets d h _ q _ ?_
  have lp : ∀ (n k : Nat) (h3 : Hp_), k + n = 9 → Iv h3 → Fr wzL h h3 → h_i h3 236 = ltN (fun k => h_i h 261 (9 * i + k)) k (h_i h 236) → AW (m_X12_lets (d + 6) 0 0) 0 0 2 [(0, .ref 1), (1, .int (Int32.ofNat i)), (2, .int q), (3, .int (Int32.ofNat k))] [] h3 (kI (fun r h' => Iv h' ∧ Fr wzL h h' ∧ r = evB E (h_i h 257 i / 1440) q (h_i h 261) i b)) := by
    intro n
    induction n with
    | zero =>
      intro k h3 e I3 F3 L3
      have ok := on_j (n := k) (by omega)
      refine t_X12_lets_2 d h3 I3.1 _ q _ _ ⟨fun _ => ⟨vi, ?_⟩, fun z => ?_⟩
      · rw [ki, fr_i F3 (a := 257) (by decide +kernel) i]
        refine Ci.mono (c_fof d I3 _ _) (fun r4 h4 k4 => ?_)
        obtain ⟨e4, er⟩ := k4
        subst e4
        have fe : r4 = foB (h_i h 257 i / 1440) q b := by
          rw [er, fr_i F3 (a := 235) (by decide +kernel) 0, P.2.2.2.2.2.2.2]
          refine fob_c _ (by omega) (fun k hk => ?_)
          rw [fr_i F3 (a := 233) (by decide +kernel) k, fr_i F3 (a := 234) (by decide +kernel) k]
          exact P.2.2.1 k hk
        have fb := foB_b (dy := h_i h 257 i / 1440) (q := q) c20
        rw [← fe] at fb
        refine ⟨I3.1, Ci.mono (c_tell2 d 0 (by decide) I3 r4 ?_) (fun r5 h5 k5 => ⟨k5.1.1, k5.1, F3.tr (k5.2.1.more (by decide +kernel)), ?_⟩)⟩
        · rcases fb with e | e
          · rw [e]
            exact ⟨by decide, by decide⟩
          · exact ⟨by show (-1 : Int) ≤ _; omega, by show _ ≤ (19 : Int); omega⟩
        · unfold evB
          rw [← fe]
          rcases k5.2.2 with ⟨e, e5⟩ | ⟨ne, f, pc, te⟩
          · rw [if_pos e, e5]
          · rw [if_neg ne]
            rcases fb with e | e
            · exact absurd e ne
            · have nk := n_nat e.1
              have t := P.2.2.2.2.2.1 r4.toNatClampNeg (by omega)
              rw [show 20 * 0 + r4.toNatClampNeg = r4.toNatClampNeg by omega] at pc te
              have l32 : (h_i h4 232 r4.toNatClampNeg).toNatClampNeg = (rlM (E.1 r4.toNatClampNeg)).length := by
                rw [fr_i F3 (a := 232) (by decide +kernel) _, t.2.2.1]
                exact on_k (by have := t.2.2.2; omega)
              have a := tel_ev (E.1 r4.toNatClampNeg) f _ _ r5 pc te (fun k v e => by rw [fr_i F3 (a := 231) (by decide +kernel) _]; exact t.2.1 k v e) (by rw [l32]) t.1
              rw [a]
              refine evC_v (s := 1) (fun c hc => ?_) _ t.1
              rw [L3, show k = 9 by omega]
              exact lt9v _ _ hc
      · have z := q_nle z
        omega
    | succ n ih =>
      intro k h3 e I3 F3 L3
      have ok := on_j (n := k) (by omega)
      obtain ⟨lk, lv⟩ := tl9 (k := k) (by omega)
      have m1 : (9 * Int32.ofNat i).toInt = 9 * (i : Int) := by rw [tx_mul (by rw [t9, oi]; omega) (by rw [t9, oi]; omega), t9, oi]
      have m2 : (9 * Int32.ofNat i + Int32.ofNat k).toInt = 9 * (i : Int) + k := by rw [tx_add (by omega) (by omega), m1, ok]
      have nn := n_nat (x := 9 * Int32.ofNat i + Int32.ofNat k) (by omega)
      have jn : (9 * Int32.ofNat i + Int32.ofNat k).toNatClampNeg = 9 * i + k := by omega
      refine t_X12_lets_2 d h3 I3.1 _ q _ _ ⟨fun z => ?_, fun _ => ?_⟩
      · have z := q_le.mp z
        omega
      · refine Ci.mono (c_letterFor (d + 1) k (by omega) h3) (fun r4 h4 k4 => ?_)
        rw [k4.1, k4.2]
        refine ⟨I3.1, dp_in (lo := 0) (hi := 2699) ⟨by show (0 : Int) ≤ _; omega, by show _ ≤ (2699 : Int); omega⟩ (by decide) (by decide), lv, ?_⟩
        rw [jn, lk, on_s (by omega), fr_i F3 (a := 261) (by decide +kernel) _]
        refine ih (k + 1) _ (by omega) (i236 I3 _ _) (F3.im (inw_row (by decide +kernel) _)) ?_
        rw [lr_is, L3]
        rfl
  exact lp 9 0 h rfl I (Fr.rf _ _) rfl
theorem evB_c {E : Enl} {dy q : Int32} {L L' : Nat → Int32} {i : Nat} {b : Bl} (c : 0 ≤ (b 13 5).toInt ∧ (b 13 5).toInt ≤ 20) (o : ∀ k : Nat, k < (b 13 5).toNatClampNeg → ∀ x ∈ E.1 k, clO 1 x) (e : ∀ t, t < 9 → L (9 * i + t) = L' (9 * i + t)) : evB E dy q L i b = evB E dy q L' i b := by
  have n := n_nat c.1
  unfold evB
  rcases foB_b (dy := dy) (q := q) c with z | z
  · rw [if_pos z, if_pos z]
  · have nz : ¬ foB dy q b = -1 := fun y => by
      rw [y] at z
      exact absurd z.1 (by decide)
    have nk := n_nat z.1
    rw [if_neg nz, if_neg nz]
    refine evC_v (s := 1) (fun x hx => ?_) _ (o _ (by omega))
    have b9 := ix_in (Or.inl rfl) hx
    have b8 : (ixq 1 (xch x)).toInt ≤ 8 := b9.2
    have nb := n_nat b9.1
    exact e _ (by omega)
theorem c_rkM (d : Nat) {h : Hp_} (I : Iv h) {x1 : Int32} (v : vp_in x1 12) (x2 x3 : Int32) : Ci (m_X12_rankOn (d + 0) 0 0) [.ref 1, .int x1, .int x2, .int x3] h (fun r h' => r = rkv (h_i h 221) (h_i h 222) (h_i h 223) (h_i h 224) x1 x2 x3 (h_i h 1 29).toNatClampNeg 0 (h_i h 204 x1.toNatClampNeg) (-1) ∧ h' = h) := by
  have a := I.2.1 1 29
  rw [show tf 1 29 = (0, 40) by decide +kernel] at a
  have n := n_nat a.1
  exact t_X12_rankOn d h I.1 x1 x2 x3 _ ⟨v, rk_M d I x1 x2 x3 _ 0 _ _ 0 rfl (by omega)⟩
theorem iq262 {h : Hp_} (I : Iv h) (k : Nat) {x : Int32} (b : rin x.toInt (0, 9)) : Iv (h_im h 262 k x) := I.im (by rw [tfa_tf (show tfa 262 = some (0, 9) by decide +kernel)]; exact b) (jw_jr (by decide) (by decide) _)
theorem iq254 {h : Hp_} (I : Iv h) (k : Nat) {x : Int32} (b : rin x.toInt (0, 1)) : Iv (h_im h 254 k x) := I.im (by rw [tfa_tf (show tfa 254 = some (0, 1) by decide +kernel)]; exact b) (jw_jr (by decide) (by decide) _)
theorem iq180 {h : Hp_} (I : Iv h) {x : Int32} (b : rin x.toInt (0, 300)) : Iv (h_im h 1 80 x) := I.im (by rw [show tf 1 80 = (0, 300) by decide +kernel]; exact b) (jw_jr (by decide) (by decide) _)
theorem iq196 {h : Hp_} (I : Iv h) {x : Int32} (b : rin x.toInt (0, 30)) : Iv (h_im h 1 96 x) := I.im (by rw [show tf 1 96 = (0, 30) by decide +kernel]; exact b) (jw_jr (by decide) (by decide) _)
theorem iq1 {h : Hp_} (I : Iv h) : (0 ≤ (h_i h 1 79).toInt ∧ (h_i h 1 79).toInt ≤ 80) ∧ (0 ≤ (h_i h 1 80).toInt ∧ (h_i h 1 80).toInt ≤ 300) ∧ (0 ≤ (h_i h 1 96).toInt ∧ (h_i h 1 96).toInt ≤ 30) ∧ (0 ≤ (h_i h 1 0).toInt ∧ (h_i h 1 0).toInt ≤ 20000) := by
  have a := I.2.1 1 79
  have b := I.2.1 1 80
  have c := I.2.1 1 96
  have e := I.2.1 1 0
  rw [show tf 1 79 = (0, 80) by decide +kernel] at a
  rw [show tf 1 80 = (0, 300) by decide +kernel] at b
  rw [show tf 1 96 = (0, 30) by decide +kernel] at c
  rw [show tf 1 0 = (0, 20000) by decide +kernel] at e
  exact ⟨⟨a.1, a.2⟩, ⟨b.1, b.2⟩, ⟨c.1, c.2⟩, e.1, e.2⟩
noncomputable def Opq (x1 : Int32) (h : Hp_) (r : Int32) (h' : Hp_) : Prop := Iv h' ∧ Fr [1096, 262999, 263999] h h' ∧ r = h_i h 1 96 ∧ h_i h' 262 = up1 (h_i h 262) (h_i h 1 96).toNatClampNeg x1 ∧ h_i h' 263 = up1 (h_i h 263) (h_i h 1 96).toNatClampNeg (h_i h 1 0) ∧ h_i h' 1 96 = h_i h 1 96 + 1
theorem c_opn (d : Nat) {h : Hp_} (I : Iv h) (n : ¬ 30 ≤ h_i h 1 96) {x1 : Int32} (b : rin x1.toInt (0, 9)) : Ci (m_X12_opened (d + 0) 0 0) [.ref 1, .int x1] h (Opq x1 h) := by
  have r := (iq1 I).2.2.1
  have t1 : (1 : Int32).toInt = 1 := rfl
  have n' := q_nle n
  rw [show (30 : Int32).toInt = 30 from rfl] at n'
  have v : vp_in (h_i h 1 96) 30 := dp_in (lo := 0) (hi := 29) ⟨r.1, by show _ ≤ (29 : Int); omega⟩ (by decide) (by decide)
  have e1 : (h_i h 1 96 + 1).toInt = (h_i h 1 96).toInt + 1 := by rw [tx_add (by rw [t1]; omega) (by rw [t1]; omega), t1]
  refine t_X12_opened d h I.1 x1 _ ⟨v, v, iq196 (tr_ 263 (by decide +kernel) (iq262 I _ b) _ _ (by decide) (by decide)) ⟨by rw [e1]; show (0 : Int) ≤ _; omega, by rw [e1]; show _ ≤ (30 : Int); omega⟩, (((Fr.rf _ _).im (inw_row (by decide +kernel) _)).im (inw_row (by decide +kernel) _)).im (by decide +kernel), ?_, ?_, ?_, ?_⟩
  · rw [Int32.add_sub_cancel]
  · repeat first | rw [im_row] | rw [im_oth (by decide)]
  · repeat first | rw [im_row] | rw [im_oth (by decide)]
  · rw [im_row, up1_at]
/-! LOOKS, the reference: see -/
noncomputable def ltM (r : Nat → Int32) (i : Nat) (v0 v1 v2 v3 v4 v5 v6 v7 v8 : Int32) : Nat → Int32 := up1 (up1 (up1 (up1 (up1 (up1 (up1 (up1 (up1 r (9 * i) v0) (9 * i + 1) v1) (9 * i + 2) v2) (9 * i + 3) v3) (9 * i + 4) v4) (9 * i + 5) v5) (9 * i + 6) v6) (9 * i + 7) v7) (9 * i + 8) v8
theorem lt_MR {r r' : Nat → Int32} {i : Nat} {v0 v1 v2 v3 v4 v5 v6 v7 v8 : Int32} {t : Nat} (ht : t < 9) : ltM r i v0 v1 v2 v3 v4 v5 v6 v7 v8 (9 * i + t) = ltR r' i v0 v1 v2 v3 v4 v5 v6 v7 v8 (9 * i + t) := by
  unfold ltM ltR up1
  match t, ht with
  | 0, _ => simp
  | 1, _ => simp
  | 2, _ => simp
  | 3, _ => simp
  | 4, _ => simp
  | 5, _ => simp
  | 6, _ => simp
  | 7, _ => simp
  | 8, _ => simp
  | t + 9, h => exact absurd h (by omega)
theorem ltM_o {r : Nat → Int32} {i : Nat} {v0 v1 v2 v3 v4 v5 v6 v7 v8 : Int32} {k : Nat} (hk : k < 9 * i) : ltM r i v0 v1 v2 v3 v4 v5 v6 v7 v8 k = r k := by
  unfold ltM
  rw [up1_ne (by omega), up1_ne (by omega), up1_ne (by omega), up1_ne (by omega), up1_ne (by omega), up1_ne (by omega), up1_ne (by omega), up1_ne (by omega), up1_ne (by omega)]
theorem ltR_o {r : Nat → Int32} {i : Nat} {v0 v1 v2 v3 v4 v5 v6 v7 v8 : Int32} {k : Nat} (hk : k < 9 * i) : ltR r i v0 v1 v2 v3 v4 v5 v6 v7 v8 k = r k := by
  unfold ltR
  rw [up1_ne (by omega), up1_ne (by omega), up1_ne (by omega), up1_ne (by omega), up1_ne (by omega), up1_ne (by omega), up1_ne (by omega), up1_ne (by omega), up1_ne (by omega)]
theorem cAt_c {f g : Nat → Int32} {p : Int32} : ∀ n, (∀ k, k < n → f k = g k) → cAt f p n = cAt g p n
  | 0, _ => rfl
  | n + 1, e => by
    unfold cAt
    rw [cAt_c n (fun k hk => e k (by omega)), e n (by omega)]
/-- the reference's rows with a sighting more -/
noncomputable def Smq (i f : Nat) (x1 n D kn : Int32) (L : Nat → Int32) (h h' : Hp_) : Prop := Iv h' ∧ Fr wz_X12_see h h' ∧ h_i h' 255 = up1 (h_i h 255) i x1 ∧ h_i h' 256 = up1 (h_i h 256) i (Int32.ofNat f) ∧ h_i h' 257 = up1 (h_i h 257) i n ∧ h_i h' 258 = up1 (h_i h 258) i D ∧ h_i h' 259 = up1 (h_i h 259) i (if D = 3 ∧ h_i h 1 96 < 30 then h_i h 1 96 else -1) ∧ h_i h' 260 = up1 (h_i h 260) i kn ∧ h_i h' 261 = L ∧ h_i h' 254 = (if D = 3 then up1 (h_i h 254) f 1 else h_i h 254) ∧ h_i h' 1 80 = h_i h 1 80 + 1 ∧ h_i h' 262 = (if D = 3 ∧ h_i h 1 96 < 30 then up1 (h_i h 262) (h_i h 1 96).toNatClampNeg (h_i h 249 f) else h_i h 262) ∧ h_i h' 263 = (if D = 3 ∧ h_i h 1 96 < 30 then up1 (h_i h 263) (h_i h 1 96).toNatClampNeg n else h_i h 263) ∧ h_i h' 1 96 = (if D = 3 ∧ h_i h 1 96 < 30 then h_i h 1 96 + 1 else h_i h 1 96)
theorem sg1_16 {E : Enl} {j : Nat} {n : Int32} {pl : Nat → Int32} {f : Nat} {b : Bl} : sg1 E j n pl f b 17 16 = b 17 16 + 1 := by
  show (if dnB E j n pl f b = 3 then up1 (up1 (b 17) 16 (b 17 16 + 1)) 8 (b 17 8 + 1) else up1 (b 17) 16 (b 17 16 + 1)) 16 = b 17 16 + 1
  by_cases y : dnB E j n pl f b = 3
  · rw [if_pos y, up1_ne (by decide), up1_at]
  · rw [if_neg y, up1_at]
theorem PMl.sg {E : Enl} {b : Bl} {h h' : Hp_} (I : Iv h) (p : PMl E b h) {j f : Nat} {n : Int32} {pl : Nat → Int32} (hf : f < (b 17 7).toNatClampNeg) (h3 : nsB b < 300) {L : Nat → Int32} (l1 : ∀ t, t < 9 → L (9 * nsB b + t) = lrB E j n pl f b (9 * nsB b + t)) (l2 : ∀ k, k < 9 * nsB b → L k = h_i h 261 k) (s : Smq (nsB b) f (Int32.ofNat j) n (dnB E j n pl f b) (if ¬ dnB E j n pl f b ≤ 1 ∧ ¬ E.2.1 (pl j) 0 = -1 then n + E.2.1 (pl j) 0 else -1) L h h') : PMl E (sg1 E j n pl f b) h' := by
  obtain ⟨a1, a2, a3, a4, a5⟩ := p
  obtain ⟨I', F, s255, s256, s257, s258, s259, s260, s261, s254, s80, s262, s263, s96⟩ := s
  have r := iq1 I
  rw [a1.1, a1.2.1, a1.2.2] at r
  have t1 : (1 : Int32).toInt = 1 := rfl
  have nn := n_nat r.2.1.1
  have n7 := n_nat r.1.1
  have n18 := n_nat r.2.2.1.1
  have e17 : sg1 E j n pl f b 17 7 = b 17 7 := sg1_17
  have e16 : sg1 E j n pl f b 17 16 = b 17 16 + 1 := sg1_16
  have f16 : (b 17 16 + 1).toInt = (b 17 16).toInt + 1 := by rw [tx_add (by rw [t1]; omega) (by rw [t1]; omega), t1]
  have ns1 : nsB (sg1 E j n pl f b) = nsB b + 1 := by
    show (sg1 E j n pl f b 17 16).toNatClampNeg = nsB b + 1
    rw [e16]
    have := n_nat (x := b 17 16 + 1) (by omega)
    show _ = (b 17 16).toNatClampNeg + 1
    omega
  rw [a1.2.2] at s259 s262 s263 s96
  refine ⟨⟨?_, ?_, ?_⟩, fun g hg => ?_, fun i hi => ?_, fun i hi => ?_, (a5.fr F (by decide +kernel) (fun x => x.fr F (by decide +kernel))).b (fun a ha => sg1_s ha)⟩
  · rw [s80, e16, a1.1]
  · rw [(F.2 1 79 (by decide +kernel)).1, e17]
    exact a1.2.1
  · rw [s96]
    show _ = (if dnB E j n pl f b = 3 ∧ b 18 3 < 30 then up1 (b 18) 3 (b 18 3 + 1) else b 18) 3
    by_cases y : dnB E j n pl f b = 3 ∧ b 18 3 < 30
    · rw [if_pos y, if_pos y, up1_at]
    · rw [if_neg y, if_neg y]
  · have q := a2 g hg
    refine ⟨fun hg' => ?_, ?_, ?_⟩
    · rw [e17] at hg'
      have q' := q.1 hg'
      refine ⟨⟨?_, ?_, ?_, ?_, ?_⟩, q'.2⟩
      · rw [fr_i F (a := 249) (by decide +kernel) g]; exact q'.1.1
      · rw [fr_i F (a := 250) (by decide +kernel) g]; exact q'.1.2.1
      · rw [fr_i F (a := 251) (by decide +kernel) g]; exact q'.1.2.2.1
      · rw [fr_i F (a := 252) (by decide +kernel) g]; exact q'.1.2.2.2.1
      · rw [fr_i F (a := 253) (by decide +kernel) g]; exact q'.1.2.2.2.2
    · rw [s254]
      show _ = (if dnB E j n pl f b = 3 then up1 (b 63) f 1 else b 63) g
      by_cases y : dnB E j n pl f b = 3
      · rw [if_pos y, if_pos y]
        by_cases e : g = f
        · rw [e, up1_at, up1_at]
        · rw [up1_ne e, up1_ne e]
          exact q.2.1
      · rw [if_neg y, if_neg y]
        exact q.2.1
    · rw [ns1]
      show up1 (b 62) f (b 62 f + 1) g = (if up1 (b 65) (nsB b) (Int32.ofNat f) (nsB b) = Int32.ofNat g then cAt (up1 (b 65) (nsB b) (Int32.ofNat f)) (Int32.ofNat g) (nsB b) + 1 else cAt (up1 (b 65) (nsB b) (Int32.ofNat f)) (Int32.ofNat g) (nsB b))
      rw [cAt_c (g := b 65) (nsB b) (fun k hk => up1_ne (by omega)), up1_at, ← q.2.2]
      by_cases e : g = f
      · rw [if_pos (by rw [e]), e, up1_at]
      · rw [if_neg (fun u => e (by
          have := congrArg Int32.toNatClampNeg u
          rw [on_k (by omega), on_k (by omega)] at this
          exact this.symm)), up1_ne e]
  · rw [ns1] at hi
    rcases Nat.lt_or_ge i (nsB b) with l | l
    · have q := a3 i l
      have ni : i ≠ nsB b := by omega
      refine ⟨⟨?_, ?_, ?_, ?_, ?_, ?_⟩, fun t ht => ?_⟩
      · rw [s255, up1_ne ni]; exact q.1.1.trans (up1_ne ni).symm
      · rw [s256, up1_ne ni]; exact q.1.2.1.trans (up1_ne ni).symm
      · rw [s257, up1_ne ni]; exact q.1.2.2.1.trans (up1_ne ni).symm
      · rw [s258, up1_ne ni]; exact q.1.2.2.2.1.trans (up1_ne ni).symm
      · rw [s259, up1_ne ni]; exact q.1.2.2.2.2.1.trans (up1_ne ni).symm
      · rw [s260, up1_ne ni]; exact q.1.2.2.2.2.2.trans (up1_ne ni).symm
      · rw [s261, l2 _ (by omega), q.2 t ht]
        exact (ltR_o (by omega)).symm
    · have ei : i = nsB b := by omega
      subst ei
      refine ⟨⟨?_, ?_, ?_, ?_, ?_, ?_⟩, fun t ht => ?_⟩
      · rw [s255, up1_at]; exact up1_at.symm
      · rw [s256, up1_at]; exact up1_at.symm
      · rw [s257, up1_at]; exact up1_at.symm
      · rw [s258, up1_at]; exact up1_at.symm
      · rw [s259, up1_at]; exact up1_at.symm
      · rw [s260, up1_at]; exact up1_at.symm
      · rw [s261, l1 t ht]
        rfl
  · have hi : i < ((if dnB E j n pl f b = 3 ∧ b 18 3 < 30 then up1 (b 18) 3 (b 18 3 + 1) else b 18) 3).toNatClampNeg := hi
    rw [s262, s263]
    show _ = (if dnB E j n pl f b = 3 ∧ b 18 3 < 30 then up1 (b 71) (b 18 3).toNatClampNeg (b 57 f) else b 71) i ∧ _ = (if dnB E j n pl f b = 3 ∧ b 18 3 < 30 then up1 (b 72) (b 18 3).toNatClampNeg n else b 72) i
    by_cases y : dnB E j n pl f b = 3 ∧ b 18 3 < 30
    · rw [if_pos y, up1_at] at hi
      have y2 := q_lt.mp y.2
      rw [show (30 : Int32).toInt = 30 from rfl] at y2
      have f18 : (b 18 3 + 1).toInt = (b 18 3).toInt + 1 := by rw [tx_add (by rw [t1]; omega) (by rw [t1]; omega), t1]
      have n18' := n_nat (x := b 18 3 + 1) (by omega)
      rw [if_pos y, if_pos y, if_pos y, if_pos y, ((a2 f (by omega)).1 hf).1.1]
      by_cases e : i = (b 18 3).toNatClampNeg
      · rw [e, up1_at, up1_at, up1_at, up1_at]
        exact ⟨rfl, rfl⟩
      · rw [up1_ne e, up1_ne e, up1_ne e, up1_ne e]
        exact a4 i (by omega)
    · rw [if_neg y] at hi
      rw [if_neg y, if_neg y, if_neg y, if_neg y]
      exact a4 i hi
/-- before it is settled whether a case is opened -/
noncomputable def Gmq (i f : Nat) (x1 n D kn : Int32) (L : Nat → Int32) (h g : Hp_) : Prop := Iv g ∧ Fr wz_X12_see h g ∧ h_i g 255 = up1 (h_i h 255) i x1 ∧ h_i g 256 = up1 (h_i h 256) i (Int32.ofNat f) ∧ h_i g 257 = up1 (h_i h 257) i n ∧ h_i g 258 = up1 (h_i h 258) i D ∧ h_i g 259 = up1 (h_i h 259) i (-1) ∧ h_i g 260 = up1 (h_i h 260) i kn ∧ h_i g 261 = L ∧ h_i g 254 = h_i h 254 ∧ h_i g 1 80 = h_i h 1 80 ∧ h_i g 262 = h_i h 262 ∧ h_i g 263 = h_i h 263 ∧ h_i g 1 96 = h_i h 1 96
theorem gm_1 {i f : Nat} {x1 n D kn : Int32} {L : Nat → Int32} {h g : Hp_} (s : Gmq i f x1 n D kn L h g) (h3 : (h_i h 1 80).toInt < 300) (I : Iv h) (d3 : ¬ D = 3) {x : Int32} (ex : x = h_i h 1 80 + 1) : Smq i f x1 n D kn L h (h_im g 1 80 x) := by
  obtain ⟨I', F, s255, s256, s257, s258, s259, s260, s261, s254, s80, s262, s263, s96⟩ := s
  have r := (iq1 I).2.1
  have t1 : (1 : Int32).toInt = 1 := rfl
  have ef : (h_i h 1 80 + 1).toInt = (h_i h 1 80).toInt + 1 := by rw [tx_add (by rw [t1]; omega) (by rw [t1]; omega), t1]
  have nd : ¬ (D = 3 ∧ h_i h 1 96 < 30) := fun u => d3 u.1
  subst ex
  refine ⟨iq180 I' ⟨by rw [ef]; show (0 : Int) ≤ _; omega, by rw [ef]; show _ ≤ (300 : Int); omega⟩, F.im (by decide +kernel), ?_, ?_, ?_, ?_, ?_, ?_, ?_, ?_, ?_, ?_, ?_, ?_⟩
  · rw [im_oth (by decide)]; exact s255
  · rw [im_oth (by decide)]; exact s256
  · rw [im_oth (by decide)]; exact s257
  · rw [im_oth (by decide)]; exact s258
  · rw [im_oth (by decide), if_neg nd]; exact s259
  · rw [im_oth (by decide)]; exact s260
  · rw [im_oth (by decide)]; exact s261
  · rw [im_oth (by decide), if_neg d3]; exact s254
  · rw [im_row, up1_at]
  · rw [im_oth (by decide), if_neg nd]; exact s262
  · rw [im_oth (by decide), if_neg nd]; exact s263
  · rw [im_row, up1_ne (by decide), if_neg nd]; exact s96
theorem gm_2 {i f : Nat} {x1 n D kn : Int32} {L : Nat → Int32} {h g : Hp_} (s : Gmq i f x1 n D kn L h g) (h3 : (h_i h 1 80).toInt < 300) (I : Iv h) (d3 : D = 3) (c : 30 ≤ h_i h 1 96) {x : Int32} (ex : x = h_i h 1 80 + 1) : Smq i f x1 n D kn L h (h_im (h_im g 254 f 1) 1 80 x) := by
  obtain ⟨I', F, s255, s256, s257, s258, s259, s260, s261, s254, s80, s262, s263, s96⟩ := s
  have r := (iq1 I).2.1
  have t1 : (1 : Int32).toInt = 1 := rfl
  have ef : (h_i h 1 80 + 1).toInt = (h_i h 1 80).toInt + 1 := by rw [tx_add (by rw [t1]; omega) (by rw [t1]; omega), t1]
  have nd : ¬ (D = 3 ∧ h_i h 1 96 < 30) := fun u => by
    have a := q_le.mp c
    have b := q_lt.mp u.2
    omega
  subst ex
  refine ⟨iq180 (iq254 I' _ ⟨by decide, by decide⟩) ⟨by rw [ef]; show (0 : Int) ≤ _; omega, by rw [ef]; show _ ≤ (300 : Int); omega⟩, (F.im (inw_row (by decide +kernel) _)).im (by decide +kernel), ?_, ?_, ?_, ?_, ?_, ?_, ?_, ?_, ?_, ?_, ?_, ?_⟩
  · rw [im_oth (by decide), im_oth (by decide)]; exact s255
  · rw [im_oth (by decide), im_oth (by decide)]; exact s256
  · rw [im_oth (by decide), im_oth (by decide)]; exact s257
  · rw [im_oth (by decide), im_oth (by decide)]; exact s258
  · rw [im_oth (by decide), im_oth (by decide), if_neg nd]; exact s259
  · rw [im_oth (by decide), im_oth (by decide)]; exact s260
  · rw [im_oth (by decide), im_oth (by decide)]; exact s261
  · rw [im_oth (by decide), im_row, if_pos d3, s254]
  · rw [im_row, up1_at]
  · rw [im_oth (by decide), im_oth (by decide), if_neg nd]; exact s262
  · rw [im_oth (by decide), im_oth (by decide), if_neg nd]; exact s263
  · rw [im_row, up1_ne (by decide), im_oth (by decide), if_neg nd]; exact s96
theorem gm_3 {i f : Nat} {x1 n D kn : Int32} {L : Nat → Int32} {h g h6 : Hp_} (s : Gmq i f x1 n D kn L h g) (h3 : (h_i h 1 80).toInt < 300) (I : Iv h) (en : h_i h 1 0 = n) (d3 : D = 3) (c : ¬ 30 ≤ h_i h 1 96) {r : Int32} (o : Opq (h_i h 249 f) (h_im g 254 f 1) r h6) {x : Int32} (ex : x = h_i h 1 80 + 1) : Smq i f x1 n D kn L h (h_im (h_im h6 259 i r) 1 80 x) := by
  obtain ⟨I', F, s255, s256, s257, s258, s259, s260, s261, s254, s80, s262, s263, s96⟩ := s
  obtain ⟨I6, F6, er, o262, o263, o96⟩ := o
  have r80 := (iq1 I).2.1
  have t1 : (1 : Int32).toInt = 1 := rfl
  have ef : (h_i h 1 80 + 1).toInt = (h_i h 1 80).toInt + 1 := by rw [tx_add (by rw [t1]; omega) (by rw [t1]; omega), t1]
  have c' := q_nle c
  have yd : D = 3 ∧ h_i h 1 96 < 30 := ⟨d3, q_lt.mpr c'⟩
  have z96 : h_i (h_im g 254 f 1) 1 96 = h_i h 1 96 := by rw [im_oth (by decide)]; exact s96
  have z0 : h_i (h_im g 254 f 1) 1 0 = n := by rw [im_oth (by decide), (F.2 1 0 (by decide +kernel)).1]; exact en
  rw [z96] at er o262 o263 o96
  rw [z0] at o263
  have k6 : ∀ a, off [1096, 262999, 263999] a = true → a ≠ 254 → h_i h6 a = h_i g a := fun a oa na => by rw [show h_i h6 a = h_i (h_im g 254 f 1) a from funext (fun k => fr_i F6 oa k), im_oth na]
  subst ex
  have Fh : Fr wz_X12_see h h6 := (F.im (inw_row (by decide +kernel) _)).tr (F6.more (by decide +kernel))
  refine ⟨iq180 (tr_ 259 (by decide +kernel) I6 _ _ (by decide) (by decide)) ⟨by rw [ef]; show (0 : Int) ≤ _; omega, by rw [ef]; show _ ≤ (300 : Int); omega⟩, (Fh.im (inw_row (by decide +kernel) _)).im (by decide +kernel), ?_, ?_, ?_, ?_, ?_, ?_, ?_, ?_, ?_, ?_, ?_, ?_⟩
  · rw [im_oth (by decide), im_oth (by decide), k6 255 (by decide +kernel) (by decide)]; exact s255
  · rw [im_oth (by decide), im_oth (by decide), k6 256 (by decide +kernel) (by decide)]; exact s256
  · rw [im_oth (by decide), im_oth (by decide), k6 257 (by decide +kernel) (by decide)]; exact s257
  · rw [im_oth (by decide), im_oth (by decide), k6 258 (by decide +kernel) (by decide)]; exact s258
  · rw [im_oth (by decide), im_row, k6 259 (by decide +kernel) (by decide), s259, up1_2, if_pos yd, er]
  · rw [im_oth (by decide), im_oth (by decide), k6 260 (by decide +kernel) (by decide)]; exact s260
  · rw [im_oth (by decide), im_oth (by decide), k6 261 (by decide +kernel) (by decide)]; exact s261
  · rw [im_oth (by decide), im_oth (by decide), show h_i h6 254 = h_i (h_im g 254 f 1) 254 from funext (fun k => fr_i F6 (by decide +kernel) k), im_row, if_pos d3, s254]
  · rw [im_row, up1_at]
  · rw [im_oth (by decide), im_oth (by decide), o262, im_oth (by decide), s262, if_pos yd]
  · rw [im_oth (by decide), im_oth (by decide), o263, im_oth (by decide), s263, if_pos yd]
  · rw [im_row, up1_ne (by decide), im_oth (by decide), o96, if_pos yd]
theorem ix9m {i : Nat} (hi : i < 300) {y : Int32} {t : Nat} (ey : y.toInt = (t : Int)) (ht : t ≤ 8) : vp_in (9 * Int32.ofNat i + y) 2700 ∧ (9 * Int32.ofNat i + y).toNatClampNeg = 9 * i + t := by
  have oi := on_j (n := i) (by omega)
  have a := ix9 (x := Int32.ofNat i) (y := y) (by rw [oi]; omega) ey ht
  rw [on_k (by omega)] at a
  rw [Int32.mul_comm]
  exact ⟨a.1, a.2.1⟩
theorem ix90m {i : Nat} (hi : i < 300) : vp_in (9 * Int32.ofNat i) 2700 ∧ (9 * Int32.ofNat i).toNatClampNeg = 9 * i := by
  have oi := on_j (n := i) (by omega)
  have a := ix90 (x := Int32.ofNat i) (by rw [oi]; omega)
  rw [on_k (by omega)] at a
  rw [Int32.mul_comm]
  exact a
theorem see_st (d : Nat) {E : Enl} {b : Bl} {h : Hp_} (I : Iv h) (P : PMl E b h) {j : Nat} (hj : j < 12) {f : Nat} (hf : f < (b 17 7).toNatClampNeg) {n : Int32} (en : h_i h 1 0 = n) {pl : Nat → Int32} (ep : (fun k => h_i h 209 k) = pl) (cs : csn f (pl j) n b) {x4 x5 : Int32} (e4 : x4 = b 62 f) (e5 : h_i h 1 80 ≤ x5) {K : Hp_ → Prop}
    (k : ∀ h', Iv h' → Fr wz_X12_see h h' → PMl E (sg1 E j n pl f b) h' → AW (m_X12_see (d + 7) 0 0) 0 0 43 [(0, .ref 1), (1, .int (Int32.ofNat j)), (2, .int (cAt pl (pl j) E.2.2.1)), (3, .int (Int32.ofNat f + 1))] [] h' (kV K)) :
    AW (m_X12_see (d + 7) 0 0) 0 0 116 [(0, .ref 1), (1, .int (Int32.ofNat j)), (2, .int (cAt pl (pl j) E.2.2.1)), (3, .int (Int32.ofNat f)), (4, .int x4), (5, .int x5)] [] h (kV K) := by
  have r := iq1 I
  have m12 := P.2.2.2.2.2.2.2.1.2
  have kj := on_k (n := j) (by omega)
  have vj : vp_in (Int32.ofNat j) 12 := on_in (by omega) (by decide)
  have r7 := r.1
  rw [P.1.2.1] at r7
  have n7 := n_nat r7.1
  have kf := on_k (n := f) (by omega)
  have of := on_j (n := f) (by omega)
  have vf : vp_in (Int32.ofNat f) 80 := on_in (by omega) (by decide)
  have rb := r.2.1
  rw [P.1.1] at rb
  have nn := n_nat rb.1
  have c1 := q_nle cs.1
  rw [show (300 : Int32).toInt = 300 from rfl] at c1
  obtain ⟨i, hi⟩ : ∃ i, i = nsB b := ⟨_, rfl⟩
  have nb : nsB b = (b 17 16).toNatClampNeg := rfl
  have i3 : i < 300 := by omega
  have ei : h_i h 1 80 = Int32.ofNat i := by
    rw [P.1.1, hi]
    exact (of_nat32 rb.1).symm
  have ki := on_k (n := i) (by omega)
  have oi := on_j (n := i) (by omega)
  have vi : vp_in (Int32.ofNat i) 300 := on_in i3 (by decide)
  have h80 : (h_i h 1 80).toInt < 300 := by rw [P.1.1]; exact c1
  have j0 := ix90m i3
  have j1 := ix9m i3 (y := 1) (t := 1) rfl (by decide)
  have j2 := ix9m i3 (y := 2) (t := 2) rfl (by decide)
  have j3 := ix9m i3 (y := 3) (t := 3) rfl (by decide)
  have j4 := ix9m i3 (y := 4) (t := 4) rfl (by decide)
  have j5 := ix9m i3 (y := 5) (t := 5) rfl (by decide)
  have j6 := ix9m i3 (y := 6) (t := 6) rfl (by decide)
  have j7 := ix9m i3 (y := 7) (t := 7) rfl (by decide)
  have j8 := ix9m i3 (y := 8) (t := 8) rfl (by decide)
  have q0 := P.2.1 f (by omega)
  have q := q0.1 hf
  have hn : 0 ≤ n.toInt ∧ n.toInt ≤ 20000 := by rw [← en]; exact r.2.2.2
  have nbl : vp_nar .boolean 1 = (1 : Int32) := by decide
  refine t_X12_see_116 d h I.1 _ _ _ x4 x5 _ ⟨fun _ => ?_, fun z => absurd e5 z⟩
  rw [ei]
  refine ⟨vi, vi, vi, vf, j0.1, vf, j1.1, vf, j2.1, j3.1, j4.1, ?_⟩
  rw [ki, kf, en, j0.2, j1.2, j2.2, j3.2, j4.2, hr_eq hn, q.1.1, q.1.2.2.2.2, q.1.2.1]
  refine Ci.mono (c_rkM d ?_ vj _ _) (fun r31 h29 k29 => ?_)
  · exact tr_ 261 (by decide +kernel) (tr_ 261 (by decide +kernel) (tr_ 261 (by decide +kernel) (tr_ 261 (by decide +kernel) (tr_ 261 (by decide +kernel) (tr_ 257 (by decide +kernel) (tr_ 256 (by decide +kernel) (tr_ 255 (by decide +kernel) I _ _ (by decide) (by decide)) _ _ (by decide) (by decide)) _ _ (by decide) (by decide)) _ _ (by decide) (by decide)) _ _ (by decide) (by decide)) _ _ (by decide) (by decide)) _ _ (by decide) (by decide)) _ _ (by decide) (by decide)
  obtain ⟨e31, e29⟩ := k29
  rw [← e29] at e31
  have I29 : Iv h29 := by
    rw [e29]
    exact tr_ 261 (by decide +kernel) (tr_ 261 (by decide +kernel) (tr_ 261 (by decide +kernel) (tr_ 261 (by decide +kernel) (tr_ 261 (by decide +kernel) (tr_ 257 (by decide +kernel) (tr_ 256 (by decide +kernel) (tr_ 255 (by decide +kernel) I _ _ (by decide) (by decide)) _ _ (by decide) (by decide)) _ _ (by decide) (by decide)) _ _ (by decide) (by decide)) _ _ (by decide) (by decide)) _ _ (by decide) (by decide)) _ _ (by decide) (by decide)) _ _ (by decide) (by decide)
  have F29 : Fr wz_X12_see h h29 := by
    rw [e29]
    exact (((((((((Fr.rf _ _).im (inw_row (by decide +kernel) _)).im (inw_row (by decide +kernel) _)).im (inw_row (by decide +kernel) _)).im (inw_row (by decide +kernel) _)).im (inw_row (by decide +kernel) _)).im (inw_row (by decide +kernel) _)).im (inw_row (by decide +kernel) _)).im (inw_row (by decide +kernel) _))
  have w255 : h_i h29 255 = up1 (h_i h 255) i (Int32.ofNat j) := by
    rw [e29]
    repeat first | rw [im_row] | rw [im_oth (by decide)]
  have w256 : h_i h29 256 = up1 (h_i h 256) i (Int32.ofNat f) := by
    rw [e29]
    repeat first | rw [im_row] | rw [im_oth (by decide)]
  have w257 : h_i h29 257 = up1 (h_i h 257) i n := by
    rw [e29]
    repeat first | rw [im_row] | rw [im_oth (by decide)]
  have w261 : h_i h29 261 = up1 (up1 (up1 (up1 (up1 (h_i h 261) (9 * i) (b 57 f)) (9 * i + 1) (b 61 f)) (9 * i + 2) (b 58 f)) (9 * i + 3) (hrN n)) (9 * i + 4) (n / 1440) := by
    rw [e29]
    repeat first | rw [im_row] | rw [im_oth (by decide)]
  have st29 : ∀ a, a = 254 ∨ a = 258 ∨ a = 259 ∨ a = 260 ∨ a = 262 ∨ a = 263 ∨ a = 1 → h_i h29 a = h_i h a := fun a ha => by
    rw [e29]
    rcases ha with e | e | e | e | e | e | e <;> subst e <;> (repeat rw [im_oth (by decide)])
  clear e29
  have PE29 : PEm E b h29 := P.2.2.2.2.fr F29 (by decide +kernel) (fun x => x.fr F29 (by decide +kernel))
  have q31 : r31 = rkB E j n b := by
    rw [e31, kj, PE29.2.1 j hj, PE29.2.2.2.2.2.2.1]
    exact (rkv_eq PE29.1 _ 0 _ _ (by
      have a := I29.2.1 1 29
      rw [show tf 1 29 = (0, 40) by decide +kernel, PE29.2.2.2.2.2.2.1] at a
      have a1 : (b 21 4).toInt ≤ 40 := a.2
      have na := n_nat a.1
      omega)).symm
  refine ⟨I29.1, j5.1, j6.1, j7.1, vf, j8.1, ?_⟩
  rw [j5.2, j6.2, j7.2, j8.2, show h_i h29 1 0 = n by rw [st29 1 (by omega)]; exact en, fr_i F29 (a := 251) (by decide +kernel) f, q.1.2.2.1]
  have L0 : up1 (up1 (up1 (up1 (h_i h29 261) (9 * i + 5) r31) (9 * i + 6) (cAt pl (pl j) E.2.2.1)) (9 * i + 7) x4) (9 * i + 8) (n - b 59 f) = ltM (h_i h 261) i (b 57 f) (b 61 f) (b 58 f) (hrN n) (n / 1440) (rkB E j n b) (cAt pl (pl j) E.2.2.1) (b 62 f) (n - b 59 f) := by
    rw [w261, q31, e4]
    rfl
  have F33 : Fr wz_X12_see h (h_im (h_im (h_im (h_im h29 261 (9 * i + 5) r31) 261 (9 * i + 6) (cAt pl (pl j) E.2.2.1)) 261 (9 * i + 7) x4) 261 (9 * i + 8) (n - b 59 f)) := (((F29.im (inw_row (by decide +kernel) _)).im (inw_row (by decide +kernel) _)).im (inw_row (by decide +kernel) _)).im (inw_row (by decide +kernel) _)
  refine Ci.mono (c_letM d (tr_ 261 (by decide +kernel) (tr_ 261 (by decide +kernel) (tr_ 261 (by decide +kernel) (tr_ 261 (by decide +kernel) I29 _ _ (by decide) (by decide)) _ _ (by decide) (by decide)) _ _ (by decide) (by decide)) _ _ (by decide) (by decide)) (P.2.2.2.2.fr F33 (by decide +kernel) (fun x => x.fr F33 (by decide +kernel))) i i3 _) (fun r39 h37 k37 => ?_)
  obtain ⟨I37, F37, e39⟩ := k37
  have o33 : ∀ a, a ≠ 261 → h_i (h_im (h_im (h_im (h_im h29 261 (9 * i + 5) r31) 261 (9 * i + 6) (cAt pl (pl j) E.2.2.1)) 261 (9 * i + 7) x4) 261 (9 * i + 8) (n - b 59 f)) a = h_i h29 a := fun a na => by rw [im_oth na, im_oth na, im_oth na, im_oth na]
  have l33 : h_i (h_im (h_im (h_im (h_im h29 261 (9 * i + 5) r31) 261 (9 * i + 6) (cAt pl (pl j) E.2.2.1)) 261 (9 * i + 7) x4) 261 (9 * i + 8) (n - b 59 f)) 261 = ltM (h_i h 261) i (b 57 f) (b 61 f) (b 58 f) (hrN n) (n / 1440) (rkB E j n b) (cAt pl (pl j) E.2.2.1) (b 62 f) (n - b 59 f) := by rw [im_row, im_row, im_row, im_row, L0]
  rw [o33 257 (by decide), w257, up1_at, l33] at e39
  have F37' : Fr wz_X12_see h h37 := F33.tr (F37.more (by decide +kernel))
  have g37 : ∀ a, off wzL a = true → a ≠ 261 → h_i h37 a = h_i h29 a := fun a oa na => (funext (fun k => fr_i F37 oa k)).trans (o33 a na)
  have l37 : h_i h37 261 = ltM (h_i h 261) i (b 57 f) (b 61 f) (b 58 f) (hrN n) (n / 1440) (rkB E j n b) (cAt pl (pl j) E.2.2.1) (b 62 f) (n - b 59 f) := (funext (fun k => fr_i F37 (by decide +kernel) k)).trans l33
  have z37 : ∀ k, inw wzL 1 k = false → h_i h37 1 k = h_i h 1 k := fun k ok => by rw [(F37.2 1 k ok).1, o33 1 (by decide), st29 1 (by omega)]
  clear F37 o33 l33
  have b13 : 0 ≤ (b 13 5).toInt ∧ (b 13 5).toInt ≤ 20 := by
    have := i20 I
    rw [P.2.2.2.2.2.2.2.2.2.2.2] at this
    exact this
  have lM : ∀ t, t < 9 → ltM (h_i h 261) i (b 57 f) (b 61 f) (b 58 f) (hrN n) (n / 1440) (rkB E j n b) (cAt pl (pl j) E.2.2.1) (b 62 f) (n - b 59 f) (9 * i + t) = lrB E j n pl f b (9 * i + t) := fun t ht => by
    unfold lrB
    rw [← hi]
    exact lt_MR ht
  have q39 : r39 = dnB E j n pl f b := by
    rw [e39]
    unfold dnB
    rw [← hi]
    exact evB_c b13 (fun k hk => (P.2.2.2.2.2.2.2.2.2.1 k hk).1) lM
  have e1 : Fr wz_X12_see h h37 := F37'
  generalize hL : ltM (h_i h 261) i (b 57 f) (b 61 f) (b 58 f) (hrN n) (n / 1440) (rkB E j n b) (cAt pl (pl j) E.2.2.1) (b 62 f) (n - b 59 f) = L at l37 lM
  have lo : ∀ k, k < 9 * i → L k = h_i h 261 k := fun k hk => by rw [← hL]; exact ltM_o hk
  -- the end, alike in all cases
  have fin : ∀ (kn : Int32) (h' : Hp_), kn = (if ¬ dnB E j n pl f b ≤ 1 ∧ ¬ E.2.1 (pl j) 0 = -1 then n + E.2.1 (pl j) 0 else -1) → Smq i f (Int32.ofNat j) n r39 kn L h h' → AW (m_X12_see (d + 7) 0 0) 0 0 43 [(0, .ref 1), (1, .int (Int32.ofNat j)), (2, .int (cAt pl (pl j) E.2.2.1)), (3, .int (Int32.ofNat f + 1))] [] h' (kV K) := fun kn h' ek s => by
    rw [ek, q39, hi] at s
    rw [hi] at lM lo
    exact k h' s.1 s.2.1 (P.sg I hf (by omega) lM lo s)
  have G0 : Gmq i f (Int32.ofNat j) n r39 (-1) L h (h_im (h_im (h_im h37 258 i r39) 259 i (-1)) 260 i (-1)) := by
    refine ⟨tr_ 260 (by decide +kernel) (tr_ 259 (by decide +kernel) (tr_ 258 (by decide +kernel) I37 _ _ (by decide) (by decide)) _ _ (by decide) (by decide)) _ _ (by decide) (by decide), ((e1.im (inw_row (by decide +kernel) _)).im (inw_row (by decide +kernel) _)).im (inw_row (by decide +kernel) _), ?_, ?_, ?_, ?_, ?_, ?_, ?_, ?_, ?_, ?_, ?_, ?_⟩
    · rw [im_oth (by decide), im_oth (by decide), im_oth (by decide), g37 255 (by decide +kernel) (by decide)]; exact w255
    · rw [im_oth (by decide), im_oth (by decide), im_oth (by decide), g37 256 (by decide +kernel) (by decide)]; exact w256
    · rw [im_oth (by decide), im_oth (by decide), im_oth (by decide), g37 257 (by decide +kernel) (by decide)]; exact w257
    · rw [im_oth (by decide), im_oth (by decide), im_row, g37 258 (by decide +kernel) (by decide), st29 258 (by omega)]
    · rw [im_oth (by decide), im_row, im_oth (by decide), g37 259 (by decide +kernel) (by decide), st29 259 (by omega)]
    · rw [im_row, im_oth (by decide), im_oth (by decide), g37 260 (by decide +kernel) (by decide), st29 260 (by omega)]
    · rw [im_oth (by decide), im_oth (by decide), im_oth (by decide)]; exact l37
    · rw [im_oth (by decide), im_oth (by decide), im_oth (by decide), g37 254 (by decide +kernel) (by decide), st29 254 (by omega)]
    · rw [im_oth (by decide), im_oth (by decide), im_oth (by decide)]; exact z37 80 (by decide +kernel)
    · rw [im_oth (by decide), im_oth (by decide), im_oth (by decide), g37 262 (by decide +kernel) (by decide), st29 262 (by omega)]
    · rw [im_oth (by decide), im_oth (by decide), im_oth (by decide), g37 263 (by decide +kernel) (by decide), st29 263 (by omega)]
    · rw [im_oth (by decide), im_oth (by decide), im_oth (by decide)]; exact z37 96 (by decide +kernel)
  have e80 : h_i h37 1 80 + 1 = h_i h 1 80 + 1 := by rw [z37 80 (by decide +kernel)]
  have k249 : ∀ g, Fr wz_X12_see h g → h_i g 249 f = h_i h 249 f := fun g F => fr_i F (by decide +kernel) f
  have rk9 : rin (h_i h 249 f).toInt (0, 9) := dp_rg I 249 f (show tfa 249 = some (0, 9) by decide +kernel)
  refine ⟨I37.1, vi, vi, vi, vi, fun y => ⟨vi, fun n3 => ?_, fun y3 => ?_⟩, fun ny => ⟨vj, ?_⟩⟩
  · exact fin (-1) _ (if_neg (fun u => u.1 (q39 ▸ y))).symm (gm_1 G0 h80 I n3 e80)
  · rw [y3] at y
    exact absurd y (by decide)
  · have hp : h_i h37 209 (Int32.ofNat j).toNatClampNeg = pl j := by rw [kj, fr_i e1 (a := 209) (by decide +kernel) j, ← ep]
    have pb : 0 ≤ (pl j).toInt ∧ (pl j).toInt < 16 := by rw [← cs.2.2.1]; exact q.2
    rw [hp]
    have xp : ExP (h_im (h_im (h_im h37 258 i r39) 259 i (-1)) 260 i (-1)) := P.2.2.2.2.2.2.2.2.1.1.fr G0.2.1 (by decide +kernel)
    refine Ci.mono (c_woI d G0.1 xp (pl j) 0 pb ⟨by decide, by decide⟩) (fun r57 h55 k57 => ?_)
    obtain ⟨I55, F55, e57⟩ := k57
    have w57 : r57 = E.2.1 (pl j) 0 := by
      rw [e57, ← P.2.2.2.2.2.2.2.2.1.2]
      unfold wI
      rw [fr_i G0.2.1 (a := 30) (by decide +kernel) _]
    have F55' : Fr wz_X12_see h h55 := G0.2.1.tr (F55.more (by decide +kernel))
    have g55 : ∀ a, off [203999] a = true → h_i h55 a = h_i (h_im (h_im (h_im h37 258 i r39) 259 i (-1)) 260 i (-1)) a := fun a oa => funext (fun k => fr_i F55 oa k)
    have G1 : ∀ kn, Gmq i f (Int32.ofNat j) n r39 kn L h (h_im h55 260 i kn) := fun kn => by
      obtain ⟨_, _, a255, a256, a257, a258, a259, a260, a261, a254, a80, a262, a263, a96⟩ := G0
      refine ⟨tr_ 260 (by decide +kernel) I55 _ _ (by decide) (by decide), F55'.im (inw_row (by decide +kernel) _), ?_, ?_, ?_, ?_, ?_, ?_, ?_, ?_, ?_, ?_, ?_, ?_⟩
      · rw [im_oth (by decide), g55 255 (by decide +kernel)]; exact a255
      · rw [im_oth (by decide), g55 256 (by decide +kernel)]; exact a256
      · rw [im_oth (by decide), g55 257 (by decide +kernel)]; exact a257
      · rw [im_oth (by decide), g55 258 (by decide +kernel)]; exact a258
      · rw [im_oth (by decide), g55 259 (by decide +kernel)]; exact a259
      · rw [im_row, g55 260 (by decide +kernel), a260, up1_2]
      · rw [im_oth (by decide), g55 261 (by decide +kernel)]; exact a261
      · rw [im_oth (by decide), g55 254 (by decide +kernel)]; exact a254
      · rw [im_oth (by decide), g55 1 (by decide +kernel)]; exact a80
      · rw [im_oth (by decide), g55 262 (by decide +kernel)]; exact a262
      · rw [im_oth (by decide), g55 263 (by decide +kernel)]; exact a263
      · rw [im_oth (by decide), g55 1 (by decide +kernel)]; exact a96
    have s258 : h_i h55 258 i = r39 := by rw [g55 258 (by decide +kernel), G0.2.2.2.2.2.1, up1_at]
    have s80 : h_i h55 1 80 + 1 = h_i h 1 80 + 1 := by rw [g55 1 (by decide +kernel), G0.2.2.2.2.2.2.2.2.2.2.1]
    have s96 : h_i h55 1 96 = h_i h 1 96 := by rw [g55 1 (by decide +kernel)]; exact G0.2.2.2.2.2.2.2.2.2.2.2.2.2
    have s0 : h_i h55 1 0 = n := by rw [(F55'.2 1 0 (by decide +kernel)).1]; exact en
    -- both ways on
    have go : ∀ kn, kn = (if ¬ dnB E j n pl f b ≤ 1 ∧ ¬ E.2.1 (pl j) 0 = -1 then n + E.2.1 (pl j) 0 else -1) → (¬ r39 = 3 → AW (m_X12_see (d + 7) 0 0) 0 0 43 [(0, .ref 1), (1, .int (Int32.ofNat j)), (2, .int (cAt pl (pl j) E.2.2.1)), (3, .int (Int32.ofNat f + 1))] [] (h_im (h_im h55 260 i kn) 1 80 (h_i h55 1 80 + 1)) (kV K)) ∧ (r39 = 3 → vp_in (Int32.ofNat f) 80 ∧ ((30 ≤ h_i h55 1 96 → AW (m_X12_see (d + 7) 0 0) 0 0 43 [(0, .ref 1), (1, .int (Int32.ofNat j)), (2, .int (cAt pl (pl j) E.2.2.1)), (3, .int (Int32.ofNat f + 1))] [] (h_im (h_im (h_im h55 260 i kn) 254 f 1) 1 80 (h_i h55 1 80 + 1)) (kV K)) ∧ (¬ 30 ≤ h_i h55 1 96 → vp_in (Int32.ofNat f) 80 ∧ Ci (m_X12_opened (d + 0) 0 0) [.ref 1, .int (h_i h55 249 f)] (h_im (h_im h55 260 i kn) 254 f 1) (fun r67 h65 => Wf h65 ∧ (vp_in (Int32.ofNat i) 300 ∧ AW (m_X12_see (d + 7) 0 0) 0 0 43 [(0, .ref 1), (1, .int (Int32.ofNat j)), (2, .int (cAt pl (pl j) E.2.2.1)), (3, .int (Int32.ofNat f + 1))] [] (h_im (h_im h65 259 i r67) 1 80 (h_i h65 1 80 + 1)) (kV K)))))) := fun kn ek => by
      refine ⟨fun n3 => fin kn _ ek (gm_1 (G1 kn) h80 I n3 s80), fun y3 => ⟨vf, fun c => fin kn _ ek (gm_2 (G1 kn) h80 I y3 (by rw [← s96]; exact c) s80), fun c => ⟨vf, ?_⟩⟩⟩
      have IG := (G1 kn).1
      have c' : ¬ 30 ≤ h_i (h_im (h_im h55 260 i kn) 254 f 1) 1 96 := by rw [im_oth (by decide), im_oth (by decide)]; exact c
      rw [k249 h55 F55']
      refine Ci.mono (c_opn d (iq254 IG _ ⟨by decide, by decide⟩) c' rk9) (fun r67 h65 o => ⟨o.1.1, vi, ?_⟩)
      have e65 : h_i h65 1 80 + 1 = h_i h 1 80 + 1 := by rw [(o.2.1.2 1 80 (by decide +kernel)).1, im_oth (by decide), im_oth (by decide), s80]
      exact fin kn _ ek (gm_3 (G1 kn) h80 I en y3 (by rw [← s96]; exact c) o e65)
    rw [s258, s0, nbl]
    refine ⟨I55.1, fun nw => ⟨vi, vi, ?_⟩, fun yw => ⟨vi, vi, ?_⟩⟩
    · exact go (n + r57) (by rw [w57] at nw ⊢; rw [if_pos ⟨q39 ▸ ny, nw⟩])
    · exact go (-1) (by rw [w57] at yw; rw [if_neg (fun u => u.2 yw)])
end
section
/-! LOOKS, the reference: the loops; what the men's machine wants of it -/
theorem see_116 (d : Nat) {E : Enl} {b : Bl} {h : Hp_} (I : Iv h) (P : PMl E b h) {j : Nat} (hj : j < 12) {f : Nat} (hf : f < (b 17 7).toNatClampNeg) {n : Int32} (en : h_i h 1 0 = n) {pl : Nat → Int32} (ep : (fun k => h_i h 209 k) = pl) (cs : csn f (pl j) n b) {K : Hp_ → Prop}
    (k : ∀ h', Iv h' → Fr wz_X12_see h h' → PMl E (sg1 E j n pl f b) h' → AW (m_X12_see (d + 7) 0 0) 0 0 43 [(0, .ref 1), (1, .int (Int32.ofNat j)), (2, .int (cAt pl (pl j) E.2.2.1)), (3, .int (Int32.ofNat f + 1))] [] h' (kV K)) :
    AW (m_X12_see (d + 7) 0 0) 0 0 116 [(0, .ref 1), (1, .int (Int32.ofNat j)), (2, .int (cAt pl (pl j) E.2.2.1)), (3, .int (Int32.ofNat f)), (4, .int 0), (5, .int 0)] [] h (kV K) := by
  have r := iq1 I
  have rb := r.2.1
  rw [P.1.1] at rb
  have nn := n_nat rb.1
  have r7 := r.1
  rw [P.1.2.1] at r7
  have n7 := n_nat r7.1
  have q0 := P.2.1 f (by omega)
  have q := q0.1 hf
  have nb : nsB b = (b 17 16).toNatClampNeg := rfl
  have lp : ∀ (t i : Nat), i + t = nsB b → AW (m_X12_see (d + 7) 0 0) 0 0 116 [(0, .ref 1), (1, .int (Int32.ofNat j)), (2, .int (cAt pl (pl j) E.2.2.1)), (3, .int (Int32.ofNat f)), (4, .int (cAt (b 65) (Int32.ofNat f) i)), (5, .int (Int32.ofNat i))] [] h (kV K) := by
    intro t
    induction t with
    | zero =>
      intro i e
      refine see_st d I P hj hf en ep cs ?_ ?_ k
      · rw [q0.2.2, show i = nsB b by omega]
      · rw [P.1.1]
        refine q_le.mpr ?_
        rw [on_j (by omega)]
        omega
    | succ t ih =>
      intro i e
      have ki := on_k (n := i) (by omega)
      have oi := on_j (n := i) (by omega)
      have vi : vp_in (Int32.ofNat i) 300 := on_in (by omega) (by decide)
      have y := ih (i + 1) (by omega)
      rw [← on_s (by omega)] at y
      have s := (P.2.2.1 i (by omega)).1.2.1
      refine t_X12_see_116 d h I.1 _ _ _ _ _ _ ⟨fun z => ?_, fun _ => ⟨vi, ?_⟩⟩
      · have z := q_le.mp z
        rw [P.1.1, oi] at z
        omega
      · rw [ki, s]
        refine ⟨fun z => ?_, fun z => ?_⟩
        · rw [show cAt (b 65) (Int32.ofNat f) (i + 1) = cAt (b 65) (Int32.ofNat f) i from if_neg z] at y
          rw [Int32.add_zero]
          exact y
        · rw [show cAt (b 65) (Int32.ofNat f) (i + 1) = cAt (b 65) (Int32.ofNat f) i + 1 from if_pos z] at y
          exact y
  exact lp (nsB b) 0 (by omega)
theorem c_seeM (d : Nat) {E : Enl} {b : Bl} {h : Hp_} (I : Iv h) (P : PMl E b h) {x1 : Int32} (p : 0 ≤ x1.toInt ∧ x1.toInt ≤ 11) : Cv (m_X12_see (d + 7) 0 0) [.ref 1, .int x1] h (fun h' => Iv h' ∧ Fr wz_X12_see h h' ∧ PMl E (lR (lPB E) x1.toNatClampNeg h b) h') := by
  have n1 := n_nat p.1
  obtain ⟨j, hj⟩ : ∃ j, j = x1.toNatClampNeg := ⟨_, rfl⟩
  have ex : x1 = Int32.ofNat j := by rw [hj]; exact (of_nat32 p.1).symm
  have pm : j < 12 := by omega
  have kj := on_k (n := j) (by omega)
  have vj : vp_in (Int32.ofNat j) 12 := on_in (by omega) (by decide)
  rw [← hj, ex]
  have r := iq1 I
  have n79 := n_nat r.1.1
  have m12 := P.2.2.2.2.2.2.2.1
  have fn : ∀ (t i : Nat) (h2 : Hp_), i + t = (b 17 7).toNatClampNeg → Iv h2 → Fr wz_X12_see h h2 → PMl E (lkN E j (h_i h 1 0) (fun k => h_i h 209 k) i b) h2 → AW (m_X12_see (d + 7) 0 0) 0 0 43 [(0, .ref 1), (1, .int (Int32.ofNat j)), (2, .int (cAt (fun k => h_i h 209 k) (h_i h 209 j) E.2.2.1)), (3, .int (Int32.ofNat i))] [] h2 (kV (fun h' => Iv h' ∧ Fr wz_X12_see h h' ∧ PMl E (lR (lPB E) j h b) h')) := by
    intro t
    induction t with
    | zero =>
      intro i h2 e I2 F2 P2
      have e79 : h_i h2 1 79 = h_i h 1 79 := (F2.2 1 79 (by decide +kernel)).1
      refine t_X12_see_43 d h2 I2.1 _ _ _ _ ⟨fun _ => ⟨I2, F2, ?_⟩, fun z => ?_⟩
      · unfold lR lPB
        rw [← e]
        exact P2
      · have z := q_nle z
        rw [P.1.2.1] at n79 r e79
        rw [e79, on_j (by omega)] at z
        omega
    | succ t ih =>
      intro i h2 e I2 F2 P2
      have e79 : h_i h2 1 79 = h_i h 1 79 := (F2.2 1 79 (by decide +kernel)).1
      have n2 : h_i h2 1 0 = h_i h 1 0 := (F2.2 1 0 (by decide +kernel)).1
      have p2 : (fun k => h_i h2 209 k) = (fun k => h_i h 209 k) := funext (fun k => fr_i F2 (by decide +kernel) k)
      rw [P.1.2.1] at n79 r e79
      have oi := on_j (n := i) (by omega)
      have ki := on_k (n := i) (by omega)
      have vi : vp_in (Int32.ofNat i) 80 := on_in (by omega) (by decide)
      have b7 : lkN E j (h_i h 1 0) (fun k => h_i h 209 k) i b 17 7 = b 17 7 := lkN_17 i
      have hf : i < (lkN E j (h_i h 1 0) (fun k => h_i h 209 k) i b 17 7).toNatClampNeg := by rw [b7]; omega
      have q0 := P2.2.1 i (by omega)
      have q := q0.1 hf
      have nxt := ih (i + 1)
      rw [← on_s (by omega)] at nxt
      have stay : ¬ csn i (h_i h 209 j) (h_i h 1 0) (lkN E j (h_i h 1 0) (fun k => h_i h 209 k) i b) → AW (m_X12_see (d + 7) 0 0) 0 0 43 [(0, .ref 1), (1, .int (Int32.ofNat j)), (2, .int (cAt (fun k => h_i h 209 k) (h_i h 209 j) E.2.2.1)), (3, .int (Int32.ofNat i + 1))] [] h2 (kV (fun h' => Iv h' ∧ Fr wz_X12_see h h' ∧ PMl E (lR (lPB E) j h b) h')) := fun nc => by
        refine nxt h2 (by omega) I2 F2 ?_
        show PMl E (lk1 E j (h_i h 1 0) (fun k => h_i h 209 k) i (lkN E j (h_i h 1 0) (fun k => h_i h 209 k) i b)) h2
        unfold lk1
        rw [if_neg nc]
        exact P2
      refine t_X12_see_43 d h2 I2.1 _ _ _ _ ⟨fun z => ?_, fun _ => ⟨vi, vj, ?_⟩⟩
      · have z := q_le.mp z
        rw [e79, oi] at z
        omega
      · rw [ki, kj, n2, show h_i h2 209 j = h_i h 209 j from congrFun p2 j, q.1.2.1, q.1.2.2.1, q.1.2.2.2.1, q0.2.1, P2.1.1]
        refine ⟨fun z => stay (fun u => z u.2.2.1), fun a3 => ⟨vi, vi, fun z => stay (fun u => z u.2.2.2), fun a4 => ⟨vi, fun z => stay (fun u => z u.2.1), fun a2 => ⟨fun z => ?_, fun z => stay (fun u => u.1 (by rw [z]; decide))⟩⟩⟩⟩
        have c : csn i (h_i h 209 j) (h_i h 1 0) (lkN E j (h_i h 1 0) (fun k => h_i h 209 k) i b) := by
          refine ⟨fun u => z (Int32.toInt_inj.mp ?_), a2, a3, a4⟩
          have u := q_le.mp u
          have r2 := (iq1 I2).2.1
          rw [P2.1.1] at r2
          rw [show (300 : Int32).toInt = 300 from rfl] at u ⊢
          omega
        refine see_116 d I2 P2 pm hf n2 p2 c (fun h7 I7 F7 P7 => ?_)
        refine nxt h7 (by omega) I7 (F2.tr F7) ?_
        show PMl E (lk1 E j (h_i h 1 0) (fun k => h_i h 209 k) i (lkN E j (h_i h 1 0) (fun k => h_i h 209 k) i b)) h7
        unfold lk1
        rw [if_pos c]
        exact P7
  have lp : ∀ (t i : Nat), i + t = E.2.2.1 → AW (m_X12_see (d + 7) 0 0) 0 0 4 [(0, .ref 1), (1, .int (Int32.ofNat j)), (2, .int (cAt (fun k => h_i h 209 k) (h_i h 209 j) i)), (3, .int (Int32.ofNat i))] [] h (kV (fun h' => Iv h' ∧ Fr wz_X12_see h h' ∧ PMl E (lR (lPB E) j h b) h')) := by
    intro t
    induction t with
    | zero =>
      intro i e
      refine t_X12_see_4 d h I.1 _ _ _ _ ⟨fun _ => ?_, fun z => ?_⟩
      · have y := fn (b 17 7).toNatClampNeg 0 h (by omega) I (Fr.rf _ _) P
        rw [show i = E.2.2.1 by omega]
        exact y
      · have z := q_nle z
        rw [m12.1, on_j (by have := m12.2; omega), on_j (by have := m12.2; omega)] at z
        omega
    | succ t ih =>
      intro i e
      have ki := on_k (n := i) (by have := m12.2; omega)
      have vi : vp_in (Int32.ofNat i) 12 := on_in (by have := m12.2; omega) (by decide)
      have y := ih (i + 1) (by omega)
      rw [← on_s (by have := m12.2; omega)] at y
      refine t_X12_see_4 d h I.1 _ _ _ _ ⟨fun z => ?_, fun _ => ⟨vi, vj, ?_⟩⟩
      · have z := q_le.mp z
        rw [m12.1, on_j (by have := m12.2; omega), on_j (by have := m12.2; omega)] at z
        omega
      · rw [ki, kj]
        refine ⟨fun z => ?_, fun z => ?_⟩
        · rw [show cAt (fun k => h_i h 209 k) (h_i h 209 j) (i + 1) = cAt (fun k => h_i h 209 k) (h_i h 209 j) i from if_neg z] at y
          rw [Int32.add_zero]
          exact y
        · rw [show cAt (fun k => h_i h 209 k) (h_i h 209 j) (i + 1) = cAt (fun k => h_i h 209 k) (h_i h 209 j) i + 1 from if_pos z] at y
          exact y
  exact t_X12_see d h _ _ (lp E.2.2.1 0 (by omega))
/-- one who is free tells what he noted, the reference -/
theorem PMl.tn {E : Enl} {b : Bl} {h h' : Hp_} (P : PMl E b h) {x1 x2 : Int32} (F : Fr [260999] h h') (e : ∀ i, i < nsB b → h_i h' 260 i = tnK (nsB b) x1 x2 b i) : PMl E (tnB x1 x2 b) h' := by
  obtain ⟨a1, a2, a3, a4, a5⟩ := P
  have g : ∀ a, off [260999] a = true → h_i h' a = h_i h a := fun a oa => funext (fun k => fr_i F oa k)
  refine ⟨?_, ?_, fun i hi => ?_, ?_, (a5.fr F (by decide +kernel) (fun x => x.fr F (by decide +kernel))).b (fun a ha => tnB_o ?_)⟩
  · rw [g 1 (by decide +kernel)]
    exact a1
  · rw [g 249 (by decide +kernel), g 250 (by decide +kernel), g 251 (by decide +kernel), g 252 (by decide +kernel), g 253 (by decide +kernel), g 254 (by decide +kernel)]
    exact a2
  · have q := a3 i hi
    rw [g 255 (by decide +kernel), g 256 (by decide +kernel), g 257 (by decide +kernel), g 258 (by decide +kernel), g 259 (by decide +kernel), g 261 (by decide +kernel)]
    exact ⟨⟨q.1.1, q.1.2.1, q.1.2.2.1, q.1.2.2.2.1, q.1.2.2.2.2.1, e i hi⟩, q.2⟩
  · rw [g 262 (by decide +kernel), g 263 (by decide +kernel)]
    exact a4
  · have z : lkS.all (fun a => decide (a ≠ 69)) = true := by decide
    exact of_decide_eq_true (List.all_eq_true.mp z a ha)
theorem c_freeM (d : Nat) {E : Enl} {b : Bl} {h : Hp_} (I : Iv h) (P : PMl E b h) (x1 : Int32) : AW (m_X12_free (d + 0) 0 0) 0 0 42 [(0, .ref 1), (1, .int x1), (2, .int 0)] [] h (kV (fun h' => Iv h' ∧ Fr [260999] h h' ∧ PMl E (tnB x1 (h_i h 1 0) b) h')) := by
  have r := (iq1 I).2.1
  rw [P.1.1] at r
  have nn := n_nat r.1
  have nb : nsB b = (b 17 16).toNatClampNeg := rfl
  have lp : ∀ (t i : Nat) (h2 : Hp_), i + t = nsB b → Iv h2 → Fr [260999] h h2 → (∀ k, k < nsB b → h_i h2 260 k = tnK i x1 (h_i h 1 0) b k) → AW (m_X12_free (d + 0) 0 0) 0 0 42 [(0, .ref 1), (1, .int x1), (2, .int (Int32.ofNat i))] [] h2 (kV (fun h' => Iv h' ∧ Fr [260999] h h' ∧ PMl E (tnB x1 (h_i h 1 0) b) h')) := by
    intro t
    induction t with
    | zero =>
      intro i h2 e I2 F2 R2
      refine t_X12_free_42 d h2 I2.1 x1 _ _ ⟨fun _ => ⟨I2, F2, P.tn F2 (fun k hk => ?_)⟩, fun z => ?_⟩
      · rw [R2 k hk, show i = nsB b by omega]
      · have z := q_nle z
        rw [fr_i F2 (a := 1) (by decide +kernel) 80, P.1.1, on_j (by omega)] at z
        omega
    | succ t ih =>
      intro i h2 e I2 F2 R2
      have oi := on_j (n := i) (by omega)
      have ki := on_k (n := i) (by omega)
      have v : vp_in (Int32.ofNat i) 300 := on_in (by omega) (by decide)
      have q := (P.2.2.1 i (by omega)).1
      have st := tnK_s i x1 (h_i h 1 0) b
      refine t_X12_free_42 d h2 I2.1 x1 _ _ ⟨fun z => ?_, fun _ => ⟨v, ?_⟩⟩
      · have z := q_le.mp z
        rw [fr_i F2 (a := 1) (by decide +kernel) 80, P.1.1, oi] at z
        omega
      · rw [ki, fr_i F2 (a := 255) (by decide +kernel) i, q.1, fr_i F2 (a := 258) (by decide +kernel) i, q.2.2.2.1, R2 i (by omega), tnK_i, fr_i F2 (a := 1) (by decide +kernel) 0, on_s (by omega)]
        refine ⟨fun z => ?_, fun a1 => ⟨v, fun z => ?_, fun a2 => ⟨v, fun z => ?_, fun a3 => ⟨v, ?_⟩⟩⟩⟩
        · exact ih (i + 1) h2 (by omega) I2 F2 (by rw [st, if_neg (fun u => z u.1)]; exact R2)
        · exact ih (i + 1) h2 (by omega) I2 F2 (by rw [st, if_neg (fun u => z u.2.1)]; exact R2)
        · exact ih (i + 1) h2 (by omega) I2 F2 (by rw [st, if_neg (fun u => z u.2.2)]; exact R2)
        · refine ih (i + 1) _ (by omega) (i260 I2 _ _) (F2.im (inw_row (by decide +kernel) _)) (fun k hk => ?_)
          rw [im_row, st, if_pos ⟨a1, a2, a3⟩]
          by_cases u : k = i
          · rw [u, up1_at, up1_at]
          · rw [up1_ne u, up1_ne u]
            exact R2 k hk
  exact lp (nsB b) 0 h (by omega) I (Fr.rf _ _) (fun k hk => by
    rw [(P.2.2.1 k hk).1.2.2.2.2.2]
    exact (if_neg (fun u => by omega)).symm)
noncomputable def mws : List Nat := [1000, 1063, 208999, 209999, 210999, 211999, 212999, 213999, 214999, 215999, 216999, 217999, 218999, 219999, 220999, 238999, 239999, 240999, 241999, 242999, 243999, 244999, 248999]
theorem PMl.im {E : Enl} {b : Bl} {h : Hp_} {a k : Nat} {x : Int32} (P : PMl E b h) (o : (208 ≤ a ∧ a ≤ 219) ∨ (238 ≤ a ∧ a ≤ 244) ∨ a = 248 ∨ (a = 1 ∧ k = 63)) : PMl E b (h_im h a k x) := by
  have z : (List.range 249).all (fun a => (!(decide (208 ≤ a ∧ a ≤ 219) || decide (238 ≤ a ∧ a ≤ 244) || decide (a = 248))) || inw mws a 999) = true := by decide +kernel
  have g : inw mws a k = true := by
    by_cases e : a = 1 ∧ k = 63
    · rw [e.1, e.2]
      decide +kernel
    · have c : (208 ≤ a ∧ a ≤ 219) ∨ (238 ≤ a ∧ a ≤ 244) ∨ a = 248 := by
        rcases o with o | o | o | o
        · exact Or.inl o
        · exact Or.inr (Or.inl o)
        · exact Or.inr (Or.inr o)
        · exact absurd o e
      have y := List.all_eq_true.mp z a (List.mem_range.mpr (by omega))
      rw [Bool.or_eq_true, Bool.not_eq_true', Bool.or_eq_false_iff, Bool.or_eq_false_iff, decide_eq_false_iff_not, decide_eq_false_iff_not, decide_eq_false_iff_not] at y
      rcases y with y | y
      · exact absurd c (fun c => by
          rcases c with c | c | c
          · exact y.1.1 c
          · exact y.1.2 c
          · exact y.2 c)
      · exact inw_row y k
  have F : Fr mws h (h_im h a k x) := (Fr.rf _ _).im g
  exact P.fr F (by decide +kernel) (by decide +kernel) (fun x => x.fr F (by decide +kernel))
theorem pmL (E : Enl) : PMok (PMl E) tnB (lR (lPB E)) := ⟨fun b h a k x o P => P.im o, fun b h h' F P => P.fr F (by decide +kernel) (by decide +kernel) (fun x => x.fr F (by decide +kernel)), fun d b h x1 I _ P => c_freeM d I P x1, fun d b h x1 I p P => c_seeM d I P p⟩
theorem pmtL (E : Enl) (m : Nat) : PMtk (PMl E) nBl m := fun b h h' x I F _ P => by
  have G : Fr mws h (h_im h' 1 0 x) := (F.more (by decide +kernel)).im (by decide +kernel)
  exact P.fr G (by decide +kernel) (by decide +kernel) (fun x => x.fr G (by decide +kernel))
end
section
/-! LOOKS: what class and reference keep alike between calls -/
noncomputable def gdC (h : Hp_) (k : Nat) (C : List Cl2) : Prop := (∀ c ∈ C, clO 1 c) ∧ (h_i h 39 k = Int32.ofNat (rlN C) ∧ rlN C ≤ 164 ∧ ∀ i v, (rlX 1 0 C)[i]? = some v → h_i h 40 (164 * k + i) = v) ∧ At_ (h_i h 231) (560 * k) (rlM C) ∧ h_i h 232 k = Int32.ofNat (rlM C).length ∧ (rlM C).length ≤ 560
noncomputable def CCo (h : Hp_) (k : Nat) : List Cl2 := Classical.epsilon (gdC h k)
noncomputable def El (h : Hp_) : Enl := (CCo h, wI h, (h_i h 0 7).toNatClampNeg, h_i h 204)
noncomputable def ExK (h : Hp_) : Prop := (h_i h 1 80 = h_i h 17 16 ∧ h_i h 1 79 = h_i h 17 7 ∧ h_i h 1 96 = h_i h 18 3 ∧ h_i h 1 29 = h_i h 21 4 ∧ h_i h 235 0 = h_i h 13 5 ∧ (h_i h 0 7).toNatClampNeg ≤ 12) ∧ (∀ f : Nat, f < 80 → (f < (h_i h 17 7).toNatClampNeg → (h_i h 249 f = h_i h 57 f ∧ h_i h 250 f = h_i h 58 f ∧ h_i h 251 f = h_i h 59 f ∧ h_i h 252 f = h_i h 60 f ∧ h_i h 253 f = h_i h 61 f) ∧ (0 ≤ (h_i h 58 f).toInt ∧ (h_i h 58 f).toInt < 16)) ∧ h_i h 254 f = h_i h 63 f ∧ h_i h 62 f = cAt (h_i h 65) (Int32.ofNat f) (h_i h 17 16).toNatClampNeg) ∧ (∀ i : Nat, i < (h_i h 17 16).toNatClampNeg → (h_i h 255 i = h_i h 64 i ∧ h_i h 256 i = h_i h 65 i ∧ h_i h 257 i = h_i h 66 i ∧ h_i h 258 i = h_i h 67 i ∧ h_i h 259 i = h_i h 68 i ∧ h_i h 260 i = h_i h 69 i) ∧ ∀ t : Nat, t < 9 → h_i h 261 (9 * i + t) = h_i h 70 (9 * i + t)) ∧ (∀ i : Nat, i < (h_i h 18 3).toNatClampNeg → h_i h 262 i = h_i h 71 i ∧ h_i h 263 i = h_i h 72 i) ∧ (∀ k : Nat, k < 40 → h_i h 104 k = h_i h 221 k ∧ h_i h 105 k = h_i h 222 k ∧ h_i h 106 k = h_i h 223 k ∧ h_i h 107 k = h_i h 224 k) ∧ (∀ k : Nat, k < (h_i h 13 5).toNatClampNeg → h_i h 233 k = h_i h 37 k ∧ h_i h 234 k = h_i h 38 k) ∧ (∀ j : Nat, j < (h_i h 0 7).toNatClampNeg → h_i h (401 + j) 1 = h_i h 204 j) ∧ ∀ k : Nat, k < (h_i h 13 5).toNatClampNeg → ∃ C, gdC h k C
noncomputable def kRw : List Nat := [37, 38, 39, 40, 57, 58, 59, 60, 61, 62, 63, 64, 65, 66, 67, 68, 69, 70, 71, 72, 104, 105, 106, 107, 204, 221, 222, 223, 224, 231, 232, 233, 234, 235, 249, 250, 251, 252, 253, 254, 255, 256, 257, 258, 259, 260, 261, 262, 263]
noncomputable def kF : List (Nat × Nat) := [(1, 80), (17, 16), (1, 79), (17, 7), (1, 96), (18, 3), (1, 29), (21, 4), (13, 5), (0, 7)]
theorem ExK.cg {h h' : Hp_} (e : ExK h) (R : ∀ a ∈ kRw, h_i h' a = h_i h a) (F : ∀ q ∈ kF, h_i h' q.1 q.2 = h_i h q.1 q.2) (M : ∀ j : Nat, j < (h_i h 0 7).toNatClampNeg → h_i h' (401 + j) 1 = h_i h (401 + j) 1) : ExK h' := by
  have f1_80 : h_i h' 1 80 = h_i h 1 80 := F (1, 80) (by decide)
  have f17_16 : h_i h' 17 16 = h_i h 17 16 := F (17, 16) (by decide)
  have f1_79 : h_i h' 1 79 = h_i h 1 79 := F (1, 79) (by decide)
  have f17_7 : h_i h' 17 7 = h_i h 17 7 := F (17, 7) (by decide)
  have f1_96 : h_i h' 1 96 = h_i h 1 96 := F (1, 96) (by decide)
  have f18_3 : h_i h' 18 3 = h_i h 18 3 := F (18, 3) (by decide)
  have f1_29 : h_i h' 1 29 = h_i h 1 29 := F (1, 29) (by decide)
  have f21_4 : h_i h' 21 4 = h_i h 21 4 := F (21, 4) (by decide)
  have f13_5 : h_i h' 13 5 = h_i h 13 5 := F (13, 5) (by decide)
  have f0_7 : h_i h' 0 7 = h_i h 0 7 := F (0, 7) (by decide)
  obtain ⟨e1, e2, e3, e4, e5, e6, e7, e8⟩ := e
  refine ⟨?_, ?_, ?_, ?_, ?_, ?_, fun j hj => ?_, ?_⟩
  · rw [R 235 (by decide), f1_80, f17_16, f1_79, f17_7, f1_96, f18_3, f1_29, f21_4, f13_5, f0_7]
    exact e1
  · rw [R 249 (by decide), R 250 (by decide), R 251 (by decide), R 252 (by decide), R 253 (by decide), R 57 (by decide), R 58 (by decide), R 59 (by decide), R 60 (by decide), R 61 (by decide), R 254 (by decide), R 63 (by decide), R 62 (by decide), R 65 (by decide), f17_7, f17_16]
    exact e2
  · rw [R 255 (by decide), R 256 (by decide), R 257 (by decide), R 258 (by decide), R 259 (by decide), R 260 (by decide), R 261 (by decide), R 64 (by decide), R 65 (by decide), R 66 (by decide), R 67 (by decide), R 68 (by decide), R 69 (by decide), R 70 (by decide), f17_16]
    exact e3
  · rw [R 262 (by decide), R 263 (by decide), R 71 (by decide), R 72 (by decide), f18_3]
    exact e4
  · rw [R 104 (by decide), R 105 (by decide), R 106 (by decide), R 107 (by decide), R 221 (by decide), R 222 (by decide), R 223 (by decide), R 224 (by decide)]
    exact e5
  · rw [R 233 (by decide), R 234 (by decide), R 37 (by decide), R 38 (by decide), f13_5]
    exact e6
  · rw [f0_7] at hj
    rw [M j hj, R 204 (by decide)]
    exact e7 j hj
  · unfold gdC
    rw [R 39 (by decide), R 40 (by decide), R 231 (by decide), R 232 (by decide), f13_5]
    exact e8
noncomputable def exoK (ws : List Nat) : Bool := kRw.all (fun a => off ws a) && kF.all (fun q => !inw ws q.1 q.2) && !inw ws 401 1
theorem ExK.fr {ws : List Nat} {h h' : Hp_} (e : ExK h) (f : Fr ws h h') (o : exoK ws = true) : ExK h' := by
  unfold exoK at o
  rw [Bool.and_eq_true, Bool.and_eq_true, Bool.not_eq_true'] at o
  have nm := e.1.2.2.2.2.2
  refine e.cg (fun a ha => funext (fun k => fr_i f (List.all_eq_true.mp o.1.1 a ha) k)) (fun q hq => ?_) (fun j hj => ?_)
  · have z := List.all_eq_true.mp o.1.2 q hq
    rw [Bool.not_eq_true'] at z
    exact (f.2 q.1 q.2 z).1
  · have c1 : cn (401 + j) = cn 401 := (cn_man (by omega)).trans (by decide)
    exact (f.2 (401 + j) 1 (by rw [inw_ce c1]; exact o.2)).1
theorem kR_b : kRw.all (fun a => decide (a < 200 ∨ (200 ≤ a ∧ a < 300))) = true := by decide
theorem ExK.mf {W : List Nat} {h h' : Hp_} (e : ExK h) (f : Mf W h h') (o : exoK W = true) : ExK h' := by
  unfold exoK at o
  rw [Bool.and_eq_true, Bool.and_eq_true, Bool.not_eq_true'] at o
  have nm := e.1.2.2.2.2.2
  refine e.cg (fun a ha => funext (fun k => ?_)) (fun q hq => ?_) (fun j hj => ?_)
  · rcases of_decide_eq_true (List.all_eq_true.mp kR_b a ha) with b | b
    · exact (f.2.2.2 a k (Or.inl b) (off_inw (List.all_eq_true.mp o.1.1 a ha) k)).1
    · exact f.2.1 a b.1 b.2 k
  · have z := List.all_eq_true.mp o.1.2 q hq
    rw [Bool.not_eq_true'] at z
    have y : kF.all (fun q => decide (q.1 < 200)) = true := by decide
    exact (f.2.2.2 q.1 q.2 (Or.inl (of_decide_eq_true (List.all_eq_true.mp y q hq))) z).1
  · have c1 : cn (401 + j) = cn 401 := (cn_man (by omega)).trans (by decide)
    exact (f.2.2.2 (401 + j) 1 (Or.inr ⟨by omega, by omega⟩) (by rw [inw_ce c1]; exact o.2)).1
theorem ExK.gd {h : Hp_} (e : ExK h) {k : Nat} (hk : k < (h_i h 13 5).toNatClampNeg) : gdC h k (CCo h k) := Classical.epsilon_spec (e.2.2.2.2.2.2.2 k hk)
theorem n13_in {h : Hp_} (I : Iv h) : 0 ≤ (h_i h 13 5).toInt ∧ (h_i h 13 5).toInt ≤ 20 := by
  have a := I.2.1 13 5
  rw [show tf 13 5 = (0, 20) by decide +kernel] at a
  exact ⟨a.1, a.2⟩
theorem ExK.pb {h : Hp_} (e : ExK h) (I : Iv h) (x : ExM h) : PBl (El h) (h_i h) h := by
  have n13 := n_nat (n13_in I).1
  refine ⟨fun _ _ => rfl, ⟨rfl, rfl, rfl, rfl, rfl, rfl, rfl, rfl, rfl, rfl, rfl, rfl, rfl⟩, fun j hj => ⟨(x.2.2.1 j hj).2.1, e.2.2.2.2.2.2.1 j hj, x.2.1 j ?_⟩, ⟨x.m I, x.1.2.2.2⟩, rfl, fun k hk => ?_⟩
  · have hj : j < (h_i h 0 7).toNatClampNeg := hj
    have nm := n_nat (menX_in I).1
    omega
  · have g := e.gd (k := k) (by omega)
    exact ⟨g.1, g.2.1.1, g.2.1.2.1, g.2.1.2.2⟩
theorem ExK.pm {h : Hp_} (e : ExK h) (I : Iv h) (x : ExM h) (R : ExR h) : PMl (El h) (h_i h) h := ⟨⟨e.1.1, e.1.2.1, e.1.2.2.1⟩, e.2.1, e.2.2.1, e.2.2.2.1, e.2.2.2.2.1, fun _ _ => rfl, e.2.2.2.2.2.1, ⟨by rw [← x.1.1]; exact x.m I, x.1.2.2.2⟩, ⟨R.2, rfl⟩, fun k hk => by
  have g := e.gd hk
  exact ⟨g.1, g.2.2.1, g.2.2.2.1, g.2.2.2.2⟩, e.1.2.2.2.1, e.1.2.2.2.2.1⟩
/-- and back -/
theorem ExK.of {E : Enl} {b : Bl} {h : Hp_} (I : Iv h) (p : PBl E b h) (q : PMl E b h) : ExK h := by
  obtain ⟨pS, ⟨r17, r18, r62, r63, r64, r65, r66, r67, r68, r69, r70, r71, r72⟩, pE⟩ := p
  obtain ⟨a1, a2, a3, a4, b1, b2, b3, b4, b5, b6, b7, b8⟩ := q
  have n13 := n_nat (n13_in I).1
  have m12 := pE.2.1.2
  have nm : (h_i h 0 7).toNatClampNeg = E.2.2.1 := by rw [pE.2.1.1]; exact on_k (by omega)
  unfold nsB at a2 a3
  rw [← r17, ← r18] at a1
  rw [← r17, ← r63, ← r65, ← r62, ← pS 57 (by decide), ← pS 58 (by decide), ← pS 59 (by decide), ← pS 60 (by decide), ← pS 61 (by decide)] at a2
  rw [← r17, ← r64, ← r65, ← r66, ← r67, ← r68, ← r69, ← r70] at a3
  rw [← r18, ← r71, ← r72] at a4
  rw [← pS 104 (by decide), ← pS 105 (by decide), ← pS 106 (by decide), ← pS 107 (by decide)] at b1
  rw [← pS 13 (by decide), ← pS 37 (by decide), ← pS 38 (by decide)] at b3
  rw [← pS 13 (by decide)] at b6 b8
  rw [← pS 21 (by decide)] at b7
  refine ⟨⟨a1.1, a1.2.1, a1.2.2, b7, b8, by rw [nm]; exact m12⟩, a2, a3, a4, b1, b3, fun j hj => ?_, fun k hk => ?_⟩
  · rw [nm] at hj
    rw [(pE.1 j hj).2.1]
    exact (b2 j (by omega)).symm
  · have t := pE.2.2.2 k (by omega)
    have u := b6 k hk
    exact ⟨E.1 k, u.1, ⟨t.2.1, t.2.2.1, t.2.2.2⟩, u.2.1, u.2.2.1, u.2.2.2⟩
/-! draw, ill, begin -/
theorem Sxm.er {E : Enl} {c : Nat} {n : Int32} {M' : Nat → Int32} {r : Nat} {ev : List Ev2} {b' : Bl} {h h' : Hp_} (z : Sxm (PBl E) c n M' r ev b' h h') : Sxm PU c n M' r ev () h h' := ⟨z.1, z.2.1, z.2.2.1, z.2.2.2.1, trivial⟩
theorem Mx.er {E : Enl} {j : Nat} {n : Int32} {M' : Nat → Int32} {r : Nat} {ev : List Ev2} {b' : Bl} {h h' : Hp_} (z : Mx (PMl E) j n M' r ev b' h h') : Mx PU j n M' r ev () h h' := ⟨z.1, z.2.1, z.2.2.1, z.2.2.2.1, trivial⟩
theorem pm_fr {E : Enl} {b : Bl} {h h1 : Hp_} (p : PMl E b h) (f : Fr wBx h h1) : PMl E b h1 := p.fr f (by decide +kernel) (by decide +kernel) (fun x => x.fr f (by decide +kernel))
theorem wM_B {h h1 : Hp_} (f : Fr wMx h h1) : Fr wBx h h1 := f.more (by decide +kernel)
theorem pb_fr {E : Enl} {b : Bl} {h h1 : Hp_} (p : PBl E b h) (f : Fr mwB h h1) : PBl E b h1 := p.fr f (by decide +kernel)
theorem mR_B {h h1 : Hp_} (f : Fr mwR h h1) : Fr mwB h h1 := f.more (by decide +kernel)
/-- the class's: answer 1 -> b1; else nothing -/
noncomputable def LxX (b1 : Bl) (h : Hp_) (r : Int32) (h' : Hp_) : Prop := (r = 1 ∧ PBl (El h) b1 h') ∨ (r = 0 ∧ h' = h)
noncomputable def LxM (b1 : Bl) (h h1 : Hp_) (r : Int32) (h' : Hp_) : Prop := (r = 1 ∧ PMl (El h) b1 h') ∨ (r = 0 ∧ Fr [203999] h1 h')
theorem ExK.lx {b1 : Bl} {h h1 h2 : Hp_} {r1 r2 : Int32} (e : ExK h) (I : Iv h) (I2 : Iv h2) (er : r1 = r2) (k1 : LxX b1 h r1 h1) (k2 : LxM b1 h h1 r2 h2) (f2 : Fr mwB h1 h2) : ExK h2 := by
  rcases k1 with k1 | k1
  · rcases k2 with k2 | k2
    · exact ExK.of I2 (pb_fr k1.2 f2) k2.2
    · exact absurd (k1.1.symm.trans (er.trans k2.1)) (by decide)
  · rcases k2 with k2 | k2
    · exact absurd (k1.1.symm.trans (er.trans k2.1)) (by decide)
    · rw [k1.2] at k2
      exact e.fr k2.2 (by decide +kernel)
theorem c_dwK (d : Nat) {h : Hp_} (I : Iv h) (x : ExM h) (e : ExK h) (x1 x2 x3 : Int32) : Ci (m_X11_draw (d + 5) 0 0) [.ref 0, .int x1, .int x2, .int x3] h (fun r h' => Iv h' ∧ Fr wMx h h' ∧ DxX x1 x2 x3 h r h' ∧ LxX (fB tnB (h_i h 0 0) (fDw (h_i h 0 0) (wI h) x2 x3 (h_i h (401 + x1.toNatClampNeg))).1 (h_i h)) h r h') := by
  refine Ci.mono (c_dw (pbL (El h)) d I x.2.1 (b := h_i h) (e.pb I x) x1 x2 x3 (fun y => (x.rk I y).2)) (fun r h' k => ?_)
  by_cases c : isM h x1 ∧ okDw h (h_i h (401 + x1.toNatClampNeg)) x2 x3
  · have z := k.1 c
    have hj := (x.rk I c.1).1
    have m12 := x.1.2.2.2
    exact ⟨z.2.1, gw_fr z.2.2.1 (by omega) (by omega) (by decide +kernel) (fun k => inw_row (by decide +kernel) k) (by decide +kernel), ⟨fun _ => ⟨z.1, z.2.er⟩, fun n => absurd c n⟩, Or.inl ⟨z.1, z.2.2.2.2.2⟩⟩
  · have z := k.2 c
    rw [z.2]
    exact ⟨I, Fr.rf _ _, ⟨fun n => absurd n c, fun _ => ⟨z.1, rfl⟩⟩, Or.inr ⟨z.1, rfl⟩⟩
theorem c_dwKM (d : Nat) {h h1 : Hp_} (I1 : Iv h1) (I : Iv h) (x : ExM h) (R : ExR h) (e : ExK h) (f : Fr wMx h h1) (x1 x2 x3 : Int32) : Ci (m_X12_draw (d + 5) 0 0) [.ref 1, .int x1, .int x2, .int x3] h1 (fun r h' => DwP PU (fun _ _ b => b) x1 x2 x3 (h_i h (401 + x1.toNatClampNeg)) () h1 r h' ∧ LxM (fB tnB (h_i h 0 0) (fDw (h_i h 0 0) (wI h) x2 x3 (h_i h (401 + x1.toNatClampNeg))).1 (h_i h)) h h1 r h') := by
  have R1 : ExP h1 := R.2.fr f (by decide +kernel)
  have ew : wI h1 = wI h := wI_cg (funext (fun k => fr_i f (by decide +kernel) k))
  have e10 : h_i h1 1 0 = h_i h 0 0 := ((f.2 1 0 (by decide +kernel)).1).trans x.1.2.1.symm
  have K := m_dw (pmL (El h)) d I1 R1 x1 x2 x3 (b := h_i h) (pm_fr (e.pm I x R) (wM_B f)) (h_i h (401 + x1.toNatClampNeg)) (fun y => by
    obtain ⟨_, q1, q2, q3, q4⟩ := x.rp I f y
    refine ⟨q1, q2, q3.1.2.1, q4, fun q e6 a => ?_⟩
    have al := q3.1.2.2.2.2.2.2.2
    rw [if_pos e6] at al
    rw [ew] at a ⊢
    exact (wok I R.2).2.2.2.1 _ _ _ al a)
  refine Ci.mono K (fun r h' k => ?_)
  unfold DwP at k ⊢
  by_cases c : isN h1 x1 ∧ (0 ≤ x2 ∧ x2 ≤ 15) ∧ (h_i h1 1 0 ≤ x3 ∧ x3 ≤ 30000) ∧ ¬ wI h1 (h_i h (401 + x1.toNatClampNeg) 3) x2 = -1 ∧ ¬ h_i h (401 + x1.toNatClampNeg) 4 = 3 ∧ ¬ h_i h (401 + x1.toNatClampNeg) 4 = 4
  · have z := k.1 c
    refine ⟨⟨fun _ => ⟨z.1, z.2.er⟩, fun n => absurd c n⟩, Or.inl ⟨z.1, ?_⟩⟩
    have p := z.2.2.2.2.2
    rw [ew, e10] at p
    exact p
  · have z := k.2 c
    exact ⟨⟨fun n => absurd n c, fun _ => z⟩, Or.inr ⟨z.1, z.2.2⟩⟩
theorem ExK.dw {h h1 h2 : Hp_} {x1 x2 x3 r1 r2 : Int32} (e : ExK h) (I : Iv h) (x : ExM h) (R : ExR h) (f : Fr wMx h h1) (k1 : DxX x1 x2 x3 h r1 h1 ∧ LxX (fB tnB (h_i h 0 0) (fDw (h_i h 0 0) (wI h) x2 x3 (h_i h (401 + x1.toNatClampNeg))).1 (h_i h)) h r1 h1) (k2 : DwP PU (fun _ _ b => b) x1 x2 x3 (h_i h (401 + x1.toNatClampNeg)) () h1 r2 h2 ∧ LxM (fB tnB (h_i h 0 0) (fDw (h_i h 0 0) (wI h) x2 x3 (h_i h (401 + x1.toNatClampNeg))).1 (h_i h)) h h1 r2 h2) : ExK h2 := by
  have z := ExM.dw I x R f k1.1 k2.1
  exact e.lx I z.1 z.2.2.2 k1.2 k2.2 (mR_B z.2.1)
/-- ill -/
noncomputable def ilB (x1 x2 n : Int32) (b : Bl) : Bl := if x2 = 1 then b else tnB x1 n b
theorem isM0 {h : Hp_} (I : Iv h) (x : ExM h) {x1 : Int32} (y : isM h x1) : h_i h (401 + x1.toNatClampNeg) 0 = x1 := by
  have hj := (x.rk I y).1
  have mm := menX_in I
  have y2 := y.2
  exact (x.2.2.1 _ hj).2.1.trans (on_of ⟨y.1, by omega⟩)
theorem c_ilK (d : Nat) {h : Hp_} (I : Iv h) (x : ExM h) (e : ExK h) (x1 x2 : Int32) (b2 : x2 = 0 ∨ x2 = 1) : Ci (m_X11_ill (d + 3) 0 0) [.ref 0, .int x1, .int x2] h (fun r h' => Iv h' ∧ Fr wMx h h' ∧ (x2 = 0 ∨ x2 = 1) ∧ IxX x1 x2 h r h' ∧ LxX (ilB x1 x2 (h_i h 0 0) (h_i h)) h r h') := by
  have m12 := x.1.2.2.2
  refine Ci.mono (c_il (pbL (El h)) d I x.2.1 (b := h_i h) (e.pb I x) x1 x2 b2 (fun y => (x.rk I y).2)) (fun r h' k => ?_)
  have K : IxX x1 x2 h r h' := ⟨fun c => ⟨(k.1 c).1, (k.1 c).2.er⟩, fun c => ⟨(k.2.1 c).1, (k.2.1 c).2.er⟩, k.2.2⟩
  rcases il_cs (P := isM h x1) (Q := h_i h (401 + x1.toNatClampNeg) 4 = 4) b2 with c | c | c
  · have z := k.1 c
    have hj := (x.rk I c.1).1
    refine ⟨z.2.1, sx_fr (by omega) z.2.er, b2, K, Or.inl ⟨z.1, ?_⟩⟩
    unfold ilB
    rw [if_pos c.2.2]
    exact z.2.2.2.2.2
  · have z := k.2.1 c
    have hj := (x.rk I c.1).1
    refine ⟨z.2.1, sx_fr (by omega) z.2.er, b2, K, Or.inl ⟨z.1, ?_⟩⟩
    unfold ilB
    rw [if_neg (fun u => absurd (c.2.2.symm.trans u) (by decide))]
    have p := z.2.2.2.2.2
    rw [isM0 I x c.1] at p
    exact p
  · have z := k.2.2 c
    have eh := z.2
    subst eh
    exact ⟨I, Fr.rf _ _, b2, K, Or.inr ⟨z.1, rfl⟩⟩
theorem c_ilKM (d : Nat) {h h1 : Hp_} (I1 : Iv h1) (I : Iv h) (x : ExM h) (R : ExR h) (e : ExK h) (f : Fr wMx h h1) (x1 x2 : Int32) (b2 : x2 = 0 ∨ x2 = 1) : Ci (m_X12_ill (d + 2) 0 0) [.ref 1, .int x1, .int x2] h1 (fun r h' => IxM x1 x2 (h_i h (401 + x1.toNatClampNeg)) h1 r h' ∧ LxM (ilB x1 x2 (h_i h 0 0) (h_i h)) h h1 r h') := by
  have e10 : h_i h1 1 0 = h_i h 0 0 := ((f.2 1 0 (by decide +kernel)).1).trans x.1.2.1.symm
  refine Ci.mono (m_il (pmL (El h)) d I1 x1 x2 b2 (b := h_i h) (pm_fr (e.pm I x R) (wM_B f)) (h_i h (401 + x1.toNatClampNeg)) (fun y => ?_)) (fun r h' k => ?_)
  · obtain ⟨_, q1, q2, q3, q4⟩ := x.rp I f y
    exact ⟨q1, q2, q3.1.2.2.2.2.1, q4⟩
  · have K : IxM x1 x2 (h_i h (401 + x1.toNatClampNeg)) h1 r h' := ⟨fun c => ⟨(k.1 c).1, (k.1 c).2.er⟩, fun c => ⟨(k.2.1 c).1, (k.2.1 c).2.er⟩, k.2.2⟩
    refine ⟨K, ?_⟩
    rcases il_cs (P := isN h1 x1) (Q := h_i h (401 + x1.toNatClampNeg) 4 = 4) b2 with c | c | c
    · have z := k.1 c
      refine Or.inl ⟨z.1, ?_⟩
      unfold ilB
      rw [if_pos c.2.2]
      exact z.2.2.2.2.2
    · have z := k.2.1 c
      refine Or.inl ⟨z.1, ?_⟩
      unfold ilB
      rw [if_neg (fun u => absurd (c.2.2.symm.trans u) (by decide)), ← e10]
      exact z.2.2.2.2.2
    · have z := k.2.2 c
      rw [z.2]
      exact Or.inr ⟨z.1, Fr.rf _ _⟩
theorem ExK.il {h h1 h2 : Hp_} {x1 x2 r1 r2 : Int32} (e : ExK h) (I : Iv h) (x : ExM h) (R : ExR h) (f : Fr wMx h h1) (b2 : x2 = 0 ∨ x2 = 1) (I1 : Iv h1) (k1 : IxX x1 x2 h r1 h1 ∧ LxX (ilB x1 x2 (h_i h 0 0) (h_i h)) h r1 h1) (k2 : IxM x1 x2 (h_i h (401 + x1.toNatClampNeg)) h1 r2 h2 ∧ LxM (ilB x1 x2 (h_i h 0 0) (h_i h)) h h1 r2 h2) : ExK h2 := by
  have z := ExM.il I x R f b2 I1 k1.1 k2.1
  exact e.lx I z.1 z.2.2.2 k1.2 k2.2 (mR_B z.2.1)
theorem c_bgK (d : Nat) {h : Hp_} (I : Iv h) (x : ExM h) (e : ExK h) (S : ExS h) (B : ExB h) (x1 x2 : Int32) : Ci (m_X11_begin (d + 6) 0 0) [.ref 0, .int x1, .int x2] h (fun r h' => Iv h' ∧ Fr wBx h h' ∧ BgX x1 x2 h r h' ∧ LxX (fB tnB (h_i h 0 0) (BgF x1 x2 h).1 (h_i h)) h r h') := by
  have m12 := x.1.2.2.2
  refine Ci.mono (c_bg (PB := PBl (El h)) (pbL (El h)) d I x.2.1 (b := h_i h) (e.pb I x) x1 x2 (fun y => isM0 I x y) (bL h x2.toNatClampNeg) (bs_x I S B x2)) (fun r h' k => ?_)
  by_cases c : BgK x1 x2 h
  · have z := k.1 c
    have hj := (x.rk I c.1).1
    have zu : Bxm PU (401 + x1.toNatClampNeg) x1 (h_i h 0 0) (BgF x1 x2 h).1 (h_i h 16 7).toNatClampNeg (ptL (bL h x2.toNatClampNeg)) (BgF x1 x2 h).2 () h h' := ⟨z.2.1, z.2.2.1, z.2.2.2.1, z.2.2.2.2.1, z.2.2.2.2.2.1, z.2.2.2.2.2.2.1, trivial⟩
    exact ⟨z.2.1, gw_fr z.2.2.1 (by omega) (by omega) (by decide +kernel) (fun k => inw_row (by decide +kernel) k) (by decide +kernel), ⟨fun _ => ⟨z.1, zu⟩, fun n => absurd c n⟩, Or.inl ⟨z.1, z.2.2.2.2.2.2.2⟩⟩
  · have z := k.2 c
    have eh := z.2
    subst eh
    exact ⟨I, Fr.rf _ _, ⟨fun n => absurd n c, fun _ => z⟩, Or.inr ⟨z.1, rfl⟩⟩
theorem c_bgKM (d : Nat) {h h1 : Hp_} (I1 : Iv h1) (I : Iv h) (x : ExM h) (e : ExK h) (R : ExR h) (S : ExS h) (e42 : h_i h 12 3 = h_i h 1 42) (f : Fr wBx h h1) (x1 x2 : Int32) : Ci (m_X12_begin (d + 4) 0 0) [.ref 1, .int x1, .int x2] h1 (fun r h' => BgM x1 x2 h h1 r h' ∧ LxM (fB tnB (h_i h 0 0) (BgF x1 x2 h).1 (h_i h)) h h1 r h') := by
  obtain ⟨ew, eb, es, e1, rr⟩ := bg_k f (Or.inr trivial)
  have R1 : ExP h1 := R.2.fr f (by decide +kernel)
  have b3 := x12_in I
  have n3 := n_nat b3.1
  have iN : isN h1 x1 ↔ isM h x1 := by
    unfold isN isM
    rw [e1, ← x.1.1]
  have K := m_bg (PM := PMl (El h)) (pmL (El h)) d I1 R1 x1 x2 (b := h_i h) (pm_fr (e.pm I x R) f) (h_i h (401 + x1.toNatClampNeg)) (fun y => ?_) (bL h x2.toNatClampNeg) (fun b2 => ?_)
  · rw [ew, e1, e1, e1, ← e42, ← x.1.2.1, ← x.1.2.2.1, iN] at K
    refine Ci.mono K (fun r h' k => ?_)
    by_cases c : BgK x1 x2 h
    · have z := k.1 c
      have zu : Bym PU x1.toNatClampNeg x1 (h_i h 0 0) (BgF x1 x2 h).1 (h_i h 16 7).toNatClampNeg (ptL (bL h x2.toNatClampNeg)) (BgF x1 x2 h).2 () h1 h' := ⟨z.2.1, z.2.2.1, z.2.2.2.1, z.2.2.2.2.1, z.2.2.2.2.2.1, z.2.2.2.2.2.2.1, trivial⟩
      exact ⟨⟨fun _ => ⟨z.1, zu⟩, fun n => absurd c n⟩, Or.inl ⟨z.1, z.2.2.2.2.2.2.2⟩⟩
    · have z := k.2 c
      have eh := z.2
      subst eh
      exact ⟨⟨fun n => absurd n c, fun _ => z⟩, Or.inr ⟨z.1, Fr.rf _ _⟩⟩
  · have y := iN.mp y
    have hj := (x.rk I y).1
    have mm := menX_in I
    have y2 := y.2
    have a := (x.2.2.1 _ hj).1.1
    refine ⟨(x.2.2.2.1 _ hj).cg (fun a ha => ?_), (x.2.2.1 _ hj).2.1.trans (on_of ⟨y.1, by omega⟩), a.2.2.2.1, a.2.1⟩
    have z : ∀ a ∈ 206 :: mrL, 200 ≤ a ∧ a < 300 := by decide
    rw [rr a (z a ha).1 (z a ha).2]
  · rw [e1, ← e42] at b2
    have nx := n_nat b2.1
    have z := z227 I x2.toNatClampNeg
    rw [rr 227 (by decide) (by decide), rr 228 (by decide) (by decide)]
    refine ⟨⟨⟨b2.1, by omega⟩, ?_, fun k q ee => ?_⟩, ?_, mP_b h _⟩
    · rw [bL_l]
      omega
    · have lk : k < (bL h x2.toNatClampNeg).length := (List.getElem?_eq_some_iff.mp ee).1
      rw [bL_l] at lk
      rw [bL_g lk] at ee
      rw [← Option.some.inj ee, Nat.zero_add, es]
      exact ⟨rfl, (S _ (by omega) _ lk).2⟩
    · rw [bL_l]
      exact (of_nat32 (by omega)).symm
theorem ExK.bg {h h1 h2 : Hp_} {x1 x2 r1 r2 : Int32} (e : ExK h) (I : Iv h) (x : ExM h) (R : ExR h) (S : ExS h) (I1 : Iv h1) (f : Fr wBx h h1) (k1 : BgX x1 x2 h r1 h1 ∧ LxX (fB tnB (h_i h 0 0) (BgF x1 x2 h).1 (h_i h)) h r1 h1) (k2 : BgM x1 x2 h h1 r2 h2 ∧ LxM (fB tnB (h_i h 0 0) (BgF x1 x2 h).1 (h_i h)) h h1 r2 h2) : ExK h2 := by
  have z := ExM.bg I x R S I1 f k1.1 k2.1
  exact e.lx I z.1 z.2.2.2 k1.2 k2.2 z.2.1
/-! tick -/
section ER
variable {β : Type}
noncomputable def erP (s : Pst β) : Pst Unit := (s.1, s.2.1, s.2.2.1, s.2.2.2.1, ())
variable {lP : Nat → Int32 → (Nat → Int32) → β → β} {tB : Int32 → Int32 → β → β} {nB : Int32 → (Nat → Int32) → β → β} {w : Int32 → Int32 → Int32} {BL : Nat → List Sp3}
theorem er_man (n : Int32) (j : Nat) (s : Pst β) : erP (pMan lP tB n w BL j s) = pMan lU tU n w BL j (erP s) := by
  unfold pMan
  by_cases y : s.1 j 7 = n
  · rw [if_pos y, if_pos (show (erP s).1 j 7 = n from y)]
    rfl
  · rw [if_neg y, if_neg (show ¬ (erP s).1 j 7 = n from y)]
theorem er_men (n : Int32) : ∀ (j : Nat) (s : Pst β), erP (pMen lP tB n w BL j s) = pMen lU tU n w BL j (erP s)
  | 0, _ => rfl
  | j + 1, s => by
    show erP (pMan lP tB n w BL j (pMen lP tB n w BL j s)) = pMan lU tU n w BL j (pMen lU tU n w BL j (erP s))
    rw [er_man, er_men n j s]
theorem er_tk (m : Nat) (n : Int32) : ∀ (i : Nat) (s : Pst β), erP (pTk lP tB nB w BL m n i s) = pTk lU tU nU w BL m n i (erP s)
  | 0, _ => rfl
  | i + 1, s => by
    show erP (pMen lP tB (n + Int32.ofNat (i + 1)) w BL m (pOv nB (n + Int32.ofNat i) (pTk lP tB nB w BL m n i s))) = pMen lU tU (n + Int32.ofNat (i + 1)) w BL m (pOv nU (n + Int32.ofNat i) (pTk lU tU nU w BL m n i (erP s)))
    rw [er_men, ← er_tk m n i s]
    rfl
end ER
noncomputable def sXk (h : Hp_) : Pst Bl := (fun j => h_i h (401 + j), h_i h 51, h_i h 52, h_i h 53, h_i h)
/-- the looks' rows behind x minutes -/
noncomputable def tkB (x : Int32) (h : Hp_) : Bl := (pTk (lPB (El h)) tnB nBl (wI h) (bL h) (h_i h 0 7).toNatClampNeg (h_i h 0 0) x.toNatClampNeg (sXk h)).2.2.2.2
theorem lrB_pl {E : Enl} {j : Nat} (hj : j < E.2.2.1) {n : Int32} {f g : Nat → Int32} (e : ∀ k, k < E.2.2.1 → f k = g k) {k : Nat} {b : Bl} : sg1 E j n f k b = sg1 E j n g k b := by
  have c : lrB E j n f k b = lrB E j n g k b := by
    unfold lrB
    rw [e j hj, cAt_c E.2.2.1 e]
  have d : dnB E j n f k b = dnB E j n g k b := by
    unfold dnB
    rw [c]
  unfold sg1
  rw [c, d, e j hj]
theorem lPB_pl {E : Enl} {j : Nat} (hj : j < E.2.2.1) {n : Int32} {f g : Nat → Int32} (e : ∀ k, k < E.2.2.1 → f k = g k) {b : Bl} : lPB E j n f b = lPB E j n g b := by
  unfold lPB
  have z : ∀ k, lkN E j n f k b = lkN E j n g k b := fun k => by
    induction k with
    | zero => rfl
    | succ k ih =>
      show lk1 E j n f k (lkN E j n f k b) = lk1 E j n g k (lkN E j n g k b)
      unfold lk1
      rw [ih, e j hj, lrB_pl hj e]
  exact z _
noncomputable def LkX (x : Int32) (h h' : Hp_) : Prop := okt (h_i h 0 0) x → PBl (El h) (tkB x h) h'
noncomputable def LkM (x : Int32) (h h' : Hp_) : Prop := okt (h_i h 0 0) x → PMl (El h) (tkB x h) h'
noncomputable def TkL (m N' : Nat) (s : Pst Unit) (x : Int32) (h : Hp_) (r : Int32) (h' : Hp_) : Prop := (Iv h' ∧ Mf wsX h h' ∧ (∃ c', h_r h' 0 15 = some c' ∧ h_sh h' c' = some (3, N')) ∧ otk (h_i h 0 0) x r (h_i h' 0 0)) ∧ Tkx PU lU tU nU m N' s x h r h' ∧ LkX x h h'
theorem c_tkK (d : Nat) {h : Hp_} (I : Iv h) (x : ExM h) (e : ExK h) (R : ExR h) (S : ExS h) (B : B35 h) (x1 : Int32) {c N : Nat} (hc : h_r h 0 15 = some c) (hs : h_sh h c = some (3, N)) (hN : N ≤ 20000) : ∃ mc ms N', N' ≤ 20000 ∧ hcost mc ms N N' ∧ Ci (m_X11_tick (d + 8) mc ms) [.ref 0, .int x1] h (TkL (h_i h 0 7).toNatClampNeg N' (sX h) x1 h) := by
  obtain ⟨mc, ms, N', l, q, C⟩ := c_tkX (PB := PBl (El h)) (lP := lPB (El h)) (tB := tnB) (nB := nBl) (s := sXk h) (m := (h_i h 0 7).toNatClampNeg) (pbL (El h)) (pbtL (El h)) d I ⟨R.2, S, B, x.2.1, x.m I, x.1.2.2.2, x.2.2.1⟩ ⟨fun _ _ => rfl, ⟨rfl, rfl, rfl⟩, e.pb I x⟩ (fun j hj b n f g u => lPB_pl (E := El h) hj u) (fun _ _ _ _ _ => rfl) x1 hc hs hN
  refine ⟨mc, ms, N', l, q, Ci.mono C (fun r h' k => ⟨k.1, ⟨k.1, fun o => ?_, k.2.2⟩, fun o => (k.2.1 o).2.1.2.2⟩)⟩
  have z := k.2.1 o
  have t := er_tk (lP := lPB (El h)) (tB := tnB) (nB := nBl) (w := wI h) (BL := bL h) (h_i h 0 7).toNatClampNeg (h_i h 0 0) x1.toNatClampNeg (sXk h)
  have t : pTk lU tU nU (wI h) (bL h) (h_i h 0 7).toNatClampNeg (h_i h 0 0) x1.toNatClampNeg (sX h) = _ := t.symm
  refine ⟨z.1, ?_, z.2.2⟩
  rw [t]
  exact ⟨z.2.1.1, z.2.1.2.1, trivial⟩
noncomputable def TmL (m rw : Nat) (s : Pst Unit) (x : Int32) (h h1 : Hp_) (r : Int32) (h' : Hp_) : Prop := Tkm PU lU tU nU m rw s x h1 r h' ∧ LkM x h h'
theorem c_tmK (d : Nat) {h h1 : Hp_} (I1 : Iv h1) (J1 : J2 h1) (I : Iv h) (x : ExM h) (e : ExK h) (R : ExR h) (S : ExS h) (e42 : h_i h 12 3 = h_i h 1 42) (f : Mf wsX h h1) (x1 : Int32) : Ci (m_X12_tick (d + 10) 0 0) [.ref 1, .int x1] h1 (TmL (h_i h 0 7).toNatClampNeg (h_i h 16 7).toNatClampNeg (sX h) x1 h h1) := by
  have rr : ∀ a, 200 ≤ a → a < 300 → h_i h1 a = h_i h a := fun a p q => funext (fun k => f.2.1 a p q k)
  have ew : wI h1 = wI h := wI_cg (funext (fun k => (f.2.2.2 30 k (Or.inl (by decide)) (off_inw (by decide +kernel) k)).1))
  have eb : bL h1 = bL h := bL_cg (rr 227 (by decide) (by decide)) (rr 228 (by decide) (by decide)) (rr 229 (by decide) (by decide)) (rr 230 (by decide) (by decide))
  have es : ∀ k, sB h1 k = sB h k := fun k => by
    funext i
    unfold sB
    rw [rr 228 (by decide) (by decide), rr 229 (by decide) (by decide), rr 230 (by decide) (by decide)]
  have P1 : PMl (El h) (h_i h) h1 := by
    have p := e.pm I x R
    have g : ∀ a, (200 ≤ a ∧ a < 300) ∨ a = 1 → h_i h1 a = h_i h a := fun a o => by
      rcases o with o | o
      · exact rr a o.1 o.2
      · rw [o]
        exact funext f.1
    obtain ⟨a1, a2, a3, a4, b1, b2, b3, b4, b5, b6, b7, b8⟩ := p
    unfold PMl PEm TM
    rw [g 1 (by decide), g 249 (by decide), g 250 (by decide), g 251 (by decide), g 252 (by decide), g 253 (by decide), g 254 (by decide), g 255 (by decide), g 256 (by decide), g 257 (by decide), g 258 (by decide), g 259 (by decide), g 260 (by decide), g 261 (by decide), g 262 (by decide), g 263 (by decide), g 221 (by decide), g 222 (by decide), g 223 (by decide), g 224 (by decide), g 204 (by decide), g 231 (by decide), g 232 (by decide), g 233 (by decide), g 234 (by decide), g 235 (by decide), ew]
    exact ⟨a1, a2, a3, a4, b1, b2, b3, b4, ⟨R.2.mf f (by decide +kernel), b5.2⟩, b6, b7, b8⟩
  have e10 : h_i h1 1 0 = h_i h 0 0 := (f.1 0).trans x.1.2.1.symm
  refine Ci.mono (c_tkM (PM := PMl (El h)) (lP := lPB (El h)) (tB := tnB) (nB := nBl) (s := sXk h) (pmL (El h)) d I1 J1 (pmtL (El h) _) ⟨R.2.mf f (by decide +kernel), fun k hk i hi => ?_, ?_, x.1.2.2.2, (rwX_in I).1, h_i h 47, ?_⟩ ⟨fun j hj => (x.2.2.2.1 j hj).cg (fun a ha => ?_), fun k hk => ?_, P1⟩ (fun j hj b n f g u => lPB_pl (E := El h) hj u) (fun _ _ _ _ _ => rfl) x1) (fun r h' k => ?_)
  · rw [f.1 42, ← e42] at hk
    rw [rr 227 (by decide) (by decide)] at hi
    rw [es]
    exact (S k hk i hi).2
  · rw [f.1 7, ← x.1.1]
    exact x.m I
  · rw [ew, eb, f.1 42, ← e42]
    exact x.2.2.1
  · have z : ∀ a ∈ 206 :: mrL, 200 ≤ a ∧ a < 300 := by decide
    exact f.2.1 a (z a ha).1 (z a ha).2 j
  · rw [rr 241 (by decide) (by decide), rr 242 (by decide) (by decide), rr 243 (by decide) (by decide)]
    exact (x.2.2.2.2.1 k hk).1
  · have t := er_tk (lP := lPB (El h)) (tB := tnB) (nB := nBl) (w := wI h) (BL := bL h) (h_i h 0 7).toNatClampNeg (h_i h 0 0) x1.toNatClampNeg (sXk h)
    have t : pTk lU tU nU (wI h) (bL h) (h_i h 0 7).toNatClampNeg (h_i h 0 0) x1.toNatClampNeg (sX h) = _ := t.symm
    refine ⟨⟨k.1, fun o => ?_, k.2.2⟩, fun o => ?_⟩
    · have z := k.2.1 o
      refine ⟨z.1, z.2.1, ?_⟩
      have y := z.2.2
      rw [e10, ew, eb] at y ⊢
      rw [t]
      exact ⟨y.1, y.2.1, trivial⟩
    · have z := k.2.1 (by rw [e10]; exact o)
      have y := z.2.2.2.2
      rw [e10, ew, eb] at y
      exact y
theorem ExK.tk {h h1 h2 : Hp_} {x1 r1 r2 : Int32} {N' : Nat} (e : ExK h) (I : Iv h) (x : ExM h) (k1 : TkL (h_i h 0 7).toNatClampNeg N' (sX h) x1 h r1 h1) (k2 : TmL (h_i h 0 7).toNatClampNeg (h_i h 16 7).toNatClampNeg (sX h) x1 h h1 r2 h2) : ExK h2 := by
  by_cases o : okt (h_i h 0 0) x1
  · have p := k1.2.2 o
    have q := k2.2 o
    exact ExK.of k2.1.1.1 (p.fr k2.1.1.2.2.1 (by decide +kernel)) q
  · have a := k1.2.1.2.2 o
    subst a
    have e10 : h_i h1 1 0 = h_i h1 0 0 := x.1.2.1.symm
    have b := k2.1.2.2 (by rw [e10]; exact o)
    subst b
    exact e
end
section
/-! LOOKS: find, rank, open, act, pay, constable keep the relation -/
theorem kx_2 {h h' : Hp_} (e : ExK h) (r249 : h_i h' 249 = h_i h 249) (r250 : h_i h' 250 = h_i h 250) (r251 : h_i h' 251 = h_i h 251) (r252 : h_i h' 252 = h_i h 252) (r253 : h_i h' 253 = h_i h 253) (r57 : h_i h' 57 = h_i h 57) (r58 : h_i h' 58 = h_i h 58) (r59 : h_i h' 59 = h_i h 59) (r60 : h_i h' 60 = h_i h 60) (r61 : h_i h' 61 = h_i h 61) (r254 : h_i h' 254 = h_i h 254) (r63 : h_i h' 63 = h_i h 63) (r62 : h_i h' 62 = h_i h 62) (r65 : h_i h' 65 = h_i h 65) (f17_7 : h_i h' 17 7 = h_i h 17 7) (f17_16 : h_i h' 17 16 = h_i h 17 16) : (∀ f : Nat, f < 80 → (f < (h_i h' 17 7).toNatClampNeg → (h_i h' 249 f = h_i h' 57 f ∧ h_i h' 250 f = h_i h' 58 f ∧ h_i h' 251 f = h_i h' 59 f ∧ h_i h' 252 f = h_i h' 60 f ∧ h_i h' 253 f = h_i h' 61 f) ∧ (0 ≤ (h_i h' 58 f).toInt ∧ (h_i h' 58 f).toInt < 16)) ∧ h_i h' 254 f = h_i h' 63 f ∧ h_i h' 62 f = cAt (h_i h' 65) (Int32.ofNat f) (h_i h' 17 16).toNatClampNeg) := by
  rw [r249, r250, r251, r252, r253, r57, r58, r59, r60, r61, r254, r63, r62, r65, f17_7, f17_16]
  exact e.2.1
theorem kx_3 {h h' : Hp_} (e : ExK h) (r255 : h_i h' 255 = h_i h 255) (r256 : h_i h' 256 = h_i h 256) (r257 : h_i h' 257 = h_i h 257) (r258 : h_i h' 258 = h_i h 258) (r259 : h_i h' 259 = h_i h 259) (r260 : h_i h' 260 = h_i h 260) (r261 : h_i h' 261 = h_i h 261) (r64 : h_i h' 64 = h_i h 64) (r65 : h_i h' 65 = h_i h 65) (r66 : h_i h' 66 = h_i h 66) (r67 : h_i h' 67 = h_i h 67) (r68 : h_i h' 68 = h_i h 68) (r69 : h_i h' 69 = h_i h 69) (r70 : h_i h' 70 = h_i h 70) (f17_16 : h_i h' 17 16 = h_i h 17 16) : (∀ i : Nat, i < (h_i h' 17 16).toNatClampNeg → (h_i h' 255 i = h_i h' 64 i ∧ h_i h' 256 i = h_i h' 65 i ∧ h_i h' 257 i = h_i h' 66 i ∧ h_i h' 258 i = h_i h' 67 i ∧ h_i h' 259 i = h_i h' 68 i ∧ h_i h' 260 i = h_i h' 69 i) ∧ ∀ t : Nat, t < 9 → h_i h' 261 (9 * i + t) = h_i h' 70 (9 * i + t)) := by
  rw [r255, r256, r257, r258, r259, r260, r261, r64, r65, r66, r67, r68, r69, r70, f17_16]
  exact e.2.2.1
theorem kx_4 {h h' : Hp_} (e : ExK h) (r262 : h_i h' 262 = h_i h 262) (r263 : h_i h' 263 = h_i h 263) (r71 : h_i h' 71 = h_i h 71) (r72 : h_i h' 72 = h_i h 72) (f18_3 : h_i h' 18 3 = h_i h 18 3) : (∀ i : Nat, i < (h_i h' 18 3).toNatClampNeg → h_i h' 262 i = h_i h' 71 i ∧ h_i h' 263 i = h_i h' 72 i) := by
  rw [r262, r263, r71, r72, f18_3]
  exact e.2.2.2.1
theorem kx_5 {h h' : Hp_} (e : ExK h) (r104 : h_i h' 104 = h_i h 104) (r105 : h_i h' 105 = h_i h 105) (r106 : h_i h' 106 = h_i h 106) (r107 : h_i h' 107 = h_i h 107) (r221 : h_i h' 221 = h_i h 221) (r222 : h_i h' 222 = h_i h 222) (r223 : h_i h' 223 = h_i h 223) (r224 : h_i h' 224 = h_i h 224) : (∀ k : Nat, k < 40 → h_i h' 104 k = h_i h' 221 k ∧ h_i h' 105 k = h_i h' 222 k ∧ h_i h' 106 k = h_i h' 223 k ∧ h_i h' 107 k = h_i h' 224 k) := by
  rw [r104, r105, r106, r107, r221, r222, r223, r224]
  exact e.2.2.2.2.1
theorem kx_6 {h h' : Hp_} (e : ExK h) (r233 : h_i h' 233 = h_i h 233) (r234 : h_i h' 234 = h_i h 234) (r37 : h_i h' 37 = h_i h 37) (r38 : h_i h' 38 = h_i h 38) (f13_5 : h_i h' 13 5 = h_i h 13 5) : (∀ k : Nat, k < (h_i h' 13 5).toNatClampNeg → h_i h' 233 k = h_i h' 37 k ∧ h_i h' 234 k = h_i h' 38 k) := by
  rw [r233, r234, r37, r38, f13_5]
  exact e.2.2.2.2.2.1
theorem kx_8 {h h' : Hp_} (e : ExK h) (r39 : h_i h' 39 = h_i h 39) (r40 : h_i h' 40 = h_i h 40) (r231 : h_i h' 231 = h_i h 231) (r232 : h_i h' 232 = h_i h 232) (f13_5 : h_i h' 13 5 = h_i h 13 5) : ∀ k : Nat, k < (h_i h' 13 5).toNatClampNeg → ∃ C, gdC h' k C := by
  unfold gdC
  rw [r39, r40, r231, r232, f13_5]
  exact e.2.2.2.2.2.2.2
/-! find -/
noncomputable def okfx (m x1 x2 x3 x4 x5 : Int32) : Prop := (0 ≤ x1 ∧ x1 ≤ 9) ∧ (0 ≤ x2 ∧ x2 < 16) ∧ (0 ≤ x3 ∧ x3 ≤ 20000) ∧ (x3 ≤ x4 ∧ x4 ≤ 20000) ∧ (1 ≤ x5 ∧ x5 ≤ 9) ∧ m < 80
noncomputable def okfn (m x1 x2 x3 x4 x5 : Int32) : Prop := (0 ≤ x1 ∧ x1 ≤ 9) ∧ (0 ≤ x2 ∧ x2 ≤ 15) ∧ (0 ≤ x3 ∧ x3 ≤ 20000) ∧ (x3 ≤ x4 ∧ x4 ≤ 20000) ∧ (1 ≤ x5 ∧ x5 ≤ 9) ∧ ¬ m = 80
noncomputable def Fnx (x1 x2 x3 x4 x5 : Int32) (h : Hp_) (r : Int32) (h' : Hp_) : Prop := (okfx (h_i h 17 7) x1 x2 x3 x4 x5 ∧ r = h_i h 17 7 ∧ h_i h' 17 7 = h_i h 17 7 + 1 ∧ h_i h' 57 = up1 (h_i h 57) (h_i h 17 7).toNatClampNeg x1 ∧ h_i h' 58 = up1 (h_i h 58) (h_i h 17 7).toNatClampNeg x2 ∧ h_i h' 59 = up1 (h_i h 59) (h_i h 17 7).toNatClampNeg x3 ∧ h_i h' 60 = up1 (h_i h 60) (h_i h 17 7).toNatClampNeg x4 ∧ h_i h' 61 = up1 (h_i h 61) (h_i h 17 7).toNatClampNeg x5) ∨ (¬ okfx (h_i h 17 7) x1 x2 x3 x4 x5 ∧ r = -1 ∧ h' = h)
noncomputable def Fnm (x1 x2 x3 x4 x5 : Int32) (h : Hp_) (r : Int32) (h' : Hp_) : Prop := (okfn (h_i h 1 79) x1 x2 x3 x4 x5 ∧ r = h_i h 1 79 ∧ h_i h' 1 79 = h_i h 1 79 + 1 ∧ h_i h' 249 = up1 (h_i h 249) (h_i h 1 79).toNatClampNeg x1 ∧ h_i h' 250 = up1 (h_i h 250) (h_i h 1 79).toNatClampNeg x2 ∧ h_i h' 251 = up1 (h_i h 251) (h_i h 1 79).toNatClampNeg x3 ∧ h_i h' 252 = up1 (h_i h 252) (h_i h 1 79).toNatClampNeg x4 ∧ h_i h' 253 = up1 (h_i h 253) (h_i h 1 79).toNatClampNeg x5) ∨ (¬ okfn (h_i h 1 79) x1 x2 x3 x4 x5 ∧ r = -1 ∧ h' = h)
theorem c_fnX (d : Nat) {h : Hp_} (I : Iv h) (x1 x2 x3 x4 x5 : Int32) : Ci (m_X11_find (d + 1) 0 0) [.ref 0, .int x1, .int x2, .int x3, .int x4, .int x5] h (fun r h' => Iv h' ∧ Fr [17007, 57999, 58999, 59999, 60999, 61999] h h' ∧ Fnx x1 x2 x3 x4 x5 h r h') := by
  have t1 : (1 : Int32).toInt = 1 := rfl
  have tc : (80 : Int32).toInt = 80 := rfl
  have rg := I.2.1 17 7
  rw [show tf 17 7 = (0, 80) by decide +kernel] at rg
  have r0 : 0 ≤ (h_i h 17 7).toInt := rg.1
  have r1 : (h_i h 17 7).toInt ≤ 80 := rg.2
  have no : ¬ okfx (h_i h 17 7) x1 x2 x3 x4 x5 → Iv h ∧ Fr [17007, 57999, 58999, 59999, 60999, 61999] h h ∧ Fnx x1 x2 x3 x4 x5 h (-1) h := fun n => ⟨I, Fr.rf _ _, Or.inr ⟨n, rfl, rfl⟩⟩
  have vin : h_i h 17 7 < 80 → vp_in (h_i h 17 7) 80 := fun l => dp_in (lo := 0) (hi := 79) ⟨r0, by have := q_lt.mp l; show _ ≤ (79 : Int); omega⟩ (by decide) (by decide)
  have ex : h_i h 17 7 < 80 → (h_i h 17 7 + 1).toInt = (h_i h 17 7).toInt + 1 ∧ (h_i h 17 7).toInt < 80 := fun l => by
    have l := q_lt.mp l
    exact ⟨tx_add (by rw [t1]; omega) (by rw [t1]; omega), by omega⟩
  refine t_X11_find d h x1 x2 x3 x4 x5 _ ⟨fun n => no (fun o => n o.1), fun a1 => Ci.mono (s_X11_isPlace _ h x2) (fun r h1 q => ?_)⟩
  obtain ⟨er, eh⟩ := q
  subst er eh
  refine ⟨I.1, fun z => no (fun o => bI_0.mp z o.2.1), fun z => ⟨fun a5 => ⟨fun n => no (fun o => n o.2.2.1), fun a3 => ⟨fun a4 => ?_, fun n => no (fun o => n o.2.2.2.1)⟩⟩, fun n => no (fun o => n o.2.2.2.2.1)⟩⟩
  have a2 : 0 ≤ x2 ∧ x2 < 16 := Decidable.byContradiction (fun n => z (bI_0.mpr n))
  refine t_X4_addFind d h1 I.1 x1 x2 x3 x4 x5 _ ⟨fun l => ?_, fun n => ⟨I.1, no (fun o => n o.2.2.2.2.2)⟩⟩
  obtain ⟨e1, e2⟩ := ex l
  have I5 := ((tr_ 61 (by decide +kernel) (tr_ 60 (by decide +kernel) (tr_ 59 (by decide +kernel) (tr_ 58 (by decide +kernel) (I.im (a := 57) (k := (h_i h1 17 7).toNatClampNeg) (x := x1) (by rw [tfa_tf (show tfa 57 = some (0, 9) by decide +kernel)]; exact ⟨by have := q_le.mp a1.1; exact this, by have := q_le.mp a1.2; exact this⟩) (jw_jr (by decide) (by decide) _)) (h_i h1 17 7).toNatClampNeg x2 (by decide) (by decide)) (h_i h1 17 7).toNatClampNeg x3 (by decide) (by decide)) (h_i h1 17 7).toNatClampNeg x4 (by decide) (by decide)) (h_i h1 17 7).toNatClampNeg x5 (by decide) (by decide)).im (a := 17) (k := 7) (x := (h_i h1 17 7 + 1)) (by rw [show tf 17 7 = (0, 80) by decide +kernel]; exact ⟨by show (0 : Int) ≤ _; omega, by show _ ≤ (80 : Int); omega⟩) (by decide))
  exact ⟨vin l, vin l, vin l, vin l, vin l, I5.1, I5, ((((((Fr.rf _ _).im (inw_row (by decide +kernel) _)).im (inw_row (by decide +kernel) _)).im (inw_row (by decide +kernel) _)).im (inw_row (by decide +kernel) _)).im (inw_row (by decide +kernel) _)).im (by decide +kernel), Or.inl ⟨⟨a1, a2, a3, a4, a5, l⟩, tx_back _, im_at, (by repeat first | rw [im_row] | rw [im_oth (by decide)]), (by repeat first | rw [im_row] | rw [im_oth (by decide)]), (by repeat first | rw [im_row] | rw [im_oth (by decide)]), (by repeat first | rw [im_row] | rw [im_oth (by decide)]), (by repeat first | rw [im_row] | rw [im_oth (by decide)])⟩⟩
theorem c_fnM (d : Nat) {h : Hp_} (I : Iv h) (x1 x2 x3 x4 x5 : Int32) : Ci (m_X12_find (d + 2) 0 0) [.ref 1, .int x1, .int x2, .int x3, .int x4, .int x5] h (fun r h' => Iv h' ∧ Fr [1079, 249999, 250999, 251999, 252999, 253999] h h' ∧ Fnm x1 x2 x3 x4 x5 h r h') := by
  have t1 : (1 : Int32).toInt = 1 := rfl
  have tc : (80 : Int32).toInt = 80 := rfl
  have rg := I.2.1 1 79
  rw [show tf 1 79 = (0, 80) by decide +kernel] at rg
  have r0 : 0 ≤ (h_i h 1 79).toInt := rg.1
  have r1 : (h_i h 1 79).toInt ≤ 80 := rg.2
  have no : ¬ okfn (h_i h 1 79) x1 x2 x3 x4 x5 → Iv h ∧ Fr [1079, 249999, 250999, 251999, 252999, 253999] h h ∧ Fnm x1 x2 x3 x4 x5 h (-1) h := fun n => ⟨I, Fr.rf _ _, Or.inr ⟨n, rfl, rfl⟩⟩
  have vin : h_i h 1 79 < 80 → vp_in (h_i h 1 79) 80 := fun l => dp_in (lo := 0) (hi := 79) ⟨r0, by have := q_lt.mp l; show _ ≤ (79 : Int); omega⟩ (by decide) (by decide)
  have ex : h_i h 1 79 < 80 → (h_i h 1 79 + 1).toInt = (h_i h 1 79).toInt + 1 ∧ (h_i h 1 79).toInt < 80 := fun l => by
    have l := q_lt.mp l
    exact ⟨tx_add (by rw [t1]; omega) (by rw [t1]; omega), by omega⟩
  refine t_X12_find d h I.1 x1 x2 x3 x4 x5 _ ⟨fun n => no (fun o => n o.1), fun a1 => ⟨fun n => no (fun o => n o.2.1), fun a2 => ⟨fun n => no (fun o => n o.2.2.1), fun a3 => ⟨fun n => no (fun o => n o.2.2.2.1), fun a4 => ⟨fun n => no (fun o => n o.2.2.2.2.1), fun a5 => ⟨fun ne => ?_, fun e => no (fun o => o.2.2.2.2.2 e)⟩⟩⟩⟩⟩⟩
  have l : h_i h 1 79 < 80 := (nz_lt (by rw [tc]; exact r1)).mpr ne
  obtain ⟨e1, e2⟩ := ex l
  exact ⟨vin l, vin l, vin l, vin l, vin l, ((tr_ 253 (by decide +kernel) (tr_ 252 (by decide +kernel) (tr_ 251 (by decide +kernel) (tr_ 250 (by decide +kernel) (I.im (a := 249) (k := (h_i h 1 79).toNatClampNeg) (x := x1) (by rw [tfa_tf (show tfa 249 = some (0, 9) by decide +kernel)]; exact ⟨by have := q_le.mp a1.1; exact this, by have := q_le.mp a1.2; exact this⟩) (jw_jr (by decide) (by decide) _)) (h_i h 1 79).toNatClampNeg x2 (by decide) (by decide)) (h_i h 1 79).toNatClampNeg x3 (by decide) (by decide)) (h_i h 1 79).toNatClampNeg x4 (by decide) (by decide)) (h_i h 1 79).toNatClampNeg x5 (by decide) (by decide)).im (a := 1) (k := 79) (x := (h_i h 1 79 + 1)) (by rw [show tf 1 79 = (0, 80) by decide +kernel]; exact ⟨by show (0 : Int) ≤ _; omega, by show _ ≤ (80 : Int); omega⟩) (by decide)), ((((((Fr.rf _ _).im (inw_row (by decide +kernel) _)).im (inw_row (by decide +kernel) _)).im (inw_row (by decide +kernel) _)).im (inw_row (by decide +kernel) _)).im (inw_row (by decide +kernel) _)).im (by decide +kernel), Or.inl ⟨⟨a1, a2, a3, a4, a5, ne⟩, tx_back _, im_at, (by repeat first | rw [im_row] | rw [im_oth (by decide)]), (by repeat first | rw [im_row] | rw [im_oth (by decide)]), (by repeat first | rw [im_row] | rw [im_oth (by decide)]), (by repeat first | rw [im_row] | rw [im_oth (by decide)]), (by repeat first | rw [im_row] | rw [im_oth (by decide)])⟩⟩
theorem m1_fr {ws : List Nat} {h h' : Hp_} (f : Fr ws h h') (o : inw ws 401 1 = false) : ∀ j : Nat, j < 12 → h_i h' (401 + j) 1 = h_i h (401 + j) 1 := fun j hj => by
  have c1 : cn (401 + j) = cn 401 := (cn_man hj).trans (by decide)
  exact (f.2 (401 + j) 1 (by rw [inw_ce c1]; exact o)).1
theorem kx_7 {h h' : Hp_} (e : ExK h) (r204 : h_i h' 204 = h_i h 204) (f0_7 : h_i h' 0 7 = h_i h 0 7) (M : ∀ j : Nat, j < 12 → h_i h' (401 + j) 1 = h_i h (401 + j) 1) : (∀ j : Nat, j < (h_i h' 0 7).toNatClampNeg → h_i h' (401 + j) 1 = h_i h' 204 j) := fun j hj => by
  rw [f0_7] at hj
  have m := e.1.2.2.2.2.2
  rw [M j (by omega), r204]
  exact e.2.2.2.2.2.2.1 j hj
theorem ExK.fn {h h1 h2 : Hp_} {x1 x2 x3 x4 x5 r1 r2 : Int32} (e : ExK h) (I : Iv h) (F1 : Fr [17007, 57999, 58999, 59999, 60999, 61999] h h1) (F2 : Fr [1079, 249999, 250999, 251999, 252999, 253999] h1 h2) (k1 : Fnx x1 x2 x3 x4 x5 h r1 h1) (k2 : Fnm x1 x2 x3 x4 x5 h1 r2 h2) : ExK h2 ∧ r1 = r2 := by
  have r17 := (iq17 I).1
  have n7 := n_nat r17.1
  have t1 : (1 : Int32).toInt = 1 := rfl
  have e79 : h_i h1 1 79 = h_i h 17 7 := by rw [(F1.2 1 79 (by decide +kernel)).1]; exact e.1.2.1
  have ok : okfx (h_i h 17 7) x1 x2 x3 x4 x5 ↔ okfn (h_i h1 1 79) x1 x2 x3 x4 x5 := by
    rw [e79]
    unfold okfx okfn
    rw [p15, nz_lt (n := 80) r17.2]
  have g : ∀ a, off [17007, 57999, 58999, 59999, 60999, 61999] a = true → off [1079, 249999, 250999, 251999, 252999, 253999] a = true → h_i h2 a = h_i h a := fun a o1 o2 => funext (fun k => (fr_i F2 o2 k).trans (fr_i F1 o1 k))
  have gf : ∀ a k, inw [17007, 57999, 58999, 59999, 60999, 61999] a k = false → inw [1079, 249999, 250999, 251999, 252999, 253999] a k = false → h_i h2 a k = h_i h a k := fun a k o1 o2 => ((F2.2 a k o2).1).trans (F1.2 a k o1).1
  rcases k1 with ⟨c1, er1, m1, s57, s58, s59, s60, s61⟩ | ⟨c1, er1, eh1⟩
  · rcases k2 with ⟨c2, er2, m2, t249, t250, t251, t252, t253⟩ | ⟨c2, _⟩
    · rw [e79] at er2 m2 t249 t250 t251 t252 t253
      refine ⟨⟨⟨by rw [gf 1 80 (by decide +kernel) (by decide +kernel), gf 17 16 (by decide +kernel) (by decide +kernel)]; exact e.1.1, ?_, by rw [gf 1 96 (by decide +kernel) (by decide +kernel), gf 18 3 (by decide +kernel) (by decide +kernel)]; exact e.1.2.2.1, by rw [gf 1 29 (by decide +kernel) (by decide +kernel), gf 21 4 (by decide +kernel) (by decide +kernel)]; exact e.1.2.2.2.1, by rw [gf 235 0 (by decide +kernel) (by decide +kernel), gf 13 5 (by decide +kernel) (by decide +kernel)]; exact e.1.2.2.2.2.1, by rw [gf 0 7 (by decide +kernel) (by decide +kernel)]; exact e.1.2.2.2.2.2⟩, fun f hf => ?_, kx_3 e (g 255 (by decide +kernel) (by decide +kernel)) (g 256 (by decide +kernel) (by decide +kernel)) (g 257 (by decide +kernel) (by decide +kernel)) (g 258 (by decide +kernel) (by decide +kernel)) (g 259 (by decide +kernel) (by decide +kernel)) (g 260 (by decide +kernel) (by decide +kernel)) (g 261 (by decide +kernel) (by decide +kernel)) (g 64 (by decide +kernel) (by decide +kernel)) (g 65 (by decide +kernel) (by decide +kernel)) (g 66 (by decide +kernel) (by decide +kernel)) (g 67 (by decide +kernel) (by decide +kernel)) (g 68 (by decide +kernel) (by decide +kernel)) (g 69 (by decide +kernel) (by decide +kernel)) (g 70 (by decide +kernel) (by decide +kernel)) (gf 17 16 (by decide +kernel) (by decide +kernel)), kx_4 e (g 262 (by decide +kernel) (by decide +kernel)) (g 263 (by decide +kernel) (by decide +kernel)) (g 71 (by decide +kernel) (by decide +kernel)) (g 72 (by decide +kernel) (by decide +kernel)) (gf 18 3 (by decide +kernel) (by decide +kernel)), kx_5 e (g 104 (by decide +kernel) (by decide +kernel)) (g 105 (by decide +kernel) (by decide +kernel)) (g 106 (by decide +kernel) (by decide +kernel)) (g 107 (by decide +kernel) (by decide +kernel)) (g 221 (by decide +kernel) (by decide +kernel)) (g 222 (by decide +kernel) (by decide +kernel)) (g 223 (by decide +kernel) (by decide +kernel)) (g 224 (by decide +kernel) (by decide +kernel)) , kx_6 e (g 233 (by decide +kernel) (by decide +kernel)) (g 234 (by decide +kernel) (by decide +kernel)) (g 37 (by decide +kernel) (by decide +kernel)) (g 38 (by decide +kernel) (by decide +kernel)) (gf 13 5 (by decide +kernel) (by decide +kernel)), kx_7 e (g 204 (by decide +kernel) (by decide +kernel)) (gf 0 7 (by decide +kernel) (by decide +kernel)) (fun j hj => (m1_fr F2 (by decide +kernel) j hj).trans (m1_fr F1 (by decide +kernel) j hj)), kx_8 e (g 39 (by decide +kernel) (by decide +kernel)) (g 40 (by decide +kernel) (by decide +kernel)) (g 231 (by decide +kernel) (by decide +kernel)) (g 232 (by decide +kernel) (by decide +kernel)) (gf 13 5 (by decide +kernel) (by decide +kernel))⟩, er1.trans er2.symm⟩
      · rw [m2, (F2.2 17 7 (by decide +kernel)).1, m1]
      · have q := e.2.1 f hf
        have w : ∀ a, off [1079, 249999, 250999, 251999, 252999, 253999] a = true → h_i h2 a = h_i h1 a := fun a o2 => funext (fun k => fr_i F2 o2 k)
        have w1 : ∀ a, off [17007, 57999, 58999, 59999, 60999, 61999] a = true → h_i h1 a = h_i h a := fun a o2 => funext (fun k => fr_i F1 o2 k)
        have l80 := q_lt.mp c1.2.2.2.2.2
        rw [show (80 : Int32).toInt = 80 from rfl] at l80
        have f7 : (h_i h 17 7 + 1).toInt = (h_i h 17 7).toInt + 1 := by rw [tx_add (by rw [t1]; omega) (by rw [t1]; omega), t1]
        have n8 := n_nat (x := h_i h 17 7 + 1) (by omega)
        refine ⟨fun hl => ?_, by rw [g 254 (by decide +kernel) (by decide +kernel), g 63 (by decide +kernel) (by decide +kernel)]; exact q.2.1, by rw [g 62 (by decide +kernel) (by decide +kernel), g 65 (by decide +kernel) (by decide +kernel), gf 17 16 (by decide +kernel) (by decide +kernel)]; exact q.2.2⟩
        rw [(F2.2 17 7 (by decide +kernel)).1, m1] at hl
        rw [t249, t250, t251, t252, t253, w 57 (by decide +kernel), w 58 (by decide +kernel), w 59 (by decide +kernel), w 60 (by decide +kernel), w 61 (by decide +kernel), s57, s58, s59, s60, s61, w1 249 (by decide +kernel), w1 250 (by decide +kernel), w1 251 (by decide +kernel), w1 252 (by decide +kernel), w1 253 (by decide +kernel)]
        by_cases u : f = (h_i h 17 7).toNatClampNeg
        · rw [u, up1_at, up1_at, up1_at, up1_at, up1_at, up1_at, up1_at, up1_at, up1_at, up1_at]
          have a := q_le.mp c1.2.1.1
          have b := q_lt.mp c1.2.1.2
          exact ⟨⟨rfl, rfl, rfl, rfl, rfl⟩, a, b⟩
        · rw [up1_ne u, up1_ne u, up1_ne u, up1_ne u, up1_ne u, up1_ne u, up1_ne u, up1_ne u, up1_ne u, up1_ne u]
          exact q.1 (by omega)
    · exact absurd (ok.mp c1) c2
  · rcases k2 with ⟨c2, _⟩ | ⟨c2, er2, eh2⟩
    · exact absurd (ok.mpr c2) c1
    · rw [eh2, eh1]
      exact ⟨e, er1.trans er2.symm⟩
/-! rank -/
noncomputable def okrx (m c x1 x2 x3 : Int32) : Prop := (0 ≤ x1 ∧ x1 ≤ m - 1) ∧ (1 ≤ x2 ∧ x2 ≤ 4) ∧ (0 ≤ x3 ∧ x3 ≤ 30) ∧ c < 40
noncomputable def okrn (m c x1 x2 x3 : Int32) : Prop := (0 ≤ x1 ∧ x1 ≤ m - 1) ∧ (1 ≤ x2 ∧ x2 ≤ 4) ∧ (0 ≤ x3 ∧ x3 ≤ 30) ∧ ¬ c = 40
noncomputable def ocrk (ok : Prop) (m r m' : Int32) : Prop := (ok ∧ r = 1 ∧ m' = m + 1) ∨ (¬ ok ∧ r = 0 ∧ m' = m)
theorem ocrk_eq {p q : Prop} {m r1 r2 m1 m2 : Int32} (e : p ↔ q) (a : ocrk p m r1 m1) (b : ocrk q m r2 m2) : r1 = r2 ∧ m1 = m2 := by
  rcases a with ⟨a, a1, a2⟩ | ⟨a, a1, a2⟩ <;> rcases b with ⟨b, b1, b2⟩ | ⟨b, b1, b2⟩
  · exact ⟨a1.trans b1.symm, a2.trans b2.symm⟩
  · exact absurd (e.mp a) b
  · exact absurd (e.mpr b) a
  · exact ⟨a1.trans b1.symm, a2.trans b2.symm⟩
theorem v40 {x : Int32} (r0 : 0 ≤ x.toInt) (l : x < 40) : vp_in x 40 ∧ rin (x + 1).toInt (0, 40) := by
  have t1 : (1 : Int32).toInt = 1 := rfl
  have t8 : (40 : Int32).toInt = 40 := rfl
  have l := q_lt.mp l
  have e : (x + 1).toInt = x.toInt + 1 := tx_add (by rw [t1]; omega) (by rw [t1]; omega)
  exact ⟨dp_in (lo := 0) (hi := 39) ⟨r0, by show _ ≤ (39 : Int); omega⟩ (by decide) (by decide), ⟨by show (0 : Int) ≤ _; omega, by show _ ≤ (40 : Int); omega⟩⟩
theorem c_isMnX (d : Nat) {h : Hp_} (I : Iv h) (m : Mn h) (x1 : Int32) : Ci (m_X11_isMan (d + 2) 0 0) [.ref 0, .int x1] h (fun r h' => r = bI (0 ≤ x1 ∧ x1 ≤ h_i h 0 7 - 1) ∧ h' = h) := by
  have rg := I.2.1 0 7
  rw [show tf 0 7 = (0, 12) by decide +kernel] at rg
  have r0 : 0 ≤ (h_i h 0 7).toInt := rg.1
  have r1 : (h_i h 0 7).toInt ≤ 12 := rg.2
  have t1 : (1 : Int32).toInt = 1 := rfl
  have e1 : (h_i h 0 7 - 1).toInt = (h_i h 0 7).toInt - 1 := tx_sub (by rw [t1]; omega) (by rw [t1]; omega)
  refine t_X11_isMan d h I.1 x1 _ (t_X11_manOf d h I.1 x1 _ ⟨fun n => ⟨I.1, fun _ => ⟨(bI_0.mpr n).symm, rfl⟩, fun b e => by cases e⟩, fun y => ?_⟩)
  have y1 := q_le.mp y.1
  have y2 := q_le.mp y.2
  have y1 : 0 ≤ x1.toInt := y1
  have n1 := n_nat (x := x1) y1
  refine ⟨dp_in (lo := 0) (hi := 11) ⟨y1, by show _ ≤ (11 : Int); omega⟩ (by decide) (by decide), fun e => absurd e (m _ (by omega) (by omega)), fun b5 e => ?_⟩
  rcases I.2.2.1 x1.toNatClampNeg with u | ⟨c, u, cn⟩
  · rw [u] at e; cases e
  · rw [u] at e
    cases e
    exact ⟨cn.2.2, by have := cn.1; omega, I.1, (fun z => nomatch z), fun b4 e4 => (by cases e4; exact ⟨cn.2.2, by have := cn.1; omega, (bI_1.mpr y).symm, rfl⟩)⟩
theorem c_rnX (d : Nat) {h : Hp_} (I : Iv h) (mn : Mn h) (x1 x2 x3 : Int32) : Ci (m_X11_rank (d + 3) 0 0) [.ref 0, .int x1, .int x2, .int x3] h (fun r h' => Iv h' ∧ Fr [21004, 104999, 105999, 106999, 107999] h h' ∧ ocrk (okrx (h_i h 0 7) (h_i h 21 4) x1 x2 x3) (h_i h 21 4) r (h_i h' 21 4) ∧ ((okrx (h_i h 0 7) (h_i h 21 4) x1 x2 x3 ∧ ∀ k, h_i h' 104 k = (if k = (h_i h 21 4).toNatClampNeg then x1 else h_i h 104 k) ∧ h_i h' 105 k = (if k = (h_i h 21 4).toNatClampNeg then x2 else h_i h 105 k) ∧ h_i h' 106 k = (if k = (h_i h 21 4).toNatClampNeg then x3 else h_i h 106 k) ∧ h_i h' 107 k = (if k = (h_i h 21 4).toNatClampNeg then h_i h 0 0 else h_i h 107 k)) ∨ (¬ okrx (h_i h 0 7) (h_i h 21 4) x1 x2 x3 ∧ h' = h))) := by
  have rg := I.2.1 21 4
  rw [show tf 21 4 = (0, 40) by decide +kernel] at rg
  have no : ¬ okrx (h_i h 0 7) (h_i h 21 4) x1 x2 x3 → Iv h ∧ Fr [21004, 104999, 105999, 106999, 107999] h h ∧ ocrk (okrx (h_i h 0 7) (h_i h 21 4) x1 x2 x3) (h_i h 21 4) 0 (h_i h 21 4) ∧ ((okrx (h_i h 0 7) (h_i h 21 4) x1 x2 x3 ∧ ∀ k, h_i h 104 k = (if k = (h_i h 21 4).toNatClampNeg then x1 else h_i h 104 k) ∧ h_i h 105 k = (if k = (h_i h 21 4).toNatClampNeg then x2 else h_i h 105 k) ∧ h_i h 106 k = (if k = (h_i h 21 4).toNatClampNeg then x3 else h_i h 106 k) ∧ h_i h 107 k = (if k = (h_i h 21 4).toNatClampNeg then h_i h 0 0 else h_i h 107 k)) ∨ (¬ okrx (h_i h 0 7) (h_i h 21 4) x1 x2 x3 ∧ h = h)) := fun n => ⟨I, Fr.rf _ _, Or.inr ⟨n, rfl, rfl⟩, Or.inr ⟨n, rfl⟩⟩
  refine t_X11_rank d h I.1 x1 x2 x3 _ (Ci.mono (c_isMnX d I mn x1) (fun r h1 q => ?_))
  obtain ⟨er, eh⟩ := q
  subst er eh
  refine ⟨I.1, fun z => no (fun o => bI_0.mp z o.1), fun z => ⟨fun n => no (fun o => n o.2.1), fun a2 => ⟨fun a3 => ?_, fun n => no (fun o => n o.2.2.1)⟩⟩⟩
  have a1 : 0 ≤ x1 ∧ x1 ≤ h_i h1 0 7 - 1 := Decidable.byContradiction (fun n => z (bI_0.mpr n))
  refine t_X5_addRank d h1 I.1 x1 x2 x3 (h_i h1 0 0) _ ⟨fun l => ?_, fun n => ⟨I.1, Or.inl rfl, no (fun o => n o.2.2.2)⟩⟩
  have v := v40 rg.1 l
  have I5 := ((tr_ 107 (by decide +kernel) (tr_ 106 (by decide +kernel) (tr_ 105 (by decide +kernel) (tr_ 104 (by decide +kernel) I (h_i h1 21 4).toNatClampNeg x1 (by decide) (by decide)) (h_i h1 21 4).toNatClampNeg x2 (by decide) (by decide)) (h_i h1 21 4).toNatClampNeg x3 (by decide) (by decide)) (h_i h1 21 4).toNatClampNeg (h_i h1 0 0) (by decide) (by decide)).im (a := 21) (k := 4) (x := h_i h1 21 4 + 1) (by rw [show tf 21 4 = (0, 40) by decide +kernel]; exact v.2) (by decide))
  exact ⟨v.1, v.1, v.1, v.1, I5.1, Or.inr rfl, I5, (((((Fr.rf _ _).im (inw_row (by decide +kernel) _)).im (inw_row (by decide +kernel) _)).im (inw_row (by decide +kernel) _)).im (inw_row (by decide +kernel) _)).im (by decide +kernel), Or.inl ⟨⟨a1, a2, a3, l⟩, rfl, im_at⟩, Or.inl ⟨⟨a1, a2, a3, l⟩, fun k => ⟨by rw [im_ne (by decide), im_ne (by decide), im_ne (by decide), im_ne (by decide), h_i_im]; simp, by rw [im_ne (by decide), im_ne (by decide), im_ne (by decide), h_i_im, im_ne (by decide)]; simp, by rw [im_ne (by decide), im_ne (by decide), h_i_im, im_ne (by decide), im_ne (by decide)]; simp, by rw [im_ne (by decide), h_i_im, im_ne (by decide), im_ne (by decide), im_ne (by decide)]; simp⟩⟩⟩
theorem c_rnM (d : Nat) {h : Hp_} (I : Iv h) (x1 x2 x3 : Int32) : Ci (m_X12_rank (d + 2) 0 0) [.ref 1, .int x1, .int x2, .int x3] h (fun r h' => Iv h' ∧ Fr [1029, 221999, 222999, 223999, 224999] h h' ∧ ocrk (okrn (h_i h 1 7) (h_i h 1 29) x1 x2 x3) (h_i h 1 29) r (h_i h' 1 29) ∧ ((okrn (h_i h 1 7) (h_i h 1 29) x1 x2 x3 ∧ ∀ k, h_i h' 221 k = (if k = (h_i h 1 29).toNatClampNeg then x1 else h_i h 221 k) ∧ h_i h' 222 k = (if k = (h_i h 1 29).toNatClampNeg then x2 else h_i h 222 k) ∧ h_i h' 223 k = (if k = (h_i h 1 29).toNatClampNeg then x3 else h_i h 223 k) ∧ h_i h' 224 k = (if k = (h_i h 1 29).toNatClampNeg then h_i h 1 0 else h_i h 224 k)) ∨ (¬ okrn (h_i h 1 7) (h_i h 1 29) x1 x2 x3 ∧ h' = h))) := by
  have tc : (40 : Int32).toInt = 40 := rfl
  have rg := I.2.1 1 29
  rw [show tf 1 29 = (0, 40) by decide +kernel] at rg
  have no : ¬ okrn (h_i h 1 7) (h_i h 1 29) x1 x2 x3 → Iv h ∧ Fr [1029, 221999, 222999, 223999, 224999] h h ∧ ocrk (okrn (h_i h 1 7) (h_i h 1 29) x1 x2 x3) (h_i h 1 29) 0 (h_i h 1 29) ∧ ((okrn (h_i h 1 7) (h_i h 1 29) x1 x2 x3 ∧ ∀ k, h_i h 221 k = (if k = (h_i h 1 29).toNatClampNeg then x1 else h_i h 221 k) ∧ h_i h 222 k = (if k = (h_i h 1 29).toNatClampNeg then x2 else h_i h 222 k) ∧ h_i h 223 k = (if k = (h_i h 1 29).toNatClampNeg then x3 else h_i h 223 k) ∧ h_i h 224 k = (if k = (h_i h 1 29).toNatClampNeg then h_i h 1 0 else h_i h 224 k)) ∨ (¬ okrn (h_i h 1 7) (h_i h 1 29) x1 x2 x3 ∧ h = h)) := fun n => ⟨I, Fr.rf _ _, Or.inr ⟨n, rfl, rfl⟩, Or.inr ⟨n, rfl⟩⟩
  refine t_X12_rank d h I.1 x1 x2 x3 _ ⟨fun n => no (fun o => n o.1), fun a1 => ⟨fun n => no (fun o => n o.2.1), fun a2 => ⟨fun n => no (fun o => n o.2.2.1), fun a3 => ⟨fun ne => ?_, fun e => no (fun o => o.2.2.2 e)⟩⟩⟩⟩
  have v := v40 rg.1 ((nz_lt (by rw [tc]; exact rg.2)).mpr ne)
  exact ⟨v.1, v.1, v.1, v.1, ((tr_ 224 (by decide +kernel) (tr_ 223 (by decide +kernel) (tr_ 222 (by decide +kernel) (tr_ 221 (by decide +kernel) I _ _ (by decide) (by decide)) _ _ (by decide) (by decide)) _ _ (by decide) (by decide)) _ _ (by decide) (by decide)).im (a := 1) (k := 29) (by rw [show tf 1 29 = (0, 40) by decide +kernel]; exact v.2) (by decide)), (((((Fr.rf _ _).im (inw_row (by decide +kernel) _)).im (inw_row (by decide +kernel) _)).im (inw_row (by decide +kernel) _)).im (inw_row (by decide +kernel) _)).im (by decide +kernel), Or.inl ⟨⟨a1, a2, a3, ne⟩, rfl, im_at⟩, Or.inl ⟨⟨a1, a2, a3, ne⟩, fun k => ⟨by rw [im_ne (by decide), im_ne (by decide), im_ne (by decide), im_ne (by decide), h_i_im]; simp, by rw [im_ne (by decide), im_ne (by decide), im_ne (by decide), h_i_im, im_ne (by decide)]; simp, by rw [im_ne (by decide), im_ne (by decide), h_i_im, im_ne (by decide), im_ne (by decide)]; simp, by rw [im_ne (by decide), h_i_im, im_ne (by decide), im_ne (by decide), im_ne (by decide)]; simp⟩⟩⟩
theorem ExK.rn {h h1 h2 : Hp_} {x1 x2 x3 r1 r2 : Int32} (e : ExK h) (I : Iv h) (em : h_i h 0 7 = h_i h 1 7) (e0 : h_i h 0 0 = h_i h 1 0) (k1 : Iv h1 ∧ Fr [21004, 104999, 105999, 106999, 107999] h h1 ∧ ocrk (okrx (h_i h 0 7) (h_i h 21 4) x1 x2 x3) (h_i h 21 4) r1 (h_i h1 21 4) ∧ ((okrx (h_i h 0 7) (h_i h 21 4) x1 x2 x3 ∧ ∀ k, h_i h1 104 k = (if k = (h_i h 21 4).toNatClampNeg then x1 else h_i h 104 k) ∧ h_i h1 105 k = (if k = (h_i h 21 4).toNatClampNeg then x2 else h_i h 105 k) ∧ h_i h1 106 k = (if k = (h_i h 21 4).toNatClampNeg then x3 else h_i h 106 k) ∧ h_i h1 107 k = (if k = (h_i h 21 4).toNatClampNeg then h_i h 0 0 else h_i h 107 k)) ∨ (¬ okrx (h_i h 0 7) (h_i h 21 4) x1 x2 x3 ∧ h1 = h))) (k2 : Iv h2 ∧ Fr [1029, 221999, 222999, 223999, 224999] h1 h2 ∧ ocrk (okrn (h_i h1 1 7) (h_i h1 1 29) x1 x2 x3) (h_i h1 1 29) r2 (h_i h2 1 29) ∧ ((okrn (h_i h1 1 7) (h_i h1 1 29) x1 x2 x3 ∧ ∀ k, h_i h2 221 k = (if k = (h_i h1 1 29).toNatClampNeg then x1 else h_i h1 221 k) ∧ h_i h2 222 k = (if k = (h_i h1 1 29).toNatClampNeg then x2 else h_i h1 222 k) ∧ h_i h2 223 k = (if k = (h_i h1 1 29).toNatClampNeg then x3 else h_i h1 223 k) ∧ h_i h2 224 k = (if k = (h_i h1 1 29).toNatClampNeg then h_i h1 1 0 else h_i h1 224 k)) ∨ (¬ okrn (h_i h1 1 7) (h_i h1 1 29) x1 x2 x3 ∧ h2 = h1))) : ExK h2 ∧ r1 = r2 := by
  have F1 := k1.2.1
  have F2 := k2.2.1
  have g : ∀ a, off [21004, 104999, 105999, 106999, 107999] a = true → off [1029, 221999, 222999, 223999, 224999] a = true → h_i h2 a = h_i h a := fun a o1 o2 => funext (fun k => (fr_i F2 o2 k).trans (fr_i F1 o1 k))
  have gf : ∀ a k, inw [21004, 104999, 105999, 106999, 107999] a k = false → inw [1029, 221999, 222999, 223999, 224999] a k = false → h_i h2 a k = h_i h a k := fun a k o1 o2 => ((F2.2 a k o2).1).trans (F1.2 a k o1).1
  have rg := I.2.1 1 29
  rw [show tf 1 29 = (0, 40) by decide +kernel] at rg
  have eb := e.1.2.2.2.1
  have kq := k2.2.2
  have kp := k1.2.2
  rw [(k1.2.1.2 1 7 (by decide +kernel)).1, (k1.2.1.2 1 29 (by decide +kernel)).1, (k1.2.1.2 1 0 (by decide +kernel)).1] at kq
  rw [em, ← eb, e0] at kp
  have ez : okrx (h_i h 1 7) (h_i h 1 29) x1 x2 x3 ↔ okrn (h_i h 1 7) (h_i h 1 29) x1 x2 x3 := by
    unfold okrx okrn
    rw [nz_lt (n := 40) rg.2]
  have z := ocrk_eq ez kp.1 kq.1
  refine ⟨⟨⟨by rw [gf 1 80 (by decide +kernel) (by decide +kernel), gf 17 16 (by decide +kernel) (by decide +kernel)]; exact e.1.1, by rw [gf 1 79 (by decide +kernel) (by decide +kernel), gf 17 7 (by decide +kernel) (by decide +kernel)]; exact e.1.2.1, by rw [gf 1 96 (by decide +kernel) (by decide +kernel), gf 18 3 (by decide +kernel) (by decide +kernel)]; exact e.1.2.2.1, ?_, by rw [gf 235 0 (by decide +kernel) (by decide +kernel), gf 13 5 (by decide +kernel) (by decide +kernel)]; exact e.1.2.2.2.2.1, by rw [gf 0 7 (by decide +kernel) (by decide +kernel)]; exact e.1.2.2.2.2.2⟩, kx_2 e (g 249 (by decide +kernel) (by decide +kernel)) (g 250 (by decide +kernel) (by decide +kernel)) (g 251 (by decide +kernel) (by decide +kernel)) (g 252 (by decide +kernel) (by decide +kernel)) (g 253 (by decide +kernel) (by decide +kernel)) (g 57 (by decide +kernel) (by decide +kernel)) (g 58 (by decide +kernel) (by decide +kernel)) (g 59 (by decide +kernel) (by decide +kernel)) (g 60 (by decide +kernel) (by decide +kernel)) (g 61 (by decide +kernel) (by decide +kernel)) (g 254 (by decide +kernel) (by decide +kernel)) (g 63 (by decide +kernel) (by decide +kernel)) (g 62 (by decide +kernel) (by decide +kernel)) (g 65 (by decide +kernel) (by decide +kernel)) (gf 17 7 (by decide +kernel) (by decide +kernel)) (gf 17 16 (by decide +kernel) (by decide +kernel)), kx_3 e (g 255 (by decide +kernel) (by decide +kernel)) (g 256 (by decide +kernel) (by decide +kernel)) (g 257 (by decide +kernel) (by decide +kernel)) (g 258 (by decide +kernel) (by decide +kernel)) (g 259 (by decide +kernel) (by decide +kernel)) (g 260 (by decide +kernel) (by decide +kernel)) (g 261 (by decide +kernel) (by decide +kernel)) (g 64 (by decide +kernel) (by decide +kernel)) (g 65 (by decide +kernel) (by decide +kernel)) (g 66 (by decide +kernel) (by decide +kernel)) (g 67 (by decide +kernel) (by decide +kernel)) (g 68 (by decide +kernel) (by decide +kernel)) (g 69 (by decide +kernel) (by decide +kernel)) (g 70 (by decide +kernel) (by decide +kernel)) (gf 17 16 (by decide +kernel) (by decide +kernel)), kx_4 e (g 262 (by decide +kernel) (by decide +kernel)) (g 263 (by decide +kernel) (by decide +kernel)) (g 71 (by decide +kernel) (by decide +kernel)) (g 72 (by decide +kernel) (by decide +kernel)) (gf 18 3 (by decide +kernel) (by decide +kernel)), fun k hk => ?_, kx_6 e (g 233 (by decide +kernel) (by decide +kernel)) (g 234 (by decide +kernel) (by decide +kernel)) (g 37 (by decide +kernel) (by decide +kernel)) (g 38 (by decide +kernel) (by decide +kernel)) (gf 13 5 (by decide +kernel) (by decide +kernel)), kx_7 e (g 204 (by decide +kernel) (by decide +kernel)) (gf 0 7 (by decide +kernel) (by decide +kernel)) (fun j hj => (m1_fr F2 (by decide +kernel) j hj).trans (m1_fr F1 (by decide +kernel) j hj)), kx_8 e (g 39 (by decide +kernel) (by decide +kernel)) (g 40 (by decide +kernel) (by decide +kernel)) (g 231 (by decide +kernel) (by decide +kernel)) (g 232 (by decide +kernel) (by decide +kernel)) (gf 13 5 (by decide +kernel) (by decide +kernel))⟩, z.1⟩
  · rw [(F2.2 21 4 (by decide +kernel)).1]
    exact z.2.symm
  · have r := e.2.2.2.2.1 k hk
    rw [fr_i F2 (a := 104) (by decide +kernel) k, fr_i F2 (a := 105) (by decide +kernel) k, fr_i F2 (a := 106) (by decide +kernel) k, fr_i F2 (a := 107) (by decide +kernel) k]
    rcases kp.2 with ⟨p, f⟩ | ⟨p, f⟩ <;> rcases kq.2 with ⟨q, gg⟩ | ⟨q, gg⟩
    · rw [(f k).1, (f k).2.1, (f k).2.2.1, (f k).2.2.2, (gg k).1, (gg k).2.1, (gg k).2.2.1, (gg k).2.2.2, fr_i F1 (a := 221) (by decide +kernel) k, fr_i F1 (a := 222) (by decide +kernel) k, fr_i F1 (a := 223) (by decide +kernel) k, fr_i F1 (a := 224) (by decide +kernel) k, r.1, r.2.1, r.2.2.1, r.2.2.2]
      exact ⟨rfl, rfl, rfl, rfl⟩
    · exact absurd (ez.mp p) q
    · exact absurd (ez.mpr q) p
    · rw [gg, f]
      exact r
/-! open -/
noncomputable def Onx (x1 : Int32) (h : Hp_) (r : Int32) (h' : Hp_) : Prop := (0 ≤ x1 ∧ x1 ≤ 9 → Saq x1 (h_i h 0 0) h r h') ∧ (¬ (0 ≤ x1 ∧ x1 ≤ 9) → r = -1 ∧ h' = h)
noncomputable def Onm (x1 : Int32) (h : Hp_) (r : Int32) (h' : Hp_) : Prop := ((0 ≤ x1 ∧ x1 ≤ 9) ∧ ¬ 30 ≤ h_i h 1 96 → Opq x1 h r h') ∧ (¬ ((0 ≤ x1 ∧ x1 ≤ 9) ∧ ¬ 30 ≤ h_i h 1 96) → r = -1 ∧ h' = h)
theorem ExK.on {h h1 h2 : Hp_} {x1 r1 r2 : Int32} (e : ExK h) (I : Iv h) (e0 : h_i h 0 0 = h_i h 1 0) (F1 : Fr [18003, 71999, 72999] h h1) (F2 : Fr [1096, 262999, 263999] h1 h2) (k1 : Onx x1 h r1 h1) (k2 : Onm x1 h1 r2 h2) : ExK h2 ∧ r1 = r2 := by
  have r18 := iq18 I
  have n18 := n_nat r18.1
  have t1 : (1 : Int32).toInt = 1 := rfl
  have t30 : (30 : Int32).toInt = 30 := rfl
  have e96 : h_i h1 1 96 = h_i h 18 3 := by rw [(F1.2 1 96 (by decide +kernel)).1]; exact e.1.2.2.1
  have g : ∀ a, off [18003, 71999, 72999] a = true → off [1096, 262999, 263999] a = true → h_i h2 a = h_i h a := fun a o1 o2 => funext (fun k => (fr_i F2 o2 k).trans (fr_i F1 o1 k))
  have gf : ∀ a k, inw [18003, 71999, 72999] a k = false → inw [1096, 262999, 263999] a k = false → h_i h2 a k = h_i h a k := fun a k o1 o2 => ((F2.2 a k o2).1).trans (F1.2 a k o1).1
  by_cases c : 0 ≤ x1 ∧ x1 ≤ 9
  · have p := k1.1 c
    obtain ⟨_, _, er1, s71, s72, s18⟩ := p
    by_cases l : h_i h 18 3 < 30
    · have ll := q_lt.mp l
      have nl : ¬ 30 ≤ h_i h1 1 96 := fun u => by
        rw [e96] at u
        have := q_le.mp u
        omega
      have q := k2.1 ⟨c, nl⟩
      obtain ⟨_, _, er2, t262, t263, t96⟩ := q
      rw [if_pos l] at er1 s71 s72 s18
      rw [e96] at er2 t262 t263 t96
      have f7 : (h_i h 18 3 + 1).toInt = (h_i h 18 3).toInt + 1 := by rw [tx_add (by rw [t1]; omega) (by rw [t1]; omega), t1]
      have n8 := n_nat (x := h_i h 18 3 + 1) (by omega)
      have s3 : h_i h1 18 3 = h_i h 18 3 + 1 := by rw [s18, up1_at]
      have g1 : ∀ a, off [18003, 71999, 72999] a = true → h_i h1 a = h_i h a := fun a o2 => funext (fun k => fr_i F1 o2 k)
      have g2 : ∀ a, off [1096, 262999, 263999] a = true → h_i h2 a = h_i h1 a := fun a o2 => funext (fun k => fr_i F2 o2 k)
      refine ⟨⟨⟨by rw [gf 1 80 (by decide +kernel) (by decide +kernel), gf 17 16 (by decide +kernel) (by decide +kernel)]; exact e.1.1, by rw [gf 1 79 (by decide +kernel) (by decide +kernel), gf 17 7 (by decide +kernel) (by decide +kernel)]; exact e.1.2.1, ?_, by rw [gf 1 29 (by decide +kernel) (by decide +kernel), gf 21 4 (by decide +kernel) (by decide +kernel)]; exact e.1.2.2.2.1, by rw [gf 235 0 (by decide +kernel) (by decide +kernel), gf 13 5 (by decide +kernel) (by decide +kernel)]; exact e.1.2.2.2.2.1, by rw [gf 0 7 (by decide +kernel) (by decide +kernel)]; exact e.1.2.2.2.2.2⟩, kx_2 e (g 249 (by decide +kernel) (by decide +kernel)) (g 250 (by decide +kernel) (by decide +kernel)) (g 251 (by decide +kernel) (by decide +kernel)) (g 252 (by decide +kernel) (by decide +kernel)) (g 253 (by decide +kernel) (by decide +kernel)) (g 57 (by decide +kernel) (by decide +kernel)) (g 58 (by decide +kernel) (by decide +kernel)) (g 59 (by decide +kernel) (by decide +kernel)) (g 60 (by decide +kernel) (by decide +kernel)) (g 61 (by decide +kernel) (by decide +kernel)) (g 254 (by decide +kernel) (by decide +kernel)) (g 63 (by decide +kernel) (by decide +kernel)) (g 62 (by decide +kernel) (by decide +kernel)) (g 65 (by decide +kernel) (by decide +kernel)) (gf 17 7 (by decide +kernel) (by decide +kernel)) (gf 17 16 (by decide +kernel) (by decide +kernel)), kx_3 e (g 255 (by decide +kernel) (by decide +kernel)) (g 256 (by decide +kernel) (by decide +kernel)) (g 257 (by decide +kernel) (by decide +kernel)) (g 258 (by decide +kernel) (by decide +kernel)) (g 259 (by decide +kernel) (by decide +kernel)) (g 260 (by decide +kernel) (by decide +kernel)) (g 261 (by decide +kernel) (by decide +kernel)) (g 64 (by decide +kernel) (by decide +kernel)) (g 65 (by decide +kernel) (by decide +kernel)) (g 66 (by decide +kernel) (by decide +kernel)) (g 67 (by decide +kernel) (by decide +kernel)) (g 68 (by decide +kernel) (by decide +kernel)) (g 69 (by decide +kernel) (by decide +kernel)) (g 70 (by decide +kernel) (by decide +kernel)) (gf 17 16 (by decide +kernel) (by decide +kernel)), fun i hi => ?_, kx_5 e (g 104 (by decide +kernel) (by decide +kernel)) (g 105 (by decide +kernel) (by decide +kernel)) (g 106 (by decide +kernel) (by decide +kernel)) (g 107 (by decide +kernel) (by decide +kernel)) (g 221 (by decide +kernel) (by decide +kernel)) (g 222 (by decide +kernel) (by decide +kernel)) (g 223 (by decide +kernel) (by decide +kernel)) (g 224 (by decide +kernel) (by decide +kernel)) , kx_6 e (g 233 (by decide +kernel) (by decide +kernel)) (g 234 (by decide +kernel) (by decide +kernel)) (g 37 (by decide +kernel) (by decide +kernel)) (g 38 (by decide +kernel) (by decide +kernel)) (gf 13 5 (by decide +kernel) (by decide +kernel)), kx_7 e (g 204 (by decide +kernel) (by decide +kernel)) (gf 0 7 (by decide +kernel) (by decide +kernel)) (fun j hj => (m1_fr F2 (by decide +kernel) j hj).trans (m1_fr F1 (by decide +kernel) j hj)), kx_8 e (g 39 (by decide +kernel) (by decide +kernel)) (g 40 (by decide +kernel) (by decide +kernel)) (g 231 (by decide +kernel) (by decide +kernel)) (g 232 (by decide +kernel) (by decide +kernel)) (gf 13 5 (by decide +kernel) (by decide +kernel))⟩, er1.trans er2.symm⟩
      · rw [t96, (F2.2 18 3 (by decide +kernel)).1, s3]
      · rw [(F2.2 18 3 (by decide +kernel)).1, s3] at hi
        rw [t262, t263, g2 71 (by decide +kernel), g2 72 (by decide +kernel), s71, s72, g1 262 (by decide +kernel), g1 263 (by decide +kernel), (F1.2 1 0 (by decide +kernel)).1, ← e0]
        by_cases u : i = (h_i h 18 3).toNatClampNeg
        · rw [u, up1_at, up1_at, up1_at, up1_at]
          exact ⟨rfl, rfl⟩
        · rw [up1_ne u, up1_ne u, up1_ne u, up1_ne u]
          exact e.2.2.2.1 i (by omega)
    · have nl : 30 ≤ h_i h1 1 96 := by
        rw [e96]
        refine q_le.mpr ?_
        have := q_nlt l
        omega
      have q := k2.2 (fun u => u.2 nl)
      rw [if_neg l] at er1 s71 s72 s18
      refine ⟨?_, er1.trans q.1.symm⟩
      rw [q.2]
      have M := m1_fr F1 (by decide +kernel)
      refine e.cg (fun a ha => ?_) (fun q hq => ?_) (fun j hj => M j (by have := e.1.2.2.2.2.2; omega))
      · by_cases u : a = 71
        · rw [u]; exact s71
        · by_cases v : a = 72
          · rw [v]; exact s72
          · have z : kRw.all (fun a => off [18003, 71999, 72999] a || decide (a = 71) || decide (a = 72)) = true := by decide +kernel
            have y := List.all_eq_true.mp z a ha
            rw [Bool.or_eq_true, Bool.or_eq_true, decide_eq_true_eq, decide_eq_true_eq] at y
            rcases y with (y | y) | y
            · exact funext (fun k => fr_i F1 y k)
            · exact absurd y u
            · exact absurd y v
      · by_cases u : q = (18, 3)
        · rw [u]
          show h_i h1 18 3 = h_i h 18 3
          rw [s18]
        · have z : kF.all (fun q => !inw [18003, 71999, 72999] q.1 q.2 || decide (q = (18, 3))) = true := by decide +kernel
          have y := List.all_eq_true.mp z q hq
          rw [Bool.or_eq_true, Bool.not_eq_true', decide_eq_true_eq] at y
          rcases y with y | y
          · exact (F1.2 q.1 q.2 y).1
          · exact absurd y u
  · have p := k1.2 c
    have q := k2.2 (fun u => c u.1)
    rw [q.2, p.2]
    exact ⟨e, p.1.trans q.1.symm⟩
theorem okc_okm {m x1 x2 x3 : Int32} (b : 0 ≤ m.toInt ∧ m.toInt ≤ 12) : okc m x1 x2 x3 ↔ okm m x1 x2 x3 := by
  have t12 : (12 : Int32).toInt = 12 := rfl
  have t15 : (15 : Int32).toInt = 15 := rfl
  have t16 : (16 : Int32).toInt = 16 := rfl
  refine ⟨fun o => ⟨o.1, o.2.1, ⟨o.2.2.1.1, q_le.mpr (by have := q_lt.mp o.2.2.1.2; omega)⟩, fun e => by have := q_lt.mp o.2.2.2; rw [e] at this; omega⟩, fun o => ⟨o.1, o.2.1, ⟨o.2.2.1.1, q_lt.mpr (by have := q_le.mp o.2.2.1.2; omega)⟩, q_lt.mpr ?_⟩⟩
  rcases Int.lt_or_le m.toInt 12 with u | u
  · omega
  · exact absurd (Int32.toInt_inj.mp (by omega)) o.2.2.2
end
section
/-! LOOKS: open, act, pay, constable keep the relation -/
theorem c_onX (d : Nat) {h : Hp_} (I : Iv h) (x1 : Int32) : Ci (m_X11_open (d + 1) 0 0) [.ref 0, .int x1] h (fun r h' => Iv h' ∧ Fr [18003, 71999, 72999] h h' ∧ Onx x1 h r h') := by
  refine t_X11_open d h I.1 x1 _ ⟨fun n => ⟨I, Fr.rf _ _, fun c => absurd c n, fun _ => ⟨rfl, rfl⟩⟩, fun c => Ci.mono (c_sta d I ⟨q_le.mp c.1, q_le.mp c.2⟩ _) (fun r h' k => ⟨k.1.1, k.1, k.2.1, fun _ => k, fun n => absurd c n⟩)⟩
theorem c_onM (d : Nat) {h : Hp_} (I : Iv h) (x1 : Int32) : Ci (m_X12_open (d + 1) 0 0) [.ref 1, .int x1] h (fun r h' => Iv h' ∧ Fr [1096, 262999, 263999] h h' ∧ Onm x1 h r h') := by
  refine t_X12_open d h I.1 x1 _ ⟨fun n => ⟨I, Fr.rf _ _, fun c => absurd c.1 n, fun _ => ⟨rfl, rfl⟩⟩, fun c => ⟨fun y => ⟨I, Fr.rf _ _, fun u => absurd y u.2, fun _ => ⟨rfl, rfl⟩⟩, fun n => Ci.mono (c_opn d I n ⟨q_le.mp c.1, q_le.mp c.2⟩) (fun r h' k => ⟨k.1.1, k.1, k.2.1, fun _ => k, fun u => absurd ⟨c, n⟩ u⟩)⟩⟩
/-! act and pay -/
theorem At_.cg {f f' : Nat → Int32} {i : Nat} {L : List Int32} (a : At_ f i L) (e : ∀ j, i ≤ j → j < i + L.length → f' j = f j) : At_ f' i L := fun k v h => by
  have lk : k < L.length := (List.getElem?_eq_some_iff.mp h).1
  rw [e (i + k) (by omega) (by omega)]
  exact a k v h
theorem rlX_lt {i k : Nat} {C : List Cl2} {v : Int32} (h : (rlX 1 i C)[k]? = some v) : k < rlN C := by
  have lk : k < (rlX 1 i C).length := (List.getElem?_eq_some_iff.mp h).1
  rw [rlX_l] at lk
  exact lk
/-- codes of other acts stay -/
theorem gdC.cg {h h' : Hp_} {k : Nat} {C : List Cl2} (g : gdC h k C) (a : h_i h' 39 k = h_i h 39 k) (b : ∀ i, i < 164 → h_i h' 40 (164 * k + i) = h_i h 40 (164 * k + i)) (c : ∀ i, i < 560 → h_i h' 231 (560 * k + i) = h_i h 231 (560 * k + i)) (d : h_i h' 232 k = h_i h 232 k) : gdC h' k C := by
  obtain ⟨g1, g2, g3, g4, g5⟩ := g
  refine ⟨g1, ⟨by rw [a]; exact g2.1, g2.2.1, fun i v e => ?_⟩, g3.cg (fun j l u => ?_), by rw [d]; exact g4, g5⟩
  · rw [b i (by have := rlX_lt e; omega)]
    exact g2.2.2 i v e
  · have := c (j - 560 * k) (by omega)
    rw [show 560 * k + (j - 560 * k) = j by omega] at this
    exact this
theorem ExK.ac {h h1 h2 : Hp_} {x1 r1 r2 : Int32} (e : ExK h) (I : Iv h) (e0 : h_i h 0 0 = h_i h 1 0) (F1 : Fr wrx_13 h h1) (F2 : Fr wzt h1 h2) (k1 : Rlx_13 x1 h r1 h1 ∧ RcX_13 x1 h h1) (k2 : Rlm (h_i h 31) (xn h) 0 x1 h1 r2 h2 ∧ RcM (h_i h 31) (xn h) 0 x1 h1 h2) : ExK h2 := by
  have c20 := n13_in I
  have n13 := n_nat c20.1
  have t1 : (1 : Int32).toInt = 1 := rfl
  have e235 : h_i h1 235 0 = h_i h 13 5 := by rw [fr_i F1 (a := 235) (by decide +kernel) 0]; exact e.1.2.2.2.2.1
  have g : ∀ a, off wrx_13 a = true → off wzt a = true → h_i h2 a = h_i h a := fun a o1 o2 => funext (fun k => (fr_i F2 o2 k).trans (fr_i F1 o1 k))
  have gf : ∀ a k, inw wrx_13 a k = false → inw wzt a k = false → h_i h2 a k = h_i h a k := fun a k o1 o2 => ((F2.2 a k o2).1).trans (F1.2 a k o1).1
  have kq := k2
  unfold Rlm RcM at kq
  rw [e235] at kq
  have g2 : ∀ a, off wzt a = true → h_i h2 a = h_i h1 a := fun a o2 => funext (fun k => fr_i F2 o2 k)
  have g1 : ∀ a, off wrx_13 a = true → h_i h1 a = h_i h a := fun a o2 => funext (fun k => fr_i F1 o2 k)
  by_cases c : okR (h_i h 31) (xn h) 0 x1 (h_i h 13 5)
  · have p := k1.1.2 c
    have q := kq.1.2 c
    have pc := k1.2.2 c
    have qc := kq.2.2 c
    have n20 : ¬ h_i h 13 5 = 20 := c.2.1
    have l20 : (h_i h 13 5).toInt < 20 := by
      rcases Int.lt_or_le (h_i h 13 5).toInt 20 with u | u
      · exact u
      · exact absurd (Int32.toInt_inj.mp (show (h_i h 13 5).toInt = (20 : Int32).toInt by rw [show (20 : Int32).toInt = 20 from rfl]; omega)) n20
    have f1 : (h_i h 13 5 + 1).toInt = (h_i h 13 5).toInt + 1 := by rw [tx_add (by rw [t1]; omega) (by rw [t1]; omega), t1]
    have n14 := n_nat (x := h_i h 13 5 + 1) (by omega)
    have z13 : h_i h2 13 5 = h_i h 13 5 + 1 := by rw [(F2.2 13 5 (by decide +kernel)).1]; exact p.2.2.1
    refine ⟨⟨by rw [gf 1 80 (by decide +kernel) (by decide +kernel), gf 17 16 (by decide +kernel) (by decide +kernel)]; exact e.1.1, by rw [gf 1 79 (by decide +kernel) (by decide +kernel), gf 17 7 (by decide +kernel) (by decide +kernel)]; exact e.1.2.1, by rw [gf 1 96 (by decide +kernel) (by decide +kernel), gf 18 3 (by decide +kernel) (by decide +kernel)]; exact e.1.2.2.1, by rw [gf 1 29 (by decide +kernel) (by decide +kernel), gf 21 4 (by decide +kernel) (by decide +kernel)]; exact e.1.2.2.2.1, ?_, by rw [gf 0 7 (by decide +kernel) (by decide +kernel)]; exact e.1.2.2.2.2.2⟩, kx_2 e (g 249 (by decide +kernel) (by decide +kernel)) (g 250 (by decide +kernel) (by decide +kernel)) (g 251 (by decide +kernel) (by decide +kernel)) (g 252 (by decide +kernel) (by decide +kernel)) (g 253 (by decide +kernel) (by decide +kernel)) (g 57 (by decide +kernel) (by decide +kernel)) (g 58 (by decide +kernel) (by decide +kernel)) (g 59 (by decide +kernel) (by decide +kernel)) (g 60 (by decide +kernel) (by decide +kernel)) (g 61 (by decide +kernel) (by decide +kernel)) (g 254 (by decide +kernel) (by decide +kernel)) (g 63 (by decide +kernel) (by decide +kernel)) (g 62 (by decide +kernel) (by decide +kernel)) (g 65 (by decide +kernel) (by decide +kernel)) (gf 17 7 (by decide +kernel) (by decide +kernel)) (gf 17 16 (by decide +kernel) (by decide +kernel)), kx_3 e (g 255 (by decide +kernel) (by decide +kernel)) (g 256 (by decide +kernel) (by decide +kernel)) (g 257 (by decide +kernel) (by decide +kernel)) (g 258 (by decide +kernel) (by decide +kernel)) (g 259 (by decide +kernel) (by decide +kernel)) (g 260 (by decide +kernel) (by decide +kernel)) (g 261 (by decide +kernel) (by decide +kernel)) (g 64 (by decide +kernel) (by decide +kernel)) (g 65 (by decide +kernel) (by decide +kernel)) (g 66 (by decide +kernel) (by decide +kernel)) (g 67 (by decide +kernel) (by decide +kernel)) (g 68 (by decide +kernel) (by decide +kernel)) (g 69 (by decide +kernel) (by decide +kernel)) (g 70 (by decide +kernel) (by decide +kernel)) (gf 17 16 (by decide +kernel) (by decide +kernel)), kx_4 e (g 262 (by decide +kernel) (by decide +kernel)) (g 263 (by decide +kernel) (by decide +kernel)) (g 71 (by decide +kernel) (by decide +kernel)) (g 72 (by decide +kernel) (by decide +kernel)) (gf 18 3 (by decide +kernel) (by decide +kernel)), kx_5 e (g 104 (by decide +kernel) (by decide +kernel)) (g 105 (by decide +kernel) (by decide +kernel)) (g 106 (by decide +kernel) (by decide +kernel)) (g 107 (by decide +kernel) (by decide +kernel)) (g 221 (by decide +kernel) (by decide +kernel)) (g 222 (by decide +kernel) (by decide +kernel)) (g 223 (by decide +kernel) (by decide +kernel)) (g 224 (by decide +kernel) (by decide +kernel)) , fun k hk => ?_, kx_7 e (g 204 (by decide +kernel) (by decide +kernel)) (gf 0 7 (by decide +kernel) (by decide +kernel)) (fun j hj => (m1_fr F2 (by decide +kernel) j hj).trans (m1_fr F1 (by decide +kernel) j hj)), fun k hk => ?_⟩
    · rw [z13, q.2.2.1 0, if_pos rfl]
    · rw [z13] at hk
      rw [q.2.2.2.1 k, q.2.2.2.2 k, g2 37 (by decide +kernel), g2 38 (by decide +kernel), p.2.2.2.1 k, p.2.2.2.2 k, g1 233 (by decide +kernel), g1 234 (by decide +kernel), show 20 * 0 + (h_i h 13 5).toNatClampNeg = (h_i h 13 5).toNatClampNeg by omega, (F1.2 1 0 (by decide +kernel)).1, ← e0]
      by_cases u : k = (h_i h 13 5).toNatClampNeg
      · rw [if_pos u, if_pos u, if_pos u, if_pos u]
        exact ⟨rfl, rfl⟩
      · rw [if_neg u, if_neg u, if_neg u, if_neg u]
        exact e.2.2.2.2.2.1 k (by omega)
    · rw [z13] at hk
      rw [show 20 * 0 + (h_i h 13 5).toNatClampNeg = (h_i h 13 5).toNatClampNeg by omega] at qc
      by_cases u : k = (h_i h 13 5).toNatClampNeg
      · refine ⟨(k2ru (h_i h 31) (xn h) (0 + 1) 0).2.2, clO_ru (Or.inl rfl) pc.1, ⟨?_, pc.2.1, fun i v ee => ?_⟩, ?_, ?_, qc.2.2.2.1⟩
        · rw [g2 39 (by decide +kernel), u]
          exact pc.2.2.1
        · rw [g2 40 (by decide +kernel), u]
          exact pc.2.2.2.1 i v ee
        · rw [u]
          exact qc.2.1
        · rw [u]
          exact qc.2.2.1
      · obtain ⟨C, gc⟩ := e.2.2.2.2.2.2.2 k (by omega)
        refine ⟨C, gc.cg ?_ (fun i hi => ?_) (fun i hi => ?_) ?_⟩
        · rw [g2 39 (by decide +kernel)]
          exact pc.2.2.2.2.1 k u
        · rw [g2 40 (by decide +kernel)]
          exact pc.2.2.2.2.2 _ (by omega)
        · rw [qc.2.2.2.2.2 _ (by omega), g1 231 (by decide +kernel)]
        · rw [qc.2.2.2.2.1 k u, g1 232 (by decide +kernel)]
  · have p := k1.1.1 c
    have q := kq.1.1 c
    have pc := k1.2.1 c
    have qc := kq.2.1 c
    have z13 : h_i h2 13 5 = h_i h 13 5 := by rw [(F2.2 13 5 (by decide +kernel)).1]; exact p.2.2.1
    refine ⟨⟨by rw [gf 1 80 (by decide +kernel) (by decide +kernel), gf 17 16 (by decide +kernel) (by decide +kernel)]; exact e.1.1, by rw [gf 1 79 (by decide +kernel) (by decide +kernel), gf 17 7 (by decide +kernel) (by decide +kernel)]; exact e.1.2.1, by rw [gf 1 96 (by decide +kernel) (by decide +kernel), gf 18 3 (by decide +kernel) (by decide +kernel)]; exact e.1.2.2.1, by rw [gf 1 29 (by decide +kernel) (by decide +kernel), gf 21 4 (by decide +kernel) (by decide +kernel)]; exact e.1.2.2.2.1, ?_, by rw [gf 0 7 (by decide +kernel) (by decide +kernel)]; exact e.1.2.2.2.2.2⟩, kx_2 e (g 249 (by decide +kernel) (by decide +kernel)) (g 250 (by decide +kernel) (by decide +kernel)) (g 251 (by decide +kernel) (by decide +kernel)) (g 252 (by decide +kernel) (by decide +kernel)) (g 253 (by decide +kernel) (by decide +kernel)) (g 57 (by decide +kernel) (by decide +kernel)) (g 58 (by decide +kernel) (by decide +kernel)) (g 59 (by decide +kernel) (by decide +kernel)) (g 60 (by decide +kernel) (by decide +kernel)) (g 61 (by decide +kernel) (by decide +kernel)) (g 254 (by decide +kernel) (by decide +kernel)) (g 63 (by decide +kernel) (by decide +kernel)) (g 62 (by decide +kernel) (by decide +kernel)) (g 65 (by decide +kernel) (by decide +kernel)) (gf 17 7 (by decide +kernel) (by decide +kernel)) (gf 17 16 (by decide +kernel) (by decide +kernel)), kx_3 e (g 255 (by decide +kernel) (by decide +kernel)) (g 256 (by decide +kernel) (by decide +kernel)) (g 257 (by decide +kernel) (by decide +kernel)) (g 258 (by decide +kernel) (by decide +kernel)) (g 259 (by decide +kernel) (by decide +kernel)) (g 260 (by decide +kernel) (by decide +kernel)) (g 261 (by decide +kernel) (by decide +kernel)) (g 64 (by decide +kernel) (by decide +kernel)) (g 65 (by decide +kernel) (by decide +kernel)) (g 66 (by decide +kernel) (by decide +kernel)) (g 67 (by decide +kernel) (by decide +kernel)) (g 68 (by decide +kernel) (by decide +kernel)) (g 69 (by decide +kernel) (by decide +kernel)) (g 70 (by decide +kernel) (by decide +kernel)) (gf 17 16 (by decide +kernel) (by decide +kernel)), kx_4 e (g 262 (by decide +kernel) (by decide +kernel)) (g 263 (by decide +kernel) (by decide +kernel)) (g 71 (by decide +kernel) (by decide +kernel)) (g 72 (by decide +kernel) (by decide +kernel)) (gf 18 3 (by decide +kernel) (by decide +kernel)), kx_5 e (g 104 (by decide +kernel) (by decide +kernel)) (g 105 (by decide +kernel) (by decide +kernel)) (g 106 (by decide +kernel) (by decide +kernel)) (g 107 (by decide +kernel) (by decide +kernel)) (g 221 (by decide +kernel) (by decide +kernel)) (g 222 (by decide +kernel) (by decide +kernel)) (g 223 (by decide +kernel) (by decide +kernel)) (g 224 (by decide +kernel) (by decide +kernel)) , fun k hk => ?_, kx_7 e (g 204 (by decide +kernel) (by decide +kernel)) (gf 0 7 (by decide +kernel) (by decide +kernel)) (fun j hj => (m1_fr F2 (by decide +kernel) j hj).trans (m1_fr F1 (by decide +kernel) j hj)), fun k hk => ?_⟩
    · rw [z13, q.2.2.1 0]
      exact e235
    · rw [z13] at hk
      rw [q.2.2.2.1 k, q.2.2.2.2 k, g2 37 (by decide +kernel), g2 38 (by decide +kernel), p.2.2.2.1 k, p.2.2.2.2 k, g1 233 (by decide +kernel), g1 234 (by decide +kernel)]
      exact e.2.2.2.2.2.1 k hk
    · rw [z13] at hk
      obtain ⟨C, gc⟩ := e.2.2.2.2.2.2.2 k hk
      refine ⟨C, gc.cg ?_ (fun i hi => ?_) (fun i hi => ?_) ?_⟩
      · rw [g2 39 (by decide +kernel)]
        exact pc.1 k
      · rw [g2 40 (by decide +kernel)]
        exact pc.2 _
      · rw [qc.1, g1 231 (by decide +kernel)]
      · rw [qc.2, g1 232 (by decide +kernel)]
theorem ExK.pa {h h1 h2 : Hp_} {x1 r2 : Int32} (e : ExK h) (I : Iv h) (F1 : Fr wrx_14 h h1) (F2 : Fr wzt h1 h2) (k2 : Rlm (h_i h 31) (xn h) 1 x1 h1 r2 h2 ∧ RcM (h_i h 31) (xn h) 1 x1 h1 h2) : ExK h2 := by
  have c20 := n13_in I
  have n13 := n_nat c20.1
  have g : ∀ a, off wrx_14 a = true → off wzt a = true → h_i h2 a = h_i h a := fun a o1 o2 => funext (fun k => (fr_i F2 o2 k).trans (fr_i F1 o1 k))
  have gf : ∀ a k, inw wrx_14 a k = false → inw wzt a k = false → h_i h2 a k = h_i h a k := fun a k o1 o2 => ((F2.2 a k o2).1).trans (F1.2 a k o1).1
  have g1 : ∀ a, off wrx_14 a = true → h_i h1 a = h_i h a := fun a o2 => funext (fun k => fr_i F1 o2 k)
  have s235 : h_i h2 235 0 = h_i h1 235 0 ∧ (∀ k, k < 20 → h_i h2 233 k = h_i h1 233 k ∧ h_i h2 234 k = h_i h1 234 k ∧ h_i h2 232 k = h_i h1 232 k ∧ ∀ i, i < 560 → h_i h2 231 (560 * k + i) = h_i h1 231 (560 * k + i)) := by
    by_cases c : okR (h_i h 31) (xn h) 1 x1 (h_i h1 235 1)
    · have q := k2.1.2 c
      have qc := k2.2.2 c
      refine ⟨?_, fun k hk => ⟨?_, ?_, ?_, fun i hi => ?_⟩⟩
      · rw [q.2.2.1 0, if_neg (by decide)]
      · rw [q.2.2.2.1 k, if_neg (by omega)]
      · rw [q.2.2.2.2 k, if_neg (by omega)]
      · exact qc.2.2.2.2.1 k (by omega)
      · exact qc.2.2.2.2.2 _ (by omega)
    · have q := k2.1.1 c
      have qc := k2.2.1 c
      exact ⟨q.2.2.1 0, fun k hk => ⟨q.2.2.2.1 k, q.2.2.2.2 k, qc.2 k, fun i hi => qc.1 _⟩⟩
  refine ⟨⟨by rw [gf 1 80 (by decide +kernel) (by decide +kernel), gf 17 16 (by decide +kernel) (by decide +kernel)]; exact e.1.1, by rw [gf 1 79 (by decide +kernel) (by decide +kernel), gf 17 7 (by decide +kernel) (by decide +kernel)]; exact e.1.2.1, by rw [gf 1 96 (by decide +kernel) (by decide +kernel), gf 18 3 (by decide +kernel) (by decide +kernel)]; exact e.1.2.2.1, by rw [gf 1 29 (by decide +kernel) (by decide +kernel), gf 21 4 (by decide +kernel) (by decide +kernel)]; exact e.1.2.2.2.1, ?_, by rw [gf 0 7 (by decide +kernel) (by decide +kernel)]; exact e.1.2.2.2.2.2⟩, kx_2 e (g 249 (by decide +kernel) (by decide +kernel)) (g 250 (by decide +kernel) (by decide +kernel)) (g 251 (by decide +kernel) (by decide +kernel)) (g 252 (by decide +kernel) (by decide +kernel)) (g 253 (by decide +kernel) (by decide +kernel)) (g 57 (by decide +kernel) (by decide +kernel)) (g 58 (by decide +kernel) (by decide +kernel)) (g 59 (by decide +kernel) (by decide +kernel)) (g 60 (by decide +kernel) (by decide +kernel)) (g 61 (by decide +kernel) (by decide +kernel)) (g 254 (by decide +kernel) (by decide +kernel)) (g 63 (by decide +kernel) (by decide +kernel)) (g 62 (by decide +kernel) (by decide +kernel)) (g 65 (by decide +kernel) (by decide +kernel)) (gf 17 7 (by decide +kernel) (by decide +kernel)) (gf 17 16 (by decide +kernel) (by decide +kernel)), kx_3 e (g 255 (by decide +kernel) (by decide +kernel)) (g 256 (by decide +kernel) (by decide +kernel)) (g 257 (by decide +kernel) (by decide +kernel)) (g 258 (by decide +kernel) (by decide +kernel)) (g 259 (by decide +kernel) (by decide +kernel)) (g 260 (by decide +kernel) (by decide +kernel)) (g 261 (by decide +kernel) (by decide +kernel)) (g 64 (by decide +kernel) (by decide +kernel)) (g 65 (by decide +kernel) (by decide +kernel)) (g 66 (by decide +kernel) (by decide +kernel)) (g 67 (by decide +kernel) (by decide +kernel)) (g 68 (by decide +kernel) (by decide +kernel)) (g 69 (by decide +kernel) (by decide +kernel)) (g 70 (by decide +kernel) (by decide +kernel)) (gf 17 16 (by decide +kernel) (by decide +kernel)), kx_4 e (g 262 (by decide +kernel) (by decide +kernel)) (g 263 (by decide +kernel) (by decide +kernel)) (g 71 (by decide +kernel) (by decide +kernel)) (g 72 (by decide +kernel) (by decide +kernel)) (gf 18 3 (by decide +kernel) (by decide +kernel)), kx_5 e (g 104 (by decide +kernel) (by decide +kernel)) (g 105 (by decide +kernel) (by decide +kernel)) (g 106 (by decide +kernel) (by decide +kernel)) (g 107 (by decide +kernel) (by decide +kernel)) (g 221 (by decide +kernel) (by decide +kernel)) (g 222 (by decide +kernel) (by decide +kernel)) (g 223 (by decide +kernel) (by decide +kernel)) (g 224 (by decide +kernel) (by decide +kernel)) , fun k hk => ?_, kx_7 e (g 204 (by decide +kernel) (by decide +kernel)) (gf 0 7 (by decide +kernel) (by decide +kernel)) (fun j hj => (m1_fr F2 (by decide +kernel) j hj).trans (m1_fr F1 (by decide +kernel) j hj)), fun k hk => ?_⟩
  · rw [s235.1, gf 13 5 (by decide +kernel) (by decide +kernel), g1 235 (by decide +kernel)]
    exact e.1.2.2.2.2.1
  · rw [gf 13 5 (by decide +kernel) (by decide +kernel)] at hk
    have y := s235.2 k (by omega)
    rw [y.1, y.2.1, g1 233 (by decide +kernel), g1 234 (by decide +kernel), g 37 (by decide +kernel) (by decide +kernel), g 38 (by decide +kernel) (by decide +kernel)]
    exact e.2.2.2.2.2.1 k hk
  · rw [gf 13 5 (by decide +kernel) (by decide +kernel)] at hk
    have y := s235.2 k (by omega)
    obtain ⟨C, gc⟩ := e.2.2.2.2.2.2.2 k hk
    refine ⟨C, gc.cg ?_ (fun i hi => ?_) (fun i hi => ?_) ?_⟩
    · rw [g 39 (by decide +kernel) (by decide +kernel)]
    · rw [g 40 (by decide +kernel) (by decide +kernel)]
    · rw [y.2.2.2 i hi, g1 231 (by decide +kernel)]
    · rw [y.2.2.1, g1 232 (by decide +kernel)]
/-! constable -/
theorem ExK.con {h h1 h2 : Hp_} {x1 x2 x3 r1 r2 : Int32} (e : ExK h) (I : Iv h) (x : ExM h) (k1 : Cy x1 x2 x3 h r1 h1 ∧ CyA x1 x2 x3 h h1) (k2 : ocm (h_i h1 1 7) x1 x2 x3 r2 (h_i h2 1 7) ∧ CwA x1 x2 x3 h1 h2) (k3 : Cw (okm (h_i h1 1 7) x1 x2 x3) (h_i h1 1 7) x1 h1 h2) : ExK h2 := by
  have mm := menX_in I
  have nm := n_nat mm.1
  have em : h_i h1 1 7 = h_i h 0 7 := (k1.1.1.2.1.1 7).trans x.1.1.symm
  have oo := okc_okm (x1 := x1) (x2 := x2) (x3 := x3) mm
  have k2' := k2
  rw [em] at k2' k3
  unfold CwA at k2'
  rw [em] at k2'
  by_cases c : okc (h_i h 0 7) x1 x2 x3
  · have p := k1.2.1 c
    have q := k2'.2.1 (oo.mp c)
    have w := k3.1 (oo.mp c)
    have t1 : (1 : Int32).toInt = 1 := rfl
    have l12 := q_lt.mp c.2.2.2
    rw [show (12 : Int32).toInt = 12 from rfl] at l12
    have m' : h_i h1 0 7 = h_i h 0 7 + 1 := by
      rcases k1.1.2.1 with u | u
      · exact u.2.2
      · exact absurd c u.1
    have f1 : (h_i h 0 7 + 1).toInt = (h_i h 0 7).toInt + 1 := by rw [tx_add (by rw [t1]; omega) (by rw [t1]; omega), t1]
    have n1 := n_nat (x := h_i h 0 7 + 1) (by omega)
    have F2 := q.2.2.1
    have g : ∀ a, off wcM a = true → a ≠ 401 + (h_i h 0 7).toNatClampNeg → a ≠ 0 → h_i h2 a = h_i h a := fun a o2 n3 n0 => (funext (fun k => fr_i F2 o2 k)).trans (p.2.1 a n3 n0)
    have gf : ∀ a k, inw wcM a k = false → a ≠ 401 + (h_i h 0 7).toNatClampNeg → a ≠ 0 → h_i h2 a k = h_i h a k := fun a k o2 n3 n0 => ((F2.2 a k o2).1).trans (by rw [p.2.1 a n3 n0])
    have z7 : h_i h2 0 7 = h_i h 0 7 + 1 := by rw [(F2.2 0 7 (by decide +kernel)).1]; exact m'
    refine ⟨⟨by rw [gf 1 80 (by decide +kernel) (by omega) (by decide), gf 17 16 (by decide +kernel) (by omega) (by decide)]; exact e.1.1, by rw [gf 1 79 (by decide +kernel) (by omega) (by decide), gf 17 7 (by decide +kernel) (by omega) (by decide)]; exact e.1.2.1, by rw [gf 1 96 (by decide +kernel) (by omega) (by decide), gf 18 3 (by decide +kernel) (by omega) (by decide)]; exact e.1.2.2.1, by rw [gf 1 29 (by decide +kernel) (by omega) (by decide), gf 21 4 (by decide +kernel) (by omega) (by decide)]; exact e.1.2.2.2.1, by rw [gf 235 0 (by decide +kernel) (by omega) (by decide), gf 13 5 (by decide +kernel) (by omega) (by decide)]; exact e.1.2.2.2.2.1, ?_⟩, kx_2 e (g 249 (by decide +kernel) (by omega) (by decide)) (g 250 (by decide +kernel) (by omega) (by decide)) (g 251 (by decide +kernel) (by omega) (by decide)) (g 252 (by decide +kernel) (by omega) (by decide)) (g 253 (by decide +kernel) (by omega) (by decide)) (g 57 (by decide +kernel) (by omega) (by decide)) (g 58 (by decide +kernel) (by omega) (by decide)) (g 59 (by decide +kernel) (by omega) (by decide)) (g 60 (by decide +kernel) (by omega) (by decide)) (g 61 (by decide +kernel) (by omega) (by decide)) (g 254 (by decide +kernel) (by omega) (by decide)) (g 63 (by decide +kernel) (by omega) (by decide)) (g 62 (by decide +kernel) (by omega) (by decide)) (g 65 (by decide +kernel) (by omega) (by decide)) (gf 17 7 (by decide +kernel) (by omega) (by decide)) (gf 17 16 (by decide +kernel) (by omega) (by decide)), kx_3 e (g 255 (by decide +kernel) (by omega) (by decide)) (g 256 (by decide +kernel) (by omega) (by decide)) (g 257 (by decide +kernel) (by omega) (by decide)) (g 258 (by decide +kernel) (by omega) (by decide)) (g 259 (by decide +kernel) (by omega) (by decide)) (g 260 (by decide +kernel) (by omega) (by decide)) (g 261 (by decide +kernel) (by omega) (by decide)) (g 64 (by decide +kernel) (by omega) (by decide)) (g 65 (by decide +kernel) (by omega) (by decide)) (g 66 (by decide +kernel) (by omega) (by decide)) (g 67 (by decide +kernel) (by omega) (by decide)) (g 68 (by decide +kernel) (by omega) (by decide)) (g 69 (by decide +kernel) (by omega) (by decide)) (g 70 (by decide +kernel) (by omega) (by decide)) (gf 17 16 (by decide +kernel) (by omega) (by decide)), kx_4 e (g 262 (by decide +kernel) (by omega) (by decide)) (g 263 (by decide +kernel) (by omega) (by decide)) (g 71 (by decide +kernel) (by omega) (by decide)) (g 72 (by decide +kernel) (by omega) (by decide)) (gf 18 3 (by decide +kernel) (by omega) (by decide)), kx_5 e (g 104 (by decide +kernel) (by omega) (by decide)) (g 105 (by decide +kernel) (by omega) (by decide)) (g 106 (by decide +kernel) (by omega) (by decide)) (g 107 (by decide +kernel) (by omega) (by decide)) (g 221 (by decide +kernel) (by omega) (by decide)) (g 222 (by decide +kernel) (by omega) (by decide)) (g 223 (by decide +kernel) (by omega) (by decide)) (g 224 (by decide +kernel) (by omega) (by decide)) , kx_6 e (g 233 (by decide +kernel) (by omega) (by decide)) (g 234 (by decide +kernel) (by omega) (by decide)) (g 37 (by decide +kernel) (by omega) (by decide)) (g 38 (by decide +kernel) (by omega) (by decide)) (gf 13 5 (by decide +kernel) (by omega) (by decide)), fun j hj => ?_, kx_8 e (g 39 (by decide +kernel) (by omega) (by decide)) (g 40 (by decide +kernel) (by omega) (by decide)) (g 231 (by decide +kernel) (by omega) (by decide)) (g 232 (by decide +kernel) (by omega) (by decide)) (gf 13 5 (by decide +kernel) (by omega) (by decide))⟩
    · rw [z7]
      omega
    · rw [z7] at hj
      have z401 : inw wcM 401 1 = false := by decide +kernel
      have c1 : cn (401 + j) = cn 401 := (cn_man (by omega)).trans (by decide)
      rw [(F2.2 (401 + j) 1 (by rw [inw_ce c1]; exact z401)).1]
      by_cases u : j = (h_i h 0 7).toNatClampNeg
      · rw [u, w, p.1]
        rfl
      · rw [p.2.1 (401 + j) (by omega) (by omega), k3.2 j (Or.inl u), p.2.1 204 (by omega) (by decide)]
        exact e.2.2.2.2.2.2.1 j (by omega)
  · have p := k1.2.2 c
    have q := k2'.2.2 (fun u => c (oo.mpr u))
    rw [q, p]
    exact e
theorem exK_F : ExK HF := by
  refine ⟨by decide +kernel, fun f hf => ⟨fun hl => ?_, ?_, ?_⟩, fun i hi => ?_, fun i hi => ?_, fun k hk => ?_, fun k hk => ?_, fun j hj => ?_, fun k hk => ?_⟩
  · rw [show (h_i HF 17 7).toNatClampNeg = 0 by decide +kernel] at hl
    exact absurd hl (by omega)
  · have z : (List.range 80).all (fun f => h_i HF 254 f == h_i HF 63 f) = true := by decide +kernel
    exact eq_of_beq (List.all_eq_true.mp z f (List.mem_range.mpr hf))
  · rw [show (h_i HF 17 16).toNatClampNeg = 0 by decide +kernel]
    have z : (List.range 80).all (fun f => h_i HF 62 f == 0) = true := by decide +kernel
    exact eq_of_beq (List.all_eq_true.mp z f (List.mem_range.mpr hf))
  · rw [show (h_i HF 17 16).toNatClampNeg = 0 by decide +kernel] at hi
    exact absurd hi (by omega)
  · rw [show (h_i HF 18 3).toNatClampNeg = 0 by decide +kernel] at hi
    exact absurd hi (by omega)
  · have z : (List.range 40).all (fun k => h_i HF 104 k == h_i HF 221 k && (h_i HF 105 k == h_i HF 222 k && (h_i HF 106 k == h_i HF 223 k && h_i HF 107 k == h_i HF 224 k))) = true := by decide +kernel
    have y := List.all_eq_true.mp z k (List.mem_range.mpr hk)
    rw [Bool.and_eq_true, Bool.and_eq_true, Bool.and_eq_true] at y
    exact ⟨eq_of_beq y.1, eq_of_beq y.2.1, eq_of_beq y.2.2.1, eq_of_beq y.2.2.2⟩
  · rw [show (h_i HF 13 5).toNatClampNeg = 0 by decide +kernel] at hk
    exact absurd hk (by omega)
  · rw [show (h_i HF 0 7).toNatClampNeg = 0 by decide +kernel] at hj
    exact absurd hj (by omega)
  · rw [show (h_i HF 13 5).toNatClampNeg = 0 by decide +kernel] at hk
    exact absurd hk (by omega)
end
