/-! the class: clauses and rules, by what stands on the tape -/
theorem c_ec (d : Nat) {h : Hp_} (I : Iv h) (x1 : Int32) (b1 : -1 ≤ x1.toInt ∧ x1.toInt ≤ 163) : Cv (m_X8_endClause (d + 2) 0 0) [.ref 11, .int x1] h (fun h' => Iv h' ∧ Fr [11009, 33999] h h') := by
  refine Ct.mono (hc_X8_endClause d [.int x1, .ref 11] h ⟨⟨x1, rfl, ⟨b1.1, b1.2⟩, fun _ z => (nomatch z)⟩, rfl, trivial⟩ I (fun _ z => (nomatch z))) (fun v h' k => ?_)
  exact ⟨k.2.2.2, k.1, k.2.1⟩
theorem c_rpa {b : Nat → Int32} {n : Nat} : Rx b n 2 (pan b n) (fun d h K => Ci (m_X8_readPayAnswer (d + 80 + 54) 0 0) [.ref 11] h K) := by
  intro d h I t
  have S := x_sums (b := b) (n := n) (s := 2) (Or.inr rfl) 6 (by omega)
  refine t_X8_readPayAnswer (d + 80) h I.1 _ (Ci.mono (c_ex (d + 80) I t 63 (by decide)) (fun r3 h1 X => ⟨X.1.1, fun y1 => ?_, fun y0 => ⟨X.1, X.2.1, sqxn (g := sms b n ltp 6) X.2.2 y0⟩⟩))
  refine Ci.mono (c_em (d + 80) X.1 3 0 (by decide) (by decide)) (fun r7 h5 k => ⟨k.1.1, ?_⟩)
  have F5 : Fr wzx h h5 := X.2.1.tr (k.2.1.more (by decide +kernel))
  have G := X.2.2.mv k.2.1 (by decide +kernel)
  have s6 : Ci (m_X8_readSum (d + 10 + 10 * (6 + 1) + 53) 0 0) [.ref 11, .int (Int32.ofNat (6 - 6))] h5 (fun q h' => Xr b n (sms b n (ltb 2) 6 (xa h5)) h5 q h') := S (d + 10) h5 k.1 (t.fr F5 (by decide +kernel))
  rw [show d + 10 + 10 * (6 + 1) + 53 = d + 80 + 53 by omega] at s6
  exact Ci.mono s6 (fun r10 h8 Y => ⟨Y.1.1, fun w1 => Cv.mono (c_ec (d + 80) Y.1 r7 k.2.2) (fun h12 k2 => ⟨k2.1.1, k2.1, (F5.tr Y.2.1).tr (k2.2.more (by decide +kernel)), ((sqx2 (sms_c 6) G y1 Y.2.2).y w1).mv k2.2 (by decide +kernel)⟩), fun w0 => ⟨Y.1, F5.tr Y.2.1, (sqx2 (sms_c 6) G y1 Y.2.2).n w0⟩⟩)
theorem c_rac {b : Nat → Int32} {n : Nat} : Rx b n 1 (acl b n) (fun d h K => Ci (m_X8_readActClause (d + 80 + 59) 0 0) [.ref 11] h K) := by
  intro d h I t
  have U := x_units (b := b) (n := n) (s := 1) (Or.inl rfl) 6 (by omega)
  have C := c_rcnd _ _ _ U
  refine t_X8_readActClause (d + 80) h I.1 _ (Ci.mono (C d h I t) (fun r3 h1 X => ⟨X.1.1, fun y0 => ⟨X.1, X.2.1, sqxn (g := sqr (exr b n 63) (onr b n vdb)) X.2.2 y0⟩, fun y1 => ?_⟩))
  refine Ci.mono (c_ex (d + 80) X.1 (X.t t) 63 (by decide)) (fun r7 h5 Y => ?_)
  have F5 : Fr wzx h h5 := X.2.1.tr Y.2.1
  refine ⟨Y.1.1, fun w1 => ?_, fun w0 => ⟨Y.1, F5, ?_⟩⟩
  · refine Ci.mono (c_em (d + 80) Y.1 3 0 (by decide) (by decide)) (fun r11 h9 k => ⟨k.1.1, ?_⟩)
    have F9 : Fr wzx h h9 := F5.tr (k.2.1.more (by decide +kernel))
    have t9 : Tx b n 1 h9 := t.fr F9 (by decide +kernel)
    have GY := Y.2.2.mv k.2.1 (by decide +kernel)
    have up : ∀ (r : Int32) (h' : Hp_), Fxq b n (onr b n vdb (xa h9)) h9 r h' → Fxq b n (acl b n (xa h)) h r h' := fun r h' G => sqx2 (g := sqr (exr b n 63) (onr b n vdb)) (sqr_c exr_c) X.2.2 y1 (sqx2 onr_c GY w1 G)
    have fl : ∀ (h12 : Hp_) (r14 : Int32), Pk b n h9 r14 h12 → ¬ vdb r14 = true → Ci (m_X8_fail (d + 80 + 0) 0 0) [.ref 11] h12 (fun r h' => Wf h' ∧ ((r = 0 ∨ r = 1) ∧ Xr b n (acl b n (xa h)) h r h')) := fun h12 r14 L nv => by
      refine Ci.mono (c_flx (d + 80) L (T := onr b n vdb (xa h9)) ?_) (fun r h' q => ⟨q.1, q.2.1, q.2.2.1, F9.tr q.2.2.2.1, up r h' q.2.2.2.2⟩)
      unfold onr
      exact if_neg (by rw [← L.2.2.2]; exact nv)
    refine Ci.mono (c_pk (d + 80) k.1 t9) (fun r14 h12 L => ⟨L.1.1, fun nm => ?_, fun em => fl h12 r14 L (by rw [em]; decide)⟩)
    have bb := L.in k.1 t9 nm
    have il := (ix_let bb).2.2
    have ir := ix_rng bb (i := 3) (by decide)
    refine Ci.mono (c_ix1f (d + 80) 3 (by decide) h12 (xch r14)) (fun r18 h16 q => ?_)
    obtain ⟨er, eh⟩ := q
    subst eh
    subst er
    refine ⟨L.1.1, fun p => ?_, fun np => fl h16 r14 L (fun y => np (il.mpr y))⟩
    obtain ⟨I6, F6, a6⟩ := nxx k.1 t9 L nm
    have G : Fxq b n (onr b n vdb (xa h9)) h9 1 (h_im h16 11 2 ((h_i h16 11 2) + 1)) := by
      unfold onr
      rw [if_pos (by rw [← L.2.2.2]; exact il.mp p)]
      exact Or.inl ⟨rfl, rfl, by rw [a6], fw3 F6 (by decide +kernel)⟩
    refine Ci.mono (c_em (d + 80) I6 0 _ (by decide) ⟨ir.1, by omega⟩) (fun r22 h20 k2 => ⟨k2.1.1, Cv.mono (c_ec (d + 80) k2.1 r11 k.2.2) (fun h23 k3 => ⟨k3.1.1, k3.1, ((F9.tr (F6.more (by decide +kernel))).tr (k2.2.1.more (by decide +kernel))).tr (k3.2.more (by decide +kernel)), up 1 h23 ((G.mv k2.2.1 (by decide +kernel)).mv k3.2 (by decide +kernel))⟩)⟩)
  · exact sqx2 (g := sqr (exr b n 63) (onr b n vdb)) (sqr_c exr_c) X.2.2 y1 (sqxn (g := onr b n vdb) Y.2.2 w0)
theorem c_rpc {b : Nat → Int32} {n : Nat} : Rx b n 2 (pcl_ b n) (fun d h K => Ci (m_X8_readPayClause (d + 80 + 59) 0 0) [.ref 11] h K) := by
  intro d h I t
  have S0 := x_sums (b := b) (n := n) (s := 2) (Or.inr rfl) 6 (by omega)
  have S : Rx b n 2 (sms b n ltp 6) (fun d h K => Ci (m_X8_readSum (d + 80 + 53) 0 0) [.ref 11, .int 0] h K) := fun d h I t => by
    have s6 : Ci (m_X8_readSum (d + 10 + 10 * (6 + 1) + 53) 0 0) [.ref 11, .int (Int32.ofNat (6 - 6))] h (fun q h' => Xr b n (sms b n (ltb 2) 6 (xa h)) h q h') := S0 (d + 10) h I t
    rw [show d + 10 + 10 * (6 + 1) + 53 = d + 80 + 53 by omega] at s6
    exact s6
  have U := x_units (b := b) (n := n) (s := 2) (Or.inr rfl) 6 (by omega)
  have C := c_rcnd _ _ _ U
  have MP := c_rmp _ _ _ U
  have CM := c_rcmp 80 0 _ S
  refine t_X8_readPayClause (d + 80) h I.1 _ (Ci.mono (c_pk (d + 80) I t) (fun r3 h1 L => ?_))
  have t1 : Tx b n 2 h1 := t.fr L.2.1 (by decide +kernel)
  have F1 : Fr wzx h h1 := L.2.1.more (by decide +kernel)
  have g3 : h_i h1 11 3 = h_i h 11 3 := fw3 L.2.1 (by decide +kernel)
  have cond : (r3 = 33 ∨ r3 = 40) → Ci (m_X8_readCondition (d + 80 + 58) 0 0) [.ref 11, .int 0] h1 (fun r7 h5 => Wf h5 ∧ ((r7 = 0 → Xr b n (pcl_ b n (xa h)) h 0 h5) ∧ (¬ r7 = 0 → Ci (m_X8_readPayAnswer (d + 80 + 54) 0 0) [.ref 11] h5 (fun r11 h9 => Wf h9 ∧ ((r11 = 0 → Xr b n (pcl_ b n (xa h)) h 0 h9) ∧ (¬ r11 = 0 → Xr b n (pcl_ b n (xa h)) h 1 h9)))))) := fun c => by
    have ea : pcl_ b n (xa h) = sqr (cnd b n (unt b n ltp 6)) (pan b n) (xa h1) := by
      unfold pcl_
      rw [if_pos (by rw [← L.2.2.2]; exact c), L.2.2.1, sqr_c (cnd_c (unt_c 6))]
    rw [ea]
    exact Ci.mono (C d h1 L.1 t1) (fun r7 h5 X => ⟨X.1.1, fun y0 => ⟨X.1, F1.tr X.2.1, (sqxn (g := pan b n) X.2.2 y0).b g3⟩, fun y1 => Ci.mono (c_rpa d h5 X.1 (X.t t1)) (fun r11 h9 Y => ⟨Y.1.1, fun w0 => ⟨Y.1, (F1.tr X.2.1).tr Y.2.1, ((sqx2 (g := pan b n) (sqr_c exr_c) X.2.2 y1 Y.2.2).n w0).b g3⟩, fun w1 => ⟨Y.1, (F1.tr X.2.1).tr Y.2.1, ((sqx2 (g := pan b n) (sqr_c exr_c) X.2.2 y1 Y.2.2).y w1).b g3⟩⟩)⟩)
  refine ⟨L.1.1, fun e33 => cond (Or.inl e33), fun n33 => ⟨fun n40 => ?_, fun e40 => cond (Or.inr e40)⟩⟩
  have ea : pcl_ b n (xa h) = sqr (sms b n ltp 6) (fun p => if sgb (skv b n p) = true then sqr (cmq b n (sms b n ltp 6)) (sqr (mpt b n (unt b n ltp 6)) (pan b n)) p else (true, p)) (xa h1) := by
    unfold pcl_
    rw [if_neg (by rw [← L.2.2.2]; exact fun y => y.elim n33 n40), L.2.2.1, sqr_c (sms_c 6)]
  rw [ea]
  refine Ci.mono (S d h1 L.1 t1) (fun r16 h14 X => ⟨X.1.1, fun y1 => ?_, fun y0 => ⟨X.1, F1.tr X.2.1, (sqxn X.2.2 y0).b g3⟩⟩)
  have ok := X.2.2.ok y1
  have t14 := X.t t1
  have F14 : Fr wzx h h14 := F1.tr X.2.1
  have T6 : sqr (sms b n ltp 6) (fun p => if sgb (skv b n p) = true then sqr (cmq b n (sms b n ltp 6)) (sqr (mpt b n (unt b n ltp 6)) (pan b n)) p else (true, p)) (xa h1) = if sgb (skv b n (xa h14)) = true then sqr (cmq b n (sms b n ltp 6)) (sqr (mpt b n (unt b n ltp 6)) (pan b n)) (xa h14) else (true, ska b n (xa h14)) := by
    unfold sqr
    rw [if_pos ok.1, ← ok.2.1]
    show (if sgb (skv b n (ska b n (xa h14))) = true then sqr (cmq b n (sms b n ltp 6)) (sqr (mpt b n (unt b n ltp 6)) (pan b n)) (ska b n (xa h14)) else (true, ska b n (xa h14))) = _
    rw [skv_i, sqr_c cmq_c (xa h14)]
    rfl
  rw [T6]
  refine Ci.mono (c_pk (d + 80) X.1 t14) (fun r20 h18 M => ⟨M.1.1, Ci.mono (c_cpx (d + 80) h18 r20) (fun r23 h21 q => ?_)⟩)
  obtain ⟨eh, q⟩ := q
  subst eh
  have t21 : Tx b n 2 h21 := t14.fr M.2.1 (by decide +kernel)
  have F21 : Fr wzx h h21 := F14.tr (M.2.1.more (by decide +kernel))
  have g21 : h_i h21 11 3 = h_i h 11 3 := ((fw3 M.2.1 (by decide +kernel)).trans ok.2.2).trans g3
  refine ⟨M.1.1, fun q0 => ?_, fun q1 => ?_⟩
  · have ns : ¬ sgb (skv b n (xa h14)) = true := by
      rw [← M.2.2.2]
      rcases q with q | q
      · exact absurd q0 q.1
      · rw [q.2]
        decide
    rw [if_neg ns]
    refine Cv.mono (c_ec (d + 80) M.1 (-1) (by decide)) (fun h25 k => ⟨k.1.1, k.1, F21.tr (k.2.more (by decide +kernel)), Fxq.mv (Or.inl ⟨rfl, rfl, ?_, g21⟩) k.2 (by decide +kernel)⟩)
    rw [M.i, M.2.2.1]
  · have ys : sgb (skv b n (xa h14)) = true := by
      rw [← M.2.2.2]
      rcases q with q | q
      · exact q.2.1
      · exact absurd q.1 q1
    rw [if_pos ys, ← sqr_c cmq_c (xa h14), ← M.2.2.1]
    exact Ci.mono (CM d h21 M.1 t21) (fun r30 h28 Y => ⟨Y.1.1, fun w0 => ⟨Y.1, F21.tr Y.2.1, (sqxn Y.2.2 w0).b g21⟩, fun w1 => Ci.mono (MP d h28 Y.1 (Y.t t21)) (fun r34 h32 Z => ⟨Z.1.1, fun z0 => ⟨Z.1, (F21.tr Y.2.1).tr Z.2.1, (sqx2 (sqr_c mpt_c) Y.2.2 w1 (sqxn (g := pan b n) Z.2.2 z0)).b g21⟩, fun z1 => Ci.mono (c_rpa d h32 Z.1 (Z.t (Y.t t21))) (fun r38 h36 V => ⟨V.1.1, fun v0 => ⟨V.1, ((F21.tr Y.2.1).tr Z.2.1).tr V.2.1, ((sqx2 (sqr_c mpt_c) Y.2.2 w1 (sqx2 (g := pan b n) (sqr_c exr_c) Z.2.2 z1 V.2.2)).n v0).b g21⟩, fun v1 => ⟨V.1, ((F21.tr Y.2.1).tr Z.2.1).tr V.2.1, ((sqx2 (sqr_c mpt_c) Y.2.2 w1 (sqx2 (g := pan b n) (sqr_c exr_c) Z.2.2 z1 V.2.2)).y v1).b g21⟩⟩)⟩)⟩)
/-! the reader set back -/
def wzs : List Nat := [11002, 11003, 11004, 11006, 11007, 11009]
theorem Iv_rm4 {h : Hp_} (I : Iv h) {i : Nat} (hi : i < 4) : Iv (h_rm h 11 4 (some (1000 + i))) := by
  obtain ⟨I1, I2, I3, _, ⟨c, N, c1, c2, c3, c4⟩, I6⟩ := I
  refine ⟨Wf_rm4 I1, I2, fun k => ?_, ⟨i, hi, ?_⟩, ⟨c, N, ?_, c2, c3, c4⟩, Jv_same (h := h) (fun _ _ _ => rfl) rfl (by rw [h_r_rm, if_neg (fun z => absurd z.1 (by decide))]) I6⟩
  · rw [h_r_rm, if_neg (fun z => absurd z.1 (by decide))]
    exact I3 k
  · rw [h_r_rm, if_pos ⟨rfl, rfl⟩]
  · rw [h_r_rm, if_neg (fun z => absurd z.1 (by decide))]
    exact c1
theorem Fr.rm4 {ws : List Nat} {h h' : Hp_} (F : Fr ws h h') (o : inw ws 11 4 = true) (x : Option Nat) : Fr ws h (h_rm h' 11 4 x) := by
  refine ⟨F.1, fun b k hb => ⟨(F.2 b k hb).1, (F.2 b k hb).2.1, ?_⟩⟩
  have n : ¬ (b = 11 ∧ k = 4) := fun y => by rw [y.1, y.2, o] at hb; cases hb
  rw [h_r_rm, if_neg n]
  exact (F.2 b k hb).2.2
theorem c_rst (d : Nat) {h : Hp_} (I : Iv h) (i : Nat) (hi : i < 4) : Cv (m_X8_restart (d + 0) 0 0) [.ref 11, .ref (1000 + i)] h (fun h' => Iv h' ∧ Fr wzs h h' ∧ h_i h' 11 2 = 0 ∧ h_i h' 11 3 = -1 ∧ h_r h' 11 4 = some (1000 + i) ∧ h_i h' 11 6 = 0 ∧ h_i h' 11 7 = 0 ∧ h_i h' 11 9 = 0) := by
  refine Ct.of (fun _ _ _ => trivial) rfl (Nat.le_of_ble_eq_true rfl) ?_
  show AW (m_X8_restart (d + 0) 0 0) 0 0 0 [(0, .ref 11), (1, .ref (1000 + i))] [] h (kV _)
  have w := I.1
  have w4 : Wf (h_rm (h_im (h_im h 11 2 0) 11 3 (-1)) 11 4 (some (1000 + i))) := Wf_rm4 w
  refine aw_aload_n (i := 0) rfl d_X8_restart_0 0 rfl ?_
  refine aw_iconst (v := 0) d_X8_restart_1 ic_0 ?_
  refine aw_puti (k0 := 2) kc_8 (ws_11 w) (Nat.le_of_ble_eq_true rfl) tw_62 d_X8_restart_2 rfl rfl nf_i ?_
  refine aw_aload_n (i := 0) rfl d_X8_restart_5 0 rfl ?_
  refine aw_iconst (v := -1) d_X8_restart_6 ic_m1 ?_
  refine aw_puti (k0 := 3) kc_8 (ws_11 w) (Nat.le_of_ble_eq_true rfl) tw_63 d_X8_restart_7 rfl rfl nf_i ?_
  refine aw_aload_n (i := 0) rfl d_X8_restart_10 0 rfl ?_
  refine aw_aload_n (i := 1) rfl d_X8_restart_11 1 rfl ?_
  refine aw_putr (k0 := 4) kc_8 (ws_11 w) (Nat.le_of_ble_eq_true rfl) tw_64 d_X8_restart_12 rfl rfl ?_
  refine aw_aload_n (i := 0) rfl d_X8_restart_15 0 rfl ?_
  refine aw_iconst (v := 0) d_X8_restart_16 ic_0 ?_
  refine aw_puti (k0 := 6) kc_8 (ws_11 w4) (Nat.le_of_ble_eq_true rfl) tw_68 d_X8_restart_17 rfl rfl nf_i ?_
  refine aw_aload_n (i := 0) rfl d_X8_restart_20 0 rfl ?_
  refine aw_iconst (v := 0) d_X8_restart_21 ic_0 ?_
  refine aw_puti (k0 := 7) kc_8 (ws_11 w4) (Nat.le_of_ble_eq_true rfl) tw_70 d_X8_restart_22 rfl rfl (nf_zr ⟨by decide, by decide⟩) ?_
  refine aw_aload_n (i := 0) rfl d_X8_restart_25 0 rfl ?_
  refine aw_iconst (v := 0) d_X8_restart_26 ic_0 ?_
  refine aw_puti (k0 := 9) kc_8 (ws_11 w4) (Nat.le_of_ble_eq_true rfl) tw_74 d_X8_restart_27 rfl rfl nf_i ?_
  refine aw_vret rfl d_X8_restart_30 ⟨Nat.le_refl _, Nat.le_refl _⟩ ⟨rfl, ?_⟩
  have J := Iv_rm4 (y3 (y2 I (x := 0) (by decide)) (-1)) hi
  have J6 := J.im (a := 11) (k := 6) (x := 0) (by rw [show tf 11 6 = (0, 150) by decide +kernel]; exact ⟨by decide, by decide⟩) (by decide)
  have J7 := J6.im (a := 11) (k := 7) (x := 0) (by rw [show tf 11 7 = (0, 1) by decide +kernel]; exact ⟨by decide, by decide⟩) (by decide)
  have J9 := J7.im (a := 11) (k := 9) (x := 0) (by rw [show tf 11 9 = (0, 164) by decide +kernel]; exact ⟨by decide, by decide⟩) (by decide)
  have F : Fr wzs h (h_rm (h_im (h_im h 11 2 0) 11 3 (-1)) 11 4 (some (1000 + i))) := (((Fr.rf _ _).im (by decide +kernel)).im (by decide +kernel)).rm4 (by decide +kernel) _
  refine ⟨J9, ((F.im (by decide +kernel)).im (by decide +kernel)).im (by decide +kernel), ?_, ?_, ?_, ?_, ?_, ?_⟩
  · rw [g_ne (by decide), g_ne (by decide), g_ne (by decide)]
    show h_i (h_im (h_im h 11 2 0) 11 3 (-1)) 11 2 = 0
    rw [g_ne (by decide), im_at]
  · rw [g_ne (by decide), g_ne (by decide), g_ne (by decide)]
    show h_i (h_im (h_im h 11 2 0) 11 3 (-1)) 11 3 = -1
    rw [im_at]
  · show h_r (h_rm (h_im (h_im h 11 2 0) 11 3 (-1)) 11 4 (some (1000 + i))) 11 4 = _
    rw [h_r_rm, if_pos ⟨rfl, rfl⟩]
  · rw [g_ne (by decide), g_ne (by decide), im_at]
  · rw [g_ne (by decide), im_at]
  · rw [im_at]
/-! a whole rule -/
def wzr : List Nat := [11002, 11003, 11004, 11006, 11007, 11009, 33999]
theorem b_nm {b : Nat → Int32} {n s : Nat} {h : Hp_} (I : Iv h) (t : Tx b n s h) (k : Nat) : ¬ b k = -1 := fun e => by
  have q := (b31_in I k).1
  rw [t.1, e] at q
  exact absurd q (by decide)
theorem on_mm {k : Nat} (h : k ≤ 160) : ¬ Int32.ofNat k = -1 := fun e => by
  have q := congrArg Int32.toInt e
  rw [on_j (by omega)] at q
  have o : (-1 : Int32).toInt = -1 := rfl
  omega
theorem c_rr {b : Nat → Int32} {n : Nat} (s : Nat) (hs : s = 1 ∨ s = 2) (d : Nat) {h : Hp_} (I : Iv h) (hb : h_i h 31 = b) (hn : xn h = n) (x1 : Int32) (hx : (x1 = 0 ∧ s = 2) ∨ (¬ x1 = 0 ∧ s = 1)) : Ci (m_X8_readRule (d + 80 + 60) 0 0) [.ref 11, .int x1] h (fun r h' => r = h_i h' 11 3 ∧ Iv h' ∧ Fr wzr h h' ∧ h_i h' 11 3 = enq b n (ruq b n (clq b n s))) := by
  have cl : Rx b n s (clq b n s) (fun d h K => (x1 = 0 → Ci (m_X8_readPayClause (d + 80 + 59) 0 0) [.ref 11] h K) ∧ (¬ x1 = 0 → Ci (m_X8_readActClause (d + 80 + 59) 0 0) [.ref 11] h K)) := fun d h I t => by
    rcases hx with u | u
    · obtain ⟨u, v⟩ := u
      subst v
      exact ⟨fun _ => c_rpc d h I t, fun y => absurd u y⟩
    · obtain ⟨u, v⟩ := u
      subst v
      exact ⟨fun y => absurd y u, fun _ => c_rac d h I t⟩
  have n160 : n ≤ 160 := by
    have a := xn_i I
    have c := (x1_in I).2
    omega
  have body : ∀ h0, Iv h0 → Fr wzr h h0 → Tx b n s h0 → xa h0 = 0 → h_i h0 11 3 = -1 → ∀ (k : Nat) (x2 x3 : Int32) (h2 : Hp_), x3.toInt + k = 160 → Iv h2 → Fr wzx h0 h2 → Sx b n (ruq b n (clq b n s) 0) (lpr b n (isq 59) (clq b n s) k) h0 x2 h2 → AW (m_X8_readRule (d + 80 + 60) 0 0) 0 0 33 [(0, .ref 11), (1, .int x1), (2, .int x2), (3, .int x3)] [] h2 (kI (fun r h' => r = h_i h' 11 3 ∧ Iv h' ∧ Fr wzr h h' ∧ h_i h' 11 3 = enq b n (ruq b n (clq b n s)))) := by
    intro h0 I0 F0 t0 a0 w0
    have fin0 : ∀ h3, Iv h3 → Fr wzx h0 h3 → Fxq b n (ruq b n (clq b n s) 0) h0 0 h3 → (h_i h3 11 3 = h_i h3 11 3 ∧ Iv h3 ∧ Fr wzr h h3 ∧ h_i h3 11 3 = enq b n (ruq b n (clq b n s))) := fun h3 I3 F3 G => by
      refine ⟨rfl, I3, F0.tr (F3.more (by decide +kernel)), ?_⟩
      rcases G with G | G
      · exact absurd G.1 (by decide)
      · unfold enq
        rw [if_neg (by rw [G.2.1]; decide)]
        exact G.2.2
    have fin1 : ∀ h3 x, Iv h3 → Fr wzx h0 h3 → ¬ x = 0 → Fxq b n (ruq b n (clq b n s) 0) h0 x h3 → Ci (m_X8_peek (d + 80 + 0) 0 0) [.ref 11] h3 (fun r26 h24 => Wf h24 ∧ ((r26 = (-1) → (h_i h24 11 3 = h_i h24 11 3 ∧ Iv h24 ∧ Fr wzr h h24 ∧ h_i h24 11 3 = enq b n (ruq b n (clq b n s)))) ∧ (¬ r26 = (-1) → Ci (m_X8_fail (d + 80 + 0) 0 0) [.ref 11] h24 (fun r30 h28 => Wf h28 ∧ (h_i h28 11 3 = h_i h28 11 3 ∧ Iv h28 ∧ Fr wzr h h28 ∧ h_i h28 11 3 = enq b n (ruq b n (clq b n s))))))) := fun h3 x I3 F3 nx G => by
      have ok := G.ok nx
      have t3 : Tx b n s h3 := t0.fr F3 (by decide +kernel)
      refine Ci.mono (c_pk (d + 80) I3 t3) (fun r h5 L => ⟨L.1.1, fun em => ⟨rfl, L.1, F0.tr ((F3.tr (L.2.1.more (by decide +kernel))).more (by decide +kernel)), ?_⟩, fun nm => Ci.mono (c_fl (d + 80) L.1) (fun r2 h6 k => ⟨k.2.1.1, rfl, k.2.1, F0.tr ((F3.tr ((L.2.1.more (by decide +kernel)).tr (k.2.2.1.more (by decide +kernel)))).more (by decide +kernel)), ?_⟩)⟩)
      · have nl := ska_0 (L.2.2.2.symm.trans em) (fun k _ => b_nm I0 t0 k)
        unfold enq
        rw [if_pos ok.1, ← ok.2.1, if_neg nl, fw3 L.2.1 (by decide +kernel), ok.2.2]
        exact w0
      · have l := skv_l (by rw [← L.2.2.2]; exact nm)
        unfold enq
        rw [if_pos ok.1, ← ok.2.1, if_pos l, k.2.2.2, L.2.2.1]
    intro k
    induction k with
    | zero =>
      intro x2 x3 h2 m I2 F2 S
      refine t_X8_readRule_33 (d + 80) h2 I2.1 x1 x2 x3 _ ⟨fun _ => ⟨fun y0 => fin0 h2 I2 F2 ((lx0 S).n y0), fun y1 => fin1 h2 x2 I2 F2 y1 (lx0 S)⟩, fun z => absurd ((x160 m).1 rfl) z⟩
    | succ k ih =>
      intro x2 x3 h2 m I2 F2 S
      have t2 : Tx b n s h2 := t0.fr F2 (by decide +kernel)
      refine t_X8_readRule_33 (d + 80) h2 I2.1 x1 x2 x3 _ ⟨fun z => absurd z ((x160 m).2 (by omega)), fun _ => ⟨fun y0 => ⟨fun _ => fin0 h2 I2 F2 ((S.n y0).n y0), fun y1 => absurd y0 y1⟩, fun y1 => Ci.mono (c_pk (d + 80) I2 t2) (fun r h5 L => ⟨L.1.1, fun nr => ⟨fun y0 => absurd y0 y1, fun _ => fin1 h5 x2 L.1 (F2.tr (L.2.1.more (by decide +kernel))) y1 (lxx S y1 L (decide_eq_false nr))⟩, fun er => ?_⟩)⟩⟩
      obtain ⟨I6, F6, a6⟩ := nxx I2 t2 L (by rw [er]; decide)
      have C := cl d _ I6 (t2.fr F6 (by decide +kernel))
      have go : ∀ r15 h13, Xr b n (clq b n s (xa (h_im h5 11 2 ((h_i h5 11 2) + 1)))) (h_im h5 11 2 ((h_i h5 11 2) + 1)) r15 h13 → Wf h13 ∧ AW (m_X8_readRule (d + 80 + 60) 0 0) 0 0 33 [(0, .ref 11), (1, .int x1), (2, .int r15), (3, .int (x3 + 1))] [] h13 (kI (fun r h' => r = h_i h' 11 3 ∧ Iv h' ∧ Fr wzr h h' ∧ h_i h' 11 3 = enq b n (ruq b n (clq b n s)))) := fun r15 h13 X => by
        have G := X.2.2
        rw [a6] at G
        exact ⟨X.1.1, ih r15 (x3 + 1) h13 (x161 m) X.1 (F2.tr ((F6.more (by decide +kernel)).tr X.2.1)) (lxs S y1 L.2.2.2 (decide_eq_true er) (fw3 F6 (by decide +kernel)) G)⟩
      exact ⟨fun y => Ci.mono (C.1 y) go, fun y => Ci.mono (C.2 y) go⟩
  have st : ∀ i, i = s → Cv (m_X8_restart (d + 80 + 0) 0 0) [.ref 11, .ref (1000 + i)] h (fun h2 => Wf h2 ∧ ((x1 = 0 → Ci (m_X8_readPayClause (d + 80 + 59) 0 0) [.ref 11] h2 (fun r8 h6 => Wf h6 ∧ (AW (m_X8_readRule (d + 80 + 60) 0 0) 0 0 33 [(0, .ref 11), (1, .int x1), (2, .int r8), (3, .int 0)] [] h6 (kI (fun r h' => r = h_i h' 11 3 ∧ Iv h' ∧ Fr wzr h h' ∧ h_i h' 11 3 = enq b n (ruq b n (clq b n s))))))) ∧ (¬ x1 = 0 → Ci (m_X8_readActClause (d + 80 + 59) 0 0) [.ref 11] h2 (fun r11 h9 => Wf h9 ∧ (AW (m_X8_readRule (d + 80 + 60) 0 0) 0 0 33 [(0, .ref 11), (1, .int x1), (2, .int r11), (3, .int 0)] [] h9 (kI (fun r h' => r = h_i h' 11 3 ∧ Iv h' ∧ Fr wzr h h' ∧ h_i h' 11 3 = enq b n (ruq b n (clq b n s))))))))) := fun i ei => by
    subst ei
    refine Cv.mono (c_rst (d + 80) I i (by omega)) (fun h2 k => ?_)
    have t2 : Tx b n i h2 := ⟨(funext (fun j => fr_i k.2.1 (by decide +kernel) j)).trans hb, by show (h_i h2 11 1).toNatClampNeg = n; rw [(k.2.1.2 11 1 (by decide +kernel)).1]; exact hn, k.2.2.2.2.1⟩
    have a2 : xa h2 = 0 := by
      show (h_i h2 11 2).toNatClampNeg = 0
      rw [k.2.2.1]
      rfl
    have F2 : Fr wzr h h2 := k.2.1.more (by decide +kernel)
    have C := cl d h2 k.1 t2
    have go : ∀ r8 h6, Xr b n (clq b n i (xa h2)) h2 r8 h6 → Wf h6 ∧ AW (m_X8_readRule (d + 80 + 60) 0 0) 0 0 33 [(0, .ref 11), (1, .int x1), (2, .int r8), (3, .int 0)] [] h6 (kI (fun r h' => r = h_i h' 11 3 ∧ Iv h' ∧ Fr wzr h h' ∧ h_i h' 11 3 = enq b n (ruq b n (clq b n i)))) := fun r8 h6 X => by
      have G := X.2.2
      rw [a2] at G
      exact ⟨X.1.1, body h2 k.1 F2 t2 a2 k.2.2.2.1 160 r8 0 h6 (by decide) X.1 X.2.1 (sqx (f := clq b n i) (lpr_c 160) G)⟩
    exact ⟨k.1.1, fun y => Ci.mono (C.1 y) go, fun y => Ci.mono (C.2 y) go⟩
  refine t_X8_readRule (d + 80) h I.1 x1 _ ⟨fun y => ?_, fun y => ?_⟩
  · refine st 2 ?_
    rcases hx with u | u
    · exact u.2.symm
    · exact absurd y u.1
  · refine st 1 ?_
    rcases hx with u | u
    · exact absurd u.1 y
    · exact u.2.symm
/-! steps: what is found, and the steps themselves unfolded (sort, first number, second) -/
abbrev Sp3 := Int32 × Int32 × Int32
def nmg (b : Nat → Int32) (n : Nat) (lo hi : Int32) : Rcg := fun a => ((nmr b n lo hi a).1, (nmr b n lo hi a).2.1)
def nmw (b : Nat → Int32) (n : Nat) (lo hi : Int32) (a : Nat) : Int32 := (nmr b n lo hi a).2.2
def stq (b : Nat → Int32) (n : Nat) (z : Bool) (f : Rcg) : Rcg := fun a => if skv b n a = 103 then nmg b n 0 15 (ska b n a + 1) else if skv b n a = 119 then nmg b n 1 240 (ska b n a + 1) else if skv b n a = 112 then sqr (nmg b n 0 15) (nmg b n 0 1440) (ska b n a + 1) else if skv b n a = 108 then (true, ska b n (ska b n a + 1)) else if skv b n a = 40 then (if z = true then (false, ska b n a) else sqr f (sqr (exr b n 41) (nmg b n 1 20)) (ska b n a + 1)) else (false, ska b n a)
def rpl : Nat → List Sp3 → List Sp3
  | 0, _ => []
  | k + 1, L => L ++ rpl k L
def sto (b : Nat → Int32) (n : Nat) (f : Rcg) (o : Nat → List Sp3) : Nat → List Sp3 := fun a => if skv b n a = 103 then [(0, nmw b n 0 15 (ska b n a + 1), 0)] else if skv b n a = 119 then [(1, nmw b n 1 240 (ska b n a + 1), 0)] else if skv b n a = 112 then [(2, nmw b n 0 15 (ska b n a + 1), nmw b n 0 1440 (nmg b n 0 15 (ska b n a + 1)).2)] else if skv b n a = 108 then [(3, 0, 0)] else rpl (nmw b n 1 20 (exr b n 41 (f (ska b n a + 1)).2).2).toNatClampNeg (o (ska b n a + 1))
def sps (b : Nat → Int32) (n : Nat) (f : Rcg) : Rcg := sqr f (lpr b n (isq 59) f 160)
def lpo (b : Nat → Int32) (n : Nat) (f : Rcg) (o : Nat → List Sp3) : Nat → Nat → List Sp3
  | 0, _ => []
  | k + 1, a => if isq 59 (skv b n a) = true then o (ska b n a + 1) ++ lpo b n f o k (f (ska b n a + 1)).2 else []
def spo (b : Nat → Int32) (n : Nat) (f : Rcg) (o : Nat → List Sp3) : Nat → List Sp3 := fun a => o a ++ lpo b n f o 160 (f a).2
def stn (b : Nat → Int32) (n : Nat) : Nat → Rcg
  | 0 => stq b n true (fun a => (false, a))
  | r + 1 => stq b n false (sps b n (stn b n r))
def ston (b : Nat → Int32) (n : Nat) : Nat → Nat → List Sp3
  | 0 => sto b n (fun a => (false, a)) (fun _ => [])
  | r + 1 => sto b n (sps b n (stn b n r)) (spo b n (stn b n r) (ston b n r))
def Cno (b : Nat → Int32) (n : Nat) (o : Nat → List Sp3) : Prop := ∀ a, o (ska b n a) = o a
theorem nmr_c {b : Nat → Int32} {n : Nat} {lo hi : Int32} (a : Nat) : nmr b n lo hi (ska b n a) = nmr b n lo hi a := by
  unfold nmr
  rw [skv_i, ska_i]
theorem nmg_c {b : Nat → Int32} {n : Nat} {lo hi : Int32} : Cnr b n (nmg b n lo hi) := fun a => by
  unfold nmg
  rw [nmr_c]
theorem nmw_c {b : Nat → Int32} {n : Nat} {lo hi : Int32} (a : Nat) : nmw b n lo hi (ska b n a) = nmw b n lo hi a := by
  unfold nmw
  rw [nmr_c]
theorem stq_c {b : Nat → Int32} {n : Nat} {z : Bool} {f : Rcg} : Cnr b n (stq b n z f) := fun a => by
  unfold stq
  rw [skv_i, ska_i]
theorem sto_c {b : Nat → Int32} {n : Nat} {f : Rcg} {o : Nat → List Sp3} : Cno b n (sto b n f o) := fun a => by
  unfold sto
  rw [skv_i, ska_i]
theorem lpo_c {b : Nat → Int32} {n : Nat} {f : Rcg} {o : Nat → List Sp3} (k : Nat) : Cno b n (lpo b n f o k) := fun a => by
  cases k with
  | zero => rfl
  | succ k =>
    show (if isq 59 (skv b n (ska b n a)) = true then o (ska b n (ska b n a) + 1) ++ lpo b n f o k (f (ska b n (ska b n a) + 1)).2 else []) = _
    rw [skv_i, ska_i]
    rfl
theorem stn_c {b : Nat → Int32} {n : Nat} (r : Nat) : Cnr b n (stn b n r) := by
  cases r with
  | zero => exact stq_c
  | succ r => exact stq_c
theorem rpl_s (L : List Sp3) : ∀ (k : Nat), rpl (k + 1) L = rpl k L ++ L
  | 0 => by
    show L ++ [] = [] ++ L
    rw [List.append_nil, List.nil_append]
  | k + 1 => by
    show L ++ rpl (k + 1) L = (L ++ rpl k L) ++ L
    rw [rpl_s L k, List.append_assoc]
theorem rpl_1 (L : List Sp3) : rpl 1 L = L := List.append_nil L
theorem rpl_l (L : List Sp3) {j k : Nat} (h : j ≤ k) : (rpl j L).length ≤ (rpl k L).length := by
  induction k with
  | zero =>
    have : j = 0 := by omega
    rw [this]
    exact Nat.le_refl _
  | succ k ih =>
    rcases Nat.lt_or_ge k j with u | u
    · rw [show j = k + 1 by omega]
      exact Nat.le_refl _
    · rw [rpl_s, List.length_append]
      have := ih u
      omega
/-! the class's steps -/
def pkS (x : Sp3) : Int32 := if x.1 = 1 then (((1 : Int32) ||| ((0 : Int32) <<< ((2 : Int32) &&& 31))) ||| (x.2.1 <<< ((6 : Int32) &&& 31))) else ((x.1 ||| (x.2.1 <<< ((2 : Int32) &&& 31))) ||| (x.2.2 <<< ((6 : Int32) &&& 31)))
def wzo : List Nat := [11002, 11003, 11006, 11007, 11009, 32999, 33999]
def Ou (L : List Sp3) (h : Hp_) : Prop := (h_i h 11 7 = 0 ∧ L.length ≤ 150 ∧ h_i h 11 6 = Int32.ofNat L.length ∧ ∀ k x, L[k]? = some x → h_i h 32 k = pkS x) ∨ (h_i h 11 7 = 1 ∧ 150 < L.length)
theorem Ou.fr {L : List Sp3} {ws : List Nat} {h h' : Hp_} (O : Ou L h) (f : Fr ws h h') (o : (off ws 32 && !inw ws 11 6 && !inw ws 11 7) = true) : Ou L h' := by
  simp only [Bool.and_eq_true, Bool.not_eq_true'] at o
  have e6 : h_i h' 11 6 = h_i h 11 6 := (f.2 11 6 o.1.2).1
  have e7 : h_i h' 11 7 = h_i h 11 7 := (f.2 11 7 o.2).1
  rcases O with O | O
  · exact Or.inl ⟨by rw [e7]; exact O.1, O.2.1, by rw [e6]; exact O.2.2.1, fun k x e => by rw [fr_i f o.1.1]; exact O.2.2.2 k x e⟩
  · exact Or.inr ⟨by rw [e7]; exact O.1, O.2⟩
theorem Ou.lg {L M : List Sp3} {h : Hp_} (O : Ou L h) (t : ¬ h_i h 11 7 = 0) (l : L.length ≤ M.length) : Ou M h := by
  rcases O with O | O
  · exact absurd O.1 t
  · exact Or.inr ⟨O.1, by omega⟩
theorem y6 {h : Hp_} (I : Iv h) {x : Int32} (b : 0 ≤ x.toInt ∧ x.toInt ≤ 150) : Iv (h_im h 11 6 x) := I.im (by rw [show tf 11 6 = (0, 150) by decide +kernel]; exact b) (by decide)
theorem y7 {h : Hp_} (I : Iv h) : Iv (h_im h 11 7 1) := I.im (by rw [show tf 11 7 = (0, 1) by decide +kernel]; exact ⟨by decide, by decide⟩) (by decide)
theorem y32 {h : Hp_} (I : Iv h) (k : Nat) (x : Int32) : Iv (h_im h 32 k x) := i2xx 32 (by decide +kernel) (by decide) (by decide) I k x
theorem x6_in {h : Hp_} (I : Iv h) : 0 ≤ (h_i h 11 6).toInt ∧ (h_i h 11 6).toInt ≤ 150 := by
  have rg := I.2.1 11 6
  rw [show tf 11 6 = (0, 150) by decide +kernel] at rg
  exact ⟨rg.1, rg.2⟩
/-- one step more; the rows of the others stay, and their number does not fall -/
theorem c_aps (d : Nat) {h : Hp_} (I : Iv h) (x1 : Int32) : Cv (m_X8_appendStep (d + 0) 0 0) [.ref 11, .int x1] h (fun h' => Iv h' ∧ Fr [11006, 11007, 32999] h h' ∧ (∀ L x, Ou L h → pkS x = x1 → Ou (L ++ [x]) h') ∧ (∀ k : Nat, (k : Int) < (h_i h 11 6).toInt → h_i h' 32 k = h_i h 32 k) ∧ (h_i h 11 6).toInt ≤ (h_i h' 11 6).toInt) := by
  have t1 : (1 : Int32).toInt = 1 := rfl
  have t150 : (150 : Int32).toInt = 150 := rfl
  have b6 := x6_in I
  have n6 := n_nat b6.1
  refine t_X8_appendStep d h I.1 x1 _ ⟨fun z => ⟨y7 I, (Fr.rf _ _).im (by decide +kernel), fun L x O _ => Or.inr ⟨im_at, ?_⟩, fun k _ => im_ne (by decide), by rw [g_ne (by decide)]; exact Int.le_refl _⟩, fun z => ?_⟩
  · have z := q_le.mp z
    rw [List.length_append, List.length_singleton]
    rcases O with O | O
    · have e := congrArg Int32.toInt O.2.2.1
      rw [on_j (by omega)] at e
      omega
    · omega
  · have z := q_nle z
    have e1 : (h_i h 11 6 + 1).toInt = (h_i h 11 6).toInt + 1 := tx_add (by rw [t1]; omega) (by rw [t1]; omega)
    refine ⟨dp_in (lo := 0) (hi := 149) ⟨b6.1, by show _ ≤ (149 : Int); omega⟩ (by decide) (by decide), y6 (y32 I _ _) ⟨by rw [e1]; omega, by rw [e1]; omega⟩, ((Fr.rf _ _).im (inw_row (by decide +kernel) _)).im (by decide +kernel), fun L x O ex => ?_, fun k hk => ?_, ?_⟩
    · rcases O with O | O
      · have e := congrArg Int32.toInt O.2.2.1
        have o2 := O.2.1
        rw [on_j (by omega)] at e
        refine Or.inl ⟨?_, ?_, ?_, fun k y ey => ?_⟩
        · rw [g_ne (by decide), im_ne (by decide)]
          exact O.1
        · rw [List.length_append, List.length_singleton]
          omega
        · rw [im_at, List.length_append, List.length_singleton]
          refine Int32.toInt_inj.mp ?_
          rw [e1, on_j (by omega)]
          omega
        · rw [im_ne (by decide), h_i_im]
          rcases Nat.lt_or_ge k L.length with u | u
          · rw [List.getElem?_append_left u] at ey
            rw [if_neg (fun c => by have := c.2; omega)]
            exact O.2.2.2 k y ey
          · have ku : k = L.length := by
              rcases Nat.lt_or_ge L.length k with v | v
              · rw [List.getElem?_eq_none (by rw [List.length_append, List.length_singleton]; omega)] at ey
                cases ey
              · omega
            subst ku
            rw [List.getElem?_append_right (Nat.le_refl _), Nat.sub_self] at ey
            have ey' : x = y := by simpa using ey
            rw [if_pos ⟨rfl, by omega⟩, ← ey']
            exact ex.symm
      · refine Or.inr ⟨?_, ?_⟩
        · rw [g_ne (by decide), im_ne (by decide)]
          exact O.1
        · rw [List.length_append]
          omega
    · rw [im_ne (by decide), h_i_im, if_neg (fun c => by have := c.2; omega)]
    · rw [im_at, e1]
      omega
def Xo (b : Nat → Int32) (n : Nat) (T : Bool × Nat) (M : List Sp3) (h : Hp_) (r : Int32) (h' : Hp_) : Prop := Iv h' ∧ Fr wzo h h' ∧ Fxq b n T h r h' ∧ (¬ r = 0 → ∀ L, Ou L h → Ou (L ++ M) h')
def Ro (b : Nat → Int32) (n s : Nat) (S : Rcg) (O : Nat → List Sp3) (C : Nat → Hp_ → (Int32 → Hp_ → Prop) → Prop) : Prop := ∀ (d : Nat) (h : Hp_), Iv h → Tx b n s h → C d h (fun r h' => Xo b n (S (xa h)) (O (xa h)) h r h')
theorem c_flo {b : Nat → Int32} {n : Nat} (d : Nat) {h h4 : Hp_} {r3 : Int32} (L : Pk b n h r3 h4) {T : Bool × Nat} {M : List Sp3} (e : T = (false, ska b n (xa h))) : Ci (m_X8_fail (d + 0) 0 0) [.ref 11] h4 (fun r h' => Wf h' ∧ ((r = 0 ∨ r = 1) ∧ Xo b n T M h r h')) := by
  refine Ci.mono (c_fl d L.1) (fun r2 h2 k => ⟨k.2.1.1, Or.inl k.1, k.2.1, (L.2.1.more (by decide +kernel)).tr (k.2.2.1.more (by decide +kernel)), Or.inr ⟨k.1, ?_, ?_⟩, fun y => absurd k.1 y⟩)
  · rw [e]
  · rw [e, k.2.2.2, L.2.2.1]
theorem c_ads (d : Nat) {h : Hp_} (I : Iv h) (x1 x2 x3 : Int32) : Ci (m_X8_addStep (d + 1) 0 0) [.ref 11, .int x1, .int x2, .int x3] h (fun r h' => (r = 0 ∨ r = 1) ∧ Iv h' ∧ Fr [11006, 11007, 32999] h h' ∧ ((x2 = -1 ∨ x3 = -1) → r = 0 ∧ h' = h) ∧ (¬ x2 = -1 → ¬ x3 = -1 → r = 1 ∧ ∀ L x, Ou L h → pkS x = ((x1 ||| (x2 <<< ((2 : Int32) &&& 31))) ||| (x3 <<< ((6 : Int32) &&& 31))) → Ou (L ++ [x]) h')) := by
  refine t_X8_addStep d h x1 x2 x3 _ ⟨fun e => ⟨Or.inl rfl, I, Fr.rf _ _, fun _ => ⟨rfl, rfl⟩, fun y => absurd e y⟩, fun n2 => ⟨fun n3 => t_X0_pack d h x1 x2 x3 _ ⟨I.1, Cv.mono (c_aps d I _) (fun h6 k => ⟨k.1.1, Or.inr rfl, k.1, k.2.1, fun y => absurd y (fun z => z.elim n2 n3), fun _ _ => ⟨rfl, k.2.2.1⟩⟩)⟩, fun e => ⟨Or.inl rfl, I, Fr.rf _ _, fun _ => ⟨rfl, rfl⟩, fun _ y => absurd e y⟩⟩⟩
theorem Xo.pre {b : Nat → Int32} {n : Nat} {T : Bool × Nat} {M : List Sp3} {h h6 h' : Hp_} {r : Int32} (X : Xo b n T M h6 r h') (F : Fr [11002] h h6) : Xo b n T M h r h' := ⟨X.1, (F.more (by decide +kernel)).tr X.2.1, X.2.2.1.b (fw3 F (by decide +kernel)), fun nr L O => X.2.2.2 nr L (O.fr F (by decide +kernel))⟩
theorem Xo.z {b : Nat → Int32} {n : Nat} {T : Bool × Nat} {M : List Sp3} {h h' : Hp_} {r : Int32} (X : Xo b n T M h r h') : r = 0 ∨ r = 1 := X.2.2.1.z
/-- a number, and a step made of it -/
theorem c_na (d : Nat) {b : Nat → Int32} {n s : Nat} {h : Hp_} (I : Iv h) (t : Tx b n s h) (lo hi x1 : Int32) (l0 : 0 ≤ lo.toInt) (u v : Int32 → Int32) (y : Int32 → Sp3) (a1 : u (-1) = -1 ∨ v (-1) = -1) (a2 : ∀ r, ¬ r = -1 → ¬ u r = -1 ∧ ¬ v r = -1) (a3 : ∀ r, pkS (y r) = ((x1 ||| (u r <<< ((2 : Int32) &&& 31))) ||| (v r <<< ((6 : Int32) &&& 31)))) :
    Ci (m_X8_readNumber (d + 1) 0 0) [.ref 11, .int lo, .int hi] h (fun r h10 => Wf h10 ∧ Ci (m_X8_addStep (d + 1) 0 0) [.ref 11, .int x1, .int (u r), .int (v r)] h10 (fun r15 h13 => Wf h13 ∧ ((r15 = 0 ∨ r15 = 1) ∧ Xo b n (nmg b n lo hi (xa h)) [y (nmw b n lo hi (xa h))] h r15 h13))) := by
  refine Ci.mono (c_rn d I t lo hi) (fun r h10 N => ⟨N.1.1, Ci.mono (c_ads d N.1 x1 (u r) (v r)) (fun r15 h13 A => ⟨A.2.1.1, A.1, A.2.1, (N.2.1.more (by decide +kernel)).tr (A.2.2.1.more (by decide +kernel)), ?_, ?_⟩)⟩)
  · rcases N.2.2 with N | N
    · have v := nmr_b N.1
      rw [← N.2.1] at v
      have v0 := q_le.mp v.1
      have nr : ¬ r = -1 := fun e => by
        rw [e] at v0
        have o : (-1 : Int32).toInt = -1 := rfl
        omega
      have k := A.2.2.2.2 (a2 r nr).1 (a2 r nr).2
      exact Fxq.mv (Or.inl ⟨k.1, N.1, N.2.2.1, N.2.2.2⟩) A.2.2.1 (by decide +kernel)
    · have e := N.2.1
      rw [e] at A
      have k := A.2.2.2.1 a1
      rw [k.2]
      exact Or.inr ⟨k.1, N.1, N.2.2⟩
  · intro n0 L O
    rcases N.2.2 with M | M
    · have v := nmr_b M.1
      rw [← M.2.1] at v
      have v0 := q_le.mp v.1
      have nr : ¬ r = -1 := fun e => by
        rw [e] at v0
        have o : (-1 : Int32).toInt = -1 := rfl
        omega
      have k := A.2.2.2.2 (a2 r nr).1 (a2 r nr).2
      have e : nmw b n lo hi (xa h) = r := M.2.1.symm
      rw [e]
      exact k.2 L (y r) (O.fr N.2.1 (by decide +kernel)) (a3 r)
    · have e := M.2.1
      rw [e] at A
      exact absurd (A.2.2.2.1 a1).1 n0
theorem c_rpt {b : Nat → Int32} {n s : Nat} : Ro b n s (sqr (nmg b n 0 15) (nmg b n 0 1440)) (fun a => [(2, nmw b n 0 15 a, nmw b n 0 1440 (nmg b n 0 15 a).2)]) (fun d h K => Ci (m_X8_readPoint (d + 2) 0 0) [.ref 11] h K) := by
  intro d h I t
  refine t_X8_readPoint d h I.1 _ (Ci.mono (c_rn d I t 0 15) (fun r3 h1 N => ⟨N.1.1, fun e => ?_, fun ne => ?_⟩))
  · rcases N.2.2 with M | M
    · have v := nmr_b M.1
      rw [← M.2.1, e] at v
      exact absurd v.1 (by decide)
    · have e1 : sqr (nmg b n 0 15) (nmg b n 0 1440) (xa h) = nmg b n 0 15 (xa h) := by
        unfold sqr
        exact if_neg (by show ¬ (nmr b n 0 15 (xa h)).1 = true; rw [M.1]; decide)
      refine ⟨N.1, N.2.1.more (by decide +kernel), ?_, fun y => absurd rfl y⟩
      rw [e1]
      exact Or.inr ⟨rfl, M.1, M.2.2⟩
  · rcases N.2.2 with M | M
    · have t1 : Tx b n s h1 := t.fr N.2.1 (by decide +kernel)
      have e1 : sqr (nmg b n 0 15) (nmg b n 0 1440) (xa h) = nmg b n 0 1440 (xa h1) := by
        unfold sqr
        rw [if_pos (show (nmg b n 0 15 (xa h)).1 = true from M.1)]
        show nmg b n 0 1440 (nmr b n 0 15 (xa h)).2.1 = _
        rw [← M.2.2.1, nmg_c]
      have e2 : nmw b n 0 1440 (nmg b n 0 15 (xa h)).2 = nmw b n 0 1440 (xa h1) := by
        show nmw b n 0 1440 (nmr b n 0 15 (xa h)).2.1 = _
        rw [← M.2.2.1, nmw_c]
      have e3 : nmw b n 0 15 (xa h) = r3 := M.2.1.symm
      have fin : ∀ (w r : Int32) (h8 : Hp_), w = r → Xo b n (nmg b n 0 1440 (xa h1)) [(2, r3, nmw b n 0 1440 (xa h1))] h1 r h8 → Xo b n (sqr (nmg b n 0 15) (nmg b n 0 1440) (xa h)) [(2, nmw b n 0 15 (xa h), nmw b n 0 1440 (nmg b n 0 15 (xa h)).2)] h w h8 := fun w r h8 ew X => by
        rw [ew, e1, e2, e3]
        exact ⟨X.1, (N.2.1.more (by decide +kernel)).tr X.2.1, X.2.2.1.b M.2.2.2, fun nr L O => X.2.2.2 nr L (O.fr N.2.1 (by decide +kernel))⟩
      refine Ci.mono (c_na d N.1 t1 0 1440 2 (by decide) (fun _ => r3) (fun r => r) (fun r => (2, r3, r)) (Or.inr rfl) (fun r y => ⟨ne, y⟩) (fun r => by unfold pkS; exact if_neg (show ¬ (2 : Int32) = 1 by decide))) (fun r7 h5 q => ⟨q.1, Ci.mono q.2 (fun r10 h8 w => ⟨w.1, fun y => fin 0 r10 h8 y.symm w.2.2, fun y => fin 1 r10 h8 ?_ w.2.2⟩)⟩)
      rcases w.2.1 with u | u
      · exact absurd u y
      · exact u.symm
    · exact absurd M.2.1 ne
theorem c_rstep {b : Nat → Int32} {n s : Nat} (e : Nat) (x1 : Int32) (z : Bool) (f : Rcg) (o : Nat → List Sp3) (G : ∀ (d : Nat) (h : Hp_), Iv h → Tx b n s h → ska b n (xa h) = xa h → skv b n (xa h) = 40 → Ci (m_X8_readGroup (d + e + 51) 0 0) [.ref 11, .int x1] h (fun r h' => Xo b n (stq b n z f (xa h)) (sto b n f o (xa h)) h r h')) : Ro b n s (stq b n z f) (sto b n f o) (fun d h K => Ci (m_X8_readStep (d + e + 52) 0 0) [.ref 11, .int x1] h K) := by
  intro d h I t
  refine t_X8_readStep (d + e) h I.1 x1 _ (Ci.mono (c_pk (d + e) I t) (fun r3 h1 L => ?_))
  have t1 : Tx b n s h1 := t.fr L.2.1 (by decide +kernel)
  have ev := L.2.2.2
  refine ⟨L.1.1, fun e40 => ?_, fun e103 => ?_, fun e108 => ?_, fun e112 => ?_, fun e119 => ?_, fun no => c_flo (d + e) L ?_⟩
  · have k := G d h1 L.1 t1 L.i (by rw [L.2.2.1, skv_i, ← ev]; exact e40)
    refine Ci.mono k (fun r7 h5 X => ⟨X.1.1, X.z, ?_⟩)
    have X := X.pre L.2.1
    rw [L.2.2.1, stq_c, sto_c] at X
    exact X
  · obtain ⟨I6, F6, a6⟩ := nxx I t L (by rw [e103]; decide)
    refine Ci.mono (c_na (d + e) I6 (t.fr F6 (by decide +kernel)) 0 15 0 (by decide) (fun r => r) (fun _ => 0) (fun r => (0, r, 0)) (Or.inl rfl) (fun r y => ⟨y, by decide⟩) (fun r => by unfold pkS; exact if_neg (show ¬ (0 : Int32) = 1 by decide))) (fun r12 h10 q => ⟨q.1, Ci.mono q.2 (fun r15 h13 w => ⟨w.1, w.2.1, ?_⟩)⟩)
    have X := w.2.2.pre F6
    rw [a6] at X
    unfold stq sto
    rw [if_pos (by rw [← ev]; exact e103), if_pos (by rw [← ev]; exact e103)]
    exact X
  · obtain ⟨I6, F6, a6⟩ := nxx I t L (by rw [e108]; decide)
    refine Ci.mono (c_ads (d + e) I6 3 0 0) (fun r20 h18 A => ?_)
    have k := A.2.2.2.2 (by decide) (by decide)
    refine ⟨A.2.1.1, A.1, A.2.1, (F6.more (by decide +kernel)).tr (A.2.2.1.more (by decide +kernel)), ?_, fun _ L0 O => ?_⟩
    · unfold stq
      rw [← ev, e108, if_neg (by decide), if_neg (by decide), if_neg (by decide), if_pos rfl]
      exact Fxq.mv (Or.inl ⟨k.1, rfl, by rw [a6], fw3 F6 (by decide +kernel)⟩) A.2.2.1 (by decide +kernel)
    · unfold sto
      rw [← ev, e108, if_neg (by decide), if_neg (by decide), if_neg (by decide), if_pos rfl]
      exact k.2 L0 (3, 0, 0) (O.fr F6 (by decide +kernel)) (by unfold pkS; exact if_neg (by decide))
  · obtain ⟨I6, F6, a6⟩ := nxx I t L (by rw [e112]; decide)
    refine Ci.mono (c_rpt (d + e) _ I6 (t.fr F6 (by decide +kernel))) (fun r25 h23 X => ⟨X.1.1, X.z, ?_⟩)
    have X := X.pre F6
    rw [a6] at X
    unfold stq sto
    rw [← ev, e112, if_neg (by decide), if_neg (by decide), if_pos rfl, if_neg (by decide), if_neg (by decide), if_pos rfl]
    exact X
  · obtain ⟨I6, F6, a6⟩ := nxx I t L (by rw [e119]; decide)
    refine Ci.mono (c_na (d + e) I6 (t.fr F6 (by decide +kernel)) 1 240 1 (by decide) (fun _ => 0) (fun r => r) (fun r => (1, r, 0)) (Or.inr rfl) (fun r y => ⟨by decide, y⟩) (fun r => by unfold pkS; exact if_pos rfl)) (fun r12 h10 q => ⟨q.1, Ci.mono q.2 (fun r15 h13 w => ⟨w.1, w.2.1, ?_⟩)⟩)
    have X := w.2.2.pre F6
    rw [a6] at X
    unfold stq sto
    rw [← ev, e119, if_neg (by decide), if_pos rfl, if_neg (by decide), if_pos rfl]
    exact X
  · unfold stq
    rw [← ev, if_neg no.2.1, if_neg no.2.2.2.2, if_neg no.2.2.2.1, if_neg no.2.2.1, if_neg no.1]
theorem c_rsteps {b : Nat → Int32} {n s : Nat} (e : Nat) (x1 : Int32) (f : Rcg) (o : Nat → List Sp3) (A : Ro b n s f o (fun d h K => Ci (m_X8_readStep (d + e + 52) 0 0) [.ref 11, .int x1] h K)) : Ro b n s (sps b n f) (spo b n f o) (fun d h K => Ci (m_X8_readSteps (d + e + 53) 0 0) [.ref 11, .int x1] h K) := by
  intro d h I t
  have lp : ∀ (k : Nat) (x2 x3 : Int32) (h2 : Hp_), x3.toInt + k = 160 → Iv h2 → Fr wzo h h2 → Sx b n (sps b n f (xa h)) (lpr b n (isq 59) f k) h x2 h2 → (¬ x2 = 0 → ∃ P, (∀ L, Ou L h → Ou (L ++ P) h2) ∧ spo b n f o (xa h) = P ++ lpo b n f o k (xa h2)) → AW (m_X8_readSteps (d + e + 53) 0 0) 0 0 8 [(0, .ref 11), (1, .int x1), (2, .int x2), (3, .int x3)] [] h2 (kI (fun r h' => Xo b n (sps b n f (xa h)) (spo b n f o (xa h)) h r h')) := by
    intro k
    induction k with
    | zero =>
      intro x2 x3 h2 m I2 F2 S Q
      refine t_X8_readSteps_8 (d + e) h2 I2.1 x1 x2 x3 _ ⟨fun _ => ⟨S.z, I2, F2, lx0 S, fun nr L O => ?_⟩, fun z => absurd ((x160 m).1 rfl) z⟩
      obtain ⟨P, q1, q2⟩ := Q nr
      rw [q2]
      show Ou (L ++ (P ++ [])) h2
      rw [List.append_nil]
      exact q1 L O
    | succ k ih =>
      intro x2 x3 h2 m I2 F2 S Q
      have t2 : Tx b n s h2 := t.fr F2 (by decide +kernel)
      refine t_X8_readSteps_8 (d + e) h2 I2.1 x1 x2 x3 _ ⟨fun z => absurd z ((x160 m).2 (by omega)), fun _ => ⟨fun y0 => ⟨S.z, I2, F2, S.n y0, fun nr => absurd y0 nr⟩, fun y1 => Ci.mono (c_pk (d + e) I2 t2) (fun r h5 L => ⟨L.1.1, fun nr => ⟨S.z, L.1, F2.tr (L.2.1.more (by decide +kernel)), lxx S y1 L (decide_eq_false nr), fun _ L0 O => ?_⟩, fun er => ?_⟩)⟩⟩
      · obtain ⟨P, q1, q2⟩ := Q y1
        have e0 : lpo b n f o (k + 1) (xa h2) = [] := by
          show (if isq 59 (skv b n (xa h2)) = true then _ else _) = _
          exact if_neg (by rw [← L.2.2.2]; exact fun y => nr (of_decide_eq_true y))
        rw [q2, e0, List.append_nil]
        exact (q1 L0 O).fr L.2.1 (by decide +kernel)
      · obtain ⟨P, q1, q2⟩ := Q y1
        obtain ⟨I6, F6, a6⟩ := nxx I2 t2 L (by rw [er]; decide)
        refine Ci.mono (A d _ I6 (t2.fr F6 (by decide +kernel))) (fun r15 h13 X => ⟨X.1.1, ?_⟩)
        have G := X.2.2.1
        have X4 := X.2.2.2
        rw [a6] at G X4
        refine ih r15 (x3 + 1) h13 (x161 m) X.1 (F2.tr ((F6.more (by decide +kernel)).tr X.2.1)) (lxs S y1 L.2.2.2 (decide_eq_true er) (fw3 F6 (by decide +kernel)) G) (fun n15 => ⟨P ++ o (ska b n (xa h2) + 1), fun L0 O => ?_, ?_⟩)
        · rw [← List.append_assoc]
          exact X4 n15 _ ((q1 L0 O).fr F6 (by decide +kernel))
        · have e0 : lpo b n f o (k + 1) (xa h2) = o (ska b n (xa h2) + 1) ++ lpo b n f o k (f (ska b n (xa h2) + 1)).2 := by
            show (if isq 59 (skv b n (xa h2)) = true then _ else _) = _
            exact if_pos (by rw [← L.2.2.2, er]; decide)
          rw [q2, e0, ← (G.ok n15).2.1, lpo_c k, List.append_assoc]
  refine t_X8_readSteps (d + e) h I.1 x1 _ (Ci.mono (A d h I t) (fun r3 h1 X => ⟨X.1.1, lp 160 r3 0 h1 (by decide) X.1 X.2.1 (sqx (f := f) (lpr_c 160) X.2.2.1) (fun nr => ⟨o (xa h), fun L O => X.2.2.2 nr L O, ?_⟩)⟩))
  unfold spo
  rw [← (X.2.2.1.ok nr).2.1, lpo_c 160]
theorem tk1 : ∀ (M : List Sp3) (t : Nat) (y : Sp3), M[t]? = some y → M.take (t + 1) = M.take t ++ [y]
  | [], t, y, h => by simp at h
  | a :: M, 0, y, h => by
    have h : a = y := by simpa using h
    rw [h]
    rfl
  | a :: M, t + 1, y, h => by
    have h : M[t]? = some y := by simpa using h
    show a :: M.take (t + 1) = a :: (M.take t ++ [y])
    rw [tk1 M t y h]
theorem tkl {M : List Sp3} {t : Nat} (h : M.length ≤ t) : M.take t = M := List.take_of_length_le h
theorem c_rgrp {b : Nat → Int32} {n s : Nat} (e : Nat) (x1 : Int32) (f : Rcg) (o : Nat → List Sp3) (hx : x1 < 4) (A : Ro b n s f o (fun d h K => Ci (m_X8_readSteps (d + e + 53) 0 0) [.ref 11, .int (x1 + 1)] h K)) (d : Nat) (h : Hp_) (I : Iv h) (t : Tx b n s h) (sk : ska b n (xa h) = xa h) (e40 : skv b n (xa h) = 40) : Ci (m_X8_readGroup (d + e + 61) 0 0) [.ref 11, .int x1] h (fun r h' => Xo b n (stq b n false f (xa h)) (sto b n f o (xa h)) h r h') := by
  have o1 : (1 : Int32).toInt = 1 := rfl
  have ea : stq b n false f (xa h) = sqr f (sqr (exr b n 41) (nmg b n 1 20)) (xa h + 1) := by
    unfold stq
    rw [e40, if_neg (by decide), if_neg (by decide), if_neg (by decide), if_neg (by decide), if_pos rfl, if_neg (by decide), sk]
  have eo : sto b n f o (xa h) = rpl (nmw b n 1 20 (exr b n 41 (f (xa h + 1)).2).2).toNatClampNeg (o (xa h + 1)) := by
    unfold sto
    rw [e40, if_neg (by decide), if_neg (by decide), if_neg (by decide), if_neg (by decide), sk]
  have L : Pk b n h 40 h := ⟨I, Fr.rf _ _, sk.symm, e40.symm⟩
  obtain ⟨I6, F6, a6⟩ := nxx I t L (by decide)
  rw [sk] at a6
  have g3 := fw3 F6 (by decide +kernel)
  rw [ea, eo]
  refine t_X8_readGroup (d + e) h I.1 x1 _ ⟨fun _ => Ci.mono (A d _ I6 (t.fr F6 (by decide +kernel))) (fun r4 h2 X => ?_), fun y => absurd hx y⟩
  have G1 := X.2.2.1
  have X4 := X.2.2.2
  rw [a6] at G1 X4
  have F2 : Fr wzo h h2 := (F6.more (by decide +kernel)).tr X.2.1
  have t2 : Tx b n s h2 := t.fr F2 (by decide +kernel)
  refine ⟨X.1.1, fun y0 => ⟨X.1, F2, (sqxn (g := sqr (exr b n 41) (nmg b n 1 20)) G1 y0).b g3, fun y => absurd rfl y⟩, fun y1 => Ci.mono (c_ex (d + e) X.1 t2 41 (by decide)) (fun r8 h7 Y => ?_)⟩
  have F7 : Fr wzo h h7 := F2.tr (Y.2.1.more (by decide +kernel))
  have t7 : Tx b n s h7 := t.fr F7 (by decide +kernel)
  refine ⟨Y.1.1, fun w1 => ?_, fun w0 => ⟨Y.1, F7, (sqx2 (g := sqr (exr b n 41) (nmg b n 1 20)) (sqr_c exr_c) G1 y1 (sqxn (g := nmg b n 1 20) Y.2.2 w0)).b g3, fun y => absurd rfl y⟩⟩
  have up : ∀ (r : Int32) (h' : Hp_), Fxq b n (nmg b n 1 20 (xa h7)) h7 r h' → Fxq b n (sqr f (sqr (exr b n 41) (nmg b n 1 20)) (xa h + 1)) h r h' := fun r h' q => (sqx2 (g := sqr (exr b n 41) (nmg b n 1 20)) (sqr_c exr_c) G1 y1 (sqx2 (g := nmg b n 1 20) nmg_c Y.2.2 w1 q)).b g3
  refine Ci.mono (c_rn (d + e) Y.1 t7 1 20) (fun r12 h10 N => ?_)
  have F10 : Fr wzo h h10 := F7.tr (N.2.1.more (by decide +kernel))
  refine ⟨N.1.1, fun n12 => ?_, fun e12 => ⟨N.1, F10, up 0 h10 ?_, fun y => absurd rfl y⟩⟩
  · have N3 : (nmr b n 1 20 (xa h7)).1 = true ∧ r12 = (nmr b n 1 20 (xa h7)).2.2 ∧ ska b n (xa h10) = (nmr b n 1 20 (xa h7)).2.1 ∧ h_i h10 11 3 = h_i h7 11 3 := by
      rcases N.2.2 with M | M
      · exact M
      · exact absurd M.2.1 n12
    have tm : nmw b n 1 20 (exr b n 41 (f (xa h + 1)).2).2 = r12 := by
      rw [← (G1.ok y1).2.1, exr_c, ← (Y.2.2.ok w1).2.1, nmw_c]
      exact N3.2.1.symm
    rw [tm]
    have vb := nmr_b N3.1
    rw [← N3.2.1] at vb
    have v0 := q_le.mp vb.1
    have v1 := q_le.mp vb.2
    have o20 : (20 : Int32).toInt = 20 := rfl
    rw [o1] at v0
    rw [o20] at v1
    have nT := n_nat (x := r12) (by omega)
    have G10 : Fxq b n (nmg b n 1 20 (xa h7)) h7 1 h10 := Or.inl ⟨rfl, N3.1, N3.2.2.1, N3.2.2.2⟩
    generalize hM : o (xa h + 1) = M at X4 ⊢
    have O10 : ∀ L, Ou L h → Ou (L ++ M) h10 := fun L O => ((X4 y1 L (O.fr F6 (by decide +kernel))).fr Y.2.1 (by decide +kernel)).fr N.2.1 (by decide +kernel)
    have fin : ∀ h3, Iv h3 → Fr [11006, 11007, 32999] h10 h3 → (∀ L, Ou L h → Ou (L ++ rpl r12.toNatClampNeg M) h3) → Xo b n (sqr f (sqr (exr b n 41) (nmg b n 1 20)) (xa h + 1)) (rpl r12.toNatClampNeg M) h 1 h3 := fun h3 I3 F3 O3 => ⟨I3, F10.tr (F3.more (by decide +kernel)), up 1 h3 (G10.mv F3 (by decide +kernel)), fun _ L O => O3 L O⟩
    have b2 := x6_in I
    have b4 := x6_in N.1
    generalize hx2 : h_i h 11 6 = x2 at b2 ⊢
    generalize hx4 : h_i h10 11 6 = x4 at b4 ⊢
    have n2 := n_nat (x := x2) (by omega)
    have n4 := n_nat (x := x4) (by omega)
    have det : ∀ (L : List Sp3) (m : Nat) (h3 : Hp_), 1 ≤ m → Ou L h → Ou (L ++ rpl m M) h3 → h_i h3 11 7 = 0 → x2.toInt = (L.length : Int) ∧ x4.toInt = (L.length : Int) + (M.length : Int) ∧ ∀ (k : Nat) (y : Sp3), M[k]? = some y → h_i h10 32 (L.length + k) = pkS y := by
      intro L m h3 hm O O3 z7
      have l1 : (rpl 1 M).length ≤ (rpl m M).length := rpl_l M hm
      rw [rpl_1] at l1
      have lr : (L ++ rpl m M).length ≤ 150 := by
        rcases O3 with q | q
        · exact q.2.1
        · rw [z7] at q
          exact absurd q.1 (by decide)
      rw [List.length_append] at lr
      have OM := O10 L O
      rcases O with q | q
      · rcases OM with p | p
        · refine ⟨?_, ?_, fun k y ey => ?_⟩
          · have c := congrArg Int32.toInt q.2.2.1
            rw [on_j (by omega), hx2] at c
            exact c
          · have c := congrArg Int32.toInt p.2.2.1
            rw [List.length_append, on_j (by omega), hx4] at c
            rw [c]
            omega
          · refine p.2.2.2 _ y ?_
            rw [List.getElem?_append_right (by omega), Nat.add_sub_cancel_left]
            exact ey
        · have := p.2
          rw [List.length_append] at this
          omega
      · have := q.2
        omega
    have lp : ∀ (q m : Nat) (x5 : Int32) (h3 : Hp_), x5.toInt = (m : Int) → 1 ≤ m → (m : Int) + q = r12.toInt → Iv h3 → Fr [11006, 11007, 32999] h10 h3 → (∀ L, Ou L h → Ou (L ++ rpl m M) h3) → (∀ k : Nat, (k : Int) < x4.toInt → h_i h3 32 k = h_i h10 32 k) → x4.toInt ≤ (h_i h3 11 6).toInt → AW (m_X8_readGroup (d + e + 61) 0 0) 0 0 70 [(0, .ref 11), (2, .int x2), (3, .int r12), (4, .int x4), (5, .int x5)] [] h3 (kI (fun r h' => Xo b n (sqr f (sqr (exr b n 41) (nmg b n 1 20)) (xa h + 1)) (rpl r12.toNatClampNeg M) h r h')) := by
      intro q
      induction q with
      | zero =>
        intro m x5 h3 e5 hm eq I3 F3 O3 S3 l3
        refine t_X8_readGroup_70 (d + e) h3 I3.1 x2 r12 x4 x5 _ ⟨fun _ => fin h3 I3 F3 (fun L O => ?_), fun z => absurd (q_le.mpr (by omega)) z⟩
        rw [show r12.toNatClampNeg = m by omega]
        exact O3 L O
      | succ q ih =>
        intro m x5 h3 e5 hm eq I3 F3 O3 S3 l3
        refine t_X8_readGroup_70 (d + e) h3 I3.1 x2 r12 x4 x5 _ ⟨fun z => ?_, fun _ => ⟨fun tl => fin h3 I3 F3 (fun L O => (O3 L O).lg tl ?_), fun z7 => ?_⟩⟩
        · have z := q_le.mp z
          omega
        · rw [List.length_append, List.length_append]
          have := rpl_l M (show m ≤ r12.toNatClampNeg by omega)
          omega
        · have inn : ∀ (p : Nat) (x6 : Int32) (h4 : Hp_), x2.toInt ≤ x6.toInt → x6.toInt ≤ 150 → x4.toInt - x6.toInt ≤ p → Iv h4 → Fr [11006, 11007, 32999] h10 h4 → (∀ L, Ou L h → Ou (L ++ rpl m M ++ M.take (x6.toInt - x2.toInt).toNat) h4) → (∀ k : Nat, (k : Int) < x4.toInt → h_i h4 32 k = h_i h10 32 k) → x4.toInt ≤ (h_i h4 11 6).toInt → AW (m_X8_readGroup (d + e + 61) 0 0) 0 0 86 [(0, .ref 11), (2, .int x2), (3, .int r12), (4, .int x4), (5, .int x5), (6, .int x6)] [] h4 (kI (fun r h' => Xo b n (sqr f (sqr (exr b n 41) (nmg b n 1 20)) (xa h + 1)) (rpl r12.toNatClampNeg M) h r h')) := by
            have out : ∀ (x6 : Int32) (h4 : Hp_), x2.toInt ≤ x6.toInt → x4 ≤ x6 → Iv h4 → Fr [11006, 11007, 32999] h10 h4 → (∀ L, Ou L h → Ou (L ++ rpl m M ++ M.take (x6.toInt - x2.toInt).toNat) h4) → (∀ k : Nat, (k : Int) < x4.toInt → h_i h4 32 k = h_i h10 32 k) → x4.toInt ≤ (h_i h4 11 6).toInt → AW (m_X8_readGroup (d + e + 61) 0 0) 0 0 70 [(0, .ref 11), (2, .int x2), (3, .int r12), (4, .int x4), (5, .int (x5 + 1))] [] h4 (kI (fun r h' => Xo b n (sqr f (sqr (exr b n 41) (nmg b n 1 20)) (xa h + 1)) (rpl r12.toNatClampNeg M) h r h')) := by
              intro x6 h4 l6 c I4 F4 O4 S4 l4
              have c := q_le.mp c
              have e5' : (x5 + 1).toInt = x5.toInt + 1 := by rw [tx_add (by rw [o1]; omega) (by rw [o1]; omega), o1]
              refine ih (m + 1) (x5 + 1) h4 (by rw [e5']; omega) (by omega) (by omega) I4 F4 (fun L O => ?_) S4 l4
              have dd := det L m h3 hm O (O3 L O) z7
              have k4 := O4 L O
              rw [tkl (by omega)] at k4
              rw [rpl_s, ← List.append_assoc]
              exact k4
            intro p
            induction p with
            | zero =>
              intro x6 h4 l6 h6 mm I4 F4 O4 S4 l4
              exact t_X8_readGroup_86 (d + e) h4 I4.1 x2 r12 x4 x5 x6 _ ⟨fun c => out x6 h4 l6 c I4 F4 O4 S4 l4, fun z => absurd (q_le.mpr (by omega)) z⟩
            | succ p ih2 =>
              intro x6 h4 l6 h6 mm I4 F4 O4 S4 l4
              refine t_X8_readGroup_86 (d + e) h4 I4.1 x2 r12 x4 x5 x6 _ ⟨fun c => out x6 h4 l6 c I4 F4 O4 S4 l4, fun z => ?_⟩
              have z := q_nle z
              have n6 := n_nat (x := x6) (by omega)
              have e6 : (x6 + 1).toInt = x6.toInt + 1 := by rw [tx_add (by rw [o1]; omega) (by rw [o1]; omega), o1]
              refine ⟨dp_in (lo := 0) (hi := 149) ⟨by show (0 : Int) ≤ _; omega, by show _ ≤ (149 : Int); omega⟩ (by decide) (by decide), Cv.mono (c_aps (d + e) I4 _) (fun h5 k => ⟨k.1.1, ?_⟩)⟩
              refine ih2 (x6 + 1) h5 (by omega) (by omega) (by omega) k.1 (F4.tr k.2.1) (fun L O => ?_) (fun j hj => ?_) ?_
              · have dd := det L m h3 hm O (O3 L O) z7
                have tl : (x6.toInt - x2.toInt).toNat < M.length := by omega
                have ey : M[(x6.toInt - x2.toInt).toNat]? = some (M[(x6.toInt - x2.toInt).toNat]'tl) := List.getElem?_eq_getElem tl
                have key := dd.2.2 _ _ ey
                have ej : x6.toNatClampNeg = L.length + (x6.toInt - x2.toInt).toNat := by omega
                rw [show ((x6 + 1).toInt - x2.toInt).toNat = (x6.toInt - x2.toInt).toNat + 1 by omega, tk1 _ _ _ ey, ← List.append_assoc]
                refine k.2.2.1 _ _ (O4 L O) ?_
                rw [S4 _ (by omega), ej]
                exact key.symm
              · rw [k.2.2.2.1 j (by omega)]
                exact S4 j hj
              · have := k.2.2.2.2
                omega
          refine inn 150 x2 h3 (Int.le_refl _) (by omega) (by omega) I3 F3 (fun L O => ?_) S3 l3
          rw [Int.sub_self]
          show Ou (L ++ rpl m M ++ []) h3
          rw [List.append_nil]
          exact O3 L O
    exact lp (r12.toInt - 1).toNat 1 1 h10 rfl (Nat.le_refl _) (by omega) N.1 (Fr.rf _ _) (fun L O => by rw [rpl_1]; exact O10 L O) (fun _ _ => rfl) (by rw [hx4]; exact Int.le_refl _)
  · rcases N.2.2 with M | M
    · have v := nmr_b M.1
      rw [← M.2.1, e12] at v
      exact absurd v.1 (by decide)
    · exact Or.inr ⟨rfl, M.1, M.2.2⟩
theorem c_rgrp0 {b : Nat → Int32} {n s : Nat} (x1 : Int32) (f : Rcg) (o : Nat → List Sp3) (hx : ¬ x1 < 4) (d : Nat) (h : Hp_) (I : Iv h) (t : Tx b n s h) (sk : ska b n (xa h) = xa h) (e40 : skv b n (xa h) = 40) : Ci (m_X8_readGroup (d + 61) 0 0) [.ref 11, .int x1] h (fun r h' => Xo b n (stq b n true f (xa h)) (sto b n f o (xa h)) h r h') := by
  have L : Pk b n h 40 h := ⟨I, Fr.rf _ _, sk.symm, e40.symm⟩
  refine t_X8_readGroup d h I.1 x1 _ ⟨fun y => absurd y hx, fun _ => c_flo d L ?_⟩
  unfold stq
  rw [e40, if_neg (by decide), if_neg (by decide), if_neg (by decide), if_neg (by decide), if_pos rfl, if_pos rfl]
/-- steps at every depth -/
theorem x_steps {b : Nat → Int32} {n s : Nat} : ∀ (r : Nat), r ≤ 4 → Ro b n s (sps b n (stn b n r)) (spo b n (stn b n r) (ston b n r)) (fun d h K => Ci (m_X8_readSteps (d + 10 * (r + 1) + 53) 0 0) [.ref 11, .int (Int32.ofNat (4 - r))] h K)
  | 0, _ => fun d h I t => c_rsteps 10 (Int32.ofNat (4 - 0)) (stn b n 0) (ston b n 0) (c_rstep 10 (Int32.ofNat (4 - 0)) true (fun a => (false, a)) (fun _ => []) (fun d h I t sk e40 => by
      have q := c_rgrp0 (b := b) (n := n) (Int32.ofNat (4 - 0)) (fun a => (false, a)) (fun _ => []) (by decide) d h I t sk e40
      rw [show d + 61 = d + 10 + 51 by omega] at q
      exact q)) d h I t
  | r + 1, hr => fun d h I t => by
    have o : (Int32.ofNat (4 - (r + 1))).toInt = ((4 - (r + 1) : Nat) : Int) := on_j (by omega)
    have o4 : (4 : Int32).toInt = 4 := rfl
    have o1 : (1 : Int32).toInt = 1 := rfl
    have ex : Int32.ofNat (4 - (r + 1)) + 1 = Int32.ofNat (4 - r) := by
      refine Int32.toInt_inj.mp ?_
      rw [tx_add (by rw [o1]; omega) (by rw [o1]; omega), o1, o, on_j (by omega)]
      omega
    have lt : Int32.ofNat (4 - (r + 1)) < 4 := q_lt.mpr (by rw [o, o4]; omega)
    have B : Ro b n s (sps b n (stn b n r)) (spo b n (stn b n r) (ston b n r)) (fun d h K => Ci (m_X8_readSteps (d + 10 * (r + 1) + 53) 0 0) [.ref 11, .int (Int32.ofNat (4 - (r + 1)) + 1)] h K) := by
      rw [ex]
      exact x_steps r (by omega)
    exact c_rsteps (10 * (r + 1 + 1)) (Int32.ofNat (4 - (r + 1))) (stn b n (r + 1)) (ston b n (r + 1)) (c_rstep (10 * (r + 1 + 1)) (Int32.ofNat (4 - (r + 1))) false (sps b n (stn b n r)) (spo b n (stn b n r) (ston b n r)) (fun d h I t sk e40 => by
      have q := c_rgrp (10 * (r + 1)) _ _ _ lt B d h I t sk e40
      rw [show d + 10 * (r + 1) + 61 = d + 10 * (r + 1 + 1) + 51 by omega] at q
      exact q)) d h I t
/-- no place lies behind the tape's end -/
def Wk (n : Nat) (f : Rcg) : Prop := ∀ a, a ≤ n → (f a).2 ≤ n
theorem sqr_k {n : Nat} {f g : Rcg} (hf : Wk n f) (hg : Wk n g) : Wk n (sqr f g) := fun a l => by
  unfold sqr
  split
  · exact hg _ (hf a l)
  · exact hf a l
theorem exr_k {b : Nat → Int32} {n : Nat} {c : Int32} (hc : ¬ c = -1) : Wk n (exr b n c) := fun a l => by
  unfold exr
  split
  · rename_i q
    exact (nxt_f (skv_l (by rw [q]; exact hc))).2.1
  · exact ska_le l
theorem lpr_k {b : Nat → Int32} {n : Nat} {sp : Int32 → Bool} (hs : sp (-1) = false) {f : Rcg} (hf : Wk n f) : ∀ (k : Nat), Wk n (lpr b n sp f k)
  | 0, a, l => ska_le l
  | k + 1, a, l => by
    unfold lpr
    split
    · rename_i q
      have u := skv_l (b := b) (n := n) (a := a) (fun e => by rw [e, hs] at q; cases q)
      have w := hf (ska b n a + 1) (by omega)
      split
      · exact lpr_k hs hf k _ w
      · exact w
    · exact ska_le l
theorem nmg_k {b : Nat → Int32} {n : Nat} {lo hi : Int32} : Wk n (nmg b n lo hi) := fun a l => by
  have l' : ska b n a ≤ n := ska_le l
  have q := (nml_p (b := b) (n := n) 4 0 (ska b n a) l').2.1
  show (nmr b n lo hi a).2.1 ≤ n
  unfold nmr
  split
  · split
    · split
      · exact ska_le q
      · show (nml b n 4 0 (ska b n a)).2.1 - 1 ≤ n
        omega
    · exact q
  · exact l'
theorem stq_k {b : Nat → Int32} {n : Nat} {z : Bool} {f : Rcg} (hf : z = true ∨ Wk n f) : Wk n (stq b n z f) := fun a l => by
  have u : ∀ c : Int32, skv b n a = c → ¬ c = -1 → ska b n a + 1 ≤ n := fun c e nc => skv_l (by rw [e]; exact nc)
  unfold stq
  split
  · rename_i q
    exact nmg_k _ (u _ q (by decide))
  · split
    · rename_i q
      exact nmg_k _ (u _ q (by decide))
    · split
      · rename_i q
        exact sqr_k nmg_k nmg_k _ (u _ q (by decide))
      · split
        · rename_i q
          exact ska_le (u _ q (by decide))
        · split
          · rename_i q
            split
            · exact ska_le l
            · rename_i nz
              rcases hf with hf | hf
              · exact absurd hf nz
              · exact sqr_k hf (sqr_k (exr_k (by decide)) nmg_k) _ (u _ q (by decide))
          · exact ska_le l
theorem sps_k {b : Nat → Int32} {n : Nat} {f : Rcg} (hf : Wk n f) : Wk n (sps b n f) := sqr_k hf (lpr_k (by decide) hf 160)
theorem stn_k {b : Nat → Int32} {n : Nat} : ∀ (r : Nat), Wk n (stn b n r)
  | 0 => stq_k (Or.inl rfl)
  | r + 1 => stq_k (Or.inr (sps_k (stn_k r)))
/-! a whole beat -/
def wzb : List Nat := [11002, 11003, 11004, 11006, 11007, 11009, 32999, 33999]
def beq (b : Nat → Int32) (n : Nat) : Rcg := sps b n (stn b n 4)
def beo (b : Nat → Int32) (n : Nat) : List Sp3 := spo b n (stn b n 4) (ston b n 4) 0
theorem c_rb {b : Nat → Int32} {n : Nat} (d : Nat) {h : Hp_} (I : Iv h) (hb : h_i h 31 = b) (hn : xn h = n) : Ci (m_X8_readBeat (d + 50 + 54) 0 0) [.ref 11] h (fun r h' => r = h_i h' 11 3 ∧ Iv h' ∧ Fr wzb h h' ∧ h_i h' 11 3 = enq b n (beq b n) ∧ (r = -1 → Ou (beo b n) h')) := by
  refine t_X8_readBeat (d + 50) h I.1 _ (Cv.mono (c_rst (d + 50) I 0 (by decide)) (fun h1 k => ⟨k.1.1, ?_⟩))
  have t1 : Tx b n 0 h1 := ⟨(funext (fun j => fr_i k.2.1 (by decide +kernel) j)).trans hb, by show (h_i h1 11 1).toNatClampNeg = n; rw [(k.2.1.2 11 1 (by decide +kernel)).1]; exact hn, k.2.2.2.2.1⟩
  have a1 : xa h1 = 0 := by
    show (h_i h1 11 2).toNatClampNeg = 0
    rw [k.2.2.1]
    rfl
  have F1 : Fr wzb h h1 := k.2.1.more (by decide +kernel)
  have w1 : h_i h1 11 3 = -1 := k.2.2.2.1
  have O1 : Ou [] h1 := Or.inl ⟨k.2.2.2.2.2.2.1, by decide, k.2.2.2.2.2.1, fun j x e => by simp at e⟩
  have S := x_steps (b := b) (n := n) (s := 0) 4 (by omega) d h1 k.1 t1
  rw [a1] at S
  refine Ci.mono S (fun r6 h4 X => ?_)
  have G : Fxq b n (beq b n 0) h1 r6 h4 := X.2.2.1
  have F4 : Fr wzb h h4 := F1.tr (X.2.1.more (by decide +kernel))
  refine ⟨X.1.1, fun y0 => ?_, fun y1 => ?_⟩
  · have q : (beq b n 0).1 = false ∧ h_i h4 11 3 = Int32.ofNat (beq b n 0).2 := by
      rcases G with q | q
      · rw [y0] at q
        exact absurd q.1 (by decide)
      · exact q.2
    have ee : h_i h4 11 3 = enq b n (beq b n) := by
      unfold enq
      rw [if_neg (by rw [q.1]; decide)]
      exact q.2
    refine ⟨rfl, X.1, F4, ee, fun e => ?_⟩
    have n160 : n ≤ 160 := by
      have a := xn_i I
      have c := (x1_in I).2
      omega
    rw [ee] at e
    unfold enq at e
    rw [if_neg (by rw [q.1]; decide)] at e
    have k := sps_k (b := b) (stn_k (b := b) (n := n) 4) 0 (Nat.zero_le n)
    exact absurd e (on_mm (Nat.le_trans k n160))
  · have ok := G.ok y1
    have O4 := X.2.2.2 y1 [] O1
    rw [List.nil_append] at O4
    have t4 : Tx b n 0 h4 := t1.fr X.2.1 (by decide +kernel)
    refine Ci.mono (c_pk (d + 50) X.1 t4) (fun r10 h8 L => ⟨L.1.1, fun em => ⟨rfl, L.1, F4.tr (L.2.1.more (by decide +kernel)), ?_, fun _ => O4.fr L.2.1 (by decide +kernel)⟩, fun nm => Ci.mono (c_fl (d + 50) L.1) (fun r2 h9 q => ⟨q.2.1.1, rfl, q.2.1, F4.tr ((L.2.1.more (by decide +kernel)).tr (q.2.2.1.more (by decide +kernel))), ?_, fun _ => (O4.fr L.2.1 (by decide +kernel)).fr q.2.2.1 (by decide +kernel)⟩)⟩)
    · have nl := ska_0 (L.2.2.2.symm.trans em) (fun k _ => b_nm X.1 t4 k)
      unfold enq
      rw [if_pos ok.1, ← ok.2.1, if_neg nl, fw3 L.2.1 (by decide +kernel), ok.2.2]
      exact w1
    · have l := skv_l (by rw [← L.2.2.2]; exact nm)
      unfold enq
      rw [if_pos ok.1, ← ok.2.1, if_pos l, q.2.2.2, L.2.2.1]
