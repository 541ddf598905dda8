/-! fault of the reference for clauses, by what stands on the tape -/
theorem ska_0 {b : Nat → Int32} {n a : Nat} (h : skv b n a = -1) (bb : ∀ k, k < n → ¬ b k = -1) : ¬ ska b n a < n := fun l => by
  unfold skv at h
  rw [if_pos l] at h
  exact bb _ l h
theorem Pc.tp {b : Nat → Int32} {n s : Nat} {h h' : Hp_} (P : Pc s h h') (t : Tp b n h) : Tp b n h' := t.fr P.2.1 (by decide +kernel)
theorem enq_n {b : Nat → Int32} {n : Nat} {f : Rcg} {h : Hp_} (F : Ft b n (f 0) h) (w : ¬ h_i h 1 34 = -1) : h_i h 1 34 = enq b n f := by
  have k := F.no w
  unfold enq
  rw [if_neg (by rw [k.1]; decide)]
  exact k.2
theorem enq_y {b : Nat → Int32} {n : Nat} {f : Rcg} {h h5 : Hp_} {r : Int32} (bb : ∀ k, k < n → ¬ b k = -1) (F : Ft b n (f 0) h) (w : h_i h 1 34 = -1) (L : Lkf b n h r h5) : (r = -1 → h_i h5 1 34 = enq b n f) ∧ (¬ r = -1 → Int32.ofNat (ta h5) = enq b n f) := by
  have k := F.ok w
  refine ⟨fun e => ?_, fun ne => ?_⟩
  · have nl := ska_0 (L.2.2.symm.trans e) bb
    unfold enq
    rw [if_pos k.1, ← k.2, if_neg nl, f34 L.1.2.1 (by decide +kernel)]
    exact w
  · have l := skv_l (by rw [← L.2.2]; exact ne)
    unfold enq
    rw [if_pos k.1, ← k.2, if_pos l, L.2.1]
theorem fl_loopf (s : Nat) (hs : s = 1 ∨ s = 2) (d : Nat) {b : Nat → Int32} {nn : Nat} (bb : ∀ k, k < nn → ¬ b k = -1) {h h0 : Hp_} (x1 : Int32) (e1 : x1 = Int32.ofNat s) (I0 : Iv h0) (F0 : Fr wzf h h0) (es : h_i h0 1 37 = Int32.ofNat s) (t0 : Tp b nn h0) :
    ∀ (n : Nat) (h2 : Hp_), Fl s h0 h2 → Sf b nn (ruq b nn (clq b nn s) 0) (lpr b nn (isq 59) (clq b nn s) n) h2 → pz h0 - pa h2 ≤ n → AW (m_X12_fault (d + 80 + 59) 0 0) 0 0 52 [(0, .ref 1)] [] h2 (kI (fun r h' => Fa x1 h r h' ∧ r = enq b nn (ruq b nn (clq b nn s)))) := by
  have z1 : pz h0 ≤ 160 := (pz_in I0).2
  have dn : ∀ h', Fl s h0 h' → Fa x1 h (h_i h' 1 34) h' := by
    intro h' G
    refine ⟨G.1, F0.tr (G.2.1.more (by decide +kernel)), fun w => ⟨fun e => ?_, fun t ht et => ?_⟩⟩
    · rw [e1] at e
      rcases hs with u | u <;> subst u <;> exact absurd e (by decide)
    · have tt : t = s := by
        rw [e1] at et
        rcases hs with u | u <;> subst u <;> rcases ht with v | v <;> subst v <;> first | rfl | exact absurd et (by decide)
      subst tt
      exact (G.2.2.2 w).2.2
  have ends : ∀ h1, Fl s h0 h1 → h_i h1 1 34 = -1 → Ft b nn (ruq b nn (clq b nn s) 0) h1 → Ci (m_X12_look (d + 80 + 0) 0 0) [.ref 1] h1 (fun r h5 => Wf h5 ∧ ((r = (-1) → Fa x1 h (h_i h5 1 34) h5 ∧ h_i h5 1 34 = enq b nn (ruq b nn (clq b nn s))) ∧ (¬ r = (-1) → Cv (m_X12_bad (d + 80 + 0) 0 0) [.ref 1] h5 (fun h9 => Wf h9 ∧ (Fa x1 h (h_i h9 1 34) h9 ∧ h_i h9 1 34 = enq b nn (ruq b nn (clq b nn s))))))) := by
    intro h1 G w FT
    refine Ci.mono (c_lookf (d + 80) G.1 (t0.fr G.2.1 (by decide +kernel))) (fun r h5 LL => ?_)
    have E := enq_y bb FT w LL
    have L := LL.1
    have G5 := G.lk L
    refine ⟨L.1.1, fun er => ⟨dn _ G5, E.1 er⟩, fun nr => ?_⟩
    exact Cv.mono (c_badf (d + 80) L.1 (by rw [f34 L.2.1 (by decide +kernel)]; exact w)) (fun h9 k => ⟨k.1.1, ⟨k.1, F0.tr ((G5.2.1.tr (k.2.1.more (by decide +kernel))).more (by decide +kernel)), fun y => absurd y k.2.2.1⟩, by rw [k.2.2.2]; exact E.2 nr⟩)
  intro n
  induction n with
  | zero =>
    intro h2 G F m
    have zz := zf G.2.1 (by decide +kernel)
    have t2 : Tp b nn h2 := t0.fr G.2.1 (by decide +kernel)
    refine t_X12_fault_52 (d + 80) h2 G.1.1 _ ⟨fun w => ⟨fun _ => ⟨dn _ G, enq_n (F.2 w) w⟩, fun y => absurd y w⟩, fun w => Ci.mono (c_lookf (d + 80) G.1 t2) (fun r h5 LL => ⟨LL.1.1.1, fun _ => ⟨fun y => absurd (by rw [f34 LL.1.2.1 (by decide +kernel)]; exact w) y, fun w5 => ends _ (G.lk LL.1) w5 (lp0 F w LL)⟩, fun er => ?_⟩)⟩
    have l3 := LL.1.2.2.1
    rcases LL.1.fwd zz with u | u
    · rw [er] at u; exact absurd u (by decide)
    · omega
  | succ n ih =>
    intro h2 G F m
    have zz := zf G.2.1 (by decide +kernel)
    have t2 : Tp b nn h2 := t0.fr G.2.1 (by decide +kernel)
    refine t_X12_fault_52 (d + 80) h2 G.1.1 _ ⟨fun w => ⟨fun _ => ⟨dn _ G, enq_n (F.2 w) w⟩, fun y => absurd y w⟩, fun w => Ci.mono (c_lookf (d + 80) G.1 t2) (fun r h5 LL => ⟨LL.1.1.1, fun nr => ⟨fun y => absurd (by rw [f34 LL.1.2.1 (by decide +kernel)]; exact w) y, fun w5 => ends _ (G.lk LL.1) w5 (lpx F w LL (decide_eq_false nr))⟩, fun er => ?_⟩)⟩
    have L := LL.1
    have G5 := G.lk L
    have w5 : h_i h5 1 34 = -1 := by rw [f34 L.2.1 (by decide +kernel)]; exact w
    have l3 := L.2.2.1
    have l5 : pa h5 < pz h0 := by
      rcases L.fwd zz with u | u
      · rw [er] at u; exact absurd u (by decide)
      · exact u
    obtain ⟨t1, t2', f, t3⟩ := G5.2.2.2 w5
    obtain ⟨k1, k2, k3⟩ := at1 L.1 (by omega)
    have na := nxa LL k1 k3
    generalize h_im h5 1 33 ((h_i h5 1 33) + 1) = h6 at k1 k2 k3 na ⊢
    have e5 := f35 k2 (by decide +kernel)
    have e6 := f36 k2 (by decide +kernel)
    have z6 := zf k2 (by decide +kernel)
    have z5 := zf G5.2.1 (by decide +kernel)
    have g3 := G5.2.2.1
    have n5 := sN_i G5.1
    have n6 := sN_i k1
    have m6 : sN h6 = sN h5 := by omega
    have F6 : Fr wzp h0 h6 := G5.2.1.tr (k2.more (by decide +kernel))
    refine Cv.mono (c_clausef s hs d k1 ⟨by rw [f34 k2 (by decide +kernel)]; exact w5, by omega, by omega, by omega⟩ (by omega) (by omega) (by rw [(F6.2 1 37 (by decide +kernel)).1]; exact es) (t0.fr F6 (by decide +kernel))) (fun h9 PP => ?_)
    obtain ⟨P, PF⟩ := PP
    obtain ⟨p1, p2, p3, p4, p5⟩ := P
    rw [na] at PF
    have S9 := lps F w LL.2.2 (decide_eq_true er) PF
    have c9 : ∀ k, k < sN h5 → h_i h9 226 k = h_i h5 226 k := fun k hk => by rw [p4 k (by omega)]; exact fr_i k2 (by decide +kernel) k
    refine ⟨p1.1, ?_⟩
    by_cases w9 : h_i h9 1 34 = -1
    · obtain ⟨u1, u2, u3, u4, u5⟩ := p5 w9
      refine ih h9 ⟨p1, F6.tr p2, by omega, fun _ => ⟨by omega, by omega, f + 1, ?_⟩⟩ S9 (by omega)
      refine pcl_snoc (pcl_same (fun x _ b => c9 x b) t3) ?_
      rw [← m6]; exact u5
    · refine t_X12_fault_52 (d + 80) h9 p1.1 _ ⟨fun w => ⟨fun _ => ?_, fun y => absurd y w⟩, fun w => absurd w w9⟩
      exact ⟨dn _ ⟨p1, F6.tr p2, by omega, fun y => absurd y w9⟩, enq_n (S9.2 w9) w9⟩
theorem c_faultf (d : Nat) {b : Nat → Int32} {n : Nat} (bb : ∀ k, k < n → ¬ b k = -1) {h : Hp_} (I : Iv h) (t : Tp b n h) (s : Nat) (hs : s = 1 ∨ s = 2) : Ci (m_X12_fault (d + 80 + 59) 0 0) [.ref 1, .int (Int32.ofNat s)] h (fun r h' => Fa (Int32.ofNat s) h r h' ∧ r = enq b n (ruq b n (clq b n s))) := by
  have z0 : 0 ≤ pz h := (pz_in I).1
  have z1 : pz h ≤ 160 := (pz_in I).2
  have b0 : rin (0 : Int32).toInt (0, 180) := ⟨by decide, by decide⟩
  have I0 : Iv (h_im (h_im (h_im (h_im (h_im h 1 37 (Int32.ofNat s)) 1 33 0) 1 34 (-1)) 1 35 0) 1 36 0) := i36 (i35 (i34 (i33 (I.im (by rw [show tf 1 37 = rtop by decide +kernel]; exact rtop_in _) (by decide)) b0) _) ⟨by decide, by decide⟩) ⟨by decide, by decide⟩
  have F0 : Fr wzf h (h_im (h_im (h_im (h_im (h_im h 1 37 (Int32.ofNat s)) 1 33 0) 1 34 (-1)) 1 35 0) 1 36 0) := (((((Fr.rf _ _).im (by decide +kernel)).im (by decide +kernel)).im (by decide +kernel)).im (by decide +kernel)).im (by decide +kernel)
  have e36 : h_i (h_im (h_im (h_im (h_im (h_im h 1 37 (Int32.ofNat s)) 1 33 0) 1 34 (-1)) 1 35 0) 1 36 0) 1 36 = 0 := im_at
  have e35 : h_i (h_im (h_im (h_im (h_im (h_im h 1 37 (Int32.ofNat s)) 1 33 0) 1 34 (-1)) 1 35 0) 1 36 0) 1 35 = 0 := by rw [f_ne (by decide), im_at]
  have e34 : h_i (h_im (h_im (h_im (h_im (h_im h 1 37 (Int32.ofNat s)) 1 33 0) 1 34 (-1)) 1 35 0) 1 36 0) 1 34 = -1 := by rw [f_ne (by decide), f_ne (by decide), im_at]
  have e33 : h_i (h_im (h_im (h_im (h_im (h_im h 1 37 (Int32.ofNat s)) 1 33 0) 1 34 (-1)) 1 35 0) 1 36 0) 1 33 = 0 := by rw [f_ne (by decide), f_ne (by decide), f_ne (by decide), im_at]
  have e37 : h_i (h_im (h_im (h_im (h_im (h_im h 1 37 (Int32.ofNat s)) 1 33 0) 1 34 (-1)) 1 35 0) 1 36 0) 1 37 = Int32.ofNat s := by rw [f_ne (by decide), f_ne (by decide), f_ne (by decide), f_ne (by decide), im_at]
  have bs : 0 ≤ Int32.ofNat s ∧ Int32.ofNat s ≤ 2 := by rcases hs with u | u <;> subst u <;> decide
  have ns : ¬ Int32.ofNat s = 0 := by rcases hs with u | u <;> subst u <;> decide
  refine t_X12_fault (d + 80) h I.1 (Int32.ofNat s) _ ⟨fun _ => ?_, fun y => absurd bs y⟩
  generalize h_im (h_im (h_im (h_im (h_im h 1 37 (Int32.ofNat s)) 1 33 0) 1 34 (-1)) 1 35 0) 1 36 0 = h0 at I0 F0 e36 e35 e34 e33 e37 ⊢
  have zz := zf F0 (by decide +kernel)
  have a0 : pa h0 = 0 := by show (h_i h0 1 33).toInt = 0; rw [e33]; rfl
  have ta0 : ta h0 = 0 := by have := ta_i I0; omega
  have d0 : pd h0 = 0 := by show (h_i h0 1 35).toInt = 0; rw [e35]; rfl
  have s0 : ps h0 = 0 := by show (h_i h0 1 36).toInt = 0; rw [e36]; rfl
  have n0 := sN_i I0
  have nz : sN h0 = 0 := by omega
  have t0 : Tp b n h0 := t.fr F0 (by decide +kernel)
  refine ⟨fun _ => ?_, fun y => absurd y ns⟩
  refine Cv.mono (c_clausef s hs d I0 ⟨e34, by omega, by omega, by omega⟩ (by omega) d0 e37 t0) (fun h5 PP => ?_)
  obtain ⟨P, PF⟩ := PP
  obtain ⟨p1, p2, p3, p4, p5⟩ := P
  have a5 : 0 ≤ pa h5 := (pa_in p1).1
  rw [ta0] at PF
  refine ⟨p1.1, fl_loopf s hs d bb (Int32.ofNat s) rfl I0 F0 e37 t0 160 h5 ⟨p1, p2, by omega, fun w => ?_⟩ (sqf (f := clq b n s) (lpr_c 160) PF) (by omega)⟩
  obtain ⟨u1, u2, u3, u4, u5⟩ := p5 w
  refine ⟨by omega, by omega, 1, ?_⟩
  rw [nz] at u5
  exact pcl_snoc (f := 0) (e := 0) rfl u5
/-! the class's reader, by what stands on the tape -/
abbrev xn (h : Hp_) : Nat := (h_i h 11 1).toNatClampNeg
abbrev xa (h : Hp_) : Nat := (h_i h 11 2).toNatClampNeg
theorem x1_in {h : Hp_} (I : Iv h) : 0 ≤ (h_i h 11 1).toInt ∧ (h_i h 11 1).toInt ≤ 160 := by
  have rg := I.2.1 11 1
  rw [show tf 11 1 = (0, 160) by decide +kernel] at rg
  exact ⟨rg.1, rg.2⟩
theorem x2_in {h : Hp_} (I : Iv h) : 0 ≤ (h_i h 11 2).toInt ∧ (h_i h 11 2).toInt ≤ 160 := by
  have rg := I.2.1 11 2
  rw [show tf 11 2 = (0, 160) by decide +kernel] at rg
  exact ⟨rg.1, rg.2⟩
theorem xn_i {h : Hp_} (I : Iv h) : (xn h : Int) = (h_i h 11 1).toInt := n_nat (x1_in I).1
theorem xa_i {h : Hp_} (I : Iv h) : (xa h : Int) = (h_i h 11 2).toInt := n_nat (x2_in I).1
def Tx (b : Nat → Int32) (n s : Nat) (h : Hp_) : Prop := h_i h 31 = b ∧ xn h = n ∧ h_r h 11 4 = some (1000 + s)
theorem Tx.fr {b : Nat → Int32} {n s : Nat} {ws : List Nat} {h h' : Hp_} (t : Tx b n s h) (f : Fr ws h h') (o : (off ws 31 && !inw ws 11 1 && !inw ws 11 4) = true) : Tx b n s h' := by
  simp only [Bool.and_eq_true, Bool.not_eq_true'] at o
  exact ⟨(funext (fun k => fr_i f o.1.1 k)).trans t.1, by show (h_i h' 11 1).toNatClampNeg = n; rw [(f.2 11 1 o.1.2).1]; exact t.2.1, by rw [(f.2 11 4 o.2).2.2]; exact t.2.2⟩
theorem y2 {h : Hp_} (I : Iv h) {x : Int32} (b : 0 ≤ x.toInt ∧ x.toInt ≤ 160) : Iv (h_im h 11 2 x) := I.im (by rw [show tf 11 2 = (0, 160) by decide +kernel]; exact b) (by decide)
theorem y3 {h : Hp_} (I : Iv h) (x : Int32) : Iv (h_im h 11 3 x) := I.im (by rw [show tf 11 3 = rtop by decide +kernel]; exact rtop_in _) (by decide)
theorem g_ne {h : Hp_} {k j : Nat} {x : Int32} (n : j ≠ k) : h_i (h_im h 11 k x) 11 j = h_i h 11 j := by rw [h_i_im, if_neg (fun e => n e.2)]
def Pk (b : Nat → Int32) (n : Nat) (h : Hp_) (r : Int32) (h' : Hp_) : Prop := Iv h' ∧ Fr [11002] h h' ∧ xa h' = ska b n (xa h) ∧ r = skv b n (xa h)
theorem Pk.i {b : Nat → Int32} {n : Nat} {h h' : Hp_} {r : Int32} (L : Pk b n h r h') : ska b n (xa h') = xa h' := by rw [L.2.2.1, ska_i]
theorem c_pk (d : Nat) {b : Nat → Int32} {n s : Nat} {h : Hp_} (I : Iv h) (t : Tx b n s h) : Ci (m_X8_peek (d + 0) 0 0) [.ref 11] h (fun r h' => Pk b n h r h') := by
  have t1 : (1 : Int32).toInt = 1 := rfl
  have ni := xn_i I
  rw [t.2.1] at ni
  have z1 := (x1_in I).2
  have fin1 : ∀ h2, Iv h2 → Fr [11002] h h2 → ska b n (xa h2) = ska b n (xa h) → h_i h2 11 1 ≤ h_i h2 11 2 → Pk b n h (-1) h2 := fun h2 I2 F2 sk y => by
    have ai := xa_i I2
    rw [(F2.2 11 1 (by decide +kernel)).1] at y
    have y' := q_le.mp y
    have e : ska b n (xa h2) = xa h2 := ska_n (fun c => by have := c.1; omega)
    have e' : ska b n (xa h) = xa h2 := sk.symm.trans e
    refine ⟨I2, F2, e'.symm, ?_⟩
    unfold skv
    rw [e', if_neg (by omega)]
  have fin2 : ∀ h2, Iv h2 → Fr [11002] h h2 → ska b n (xa h2) = ska b n (xa h) → ¬ h_i h2 11 1 ≤ h_i h2 11 2 → ¬ h_i h2 31 (xa h2) = 32 → Pk b n h (h_i h2 31 (h_i h2 11 2).toNatClampNeg) h2 := fun h2 I2 F2 sk y nb => by
    have ai := xa_i I2
    have et : h_i h2 31 = b := (t.fr F2 (by decide +kernel)).1
    rw [et] at nb
    rw [(F2.2 11 1 (by decide +kernel)).1] at y
    have y' := q_nle y
    have e : ska b n (xa h2) = xa h2 := ska_n (fun c => nb c.2)
    have e' : ska b n (xa h) = xa h2 := sk.symm.trans e
    refine ⟨I2, F2, e'.symm, ?_⟩
    unfold skv
    rw [e', if_pos (by omega), et]
  have lp : ∀ (q : Nat) (h2 : Hp_), Iv h2 → Fr [11002] h h2 → ska b n (xa h2) = ska b n (xa h) → (h_i h 11 1).toInt - (h_i h2 11 2).toInt ≤ q → AW (m_X8_peek (d + 0) 0 0) 0 0 0 [(0, .ref 11)] [] h2 (kI (fun r h' => Pk b n h r h')) := by
    intro q
    induction q with
    | zero =>
      intro h2 I2 F2 sk m
      refine t_X8_peek_0 d h2 I2.1 _ ⟨fun y => ⟨fun _ => fin1 h2 I2 F2 sk y, fun z => absurd y z⟩, fun z => ?_⟩
      rw [(F2.2 11 1 (by decide +kernel)).1] at z
      have z := q_nle z
      omega
    | succ q ih =>
      intro h2 I2 F2 sk m
      have ez : h_i h2 11 1 = h_i h 11 1 := (F2.2 11 1 (by decide +kernel)).1
      have et : h_i h2 31 = b := (t.fr F2 (by decide +kernel)).1
      have ai := xa_i I2
      have p0 := (x2_in I2).1
      refine t_X8_peek_0 d h2 I2.1 _ ⟨fun y => ⟨fun _ => fin1 h2 I2 F2 sk y, fun z => absurd y z⟩, fun z => ?_⟩
      have z' := z
      rw [ez] at z'
      have z' := q_nle z'
      have v : vp_in (h_i h2 11 2) 160 := dp_in (lo := 0) (hi := 159) ⟨p0, by show _ ≤ (159 : Int); omega⟩ (by decide) (by decide)
      refine ⟨v, fun nb => ⟨fun y => absurd y z, fun _ => ⟨v, fin2 h2 I2 F2 sk z nb⟩⟩, fun yb => ?_⟩
      have ex : (h_i h2 11 2 + 1).toInt = (h_i h2 11 2).toInt + 1 := tx_add (by rw [t1]; omega) (by rw [t1]; omega)
      have I3 := y2 I2 (x := h_i h2 11 2 + 1) ⟨by omega, by omega⟩
      have pe : (h_i (h_im h2 11 2 (h_i h2 11 2 + 1)) 11 2).toInt = (h_i h2 11 2).toInt + 1 := by rw [im_at, ex]
      have a3 : xa (h_im h2 11 2 (h_i h2 11 2 + 1)) = xa h2 + 1 := by
        have k := xa_i I3
        omega
      refine ih _ I3 (F2.im (by decide +kernel)) ?_ (by rw [pe]; omega)
      rw [a3, ← ska_s ⟨by omega, by rw [← et]; exact yb⟩]
      exact sk
  refine Ct.of (fun _ _ _ => trivial) rfl (Nat.le_of_ble_eq_true rfl) ?_
  have p0 := (x2_in I).1
  exact lp 160 h I (Fr.rf _ _) rfl (by omega)
def wzx : List Nat := [11002, 11003, 11009, 33999]
/-- what the class found: whether it goes through, place or fault -/
def Fxq (b : Nat → Int32) (n : Nat) (T : Bool × Nat) (h0 : Hp_) (r : Int32) (h : Hp_) : Prop := (r = 1 ∧ T.1 = true ∧ ska b n (xa h) = T.2 ∧ h_i h 11 3 = h_i h0 11 3) ∨ (r = 0 ∧ T.1 = false ∧ h_i h 11 3 = Int32.ofNat T.2)
def Sx (b : Nat → Int32) (n : Nat) (T : Bool × Nat) (g : Rcg) (h0 : Hp_) (x : Int32) (h : Hp_) : Prop := (x = 1 ∧ T = g (xa h) ∧ h_i h 11 3 = h_i h0 11 3) ∨ (x = 0 ∧ T.1 = false ∧ h_i h 11 3 = Int32.ofNat T.2)
def Xr (b : Nat → Int32) (n : Nat) (T : Bool × Nat) (h : Hp_) (r : Int32) (h' : Hp_) : Prop := Iv h' ∧ Fr wzx h h' ∧ Fxq b n T h r h'
theorem Fxq.z {b : Nat → Int32} {n : Nat} {T : Bool × Nat} {h0 : Hp_} {r : Int32} {h : Hp_} (F : Fxq b n T h0 r h) : r = 0 ∨ r = 1 := F.elim (fun y => Or.inr y.1) (fun y => Or.inl y.1)
theorem Fxq.n {b : Nat → Int32} {n : Nat} {T : Bool × Nat} {h0 : Hp_} {r : Int32} {h : Hp_} (F : Fxq b n T h0 r h) (e : r = 0) : Fxq b n T h0 0 h := by
  rcases F with F | F
  · rw [e] at F
    exact absurd F.1 (by decide)
  · exact Or.inr ⟨rfl, F.2⟩
theorem Fxq.y {b : Nat → Int32} {n : Nat} {T : Bool × Nat} {h0 : Hp_} {r : Int32} {h : Hp_} (F : Fxq b n T h0 r h) (e : ¬ r = 0) : Fxq b n T h0 1 h := by
  rcases F with F | F
  · exact Or.inl ⟨rfl, F.2⟩
  · exact absurd F.1 e
theorem Fxq.ok {b : Nat → Int32} {n : Nat} {T : Bool × Nat} {h0 : Hp_} {r : Int32} {h : Hp_} (F : Fxq b n T h0 r h) (e : ¬ r = 0) : T.1 = true ∧ ska b n (xa h) = T.2 ∧ h_i h 11 3 = h_i h0 11 3 := by
  rcases F with F | F
  · exact F.2
  · exact absurd F.1 e
theorem Fxq.mv {b : Nat → Int32} {n : Nat} {T : Bool × Nat} {h0 : Hp_} {r : Int32} {h h' : Hp_} (F : Fxq b n T h0 r h) {ws : List Nat} (f : Fr ws h h') (o : (!inw ws 11 2 && !inw ws 11 3) = true) : Fxq b n T h0 r h' := by
  rw [Bool.and_eq_true, Bool.not_eq_true', Bool.not_eq_true'] at o
  have e2 : h_i h' 11 2 = h_i h 11 2 := (f.2 11 2 o.1).1
  have e3 : h_i h' 11 3 = h_i h 11 3 := (f.2 11 3 o.2).1
  unfold Fxq xa
  rw [e2, e3]
  exact F
theorem sqx {b : Nat → Int32} {n : Nat} {f g : Rcg} {a : Nat} {h0 : Hp_} {r : Int32} {h : Hp_} (c : Cnr b n g) (F : Fxq b n (f a) h0 r h) : Sx b n (sqr f g a) g h0 r h := by
  rcases F with F | F
  · refine Or.inl ⟨F.1, ?_, F.2.2.2⟩
    unfold sqr
    rw [if_pos F.2.1, ← F.2.2.1, c]
  · have e : sqr f g a = f a := by
      unfold sqr
      exact if_neg (by rw [F.2.1]; decide)
    rw [e]
    exact Or.inr F
/-- a second reader behind the first -/
theorem sqx2 {b : Nat → Int32} {n : Nat} {f g : Rcg} {a : Nat} {h0 : Hp_} {r r2 : Int32} {h h2 : Hp_} (c : Cnr b n g) (F : Fxq b n (f a) h0 r h) (e : ¬ r = 0) (G : Fxq b n (g (xa h)) h r2 h2) : Fxq b n (sqr f g a) h0 r2 h2 := by
  have k := F.ok e
  have e1 : sqr f g a = g (xa h) := by
    unfold sqr
    rw [if_pos k.1, ← k.2.1, c]
  rw [e1]
  rcases G with G | G
  · exact Or.inl ⟨G.1, G.2.1, G.2.2.1, G.2.2.2.trans k.2.2⟩
  · exact Or.inr G
theorem sqxn {b : Nat → Int32} {n : Nat} {f g : Rcg} {a : Nat} {h0 : Hp_} {r : Int32} {h : Hp_} (F : Fxq b n (f a) h0 r h) (e : r = 0) : Fxq b n (sqr f g a) h0 0 h := by
  have k := F.n e
  rcases k with k | k
  · exact absurd k.1 (by decide)
  · have e1 : sqr f g a = f a := by
      unfold sqr
      exact if_neg (by rw [k.2.1]; decide)
    rw [e1]
    exact Or.inr k
theorem Sx.z {b : Nat → Int32} {n : Nat} {T : Bool × Nat} {g : Rcg} {h0 : Hp_} {x : Int32} {h : Hp_} (F : Sx b n T g h0 x h) : x = 0 ∨ x = 1 := F.elim (fun y => Or.inr y.1) (fun y => Or.inl y.1)
theorem Sx.n {b : Nat → Int32} {n : Nat} {T : Bool × Nat} {g : Rcg} {h0 : Hp_} {x : Int32} {h : Hp_} (F : Sx b n T g h0 x h) (e : x = 0) : Fxq b n T h0 x h := by
  rcases F with F | F
  · rw [e] at F
    exact absurd F.1 (by decide)
  · exact Or.inr F
theorem Sx.ok {b : Nat → Int32} {n : Nat} {T : Bool × Nat} {g : Rcg} {h0 : Hp_} {x : Int32} {h : Hp_} (F : Sx b n T g h0 x h) (e : ¬ x = 0) : x = 1 ∧ T = g (xa h) ∧ h_i h 11 3 = h_i h0 11 3 := by
  rcases F with F | F
  · exact F
  · exact absurd F.1 e
theorem lx0 {b : Nat → Int32} {n : Nat} {T : Bool × Nat} {sp : Int32 → Bool} {f : Rcg} {h0 : Hp_} {x : Int32} {h : Hp_} (F : Sx b n T (lpr b n sp f 0) h0 x h) : Fxq b n T h0 x h := by
  rcases F with F | F
  · exact Or.inl ⟨F.1, by rw [F.2.1]; rfl, by rw [F.2.1]; rfl, F.2.2⟩
  · exact Or.inr F
theorem lxx {b : Nat → Int32} {n k : Nat} {T : Bool × Nat} {sp : Int32 → Bool} {f : Rcg} {h0 : Hp_} {x r : Int32} {h h5 : Hp_} (F : Sx b n T (lpr b n sp f (k + 1)) h0 x h) (w : ¬ x = 0) (L : Pk b n h r h5) (ns : sp r = false) : Fxq b n T h0 x h5 := by
  have q := F.ok w
  have e : lpr b n sp f (k + 1) (xa h) = (true, ska b n (xa h)) := by
    unfold lpr
    exact if_neg (by rw [← L.2.2.2, ns]; decide)
  rw [q.2.1, e]
  exact Or.inl ⟨q.1, rfl, by rw [L.i, L.2.2.1], by rw [(L.2.1.2 11 3 (by decide +kernel)).1]; exact q.2.2⟩
theorem lxs {b : Nat → Int32} {n k : Nat} {T : Bool × Nat} {sp : Int32 → Bool} {f : Rcg} {h0 : Hp_} {x r r9 : Int32} {h h6 h9 : Hp_} (F : Sx b n T (lpr b n sp f (k + 1)) h0 x h) (w : ¬ x = 0) (er : r = skv b n (xa h)) (ys : sp r = true) (e6 : h_i h6 11 3 = h_i h 11 3) (G : Fxq b n (f (ska b n (xa h) + 1)) h6 r9 h9) : Sx b n T (lpr b n sp f k) h0 r9 h9 := by
  have q := F.ok w
  have e : T = sqr (fun _ => f (ska b n (xa h) + 1)) (lpr b n sp f k) (xa h) := by
    rw [q.2.1]
    unfold sqr
    show (if sp (skv b n (xa h)) = true then (if (f (ska b n (xa h) + 1)).1 = true then lpr b n sp f k (f (ska b n (xa h) + 1)).2 else f (ska b n (xa h) + 1)) else (true, ska b n (xa h))) = _
    rw [if_pos (by rw [← er]; exact ys)]
  rw [e]
  refine sqx (f := fun _ => f (ska b n (xa h) + 1)) (lpr_c k) ?_
  rcases G with G | G
  · exact Or.inl ⟨G.1, G.2.1, G.2.2.1, (G.2.2.2.trans e6).trans q.2.2⟩
  · exact Or.inr G
theorem Sx.mv {b : Nat → Int32} {n : Nat} {T : Bool × Nat} {g : Rcg} {h0 : Hp_} {x : Int32} {h h' : Hp_} (F : Sx b n T g h0 x h) {ws : List Nat} (f : Fr ws h h') (o : (!inw ws 11 2 && !inw ws 11 3) = true) : Sx b n T g h0 x h' := by
  rw [Bool.and_eq_true, Bool.not_eq_true', Bool.not_eq_true'] at o
  have e2 : h_i h' 11 2 = h_i h 11 2 := (f.2 11 2 o.1).1
  have e3 : h_i h' 11 3 = h_i h 11 3 := (f.2 11 3 o.2).1
  unfold Sx xa
  rw [e2, e3]
  exact F
/-- one sign further, behind a look -/
theorem nxx {b : Nat → Int32} {n s : Nat} {h h5 : Hp_} {r : Int32} (I : Iv h) (t : Tx b n s h) (L : Pk b n h r h5) (nr : ¬ r = -1) : Iv (h_im h5 11 2 ((h_i h5 11 2) + 1)) ∧ Fr [11002] h (h_im h5 11 2 ((h_i h5 11 2) + 1)) ∧ xa (h_im h5 11 2 ((h_i h5 11 2) + 1)) = ska b n (xa h) + 1 := by
  have t1 : (1 : Int32).toInt = 1 := rfl
  have l : ska b n (xa h) < n := skv_l (by rw [← L.2.2.2]; exact nr)
  have ni := xn_i I
  rw [t.2.1] at ni
  have z1 := (x1_in I).2
  have ai := xa_i L.1
  have e := L.2.2.1
  have ex : (h_i h5 11 2 + 1).toInt = (h_i h5 11 2).toInt + 1 := tx_add (by rw [t1]; omega) (by rw [t1]; omega)
  have I6 := y2 L.1 (x := h_i h5 11 2 + 1) ⟨by omega, by omega⟩
  refine ⟨I6, L.2.1.im (by decide +kernel), ?_⟩
  have k := xa_i I6
  rw [im_at] at k
  omega
theorem c_fl (d : Nat) {h : Hp_} (I : Iv h) : Ci (m_X8_fail (d + 0) 0 0) [.ref 11] h (fun r h' => r = 0 ∧ Iv h' ∧ Fr [11003] h h' ∧ h_i h' 11 3 = Int32.ofNat (xa h)) :=
  t_X8_fail d h I.1 _ ⟨rfl, y3 I _, (Fr.rf _ _).im (by decide +kernel), by rw [im_at]; exact (of_nat32 (x2_in I).1).symm⟩
theorem c_ex (d : Nat) {b : Nat → Int32} {n s : Nat} {h : Hp_} (I : Iv h) (t : Tx b n s h) (x : Int32) (hx : ¬ x = -1) : Ci (m_X8_expect (d + 1) 0 0) [.ref 11, .int x] h (fun r h' => Xr b n (exr b n x (xa h)) h r h') := by
  refine t_X8_expect d h I.1 x _ (Ci.mono (c_pk d I t) (fun r h1 L => ⟨L.1.1, fun er => ?_, fun nr => ?_⟩))
  · obtain ⟨I6, F6, a6⟩ := nxx I t L (by rw [er]; exact hx)
    refine ⟨I6, F6.more (by decide +kernel), Or.inl ⟨rfl, ?_, ?_, ?_⟩⟩
    · unfold exr
      rw [if_pos (by rw [← L.2.2.2]; exact er)]
    · unfold exr
      rw [if_pos (by rw [← L.2.2.2]; exact er), a6]
    · exact (F6.2 11 3 (by decide +kernel)).1
  · refine Ci.mono (c_fl d L.1) (fun r2 h2 k => ⟨k.2.1.1, Or.inl k.1, k.2.1, (L.2.1.more (by decide +kernel)).tr (k.2.2.1.more (by decide +kernel)), Or.inr ⟨k.1, ?_, ?_⟩⟩)
    · unfold exr
      rw [if_neg (by rw [← L.2.2.2]; exact nr)]
    · unfold exr
      rw [if_neg (by rw [← L.2.2.2]; exact nr), k.2.2.2, L.2.2.1]
theorem c_dgx (d : Nat) (h : Hp_) (x : Int32) : Ci (m_X8_isDigit (d + 0) 0 0) [.int x] h (fun r h' => h' = h ∧ ((r = 1 ∧ dgb x = true) ∨ (r = 0 ∧ ¬ dgb x = true))) :=
  t_X8_isDigit d h x _ ⟨fun z => ⟨rfl, Or.inr ⟨rfl, fun y => ((dg_eq x).mp y).1 z⟩⟩, fun z => ⟨fun y => ⟨rfl, Or.inr ⟨rfl, fun u => ((dg_eq x).mp u).2 y⟩⟩, fun y => ⟨rfl, Or.inl ⟨rfl, (dg_eq x).mpr ⟨z, y⟩⟩⟩⟩⟩
/-- a number within bounds -/
def Nx (b : Nat → Int32) (n : Nat) (lo hi : Int32) (h : Hp_) (r : Int32) (h' : Hp_) : Prop := Iv h' ∧ Fr [11002, 11003] h h' ∧ (((nmr b n lo hi (xa h)).1 = true ∧ r = (nmr b n lo hi (xa h)).2.2 ∧ ska b n (xa h') = (nmr b n lo hi (xa h)).2.1 ∧ h_i h' 11 3 = h_i h 11 3) ∨ ((nmr b n lo hi (xa h)).1 = false ∧ r = -1 ∧ h_i h' 11 3 = Int32.ofNat (nmr b n lo hi (xa h)).2.1))
theorem c_rn (d : Nat) {b : Nat → Int32} {n s : Nat} {h : Hp_} (I : Iv h) (t : Tx b n s h) (lo hi : Int32) : Ci (m_X8_readNumber (d + 1) 0 0) [.ref 11, .int lo, .int hi] h (fun r h' => Nx b n lo hi h r h') := by
  have t1 : (1 : Int32).toInt = 1 := rfl
  have t4 : (4 : Int32).toInt = 4 := rfl
  have ni := xn_i I
  rw [t.2.1] at ni
  have z1 := (x1_in I).2
  have lp : dgb (skv b n (xa h)) = true → ∀ (k : Nat) (x3 x4 : Int32) (h2 : Hp_), x4.toInt + k = 4 ∧ k ≤ 4 → Iv h2 → Fr [11002, 11003] h h2 → h_i h2 11 3 = h_i h 11 3 → nml b n 4 0 (ska b n (xa h)) = nml b n k x3 (xa h2) → xa h2 + k = ska b n (xa h) + 4 → AW (m_X8_readNumber (d + 1) 0 0) 0 0 14 [(0, .ref 11), (1, .int lo), (2, .int hi), (3, .int x3), (4, .int x4), (5, .int 1)] [] h2 (kI (fun r h' => Nx b n lo hi h r h')) := by
    intro c0 k
    have l0 := dgb_l c0
    have fin : ∀ (k : Nat) (x3 : Int32) (h2 : Hp_), k ≤ 4 → Iv h2 → Fr [11002, 11003] h h2 → h_i h2 11 3 = h_i h 11 3 → nml b n 4 0 (ska b n (xa h)) = nml b n k x3 (xa h2) → xa h2 + k = ska b n (xa h) + 4 → ¬ (xa h2 < n ∧ dgb (b (xa h2)) = true) → ((lo ≤ x3 ∧ x3 ≤ hi) → Nx b n lo hi h x3 h2) ∧ (¬ (lo ≤ x3 ∧ x3 ≤ hi) → Nx b n lo hi h (-1) (h_im h2 11 3 ((h_i h2 11 2) - 1))) := fun k x3 h2 hk I2 F2 e3 e ek nn => by
      have e2 : nml b n k x3 (xa h2) = (true, xa h2, x3) := by
        cases k with
        | zero =>
          unfold nml
          exact if_neg nn
        | succ k =>
          unfold nml
          exact if_neg nn
      rw [e2] at e
      have k4 : ¬ k = 4 := fun y => by
        have : xa h2 = ska b n (xa h) := by omega
        rw [this] at nn
        exact nn l0
      refine ⟨fun c => ⟨I2, F2, Or.inl ?_⟩, fun c => ⟨y3 I2 _, F2.im (by decide +kernel), Or.inr ?_⟩⟩
      · unfold nmr
        rw [if_pos c0, e, if_pos rfl, if_pos c]
        exact ⟨rfl, rfl, rfl, e3⟩
      · unfold nmr
        rw [if_pos c0, e, if_pos rfl, if_neg c]
        refine ⟨rfl, rfl, ?_⟩
        rw [im_at]
        have ai := xa_i I2
        have b2 := x2_in I2
        refine Int32.toInt_inj.mp ?_
        rw [tx_sub (by rw [t1]; omega) (by rw [t1]; omega), t1, on_j (by show xa h2 - 1 ≤ _; omega)]
        show (h_i h2 11 2).toInt - 1 = ((xa h2 - 1 : Nat) : Int)
        omega
    induction k with
    | zero =>
      intro x3 x4 h2 hk I2 F2 e3 e ek
      have ez : h_i h2 11 1 = h_i h 11 1 := (F2.2 11 1 (by decide +kernel)).1
      have et : h_i h2 31 = b := (t.fr F2 (by decide +kernel)).1
      have ai := xa_i I2
      have p0 := (x2_in I2).1
      have e4 : x4 = 4 := Int32.toInt_inj.mp (by rw [t4]; omega)
      refine t_X8_readNumber_14 d h2 I2.1 lo hi x3 x4 1 _ ⟨fun y => absurd y (by decide), fun _ => ⟨fun z => ⟨fun _ => ?_, fun y => absurd y (by decide)⟩, fun z => ?_⟩⟩
      · refine fin 0 x3 h2 (by decide) I2 F2 e3 e ek (fun y => ?_)
        rw [ez] at z
        have z := q_le.mp z
        have := y.1
        omega
      · rw [ez] at z
        have z := q_nle z
        have v : vp_in (h_i h2 11 2) 160 := dp_in (lo := 0) (hi := 159) ⟨p0, by show _ ≤ (159 : Int); omega⟩ (by decide) (by decide)
        refine ⟨v, Ci.mono (c_dgx d h2 _) (fun r h3 q => ?_)⟩
        obtain ⟨eh, q⟩ := q
        subst eh
        refine ⟨I2.1, fun r0 => ⟨fun _ => ?_, fun y => absurd y (by decide)⟩, fun r1 => ⟨fun n4 => absurd e4 n4, fun _ => ?_⟩⟩
        · refine fin 0 x3 h3 (by decide) I2 F2 e3 e ek (fun y => ?_)
          rcases q with q | q
          · rw [r0] at q
            exact absurd q.1 (by decide)
          · rw [et] at q
            exact q.2 y.2
        · have dg : xa h3 < n ∧ dgb (b (xa h3)) = true := by
            refine ⟨by omega, ?_⟩
            rcases q with q | q
            · rw [← et]
              exact q.2
            · exact absurd q.1 r1
          have e2 : nml b n 0 x3 (xa h3) = (false, xa h3, x3) := by
            unfold nml
            exact if_pos dg
          rw [e2] at e
          refine ⟨y3 I2 _, F2.im (by decide +kernel), Or.inr ?_⟩
          unfold nmr
          rw [if_pos c0, e, if_neg (by simp)]
          exact ⟨rfl, rfl, by rw [im_at]; exact (of_nat32 p0).symm⟩
    | succ k ih =>
      intro x3 x4 h2 hk I2 F2 e3 e ek
      have ez : h_i h2 11 1 = h_i h 11 1 := (F2.2 11 1 (by decide +kernel)).1
      have et : h_i h2 31 = b := (t.fr F2 (by decide +kernel)).1
      have ai := xa_i I2
      have p0 := (x2_in I2).1
      refine t_X8_readNumber_14 d h2 I2.1 lo hi x3 x4 1 _ ⟨fun y => absurd y (by decide), fun _ => ⟨fun z => ⟨fun _ => ?_, fun y => absurd y (by decide)⟩, fun z => ?_⟩⟩
      · refine fin (k + 1) x3 h2 hk.2 I2 F2 e3 e ek (fun y => ?_)
        rw [ez] at z
        have z := q_le.mp z
        have := y.1
        omega
      · rw [ez] at z
        have z := q_nle z
        have v : vp_in (h_i h2 11 2) 160 := dp_in (lo := 0) (hi := 159) ⟨p0, by show _ ≤ (159 : Int); omega⟩ (by decide) (by decide)
        refine ⟨v, Ci.mono (c_dgx d h2 _) (fun r h3 q => ?_)⟩
        obtain ⟨eh, q⟩ := q
        subst eh
        refine ⟨I2.1, fun r0 => ⟨fun _ => ?_, fun y => absurd y (by decide)⟩, fun r1 => ⟨fun n4 => ⟨v, ?_⟩, fun y4 => ?_⟩⟩
        · refine fin (k + 1) x3 h3 hk.2 I2 F2 e3 e ek (fun y => ?_)
          rcases q with q | q
          · rw [r0] at q
            exact absurd q.1 (by decide)
          · rw [et] at q
            exact q.2 y.2
        · have dg : xa h3 < n ∧ dgb (b (xa h3)) = true := by
            refine ⟨by omega, ?_⟩
            rcases q with q | q
            · rw [← et]
              exact q.2
            · exact absurd q.1 r1
          have ex : (h_i h3 11 2 + 1).toInt = (h_i h3 11 2).toInt + 1 := tx_add (by rw [t1]; omega) (by rw [t1]; omega)
          have I3 := y2 I2 (x := h_i h3 11 2 + 1) ⟨by omega, by omega⟩
          have a3 : xa (h_im h3 11 2 (h_i h3 11 2 + 1)) = xa h3 + 1 := by
            have kk := xa_i I3
            rw [im_at] at kk
            omega
          have ex4 : (x4 + 1).toInt = x4.toInt + 1 := tx_add (by rw [t1]; omega) (by rw [t1]; omega)
          refine ih _ _ _ ⟨by omega, by omega⟩ I3 (F2.im (by decide +kernel)) (by rw [g_ne (by decide)]; exact e3) ?_ (by omega)
          rw [e, a3, et]
          show (if xa h3 < n ∧ dgb (b (xa h3)) = true then nml b n k (((x3 * 10) + b (xa h3)) - 48) (xa h3 + 1) else (true, xa h3, x3)) = _
          rw [if_pos dg]
        · rw [y4, t4] at hk
          omega
  refine t_X8_readNumber d h I.1 lo hi _ (Ci.mono (c_pk d I t) (fun r h1 L => ⟨L.1.1, Ci.mono (c_dgx d h1 r) (fun r6 h4 q => ?_)⟩))
  obtain ⟨eh, q⟩ := q
  subst eh
  have F1 : Fr [11002, 11003] h h4 := L.2.1.more (by decide +kernel)
  have e3 : h_i h4 11 3 = h_i h 11 3 := (L.2.1.2 11 3 (by decide +kernel)).1
  refine ⟨L.1.1, ?_⟩
  rcases q with q | q
  · rw [q.1]
    exact lp (by rw [← L.2.2.2]; exact q.2) 4 0 0 h4 ⟨by decide, by decide⟩ L.1 F1 e3 (by rw [L.2.2.1]) (by rw [L.2.2.1])
  · rw [q.1]
    have nd : ¬ dgb (skv b n (xa h)) = true := by rw [← L.2.2.2]; exact q.2
    refine t_X8_readNumber_14 d h4 L.1.1 lo hi 0 0 0 _ ⟨fun _ => ⟨fun y => absurd rfl y, fun _ => ⟨y3 L.1 _, F1.im (by decide +kernel), Or.inr ?_⟩⟩, fun y => absurd rfl y⟩
    unfold nmr
    rw [if_neg nd]
    refine ⟨rfl, rfl, ?_⟩
    rw [im_at]
    show _ = Int32.ofNat (ska b n (xa h))
    rw [← L.2.2.1]
    exact (of_nat32 (x2_in L.1).1).symm
/-! the class: letters looked up in a text -/
def ixl (c : Int32) : List Int32 → Nat → Int32
  | [], _ => -1
  | y :: ys, k => if y = c then Int32.ofNat k else ixl c ys (k + 1)
def ixq (i : Nat) (c : Int32) : Int32 := if ¬ c < 0 ∧ ¬ 255 < c then ixl (c.toInt8.toInt32) (tby i) 0 else -1
theorem tb_all : (List.range 4).all (fun i => (List.range 9).all (fun k => decide (k < tln i → (tby i).drop k = (tby i).getD k 0 :: (tby i).drop (k + 1)))) = true := by decide +kernel
theorem tb_e : (List.range 4).all (fun i => decide ((tby i).drop (tln i) = [] ∧ (Int32.ofNat (tln i) >>> ((0 : Int32) &&& 31)) = Int32.ofNat (tln i) ∧ (¬ (0 : Int32) < Int32.ofNat (tln i) → tby i = []))) = true := by decide +kernel
theorem tb_d {i k : Nat} (hi : i < 4) (hk : k < tln i) : (tby i).drop k = (tby i).getD k 0 :: (tby i).drop (k + 1) := by
  have l := tln_le hi
  exact of_decide_eq_true (List.all_eq_true.mp (List.all_eq_true.mp tb_all i (List.mem_range.mpr hi)) k (List.mem_range.mpr (by omega))) hk
theorem tb_q {i : Nat} (hi : i < 4) : (tby i).drop (tln i) = [] ∧ (Int32.ofNat (tln i) >>> ((0 : Int32) &&& 31)) = Int32.ofNat (tln i) ∧ (¬ (0 : Int32) < Int32.ofNat (tln i) → tby i = []) :=
  of_decide_eq_true (List.all_eq_true.mp tb_e i (List.mem_range.mpr hi))
theorem l_ixf (d i : Nat) (hi : i < 4) (h : Hp_) (c f b : Int32) : ∀ (N k : Nat), k + N = tln i →
    AW (m_J1_indexOfChar_4cfef (d + 0) 0 0) 0 0 7 [(0, .ref (2000 + i)), (1, .int c), (2, .int f), (3, .int (Int32.ofNat (tln i))), (4, .int b), (5, .int (Int32.ofNat k))] [] h (kI (fun r h' => r = ixl b ((tby i).drop k) k ∧ h' = h)) := by
  have l9 := tln_le hi
  have en : (Int32.ofNat (tln i)).toInt = (tln i : Int) := Int32.toInt_ofNat_of_lt (by omega)
  intro N
  induction N with
  | zero =>
    intro k e
    have ek : (Int32.ofNat k).toInt = (k : Int) := Int32.toInt_ofNat_of_lt (by omega)
    refine aw_iload d_J1_indexOfChar_4cfef_7 5 rfl ?_
    refine aw_iload_n (i := 3) rfl d_J1_indexOfChar_4cfef_9 3 rfl ?_
    refine aw_icmp_ge (tgt := 31) d_J1_indexOfChar_4cfef_10 rfl (fun _ => ?_) (fun z => ?_)
    · refine aw_iconst (v := -1) d_J1_indexOfChar_4cfef_31 ic_m1 ?_
      refine aw_iret rfl d_J1_indexOfChar_4cfef_32 ⟨Nat.le_refl _, Nat.le_refl _⟩ ⟨_, rfl, ?_, rfl⟩
      rw [show k = tln i by omega, (tb_q hi).1]
      rfl
    · have z := q_nle z
      omega
  | succ N ih =>
    intro k e
    have ek : (Int32.ofNat k).toInt = (k : Int) := Int32.toInt_ofNat_of_lt (by omega)
    have nk : (Int32.ofNat k).toNatClampNeg = k := by have := n_nat (x := Int32.ofNat k) (by omega); omega
    refine aw_iload d_J1_indexOfChar_4cfef_7 5 rfl ?_
    refine aw_iload_n (i := 3) rfl d_J1_indexOfChar_4cfef_9 3 rfl ?_
    refine aw_icmp_ge (tgt := 31) d_J1_indexOfChar_4cfef_10 rfl (fun z => ?_) (fun z => ?_)
    · have z := q_le.mp z
      omega
    · refine aw_aload_n (i := 0) rfl d_J1_indexOfChar_4cfef_13 0 rfl ?_
      refine aw_iload d_J1_indexOfChar_4cfef_14 5 rfl ?_
      refine aw_tb hi (vp_tln (by omega) (by omega)) d_J1_indexOfChar_4cfef_16 ?_
      rw [nk]
      refine aw_iload d_J1_indexOfChar_4cfef_17 4 rfl ?_
      refine aw_icmp_ne (tgt := 25) d_J1_indexOfChar_4cfef_19 rfl (fun ne => ?_) (fun eq => ?_)
      · have e1 : Int32.ofNat k + 1 = Int32.ofNat (k + 1) := by
          refine Int32.toInt_inj.mp ?_
          have o1 : (1 : Int32).toInt = 1 := rfl
          rw [tx_add (by rw [o1]; omega) (by rw [o1]; omega), o1, ek, Int32.toInt_ofNat_of_lt (by omega)]
          omega
        refine aw_iinc (v := Int32.ofNat k + 1) [(0, .ref (2000 + i)), (1, .int c), (2, .int f), (3, .int (Int32.ofNat (tln i))), (4, .int b), (5, .int (Int32.ofNat k + 1))] d_J1_indexOfChar_4cfef_25 5 rfl rfl (Nat.le_of_ble_eq_true rfl) rfl rfl ?_
        refine aw_goto (tgt := 7) d_J1_indexOfChar_4cfef_28 rfl ?_
        rw [e1, tb_d hi (show k < tln i by omega)]
        have ee : ixl b ((tby i).getD k 0 :: (tby i).drop (k + 1)) k = ixl b ((tby i).drop (k + 1)) (k + 1) := by
          show (if (tby i).getD k 0 = b then Int32.ofNat k else ixl b ((tby i).drop (k + 1)) (k + 1)) = _
          exact if_neg ne
        rw [ee]
        exact ih (k + 1) (by omega)
      · refine aw_iload d_J1_indexOfChar_4cfef_22 5 rfl ?_
        refine aw_iret rfl d_J1_indexOfChar_4cfef_24 ⟨Nat.le_refl _, Nat.le_refl _⟩ ⟨_, rfl, ?_, rfl⟩
        rw [tb_d hi (show k < tln i by omega)]
        show Int32.ofNat k = if (tby i).getD k 0 = b then Int32.ofNat k else ixl b ((tby i).drop (k + 1)) (k + 1)
        exact (if_pos eq).symm
theorem c_ixCf (d i : Nat) (hi : i < 4) (h : Hp_) (c : Int32) : Ci (m_J1_indexOfChar_4cfef (d + 0) 0 0) [.ref (2000 + i), .int c, .int 0, .int (Int32.ofNat (tln i))] h (fun r h' => r = ixl (c.toInt8.toInt32) (tby i) 0 ∧ h' = h) := by
  refine Ct.of (fun _ _ _ => trivial) rfl (Nat.le_of_ble_eq_true rfl) ?_
  show AW (m_J1_indexOfChar_4cfef (d + 0) 0 0) 0 0 0 [(0, .ref (2000 + i)), (1, .int c), (2, .int 0), (3, .int (Int32.ofNat (tln i)))] [] h (kI _)
  refine aw_iload_n (i := 1) rfl d_J1_indexOfChar_4cfef_0 1 rfl ?_
  refine aw_i2b d_J1_indexOfChar_4cfef_1 ?_
  refine aw_istore (i := 4) [(0, .ref (2000 + i)), (1, .int c), (2, .int 0), (3, .int (Int32.ofNat (tln i))), (4, .int (c.toInt8.toInt32))] d_J1_indexOfChar_4cfef_2 (Nat.le_of_ble_eq_true rfl) rfl rfl ?_
  refine aw_iload_n (i := 2) rfl d_J1_indexOfChar_4cfef_4 2 rfl ?_
  refine aw_istore (i := 5) [(0, .ref (2000 + i)), (1, .int c), (2, .int 0), (3, .int (Int32.ofNat (tln i))), (4, .int (c.toInt8.toInt32)), (5, .int 0)] d_J1_indexOfChar_4cfef_5 (Nat.le_of_ble_eq_true rfl) rfl rfl ?_
  exact l_ixf d i hi h c 0 _ (tln i) 0 (by omega)
theorem c_lenf (d i : Nat) (hi : i < 4) (h : Hp_) : Ci (m_J0_length_8abf5 (d + 1) 0 0) [.ref (1000 + i)] h (fun r h' => r = Int32.ofNat (tln i) ∧ h' = h) := by
  refine Ct.of (fun _ _ _ => trivial) rfl (Nat.le_of_ble_eq_true rfl) ?_
  show AW (m_J0_length_8abf5 (d + 1) 0 0) 0 0 0 [(0, .ref (1000 + i))] [] h (kI _)
  refine aw_aload_n (i := 0) rfl d_J0_length_8abf5_0 0 rfl ?_
  refine aw_tval hi tw_2711 d_J0_length_8abf5_1 ?_
  refine aw_tlen hi d_J0_length_8abf5_4 ?_
  refine aw_aload_n (i := 0) rfl d_J0_length_8abf5_5 0 rfl ?_
  refine aw_Ti [] [.int (Int32.ofNat (tln i))] hi d_J0_length_8abf5_6 rfl (cV_J0_coder_7d493 (d + 0) 0 0) tw_778 rfl (rr0 (Nat.le_of_ble_eq_true rfl) (Nat.le_of_ble_eq_true rfl)) (Nat.le_of_ble_eq_true rfl) xs0 (c_coder d i hi h) (fun r h1 kk => ?_)
  obtain ⟨e0, e⟩ := kk
  rw [e, e0]
  refine aw_ishr d_J0_length_8abf5_9 ?_
  exact aw_iret rfl d_J0_length_8abf5_10 ⟨Nat.le_refl _, Nat.le_refl _⟩ ⟨_, rfl, (tb_q hi).2.1, rfl⟩
theorem c_canf (d : Nat) (x : Int32) (h : Hp_) : Ci (m_J1_canEncode_9a6ad (d + 0) 0 0) [.int x] h (fun r h' => h' = h ∧ ((r = 1 ∧ (¬ x < 0 ∧ ¬ 255 < x)) ∨ (r = 0 ∧ ¬ (¬ x < 0 ∧ ¬ 255 < x)))) := by
  refine Ct.of (fun _ _ _ => trivial) rfl (Nat.le_of_ble_eq_true rfl) ?_
  show AW (m_J1_canEncode_9a6ad (d + 0) 0 0) 0 0 0 [(0, .int x)] [] h (kI _)
  have z : ¬ (¬ x < 0 ∧ ¬ 255 < x) → AW (m_J1_canEncode_9a6ad (d + 0) 0 0) 0 0 15 [(0, .int x)] [] h (kI (fun r h' => h' = h ∧ ((r = 1 ∧ (¬ x < 0 ∧ ¬ 255 < x)) ∨ (r = 0 ∧ ¬ (¬ x < 0 ∧ ¬ 255 < x))))) := fun n => by
    refine aw_iconst (v := 0) d_J1_canEncode_9a6ad_15 ic_0 ?_
    exact aw_zret rfl rfl d_J1_canEncode_9a6ad_16 ⟨Nat.le_refl _, Nat.le_refl _⟩ ⟨_, rfl, rfl, Or.inr ⟨rfl, n⟩⟩
  refine aw_iload_n (i := 0) rfl d_J1_canEncode_9a6ad_0 0 rfl ?_
  refine aw_if_lt (tgt := 15) d_J1_canEncode_9a6ad_1 rfl (fun c => z (fun y => y.1 c)) (fun c1 => ?_)
  refine aw_iload_n (i := 0) rfl d_J1_canEncode_9a6ad_4 0 rfl ?_
  refine aw_sipush (v := 255) d_J1_canEncode_9a6ad_5 (by decide) ?_
  refine aw_icmp_gt (tgt := 15) d_J1_canEncode_9a6ad_8 rfl (fun c => z (fun y => y.2 c)) (fun c2 => ?_)
  refine aw_iconst (v := 1) d_J1_canEncode_9a6ad_11 ic_1 ?_
  refine aw_goto (tgt := 16) d_J1_canEncode_9a6ad_12 rfl ?_
  exact aw_zret rfl rfl d_J1_canEncode_9a6ad_16 ⟨Nat.le_refl _, Nat.le_refl _⟩ ⟨_, rfl, rfl, Or.inl ⟨rfl, c1, c2⟩⟩
theorem c_ixLf (d i : Nat) (hi : i < 4) (h : Hp_) (c : Int32) : Ci (m_J1_indexOf_4cfef (d + 1) 0 0) [.ref (2000 + i), .int c, .int 0, .int (Int32.ofNat (tln i))] h (fun r h' => r = ixq i c ∧ h' = h) := by
  refine Ct.of (fun _ _ _ => trivial) rfl (Nat.le_of_ble_eq_true rfl) ?_
  show AW (m_J1_indexOf_4cfef (d + 1) 0 0) 0 0 0 [(0, .ref (2000 + i)), (1, .int c), (2, .int 0), (3, .int (Int32.ofNat (tln i)))] [] h (kI _)
  refine aw_iload_n (i := 1) rfl d_J1_indexOf_4cfef_0 1 rfl ?_
  refine aw_Si [.int c] [] d_J1_indexOf_4cfef_1 (cS_J1_canEncode_9a6ad (d + 0) 0 0) tw_785 rfl (rr0 (Nat.le_of_ble_eq_true rfl) (Nat.le_of_ble_eq_true rfl)) (Nat.le_of_ble_eq_true rfl) xs0 (c_canf d c h) (fun r h1 kk => ?_)
  obtain ⟨eh, kk⟩ := kk
  rw [eh]
  refine aw_if_ne (tgt := 9) d_J1_indexOf_4cfef_4 rfl (fun nr => ?_) (fun yr => ?_)
  · have cc : ¬ c < 0 ∧ ¬ 255 < c := by
      rcases kk with q | q
      · exact q.2
      · exact absurd q.1 nr
    have eq : ixq i c = ixl (c.toInt8.toInt32) (tby i) 0 := by
      unfold ixq
      exact if_pos cc
    rw [eq]
    refine aw_iload_n (i := 2) rfl d_J1_indexOf_4cfef_9 2 rfl ?_
    refine aw_iconst (v := 0) d_J1_indexOf_4cfef_10 ic_0 ?_
    refine aw_mmax d_J1_indexOf_4cfef_11 tw_788 (show 1 ≤ (d + 1) by omega) (Nat.le_trans (Nat.le_of_ble_eq_true rfl) (show 100 ≤ 100 * (d + 1) by omega)) ⟨Nat.le_refl _, Nat.le_refl _⟩ ?_
    rw [ite_self]
    refine aw_istore_n (i := 2) rfl [(0, .ref (2000 + i)), (1, .int c), (2, .int 0), (3, .int (Int32.ofNat (tln i)))] d_J1_indexOf_4cfef_14 (Nat.le_of_ble_eq_true rfl) rfl rfl ?_
    refine aw_iload_n (i := 3) rfl d_J1_indexOf_4cfef_15 3 rfl ?_
    refine aw_aload_n (i := 0) rfl d_J1_indexOf_4cfef_16 0 rfl ?_
    refine aw_tlen hi d_J1_indexOf_4cfef_17 ?_
    refine aw_mmin d_J1_indexOf_4cfef_18 tw_791 (show 1 ≤ (d + 1) by omega) (Nat.le_trans (Nat.le_of_ble_eq_true rfl) (show 100 ≤ 100 * (d + 1) by omega)) ⟨Nat.le_refl _, Nat.le_refl _⟩ ?_
    rw [ite_self]
    refine aw_istore_n (i := 3) rfl [(0, .ref (2000 + i)), (1, .int c), (2, .int 0), (3, .int (Int32.ofNat (tln i)))] d_J1_indexOf_4cfef_21 (Nat.le_of_ble_eq_true rfl) rfl rfl ?_
    refine aw_iload_n (i := 2) rfl d_J1_indexOf_4cfef_22 2 rfl ?_
    refine aw_iload_n (i := 3) rfl d_J1_indexOf_4cfef_23 3 rfl ?_
    refine aw_icmp_lt (tgt := 29) d_J1_indexOf_4cfef_24 rfl (fun _ => ?_) (fun nl => ?_)
    · refine aw_aload_n (i := 0) rfl d_J1_indexOf_4cfef_29 0 rfl ?_
      refine aw_iload_n (i := 1) rfl d_J1_indexOf_4cfef_30 1 rfl ?_
      refine aw_iload_n (i := 2) rfl d_J1_indexOf_4cfef_31 2 rfl ?_
      refine aw_iload_n (i := 3) rfl d_J1_indexOf_4cfef_32 3 rfl ?_
      refine aw_Si [.ref (2000 + i), .int c, .int 0, .int (Int32.ofNat (tln i))] [] d_J1_indexOf_4cfef_33 (cS_J1_indexOfChar_4cfef (d + 0) 0 0) tw_792 rfl (rr0 (Nat.le_of_ble_eq_true rfl) (Nat.le_of_ble_eq_true rfl)) (Nat.le_of_ble_eq_true rfl) xs0 (c_ixCf d i hi h c) (fun r h1 kk => ?_)
      exact aw_iret rfl d_J1_indexOf_4cfef_36 ⟨Nat.le_refl _, Nat.le_refl _⟩ ⟨_, rfl, kk⟩
    · refine aw_iconst (v := -1) d_J1_indexOf_4cfef_27 ic_m1 ?_
      refine aw_iret rfl d_J1_indexOf_4cfef_28 ⟨Nat.le_refl _, Nat.le_refl _⟩ ⟨_, rfl, ?_, rfl⟩
      rw [(tb_q hi).2.2 nl]
      rfl
  · refine aw_iconst (v := -1) d_J1_indexOf_4cfef_7 ic_m1 ?_
    refine aw_iret rfl d_J1_indexOf_4cfef_8 ⟨Nat.le_refl _, Nat.le_refl _⟩ ⟨_, rfl, ?_, rfl⟩
    unfold ixq
    rcases kk with q | q
    · rw [yr] at q
      exact absurd q.1 (by decide)
    · exact (if_neg q.2).symm
theorem c_ix2f (d i : Nat) (hi : i < 4) (h : Hp_) (c : Int32) : Ci (m_J0_indexOf_7cf53 (d + 2) 0 0) [.ref (1000 + i), .int c, .int 0] h (fun r h' => r = ixq i c ∧ h' = h) := by
  refine Ct.of (fun _ _ _ => trivial) rfl (Nat.le_of_ble_eq_true rfl) ?_
  show AW (m_J0_indexOf_7cf53 (d + 2) 0 0) 0 0 0 [(0, .ref (1000 + i)), (1, .int c), (2, .int 0)] [] h (kI _)
  refine aw_aload_n (i := 0) rfl d_J0_indexOf_7cf53_0 0 rfl ?_
  refine aw_Ti [] [] hi d_J0_indexOf_7cf53_1 rfl (cV_J0_isLatin1_aae02 (d + 0) 0 0) tw_768 rfl (rr0 (Nat.le_of_ble_eq_true rfl) (Nat.le_of_ble_eq_true rfl)) (Nat.le_of_ble_eq_true rfl) xs0 (c_isLatin1 d i hi h) (fun r h1 kk => ?_)
  obtain ⟨e1, e2⟩ := kk
  rw [e2, e1]
  refine aw_if_eq (tgt := 23) d_J0_indexOf_7cf53_4 rfl (fun c => absurd c (by decide)) (fun _ => ?_)
  refine aw_aload_n (i := 0) rfl d_J0_indexOf_7cf53_7 0 rfl ?_
  refine aw_tval hi tw_2711 d_J0_indexOf_7cf53_8 ?_
  refine aw_iload_n (i := 1) rfl d_J0_indexOf_7cf53_11 1 rfl ?_
  refine aw_iload_n (i := 2) rfl d_J0_indexOf_7cf53_12 2 rfl ?_
  refine aw_aload_n (i := 0) rfl d_J0_indexOf_7cf53_13 0 rfl ?_
  refine aw_Ti [] [.int 0, .int c, .ref (2000 + i)] hi d_J0_indexOf_7cf53_14 rfl (cV_J0_length_8abf5 (d + 1) 0 0) tw_774 rfl (rr0 (Nat.le_of_ble_eq_true rfl) (Nat.le_of_ble_eq_true rfl)) (Nat.le_of_ble_eq_true rfl) xs0 (c_lenf d i hi h) (fun t h1 kk => ?_)
  obtain ⟨e3, e4⟩ := kk
  rw [e4, e3]
  refine aw_Si [.ref (2000 + i), .int c, .int 0, .int (Int32.ofNat (tln i))] [] d_J0_indexOf_7cf53_17 (cS_J1_indexOf_4cfef (d + 1) 0 0) tw_782 rfl (rr0 (Nat.le_of_ble_eq_true rfl) (Nat.le_of_ble_eq_true rfl)) (Nat.le_of_ble_eq_true rfl) xs0 (c_ixLf d i hi h c) (fun r h1 kk => ?_)
  refine aw_goto (tgt := 36) d_J0_indexOf_7cf53_20 rfl ?_
  exact aw_iret rfl d_J0_indexOf_7cf53_36 ⟨Nat.le_refl _, Nat.le_refl _⟩ ⟨_, rfl, kk⟩
theorem c_ix1f (d i : Nat) (hi : i < 4) (h : Hp_) (c : Int32) : Ci (m_J0_indexOf_0f7a4 (d + 3) 0 0) [.ref (1000 + i), .int c] h (fun r h' => r = ixq i c ∧ h' = h) := by
  refine Ct.of (fun _ _ _ => trivial) rfl (Nat.le_of_ble_eq_true rfl) ?_
  show AW (m_J0_indexOf_0f7a4 (d + 3) 0 0) 0 0 0 [(0, .ref (1000 + i)), (1, .int c)] [] h (kI _)
  refine aw_aload_n (i := 0) rfl d_J0_indexOf_0f7a4_0 0 rfl ?_
  refine aw_iload_n (i := 1) rfl d_J0_indexOf_0f7a4_1 1 rfl ?_
  refine aw_iconst (v := 0) d_J0_indexOf_0f7a4_2 ic_0 ?_
  refine aw_Ti [.int c, .int 0] [] hi d_J0_indexOf_0f7a4_3 rfl (cV_J0_indexOf_7cf53 (d + 2) 0 0) tw_764 rfl (rr0 (Nat.le_of_ble_eq_true rfl) (Nat.le_of_ble_eq_true rfl)) (Nat.le_of_ble_eq_true rfl) xs0 (c_ix2f d i hi h c) (fun r h1 kk => ?_)
  exact aw_iret rfl d_J0_indexOf_0f7a4_6 ⟨Nat.le_refl _, Nat.le_refl _⟩ ⟨_, rfl, kk⟩
/-- a sign of the tape -/
def xch (x : Int32) : Int32 := ((x : Int32).toUInt32 % 65536).toInt32
theorem ix_all : (List.range 256).all (fun j => decide (((0 ≤ ixq 1 (xch (Int32.ofNat j))) ↔ ltb 1 (Int32.ofNat j) = true) ∧ ((0 ≤ ixq 2 (xch (Int32.ofNat j))) ↔ ltb 2 (Int32.ofNat j) = true) ∧ ((0 ≤ ixq 3 (xch (Int32.ofNat j))) ↔ vdb (Int32.ofNat j) = true))) = true := by decide +kernel
theorem ix_bnd : (List.range 256).all (fun j => (List.range 4).all (fun i => decide (-1 ≤ (ixq i (xch (Int32.ofNat j))).toInt ∧ (ixq i (xch (Int32.ofNat j))).toInt ≤ 8))) = true := by decide +kernel
theorem ix_let {x : Int32} (b : 0 ≤ x.toInt ∧ x.toInt ≤ 255) : ((0 ≤ ixq 1 (xch x)) ↔ ltb 1 x = true) ∧ ((0 ≤ ixq 2 (xch x)) ↔ ltb 2 x = true) ∧ ((0 ≤ ixq 3 (xch x)) ↔ vdb x = true) := by
  have e := of_nat32 b.1
  have k := n_nat b.1
  rw [← e]
  exact of_decide_eq_true (List.all_eq_true.mp ix_all _ (List.mem_range.mpr (by omega)))
theorem ix_rng {x : Int32} (b : 0 ≤ x.toInt ∧ x.toInt ≤ 255) {i : Nat} (hi : i < 4) : -1 ≤ (ixq i (xch x)).toInt ∧ (ixq i (xch x)).toInt ≤ 8 := by
  have e := of_nat32 b.1
  have k := n_nat b.1
  rw [← e]
  exact of_decide_eq_true (List.all_eq_true.mp (List.all_eq_true.mp ix_bnd _ (List.mem_range.mpr (by omega))) i (List.mem_range.mpr hi))
theorem b31_in {h : Hp_} (I : Iv h) (k : Nat) : 0 ≤ (h_i h 31 k).toInt ∧ (h_i h 31 k).toInt ≤ 255 := by
  have rg := I.2.1 31 k
  rw [show tf 31 k = (0, 255) from rfl] at rg
  exact ⟨rg.1, rg.2⟩
theorem Pk.in {b : Nat → Int32} {n s : Nat} {h h' : Hp_} {r : Int32} (L : Pk b n h r h') (I : Iv h) (t : Tx b n s h) (nr : ¬ r = -1) : 0 ≤ r.toInt ∧ r.toInt ≤ 255 := by
  rw [L.2.2.2] at nr ⊢
  have l := skv_l nr
  unfold skv
  rw [if_pos l, ← t.1]
  exact b31_in I _
theorem Pk.tr {b : Nat → Int32} {n : Nat} {h h1 h2 : Hp_} {r r' : Int32} (L : Pk b n h r h1) (M : Pk b n h1 r' h2) : Pk b n h r h2 ∧ r' = r := by
  refine ⟨⟨M.1, L.2.1.tr M.2.1, by rw [M.2.2.1, L.2.2.1, ska_i], L.2.2.2⟩, ?_⟩
  rw [M.2.2.2, L.2.2.1, skv_i]
  exact L.2.2.2.symm
theorem c_em (d : Nat) {h : Hp_} (I : Iv h) (x1 x2 : Int32) (b1 : 0 ≤ x1.toInt ∧ x1.toInt ≤ 12) (b2 : -1 ≤ x2.toInt ∧ x2.toInt ≤ 9999) : Ci (m_X8_emit (d + 1) 0 0) [.ref 11, .int x1, .int x2] h (fun r h' => Iv h' ∧ Fr [11009, 33999] h h' ∧ -1 ≤ r.toInt ∧ r.toInt ≤ 163) := by
  refine Ct.mono (hc_X8_emit d [.int x2, .int x1, .ref 11] h ⟨⟨x2, rfl, ⟨b2.1, b2.2⟩, fun _ z => (nomatch z)⟩, ⟨x1, rfl, ⟨b1.1, b1.2⟩, fun _ z => (nomatch z)⟩, rfl, trivial⟩ I (fun _ z => (nomatch z))) (fun v h' k => ?_)
  obtain ⟨k1, k2, _, w, ew, r, er, rb, _⟩ := k
  subst er
  exact ⟨r, ew, k1, k2, rb.1, rb.2⟩
theorem Fxq.b {b : Nat → Int32} {n : Nat} {T : Bool × Nat} {h0 h1 : Hp_} {r : Int32} {h : Hp_} (F : Fxq b n T h0 r h) (e : h_i h0 11 3 = h_i h1 11 3) : Fxq b n T h1 r h := by
  rcases F with F | F
  · exact Or.inl ⟨F.1, F.2.1, F.2.2.1, F.2.2.2.trans e⟩
  · exact Or.inr F
theorem nmr_b {b : Nat → Int32} {n a : Nat} {lo hi : Int32} (h : (nmr b n lo hi a).1 = true) : lo ≤ (nmr b n lo hi a).2.2 ∧ (nmr b n lo hi a).2.2 ≤ hi := by
  unfold nmr at h ⊢
  by_cases c : dgb (skv b n a) = true
  · rw [if_pos c] at h ⊢
    by_cases d : (nml b n 4 0 (ska b n a)).1 = true
    · rw [if_pos d] at h ⊢
      by_cases e : lo ≤ (nml b n 4 0 (ska b n a)).2.2 ∧ (nml b n 4 0 (ska b n a)).2.2 ≤ hi
      · rw [if_pos e]
        exact e
      · rw [if_neg e] at h
        exact absurd h (by simp)
    · rw [if_neg d] at h
      exact absurd h (by simp)
  · rw [if_neg c] at h
    exact absurd h (by simp)
/-! the class: sums and conditions, by what stands on the tape -/
def Rx (b : Nat → Int32) (n s : Nat) (S : Rcg) (C : Nat → Hp_ → (Int32 → Hp_ → Prop) → Prop) : Prop := ∀ (d : Nat) (h : Hp_), Iv h → Tx b n s h → C d h (fun r h' => Xr b n (S (xa h)) h r h')
theorem Xr.t {b : Nat → Int32} {n s : Nat} {T : Bool × Nat} {h h' : Hp_} {r : Int32} (X : Xr b n T h r h') (t : Tx b n s h) : Tx b n s h' := t.fr X.2.1 (by decide +kernel)
theorem fw3 {h h' : Hp_} {ws : List Nat} (f : Fr ws h h') (o : inw ws 11 3 = false) : h_i h' 11 3 = h_i h 11 3 := (f.2 11 3 o).1
theorem c_flx {b : Nat → Int32} {n : Nat} (d : Nat) {h h4 : Hp_} {r3 : Int32} (L : Pk b n h r3 h4) {T : Bool × Nat} (e : T = (false, ska b n (xa h))) : Ci (m_X8_fail (d + 0) 0 0) [.ref 11] h4 (fun r h' => Wf h' ∧ ((r = 0 ∨ r = 1) ∧ Xr b n T h r h')) := by
  refine Ci.mono (c_fl d L.1) (fun r2 h2 k => ⟨k.2.1.1, Or.inl k.1, k.2.1, (L.2.1.more (by decide +kernel)).tr (k.2.2.1.more (by decide +kernel)), Or.inr ⟨k.1, ?_, ?_⟩⟩)
  · rw [e]
  · rw [e, k.2.2.2, L.2.2.1]
theorem c_ratom {b : Nat → Int32} {n s : Nat} (hs : s = 1 ∨ s = 2) (e : Nat) (x1 : Int32) (z : Bool) (f : Rcg) (hz : z = true ↔ ¬ x1 < 6) (B : x1 < 6 → Rx b n s f (fun d h K => Ci (m_X8_readSum (d + e + 53) 0 0) [.ref 11, .int (x1 + 1)] h K)) : Rx b n s (atm b n (ltb s) z f) (fun d h K => Ci (m_X8_readAtom (d + e + 61) 0 0) [.ref 11, .int x1] h K) := by
  intro d h I t
  have s4 : s < 4 := by omega
  refine t_X8_readAtom (d + e) h I.1 x1 _ (Ci.mono (c_pk (d + e) I t) (fun r3 h1 L => ⟨L.1.1, Ci.mono (c_dgx (d + e) h1 r3) (fun r6 h4 q => ?_)⟩))
  obtain ⟨eh, q⟩ := q
  subst eh
  have t4 : Tx b n s h4 := t.fr L.2.1 (by decide +kernel)
  have F4 : Fr wzx h h4 := L.2.1.more (by decide +kernel)
  have e3 : h_i h4 11 3 = h_i h 11 3 := fw3 L.2.1 (by decide +kernel)
  refine ⟨L.1.1, fun r0 => ?_, fun r1 => ?_⟩
  · have nd : ¬ dgb (skv b n (xa h)) = true := by
      rw [← L.2.2.2]
      rcases q with q | q
      · rw [r0] at q
        exact absurd q.1 (by decide)
      · exact q.2
    refine ⟨fun n91 => ⟨fun nm => ?_, fun em => c_flx (d + e) L ?_⟩, fun e91 => ⟨fun lt => ?_, fun nlt => c_flx (d + e) L ?_⟩⟩
    · have bb := L.in I t nm
      have il := ix_let bb
      have ir := ix_rng bb s4
      have lt : (0 ≤ ixq s (xch r3)) ↔ ltb s r3 = true := by
        rcases hs with u | u <;> subst u
        · exact il.1
        · exact il.2.1
      have ea : atm b n (ltb s) z f (xa h) = onr b n (ltb s) (xa h) := by
        unfold atm
        rw [if_neg nd, if_neg (by rw [← L.2.2.2]; exact n91)]
      refine ⟨s, s4, t4.2.2, Ci.mono (c_ix1f (d + e) s s4 h4 (xch r3)) (fun r15 h13 k => ?_)⟩
      obtain ⟨er, eh⟩ := k
      subst eh
      subst er
      refine ⟨L.1.1, fun p => ?_, fun np => c_flx (d + e) L ?_⟩
      · obtain ⟨I6, F6, a6⟩ := nxx I t L nm
        have G : Fxq b n (atm b n (ltb s) z f (xa h)) h 1 (h_im h13 11 2 ((h_i h13 11 2) + 1)) := by
          rw [ea]
          unfold onr
          rw [if_pos (by rw [← L.2.2.2]; exact lt.mp p)]
          exact Or.inl ⟨rfl, rfl, by rw [a6], fw3 F6 (by decide +kernel)⟩
        exact Ci.mono (c_em (d + e) I6 1 _ (by decide) ⟨ir.1, by omega⟩) (fun r19 h17 k => ⟨k.1.1, k.1, (F6.more (by decide +kernel)).tr (k.2.1.more (by decide +kernel)), G.mv k.2.1 (by decide +kernel)⟩)
      · rw [ea]
        unfold onr
        exact if_neg (by rw [← L.2.2.2]; exact fun y => np (lt.mpr y))
    · unfold atm
      rw [if_neg nd, if_neg (by rw [← L.2.2.2]; exact n91)]
      unfold onr
      refine if_neg ?_
      rw [← L.2.2.2, em]
      rcases hs with u | u <;> subst u <;> decide
    · have ea : atm b n (ltb s) z f (xa h) = sqr f (exr b n 93) (ska b n (xa h) + 1) := by
        unfold atm
        rw [if_neg nd, if_pos (by rw [← L.2.2.2]; exact e91), if_neg (fun y => hz.mp y lt)]
      obtain ⟨I6, F6, a6⟩ := nxx I t L (by rw [e91]; decide)
      refine Ci.mono (B lt d _ I6 (t.fr F6 (by decide +kernel))) (fun r32 h30 X => ?_)
      have G := X.2.2
      rw [a6] at G
      have g3 := fw3 F6 (by decide +kernel)
      have FX : Fr wzx h h30 := (F6.more (by decide +kernel)).tr X.2.1
      have t30 : Tx b n s h30 := t.fr FX (by decide +kernel)
      refine ⟨X.1.1, fun y0 => ⟨X.1, FX, ?_⟩, fun y1 => Ci.mono (c_ex (d + e) X.1 t30 93 (by decide)) (fun r36 h34 Y => ⟨Y.1.1, fun w0 => ⟨Y.1, FX.tr Y.2.1, ?_⟩, fun w1 => ⟨Y.1, FX.tr Y.2.1, ?_⟩⟩)⟩
      · rw [ea]
        exact (sqxn (g := exr b n 93) G y0).b g3
      · rw [ea]
        exact ((sqx2 exr_c G y1 Y.2.2).n w0).b g3
      · rw [ea]
        exact ((sqx2 exr_c G y1 Y.2.2).y w1).b g3
    · unfold atm
      rw [if_neg nd, if_pos (by rw [← L.2.2.2]; exact e91), if_pos (hz.mpr nlt)]
  · have yd : dgb (skv b n (xa h)) = true := by
      rw [← L.2.2.2]
      rcases q with q | q
      · exact q.2
      · exact absurd q.1 r1
    have ea : atm b n (ltb s) z f (xa h) = nm0 b n (xa h) := by
      unfold atm
      rw [if_pos yd]
    have n0 := nmr_0 (b := b) (n := n) (a := xa h4)
    have nc : nm0 b n (xa h4) = nm0 b n (xa h) := by rw [L.2.2.1, nm0_c]
    rw [nc] at n0
    refine Ci.mono (c_rn (d + e) L.1 t4 0 9999) (fun r44 h42 N => ?_)
    have bd : -1 ≤ r44.toInt ∧ r44.toInt ≤ 9999 := by
      rcases N.2.2 with N | N
      · have v := nmr_b N.1
        rw [← N.2.1] at v
        have v0 := q_le.mp v.1
        have v1 := q_le.mp v.2
        have o0 : (0 : Int32).toInt = 0 := rfl
        have o9 : (9999 : Int32).toInt = 9999 := rfl
        omega
      · rw [N.2.1]
        decide
    have FX : Fr wzx h h42 := F4.tr (N.2.1.more (by decide +kernel))
    refine ⟨N.1.1, Ci.mono (c_em (d + e) N.1 0 r44 (by decide) bd) (fun r47 h45 k => ⟨k.1.1, fun em => ⟨k.1, FX.tr (k.2.1.more (by decide +kernel)), ?_⟩, fun nm => ⟨k.1, FX.tr (k.2.1.more (by decide +kernel)), ?_⟩⟩)⟩
    · refine Fxq.mv ?_ k.2.1 (by decide +kernel)
      rw [ea]
      rcases N.2.2 with N | N
      · have v := nmr_b N.1
        rw [← N.2.1, em] at v
        exact absurd v.1 (by decide)
      · exact Or.inr ⟨rfl, by rw [← n0.1]; exact N.1, by rw [← n0.2]; exact N.2.2⟩
    · refine Fxq.mv ?_ k.2.1 (by decide +kernel)
      rw [ea]
      rcases N.2.2 with N | N
      · exact Or.inl ⟨rfl, by rw [← n0.1]; exact N.1, by rw [← n0.2]; exact N.2.2.1, N.2.2.2.trans e3⟩
      · exact absurd N.2.1 nm
theorem x160 {x3 : Int32} {k : Nat} (e : x3.toInt + k = 160) : (k = 0 → 160 ≤ x3) ∧ (k ≠ 0 → ¬ 160 ≤ x3) := by
  have o : (160 : Int32).toInt = 160 := rfl
  refine ⟨fun z => q_le.mpr (by rw [o]; omega), fun z y => ?_⟩
  have y := q_le.mp y
  omega
theorem x161 {x3 : Int32} {k : Nat} (e : x3.toInt + (k + 1 : Nat) = 160) : (x3 + 1).toInt + k = 160 := by
  have o1 : (1 : Int32).toInt = 1 := rfl
  have b := Int32.le_toInt x3
  have b : -2147483648 ≤ x3.toInt := b
  rw [tx_add (by rw [o1]; omega) (by rw [o1]; omega), o1]
  omega
theorem c_rterm {b : Nat → Int32} {n s : Nat} (e : Nat) (x1 : Int32) (f : Rcg) (A : Rx b n s f (fun d h K => Ci (m_X8_readAtom (d + e + 51) 0 0) [.ref 11, .int x1] h K)) : Rx b n s (trm b n f) (fun d h K => Ci (m_X8_readTerm (d + e + 52) 0 0) [.ref 11, .int x1] h K) := by
  intro d h I t
  have lp : ∀ (k : Nat) (x2 x3 : Int32) (h2 : Hp_), x3.toInt + k = 160 → Iv h2 → Fr wzx h h2 → Sx b n (trm b n f (xa h)) (lpr b n (isq 42) f k) h x2 h2 → AW (m_X8_readTerm (d + e + 52) 0 0) 0 0 8 [(0, .ref 11), (1, .int x1), (2, .int x2), (3, .int x3)] [] h2 (kI (fun r h' => Xr b n (trm b n f (xa h)) h r h')) := by
    intro k
    induction k with
    | zero =>
      intro x2 x3 h2 m I2 F2 S
      exact t_X8_readTerm_8 (d + e) h2 I2.1 x1 x2 x3 _ ⟨fun _ => ⟨S.z, I2, F2, lx0 S⟩, fun z => absurd ((x160 m).1 rfl) z⟩
    | succ k ih =>
      intro x2 x3 h2 m I2 F2 S
      have t2 : Tx b n s h2 := t.fr F2 (by decide +kernel)
      refine t_X8_readTerm_8 (d + e) h2 I2.1 x1 x2 x3 _ ⟨fun z => absurd z ((x160 m).2 (by omega)), fun _ => ⟨fun y0 => ⟨S.z, I2, F2, S.n y0⟩, fun y1 => Ci.mono (c_pk (d + e) I2 t2) (fun r h5 L => ⟨L.1.1, fun nr => ⟨S.z, L.1, F2.tr (L.2.1.more (by decide +kernel)), lxx S y1 L (decide_eq_false nr)⟩, fun er => ?_⟩)⟩⟩
      obtain ⟨I6, F6, a6⟩ := nxx I2 t2 L (by rw [er]; decide)
      refine Ci.mono (A d _ I6 (t2.fr F6 (by decide +kernel))) (fun r15 h13 X => ⟨X.1.1, Ci.mono (c_em (d + e) X.1 7 0 (by decide) (by decide)) (fun r18 h16 k2 => ⟨k2.1.1, ?_⟩)⟩)
      have G := X.2.2
      rw [a6] at G
      exact ih r15 (x3 + 1) h16 (x161 m) k2.1 ((F2.tr ((F6.more (by decide +kernel)).tr X.2.1)).tr (k2.2.1.more (by decide +kernel))) ((lxs S y1 L.2.2.2 (decide_eq_true er) (fw3 F6 (by decide +kernel)) G).mv k2.2.1 (by decide +kernel))
  exact t_X8_readTerm (d + e) h I.1 x1 _ (Ci.mono (A d h I t) (fun r3 h1 X => ⟨X.1.1, lp 160 r3 0 h1 (by decide) X.1 X.2.1 (sqx (f := f) (lpr_c 160) X.2.2)⟩))
theorem c_rsum {b : Nat → Int32} {n s : Nat} (e : Nat) (x1 : Int32) (f : Rcg) (A : Rx b n s (trm b n f) (fun d h K => Ci (m_X8_readTerm (d + e + 52) 0 0) [.ref 11, .int x1] h K)) : Rx b n s (smm b n f) (fun d h K => Ci (m_X8_readSum (d + e + 53) 0 0) [.ref 11, .int x1] h K) := by
  intro d h I t
  have lp : ∀ (k : Nat) (x2 x3 : Int32) (h2 : Hp_), x3.toInt + k = 160 → Iv h2 → Fr wzx h h2 → Sx b n (smm b n f (xa h)) (lpr b n pmb (trm b n f) k) h x2 h2 → AW (m_X8_readSum (d + e + 53) 0 0) 0 0 8 [(0, .ref 11), (1, .int x1), (2, .int x2), (3, .int x3)] [] h2 (kI (fun r h' => Xr b n (smm b n f (xa h)) h r h')) := by
    intro k
    induction k with
    | zero =>
      intro x2 x3 h2 m I2 F2 S
      exact t_X8_readSum_8 (d + e) h2 I2.1 x1 x2 x3 _ ⟨fun _ => ⟨S.z, I2, F2, lx0 S⟩, fun z => absurd ((x160 m).1 rfl) z⟩
    | succ k ih =>
      intro x2 x3 h2 m I2 F2 S
      have t2 : Tx b n s h2 := t.fr F2 (by decide +kernel)
      have go : ¬ x2 = 0 → ∀ (o : Int32) (r : Int32) (h5 : Hp_), 0 ≤ o.toInt ∧ o.toInt ≤ 12 → Pk b n h2 r h5 → pmb r = true → ¬ r = -1 → Ci (m_X8_readTerm (d + e + 52) 0 0) [.ref 11, .int x1] (h_im h5 11 2 ((h_i h5 11 2) + 1)) (fun r18 h16 => Wf h16 ∧ (Ci (m_X8_emit (d + e + 1) 0 0) [.ref 11, .int o, .int 0] h16 (fun _ h19 => Wf h19 ∧ (AW (m_X8_readSum (d + e + 53) 0 0) 0 0 8 [(0, .ref 11), (1, .int x1), (2, .int r18), (3, .int (x3 + 1))] [] h19 (kI (fun r h' => Xr b n (smm b n f (xa h)) h r h')))))) := fun y1 o r h5 ob L pr nr => by
        obtain ⟨I6, F6, a6⟩ := nxx I2 t2 L nr
        refine Ci.mono (A d _ I6 (t2.fr F6 (by decide +kernel))) (fun r15 h13 X => ⟨X.1.1, Ci.mono (c_em (d + e) X.1 o 0 ob (by decide)) (fun r18 h16 k2 => ⟨k2.1.1, ?_⟩)⟩)
        have G := X.2.2
        rw [a6] at G
        exact ih r15 (x3 + 1) h16 (x161 m) k2.1 ((F2.tr ((F6.more (by decide +kernel)).tr X.2.1)).tr (k2.2.1.more (by decide +kernel))) ((lxs S y1 L.2.2.2 pr (fw3 F6 (by decide +kernel)) G).mv k2.2.1 (by decide +kernel))
      refine t_X8_readSum_8 (d + e) h2 I2.1 x1 x2 x3 _ ⟨fun z => absurd z ((x160 m).2 (by omega)), fun _ => ⟨fun y0 => ⟨S.z, I2, F2, S.n y0⟩, fun y1 => Ci.mono (c_pk (d + e) I2 t2) (fun r h5 L => ⟨L.1.1, fun e43 => ?_, fun n43 => ?_⟩)⟩⟩
      · refine Ci.mono (c_pk (d + e) L.1 (t2.fr L.2.1 (by decide +kernel))) (fun r14 h12 M => ?_)
        have LM := L.tr M
        exact ⟨M.1.1, fun ne => absurd (LM.2.trans e43) ne, fun _ => go y1 5 r h12 (by decide) LM.1 (by rw [e43]; decide) (by rw [e43]; decide)⟩
      · refine Ci.mono (c_pk (d + e) L.1 (t2.fr L.2.1 (by decide +kernel))) (fun r14 h12 M => ?_)
        have LM := L.tr M
        refine ⟨M.1.1, fun n45 => ⟨S.z, M.1, F2.tr (LM.1.2.1.more (by decide +kernel)), lxx S y1 LM.1 (decide_eq_false (fun y => y.elim n43 (fun z => n45 (LM.2.trans z))))⟩, fun e45 => ?_⟩
        refine Ci.mono (c_pk (d + e) M.1 (t2.fr LM.1.2.1 (by decide +kernel))) (fun r35 h33 N => ?_)
        have LN := LM.1.tr N
        have e45' : r = 45 := LM.2.symm.trans e45
        exact ⟨N.1.1, fun _ => go y1 6 r h33 (by decide) LN.1 (by rw [e45']; decide) (by rw [e45']; decide), fun y => absurd (LN.2.symm.trans y) n43⟩
  exact t_X8_readSum (d + e) h I.1 x1 _ (Ci.mono (A d h I t) (fun r3 h1 X => ⟨X.1.1, lp 160 r3 0 h1 (by decide) X.1 X.2.1 (sqx (f := trm b n f) (lpr_c 160) X.2.2)⟩))
theorem ltb_m {s : Nat} (hs : s = 1 ∨ s = 2) : ltb s (-1) = false := by
  rcases hs with u | u <;> subst u <;> decide
/-- sums at every depth -/
theorem x_sums {b : Nat → Int32} {n s : Nat} (hs : s = 1 ∨ s = 2) : ∀ (r : Nat), r ≤ 6 → Rx b n s (sms b n (ltb s) r) (fun d h K => Ci (m_X8_readSum (d + 10 * (r + 1) + 53) 0 0) [.ref 11, .int (Int32.ofNat (6 - r))] h K)
  | 0, _ => fun d h I t => c_rsum 10 (Int32.ofNat (6 - 0)) (atm b n (ltb s) true (fun a => (false, a))) (c_rterm 10 (Int32.ofNat (6 - 0)) (atm b n (ltb s) true (fun a => (false, a))) (fun d h I t => by
      have q : Ci (m_X8_readAtom (d + 0 + 61) 0 0) [.ref 11, .int (Int32.ofNat (6 - 0))] h (fun r h' => Xr b n (atm b n (ltb s) true (fun a => (false, a)) (xa h)) h r h') := c_ratom (b := b) (n := n) hs 0 (Int32.ofNat (6 - 0)) true (fun a => (false, a)) (by decide) (fun y => absurd y (by decide)) d h I t
      rw [show d + 0 + 61 = d + 10 + 51 by omega] at q
      exact q)) d h I t
  | r + 1, hr => fun d h I t => by
    have o : (Int32.ofNat (6 - (r + 1))).toInt = ((6 - (r + 1) : Nat) : Int) := on_j (by omega)
    have o6 : (6 : Int32).toInt = 6 := rfl
    have o1 : (1 : Int32).toInt = 1 := rfl
    have ex : Int32.ofNat (6 - (r + 1)) + 1 = Int32.ofNat (6 - r) := by
      refine Int32.toInt_inj.mp ?_
      rw [tx_add (by rw [o1]; omega) (by rw [o1]; omega), o1, o, on_j (by omega)]
      omega
    have lt : Int32.ofNat (6 - (r + 1)) < 6 := q_lt.mpr (by rw [o, o6]; omega)
    have B : Rx b n s (sms b n (ltb s) r) (fun d h K => Ci (m_X8_readSum (d + 10 * (r + 1) + 53) 0 0) [.ref 11, .int (Int32.ofNat (6 - (r + 1)) + 1)] h K) := by
      rw [ex]
      exact x_sums hs r (by omega)
    have k := c_rsum (10 * (r + 1 + 1)) (Int32.ofNat (6 - (r + 1))) (atm b n (ltb s) false (sms b n (ltb s) r)) (c_rterm (10 * (r + 1 + 1)) (Int32.ofNat (6 - (r + 1))) (atm b n (ltb s) false (sms b n (ltb s) r)) (fun d h I t => by
      have q : Ci (m_X8_readAtom (d + 10 * (r + 1) + 61) 0 0) [.ref 11, .int (Int32.ofNat (6 - (r + 1)))] h (fun q h' => Xr b n (atm b n (ltb s) false (sms b n (ltb s) r) (xa h)) h q h') := c_ratom hs (10 * (r + 1)) (Int32.ofNat (6 - (r + 1))) false _ ⟨fun y => absurd y (by decide), fun y => absurd lt y⟩ (fun _ => B) d h I t
      rw [show d + 10 * (r + 1) + 61 = d + 10 * (r + 1 + 1) + 51 by omega] at q
      exact q)) d h I t
    exact k
theorem c_cpx (d : Nat) (h : Hp_) (x : Int32) : Ci (m_X8_isComparison (d + 0) 0 0) [.int x] h (fun r h' => h' = h ∧ ((¬ r = 0 ∧ sgb x = true ∧ ¬ x = -1) ∨ (r = 0 ∧ sgb x = false))) :=
  t_X8_isComparison d h x _ ⟨fun e => ⟨rfl, Or.inl ⟨by decide, by rw [e]; decide, by rw [e]; decide⟩⟩, fun n1 => ⟨fun e => ⟨rfl, Or.inl ⟨by decide, by rw [e]; decide, by rw [e]; decide⟩⟩, fun n2 => ⟨fun n3 => ⟨rfl, Or.inr ⟨rfl, decide_eq_false (fun z => z.elim n1 (fun y => y.elim n2 n3))⟩⟩, fun e => ⟨rfl, Or.inl ⟨by decide, by rw [e]; decide, by rw [e]; decide⟩⟩⟩⟩⟩
theorem c_rcmp {b : Nat → Int32} {n s : Nat} (e : Nat) (x1 : Int32) (f : Rcg) (A : Rx b n s f (fun d h K => Ci (m_X8_readSum (d + e + 53) 0 0) [.ref 11, .int x1] h K)) : Rx b n s (cmq b n f) (fun d h K => Ci (m_X8_readComparison (d + e + 54) 0 0) [.ref 11, .int x1] h K) := by
  intro d h I t
  refine t_X8_readComparison (d + e) h I.1 x1 _ (Ci.mono (c_pk (d + e) I t) (fun r3 h1 L => ⟨L.1.1, Ci.mono (c_cpx (d + e) h1 r3) (fun r6 h4 q => ?_)⟩))
  obtain ⟨eh, q⟩ := q
  subst eh
  refine ⟨L.1.1, fun r1 => ?_, fun r0 => c_flx (d + e) L ?_⟩
  · have q : sgb r3 = true ∧ ¬ r3 = -1 := by
      rcases q with q | q
      · exact q.2
      · exact absurd q.1 r1
    obtain ⟨I6, F6, a6⟩ := nxx I t L q.2
    refine Ci.mono (A d _ I6 (t.fr F6 (by decide +kernel))) (fun r10 h8 X => ?_)
    have G := X.2.2
    rw [a6] at G
    have ea : cmq b n f (xa h) = f (ska b n (xa h) + 1) := by
      unfold cmq
      exact if_pos (by rw [← L.2.2.2]; exact q.1)
    rw [← ea] at G
    have G := G.b (fw3 F6 (by decide +kernel))
    have FX : Fr wzx h h8 := (F6.more (by decide +kernel)).tr X.2.1
    have go : ∀ o : Int32, 0 ≤ o.toInt ∧ o.toInt ≤ 12 → Ci (m_X8_emit (d + e + 1) 0 0) [.ref 11, .int o, .int 0] h8 (fun _ h13 => Wf h13 ∧ ((r10 = 0 ∨ r10 = 1) ∧ (Xr b n (cmq b n f (xa h)) h r10 h13))) := fun o ob => Ci.mono (c_em (d + e) X.1 o 0 ob (by decide)) (fun _ h13 k => ⟨k.1.1, G.z, k.1, FX.tr (k.2.1.more (by decide +kernel)), G.mv k.2.1 (by decide +kernel)⟩)
    exact ⟨X.1.1, fun _ => ⟨fun _ => go 10 (by decide), fun _ => go 9 (by decide)⟩, fun _ => go 8 (by decide)⟩
  · unfold cmq
    refine if_neg ?_
    rw [← L.2.2.2]
    rcases q with q | q
    · exact absurd r0 q.1
    · rw [q.2]
      decide
theorem c_rmu {b : Nat → Int32} {n s : Nat} (e : Nat) (x1 : Int32) (u : Rcg) (A : Rx b n s u (fun d h K => Ci (m_X8_readUnit (d + e + 55) 0 0) [.ref 11, .int x1] h K)) : Rx b n s (mun b n u) (fun d h K => Ci (m_X8_readMoreUnits (d + e + 56) 0 0) [.ref 11, .int x1] h K) := by
  intro d h I t
  have lp : ∀ (k : Nat) (x2 x3 : Int32) (h2 : Hp_), x3.toInt + k = 160 → Iv h2 → Fr wzx h h2 → Sx b n (mun b n u (xa h)) (lpr b n (isq 38) u k) h x2 h2 → AW (m_X8_readMoreUnits (d + e + 56) 0 0) 0 0 4 [(0, .ref 11), (1, .int x1), (2, .int x2), (3, .int x3)] [] h2 (kI (fun r h' => Xr b n (mun b n u (xa h)) h r h')) := by
    intro k
    induction k with
    | zero =>
      intro x2 x3 h2 m I2 F2 S
      exact t_X8_readMoreUnits_4 (d + e) h2 I2.1 x1 x2 x3 _ ⟨fun _ => ⟨S.z, I2, F2, lx0 S⟩, fun z => absurd ((x160 m).1 rfl) z⟩
    | succ k ih =>
      intro x2 x3 h2 m I2 F2 S
      have t2 : Tx b n s h2 := t.fr F2 (by decide +kernel)
      refine t_X8_readMoreUnits_4 (d + e) h2 I2.1 x1 x2 x3 _ ⟨fun z => absurd z ((x160 m).2 (by omega)), fun _ => ⟨fun y0 => ⟨S.z, I2, F2, S.n y0⟩, fun y1 => Ci.mono (c_pk (d + e) I2 t2) (fun r h5 L => ⟨L.1.1, fun nr => ⟨S.z, L.1, F2.tr (L.2.1.more (by decide +kernel)), lxx S y1 L (decide_eq_false nr)⟩, fun er => ?_⟩)⟩⟩
      obtain ⟨I6, F6, a6⟩ := nxx I2 t2 L (by rw [er]; decide)
      refine Ci.mono (A d _ I6 (t2.fr F6 (by decide +kernel))) (fun r15 h13 X => ⟨X.1.1, Ci.mono (c_em (d + e) X.1 11 0 (by decide) (by decide)) (fun r18 h16 k2 => ⟨k2.1.1, ?_⟩)⟩)
      have G := X.2.2
      rw [a6] at G
      exact ih r15 (x3 + 1) h16 (x161 m) k2.1 ((F2.tr ((F6.more (by decide +kernel)).tr X.2.1)).tr (k2.2.1.more (by decide +kernel))) ((lxs S y1 L.2.2.2 (decide_eq_true er) (fw3 F6 (by decide +kernel)) G).mv k2.2.1 (by decide +kernel))
  exact t_X8_readMoreUnits (d + e) h x1 _ (lp 160 1 0 h (by decide) I (Fr.rf _ _) (Or.inl ⟨rfl, rfl, rfl⟩))
theorem c_rmp {b : Nat → Int32} {n s : Nat} (e : Nat) (x1 : Int32) (u : Rcg) (A : Rx b n s u (fun d h K => Ci (m_X8_readUnit (d + e + 55) 0 0) [.ref 11, .int x1] h K)) : Rx b n s (mpt b n u) (fun d h K => Ci (m_X8_readMoreParts (d + e + 57) 0 0) [.ref 11, .int x1] h K) := by
  intro d h I t
  have M := c_rmu e x1 u A
  have lp : ∀ (k : Nat) (x2 x3 : Int32) (h2 : Hp_), x3.toInt + k = 160 → Iv h2 → Fr wzx h h2 → Sx b n (mpt b n u (xa h)) (lpr b n (isq 124) (prt b n u) k) h x2 h2 → AW (m_X8_readMoreParts (d + e + 57) 0 0) 0 0 8 [(0, .ref 11), (1, .int x1), (2, .int x2), (3, .int x3)] [] h2 (kI (fun r h' => Xr b n (mpt b n u (xa h)) h r h')) := by
    intro k
    induction k with
    | zero =>
      intro x2 x3 h2 m I2 F2 S
      exact t_X8_readMoreParts_8 (d + e) h2 I2.1 x1 x2 x3 _ ⟨fun _ => ⟨S.z, I2, F2, lx0 S⟩, fun z => absurd ((x160 m).1 rfl) z⟩
    | succ k ih =>
      intro x2 x3 h2 m I2 F2 S
      have t2 : Tx b n s h2 := t.fr F2 (by decide +kernel)
      refine t_X8_readMoreParts_8 (d + e) h2 I2.1 x1 x2 x3 _ ⟨fun z => absurd z ((x160 m).2 (by omega)), fun _ => ⟨fun y0 => ⟨S.z, I2, F2, S.n y0⟩, fun y1 => Ci.mono (c_pk (d + e) I2 t2) (fun r h5 L => ⟨L.1.1, fun nr => ⟨S.z, L.1, F2.tr (L.2.1.more (by decide +kernel)), lxx S y1 L (decide_eq_false nr)⟩, fun er => ?_⟩)⟩⟩
      obtain ⟨I6, F6, a6⟩ := nxx I2 t2 L (by rw [er]; decide)
      have t6 : Tx b n s (h_im h5 11 2 ((h_i h5 11 2) + 1)) := t2.fr F6 (by decide +kernel)
      have em : ∀ (w : Int32) (h13 : Hp_), Iv h13 → Fr wzx h2 h13 → Fxq b n (prt b n u (ska b n (xa h2) + 1)) (h_im h5 11 2 ((h_i h5 11 2) + 1)) w h13 → Ci (m_X8_emit (d + e + 1) 0 0) [.ref 11, .int 12, .int 0] h13 (fun _ h17 => Wf h17 ∧ (AW (m_X8_readMoreParts (d + e + 57) 0 0) 0 0 8 [(0, .ref 11), (1, .int x1), (2, .int w), (3, .int (x3 + 1))] [] h17 (kI (fun r h' => Xr b n (mpt b n u (xa h)) h r h')))) := fun w h13 I13 F13 G => Ci.mono (c_em (d + e) I13 12 0 (by decide) (by decide)) (fun r18 h16 k2 => ⟨k2.1.1, ih w (x3 + 1) h16 (x161 m) k2.1 ((F2.tr F13).tr (k2.2.1.more (by decide +kernel))) ((lxs S y1 L.2.2.2 (decide_eq_true er) (fw3 F6 (by decide +kernel)) G).mv k2.2.1 (by decide +kernel))⟩)
      refine Ci.mono (A d _ I6 t6) (fun r15 h13 X => ?_)
      have G := X.2.2
      rw [a6] at G
      have F13 : Fr wzx h2 h13 := (F6.more (by decide +kernel)).tr X.2.1
      refine ⟨X.1.1, fun y => em 0 h13 X.1 F13 (sqxn (g := mun b n u) G y), fun ny => Ci.mono (M d h13 X.1 (X.t t6)) (fun r22 h20 Y => ⟨Y.1.1, fun w0 => em 0 h20 Y.1 (F13.tr Y.2.1) ((sqx2 mun_c G ny Y.2.2).n w0), fun w1 => em 1 h20 Y.1 (F13.tr Y.2.1) ((sqx2 mun_c G ny Y.2.2).y w1)⟩)⟩
  exact t_X8_readMoreParts (d + e) h I.1 x1 _ (Ci.mono (M d h I t) (fun r3 h1 X => ⟨X.1.1, lp 160 r3 0 h1 (by decide) X.1 X.2.1 (sqx (f := mun b n u) (lpr_c 160) X.2.2)⟩))
theorem c_rcnd {b : Nat → Int32} {n s : Nat} (e : Nat) (x1 : Int32) (u : Rcg) (A : Rx b n s u (fun d h K => Ci (m_X8_readUnit (d + e + 55) 0 0) [.ref 11, .int x1] h K)) : Rx b n s (cnd b n u) (fun d h K => Ci (m_X8_readCondition (d + e + 58) 0 0) [.ref 11, .int x1] h K) := by
  intro d h I t
  exact t_X8_readCondition (d + e) h I.1 x1 _ (Ci.mono (A d h I t) (fun r3 h1 X => ⟨X.1.1, fun y0 => ⟨X.1, X.2.1, sqxn (g := mpt b n u) X.2.2 y0⟩, fun y1 => Ci.mono (c_rmp e x1 u A d h1 X.1 (X.t t)) (fun r7 h5 Y => ⟨Y.1.1, fun w0 => ⟨Y.1, X.2.1.tr Y.2.1, (sqx2 mpt_c X.2.2 y1 Y.2.2).n w0⟩, fun w1 => ⟨Y.1, X.2.1.tr Y.2.1, (sqx2 mpt_c X.2.2 y1 Y.2.2).y w1⟩⟩)⟩))
/-- units at every depth -/
theorem x_units {b : Nat → Int32} {n s : Nat} (hs : s = 1 ∨ s = 2) : ∀ (r : Nat), r ≤ 6 → Rx b n s (unt b n (ltb s) r) (fun d h K => Ci (m_X8_readUnit (d + 10 * (r + 2) + 55) 0 0) [.ref 11, .int (Int32.ofNat (6 - r))] h K) := by
  intro r
  induction r with
  | zero =>
    intro _ d h I t
    have S := x_sums (b := b) (n := n) hs 0 (by omega)
    have C := c_rcmp 10 _ _ S
    have tree := t_X8_readUnit (d + 10) h I.1 (Int32.ofNat (6 - 0)) (fun q h' => Xr b n (unt b n (ltb s) 0 (xa h)) h q h') (Ci.mono (c_pk (d + 10) I t) (fun r3 h1 L => ?_))
    · rw [show d + 10 + 65 = d + 10 * (0 + 2) + 55 by omega] at tree
      exact tree
    have bad : (r3 = 33 ∨ r3 = 40) → unt b n (ltb s) 0 (xa h) = (false, ska b n (xa h)) := fun y => by
      unfold unt
      exact if_pos (by rw [← L.2.2.2]; exact y)
    refine ⟨L.1.1, fun e33 => ⟨fun y => absurd y (by decide), fun _ => c_flx (d + 10) L (bad (Or.inl e33))⟩, fun n33 => ⟨fun e40 => ⟨fun y => absurd y (by decide), fun _ => c_flx (d + 10) L (bad (Or.inr e40))⟩, fun n40 => ?_⟩⟩
    have ea : unt b n (ltb s) 0 (xa h) = sqr (sms b n (ltb s) 0) (cmq b n (sms b n (ltb s) 0)) (xa h1) := by
      unfold unt
      rw [if_neg (by rw [← L.2.2.2]; exact fun y => y.elim n33 n40), L.2.2.1, sqr_c (sms_c 0)]
    have t1 : Tx b n s h1 := t.fr L.2.1 (by decide +kernel)
    have g3 : h_i h1 11 3 = h_i h 11 3 := fw3 L.2.1 (by decide +kernel)
    have F1 : Fr wzx h h1 := L.2.1.more (by decide +kernel)
    rw [ea]
    exact Ci.mono (S d h1 L.1 t1) (fun r50 h48 X => ⟨X.1.1, fun y0 => ⟨X.1, F1.tr X.2.1, (sqxn (g := cmq b n (sms b n (ltb s) 0)) X.2.2 y0).b g3⟩, fun y1 => Ci.mono (C d h48 X.1 (X.t t1)) (fun r54 h52 Y => ⟨Y.1.1, fun w0 => ⟨Y.1, (F1.tr X.2.1).tr Y.2.1, ((sqx2 cmq_c X.2.2 y1 Y.2.2).n w0).b g3⟩, fun w1 => ⟨Y.1, (F1.tr X.2.1).tr Y.2.1, ((sqx2 cmq_c X.2.2 y1 Y.2.2).y w1).b g3⟩⟩)⟩)
  | succ r ih =>
    intro hr d h I t
    have o : (Int32.ofNat (6 - (r + 1))).toInt = ((6 - (r + 1) : Nat) : Int) := on_j (by omega)
    have o6 : (6 : Int32).toInt = 6 := rfl
    have o1 : (1 : Int32).toInt = 1 := rfl
    have ex : Int32.ofNat (6 - (r + 1)) + 1 = Int32.ofNat (6 - r) := by
      refine Int32.toInt_inj.mp ?_
      rw [tx_add (by rw [o1]; omega) (by rw [o1]; omega), o1, o, on_j (by omega)]
      omega
    have lt : Int32.ofNat (6 - (r + 1)) < 6 := q_lt.mpr (by rw [o, o6]; omega)
    have S := x_sums (b := b) (n := n) hs (r + 1) hr
    have C := c_rcmp _ _ _ S
    have U : Rx b n s (unt b n (ltb s) r) (fun d h K => Ci (m_X8_readUnit (d + 10 * (r + 2) + 55) 0 0) [.ref 11, .int (Int32.ofNat (6 - (r + 1)) + 1)] h K) := by
      rw [ex]
      exact ih (by omega)
    have D := c_rcnd _ _ _ U
    have tree := t_X8_readUnit (d + 10 * (r + 2)) h I.1 (Int32.ofNat (6 - (r + 1))) (fun q h' => Xr b n (unt b n (ltb s) (r + 1) (xa h)) h q h') (Ci.mono (c_pk (d + 10 * (r + 2)) I t) (fun r3 h1 L => ?_))
    · rw [show d + 10 * (r + 2) + 65 = d + 10 * (r + 1 + 2) + 55 by omega] at tree
      exact tree
    have F1 : Fr wzx h h1 := L.2.1.more (by decide +kernel)
    refine ⟨L.1.1, fun e33 => ⟨fun _ => ⟨fun _ => ?_, fun e40 => absurd (e33.symm.trans e40) (by decide)⟩, fun y => absurd lt y⟩, fun n33 => ⟨fun e40 => ⟨fun _ => ⟨fun n40 => absurd e40 n40, fun _ => ?_⟩, fun y => absurd lt y⟩, fun n40 => ?_⟩⟩
    · have ea : unt b n (ltb s) (r + 1) (xa h) = unt b n (ltb s) r (ska b n (xa h) + 1) := by
        show (if skv b n (xa h) = 33 then unt b n (ltb s) r (ska b n (xa h) + 1) else _) = _
        exact if_pos (by rw [← L.2.2.2]; exact e33)
      obtain ⟨I6, F6, a6⟩ := nxx I t L (by rw [e33]; decide)
      refine Ci.mono (U d _ I6 (t.fr F6 (by decide +kernel))) (fun r9 h7 X => ?_)
      have G := X.2.2
      rw [a6, ← ea] at G
      have G := G.b (fw3 F6 (by decide +kernel))
      exact ⟨X.1.1, Ci.mono (c_em (d + 10 * (r + 2)) X.1 2 0 (by decide) (by decide)) (fun _ h10 k => ⟨k.1.1, G.z, k.1, ((F6.more (by decide +kernel)).tr X.2.1).tr (k.2.1.more (by decide +kernel)), G.mv k.2.1 (by decide +kernel)⟩)⟩
    · have ea : unt b n (ltb s) (r + 1) (xa h) = sqr (cnd b n (unt b n (ltb s) r)) (exr b n 41) (ska b n (xa h) + 1) := by
        show (if skv b n (xa h) = 33 then unt b n (ltb s) r (ska b n (xa h) + 1) else if skv b n (xa h) = 40 then sqr (cnd b n (unt b n (ltb s) r)) (exr b n 41) (ska b n (xa h) + 1) else _) = _
        rw [if_neg (by rw [← L.2.2.2]; exact n33), if_pos (by rw [← L.2.2.2]; exact e40)]
      obtain ⟨I6, F6, a6⟩ := nxx I t L (by rw [e40]; decide)
      refine Ci.mono (D d _ I6 (t.fr F6 (by decide +kernel))) (fun r16 h14 X => ?_)
      have G := X.2.2
      rw [a6] at G
      have g3 := fw3 F6 (by decide +kernel)
      have FX : Fr wzx h h14 := (F6.more (by decide +kernel)).tr X.2.1
      rw [ea]
      exact ⟨X.1.1, fun y0 => ⟨X.1, FX, (sqxn (g := exr b n 41) G y0).b g3⟩, fun y1 => Ci.mono (c_ex (d + 10 * (r + 2)) X.1 (t.fr FX (by decide +kernel)) 41 (by decide)) (fun r20 h18 Y => ⟨Y.1.1, fun w0 => ⟨Y.1, FX.tr Y.2.1, ((sqx2 exr_c G y1 Y.2.2).n w0).b g3⟩, fun w1 => ⟨Y.1, FX.tr Y.2.1, ((sqx2 exr_c G y1 Y.2.2).y w1).b g3⟩⟩)⟩
    · have ea : unt b n (ltb s) (r + 1) (xa h) = sqr (sms b n (ltb s) (r + 1)) (cmq b n (sms b n (ltb s) (r + 1))) (xa h1) := by
        show (if skv b n (xa h) = 33 then unt b n (ltb s) r (ska b n (xa h) + 1) else if skv b n (xa h) = 40 then sqr (cnd b n (unt b n (ltb s) r)) (exr b n 41) (ska b n (xa h) + 1) else sqr (sms b n (ltb s) (r + 1)) (cmq b n (sms b n (ltb s) (r + 1))) (xa h)) = _
        rw [if_neg (by rw [← L.2.2.2]; exact n33), if_neg (by rw [← L.2.2.2]; exact n40), L.2.2.1, sqr_c (sms_c (r + 1))]
      have t1 : Tx b n s h1 := t.fr L.2.1 (by decide +kernel)
      have g3 : h_i h1 11 3 = h_i h 11 3 := fw3 L.2.1 (by decide +kernel)
      rw [ea]
      exact Ci.mono (S d h1 L.1 t1) (fun r50 h48 X => ⟨X.1.1, fun y0 => ⟨X.1, F1.tr X.2.1, (sqxn (g := cmq b n (sms b n (ltb s) (r + 1))) X.2.2 y0).b g3⟩, fun y1 => Ci.mono (C d h48 X.1 (X.t t1)) (fun r54 h52 Y => ⟨Y.1.1, fun w0 => ⟨Y.1, (F1.tr X.2.1).tr Y.2.1, ((sqx2 cmq_c X.2.2 y1 Y.2.2).n w0).b g3⟩, fun w1 => ⟨Y.1, (F1.tr X.2.1).tr Y.2.1, ((sqx2 cmq_c X.2.2 y1 Y.2.2).y w1).b g3⟩⟩)⟩)
