section
/-! what class and reference keep alike; what the law's loop keeps -/
noncomputable def rlT : List ((Nat × Nat) × Nat) := [((11, 1), 32), ((12, 3), 42)]
theorem rlT_F : Rlf rlT HF := fun q hq => by
  have z : rlT.all (fun q => h_i HF q.1.1 q.1.2 == h_i HF 1 q.2) = true := by decide +kernel
  exact eq_of_beq (List.all_eq_true.mp z q hq)
/-- the tape, and how many acts and pays there are -/
noncomputable def ExT (h : Hp_) : Prop := (∀ k, k < xn h → h_i h 225 k = h_i h 31 k) ∧ h_i h 235 0 = h_i h 13 5 ∧ h_i h 235 1 = h_i h 14 5
noncomputable def exoT (ws : List Nat) : Bool := off ws 31 && off ws 225 && off ws 235 && !inw ws 11 1 && !inw ws 13 5 && !inw ws 14 5
theorem exT_F : ExT HF := by
  have z : xn HF = 0 := by
    show (h_i HF 11 1).toNatClampNeg = 0
    rw [show h_i HF 11 1 = 0 by decide +kernel]
    rfl
  exact ⟨fun k hk => absurd hk (by rw [z]; omega), by decide +kernel, by decide +kernel⟩
theorem ExT.cg {h h' : Hp_} (e : ExT h) (a : ∀ k, h_i h' 31 k = h_i h 31 k) (b : ∀ k, h_i h' 225 k = h_i h 225 k) (c : ∀ k, h_i h' 235 k = h_i h 235 k) (n : h_i h' 11 1 = h_i h 11 1) (p : h_i h' 13 5 = h_i h 13 5) (q : h_i h' 14 5 = h_i h 14 5) : ExT h' := by
  refine ⟨fun k hk => ?_, by rw [c, p]; exact e.2.1, by rw [c, q]; exact e.2.2⟩
  rw [a, b]
  refine e.1 k ?_
  have hk : k < (h_i h' 11 1).toNatClampNeg := hk
  rw [n] at hk
  exact hk
theorem ExT.fr {ws : List Nat} {h h' : Hp_} (e : ExT h) (f : Fr ws h h') (o : exoT ws = true) : ExT h' := by
  unfold exoT at o
  simp only [Bool.and_eq_true, Bool.not_eq_true'] at o
  exact e.cg (fun k => fr_i f o.1.1.1.1.1 k) (fun k => fr_i f o.1.1.1.1.2 k) (fun k => fr_i f o.1.1.1.2 k) (f.2 11 1 o.1.1.2).1 (f.2 13 5 o.1.2).1 (f.2 14 5 o.2).1
theorem ExT.mf {W : List Nat} {h h' : Hp_} (e : ExT h) (f : Mf W h h') (o : exoT W = true) : ExT h' := by
  unfold exoT at o
  simp only [Bool.and_eq_true, Bool.not_eq_true'] at o
  exact e.cg (fun k => (f.2.2.2 31 k (by decide) (off_inw o.1.1.1.1.1 k)).1) (fun k => f.2.1 225 (by decide) (by decide) k) (fun k => f.2.1 235 (by decide) (by decide) k) (f.2.2.2 11 1 (by decide) o.1.1.2).1 (f.2.2.2 13 5 (by decide) o.1.2).1 (f.2.2.2 14 5 (by decide) o.2).1
/-- of each beat how many steps, how many of them points -/
noncomputable def ExB (h : Hp_) : Prop := ∀ k, k < (h_i h 12 3).toNatClampNeg → h_i h 35 k = h_i h 227 k ∧ (h_i h 36 k).toInt = (mP (h_i h 228) k (h_i h 227 k).toNatClampNeg 0 : Int)
noncomputable def exoB (ws : List Nat) : Bool := off ws 35 && off ws 36 && off ws 227 && off ws 228 && !inw ws 12 3
theorem ExB.cg {h h' : Hp_} (e : ExB h) (a : ∀ k, h_i h' 35 k = h_i h 35 k) (b : ∀ k, h_i h' 36 k = h_i h 36 k) (c : ∀ k, h_i h' 227 k = h_i h 227 k) (d : ∀ k, h_i h' 228 k = h_i h 228 k) (n : h_i h' 12 3 = h_i h 12 3) : ExB h' := fun k hk => by
  rw [n] at hk
  rw [a, b, c, show h_i h' 228 = h_i h 228 from funext d]
  exact e k hk
theorem ExB.fr {ws : List Nat} {h h' : Hp_} (e : ExB h) (f : Fr ws h h') (o : exoB ws = true) : ExB h' := by
  unfold exoB at o
  simp only [Bool.and_eq_true, Bool.not_eq_true'] at o
  exact e.cg (fun k => fr_i f o.1.1.1.1 k) (fun k => fr_i f o.1.1.1.2 k) (fun k => fr_i f o.1.1.2 k) (fun k => fr_i f o.1.2 k) (f.2 12 3 o.2).1
theorem ExB.mf {W : List Nat} {h h' : Hp_} (e : ExB h) (f : Mf W h h') (o : exoB W = true) : ExB h' := by
  unfold exoB at o
  simp only [Bool.and_eq_true, Bool.not_eq_true'] at o
  exact e.cg (fun k => (f.2.2.2 35 k (by decide) (off_inw o.1.1.1.1 k)).1) (fun k => (f.2.2.2 36 k (by decide) (off_inw o.1.1.1.2 k)).1) (fun k => f.2.1 227 (by decide) (by decide) k) (fun k => f.2.1 228 (by decide) (by decide) k) (f.2.2.2 12 3 (by decide) o.2).1
noncomputable def ExTB (h : Hp_) : Prop := ExT h ∧ ExB h
noncomputable def exoTB (ws : List Nat) : Bool := exoT ws && exoB ws
theorem exTB_F : ExTB HF := ⟨exT_F, fun k hk => by
  rw [show h_i HF 12 3 = 0 by decide +kernel] at hk
  exact absurd hk (by show ¬ k < 0; omega)⟩
theorem ExTB.fr {ws : List Nat} {h h' : Hp_} (e : ExTB h) (f : Fr ws h h') (o : exoTB ws = true) : ExTB h' := by
  unfold exoTB at o
  rw [Bool.and_eq_true] at o
  exact ⟨e.1.fr f o.1, e.2.fr f o.2⟩
theorem ExTB.mf {W : List Nat} {h h' : Hp_} (e : ExTB h) (f : Mf W h h') (o : exoTB W = true) : ExTB h' := by
  unfold exoTB at o
  rw [Bool.and_eq_true] at o
  exact ⟨e.1.mf f o.1, e.2.mf f o.2⟩
/-- the men, and what this row wants besides -/
noncomputable def MefT (h : Hp_) : Prop := Mn h ∧ ExTB h
noncomputable def LiT (N : Nat) (h : Hp_) : Prop := Iv h ∧ J2 h ∧ h_sh h 2 = some (3, 1) ∧ (∃ c, h_r h 0 15 = some c ∧ h_sh h c = some (3, N)) ∧ Rlf rlT h ∧ MefT h
theorem LiT.z {N : Nat} {h : Hp_} (L : LiT N h) : Li0 N h := ⟨L.1, L.2.1, L.2.2.1, L.2.2.2.1⟩
theorem Li0.liT {N : Nat} {h : Hp_} (L : Li0 N h) (R : Rlf rlT h) (m : MefT h) : LiT N h := ⟨L.1, L.2.1, L.2.2.1, L.2.2.2, R, m⟩
theorem Mn.fr {ws : List Nat} {h h' : Hp_} (m : Mn h) (f : Fr ws h h') (o : (!inw ws 0 7 && off ws 15) = true) : Mn h' := fun k hk hm => by
  rw [Bool.and_eq_true, Bool.not_eq_true'] at o
  rw [(f.2 15 k (off_inw o.2 k)).2.2]
  exact m k hk (by rw [(f.2 0 7 o.1).1] at hm; exact hm)
theorem MefT.fr {ws : List Nat} {h h' : Hp_} (m : MefT h) (f : Fr ws h h') (o : (!inw ws 0 7 && off ws 15 && exoTB ws) = true) : MefT h' := by
  rw [Bool.and_eq_true] at o
  exact ⟨m.1.fr f o.1, m.2.fr f o.2⟩
theorem mn_F : Mn HF := fun k hk hm => by
  rw [show h_i HF 0 7 = 0 by decide +kernel] at hm
  have z : (0 : Int32).toInt = 0 := rfl
  omega
theorem liT_F : LiT 0 HF := li0_F.liT rlT_F ⟨mn_F, exTB_F⟩
theorem LiT.fr {N : Nat} {ws : List Nat} {h h' : Hp_} (L : LiT N h) (I : Iv h') (f : Fr ws h h') (o : ((jso ws && !inw ws 0 15) && rlT.all (fun q => !inw ws q.1.1 q.1.2 && !inw ws 1 q.2) && (!inw ws 0 7 && off ws 15 && exoTB ws)) = true) : LiT N h' := by
  rw [Bool.and_eq_true, Bool.and_eq_true (jso ws && !inw ws 0 15)] at o
  exact (L.z.fr I f o.1.1).liT (L.2.2.2.2.1.fr f o.1.2) (L.2.2.2.2.2.fr f o.2)
theorem LiT.sr {N : Nat} {h h' : Hp_} (L : LiT N h) (I : Iv h') (J : J2 h') (s : Sr h h') : LiT N h' := (L.z.sn I J s.sn).liT (L.2.2.2.2.1.fr s (by decide +kernel)) (L.2.2.2.2.2.fr s (by decide +kernel))
theorem Mn.mf {h h' : Hp_} (m : Mn h) (f : Mf wsX h h') : Mn h' := fun k hk hm => by
  rw [(f.2.2.2 15 k (by decide) (off_inw (by decide +kernel) k)).2]
  exact m k hk (by rw [(f.2.2.2 0 7 (by decide) (by decide +kernel)).1] at hm; exact hm)
theorem MefT.mf {h h' : Hp_} (m : MefT h) (f : Mf wsX h h') : MefT h' := ⟨m.1.mf f, m.2.mf f (by decide +kernel)⟩
theorem MefT.con {h h' : Hp_} {x1 x2 x3 r : Int32} (m : MefT h) (k : Cy x1 x2 x3 h r h') : MefT h' := ⟨k.2.2.1 m.1, m.2.mf k.1.2.1 (by decide +kernel)⟩
theorem LiT.con2 {N : Nat} {h h1 h2 : Hp_} {x1 x2 x3 r1 r2 : Int32} (L : LiT N h) (k1 : Cy x1 x2 x3 h r1 h1) (k2 : Iv h2 ∧ J2 h2 ∧ Sn h1 h2 ∧ ocm (h_i h1 1 7) x1 x2 x3 r2 (h_i h2 1 7) ∧ Cw (okm (h_i h1 1 7) x1 x2 x3) (h_i h1 1 7) x1 h1 h2) : LiT N h2 := ((L.z.con k1.1).sn k2.1 k2.2.1 k2.2.2.1).liT ((L.2.2.2.2.1.mf k1.1.2.1 (by decide +kernel)).fr k2.2.2.1 (by decide +kernel)) ((L.2.2.2.2.2.con k1).fr k2.2.2.1 (by decide +kernel))
theorem LiT.tick2 {N N' : Nat} {h h1 h2 : Hp_} {x r1 r2 : Int32} (L : LiT N h) (k1 : Iv h1 ∧ Mf wsX h h1 ∧ (∃ c', h_r h1 0 15 = some c' ∧ h_sh h1 c' = some (3, N')) ∧ otk (h_i h 0 0) x r1 (h_i h1 0 0)) (k2 : Iv h2 ∧ J2 h2 ∧ Fr wsT h1 h2 ∧ otk (h_i h1 1 0) x r2 (h_i h2 1 0)) : LiT N' h2 := ((L.z.tick k1).st k2.1 k2.2.1 k2.2.2.1).liT ((L.2.2.2.2.1.mf k1.2.1 (by decide +kernel)).fr k2.2.2.1 (by decide +kernel)) ((L.2.2.2.2.2.mf k1.2.1).fr k2.2.2.1 (by decide +kernel))
theorem LiT.sb {N : Nat} {ws : List Nat} {h h' : Hp_} (L : LiT N h) (I : Iv h') (J : J2 h') (f : Fr ws h h') (o : inw ws 0 15 = false) : Li0 N h' := by
  obtain ⟨c, a, b⟩ := L.2.2.2.1
  exact ⟨I, J, by rw [f.1]; exact L.2.2.1, c, by rw [(f.2 0 15 o).2.2]; exact a, by rw [f.1]; exact b⟩
theorem LiT.r1 {N : Nat} {h : Hp_} (L : LiT N h) : h_i h 11 1 = h_i h 1 32 := L.2.2.2.2.1 ((11, 1), 32) (by decide)
theorem LiT.r2 {N : Nat} {h : Hp_} (L : LiT N h) : h_i h 12 3 = h_i h 1 42 := L.2.2.2.2.1 ((12, 3), 42) (by decide)
theorem Rlf.mk {h : Hp_} (a : h_i h 11 1 = h_i h 1 32) (b : h_i h 12 3 = h_i h 1 42) : Rlf rlT h := fun q hq => by
  simp only [rlT, List.mem_cons, List.not_mem_nil, or_false] at hq
  rcases hq with u | u <;> subst u
  · exact a
  · exact b
/-- what the reference's readers want to know of the tape -/
noncomputable def Qt (b : Nat → Int32) (n : Nat) (h : Hp_) : Prop := Tp b n h ∧ (∀ k, k < n → ¬ b k = -1) ∧ J2 h
theorem LiT.q {N : Nat} {ws : List Nat} {h h1 : Hp_} (L : LiT N h) (f : Fr ws h h1) (o : (jso ws && off ws 225 && !inw ws 1 32) = true) : Qt (h_i h 31) (xn h) h1 := by
  simp only [Bool.and_eq_true, Bool.not_eq_true'] at o
  refine ⟨⟨fun k hk => ?_, ?_⟩, fun k _ e => ?_, J2_s (Js.fr f o.1.1) L.2.1⟩
  · rw [fr_i f o.1.2 k]
    exact L.2.2.2.2.2.2.1.1 k hk
  · show (h_i h1 1 32).toNatClampNeg = (h_i h 11 1).toNatClampNeg
    rw [(f.2 1 32 o.2).1, L.r1]
  · have q := (b31_in L.1 k).1
    rw [e] at q
    exact absurd q (by decide)
/-! beat, act, pay, feed, end: neither compared here, and what they do to the tape -/
theorem c_btX (d : Nat) {h : Hp_} (I : Iv h) : Ci (m_X11_beat (d + 105) 0 0) [.ref 0] h (fun r h' => Iv h' ∧ Fr wbx h h' ∧ Btx h r h') := c_btx2 d I
theorem c_btM (d : Nat) {b : Nat → Int32} {n : Nat} {h : Hp_} (I : Iv h) (q : Qt b n h) : Ci (m_X12_beat (d + 80 + 60) 0 0) [.ref 1] h (fun r h' => (Iv h' ∧ J2 h') ∧ Btm b n h r h') := c_beatf d q.2.1 I q.2.2 q.1
theorem LiT.bt {N : Nat} {h h1 h2 : Hp_} {r1 r2 : Int32} (L : LiT N h) (k1 : Iv h1 ∧ Fr wbx h h1 ∧ Btx h r1 h1) (k2 : (Iv h2 ∧ J2 h2) ∧ Btm (h_i h 31) (xn h) h1 r2 h2) : LiT N h2 ∧ r1 = r2 := by
  obtain ⟨I1, F1, kn, ky⟩ := k1
  obtain ⟨⟨I2, JJ⟩, F2, c8, mn, my⟩ := k2
  have a42 : h_i h1 1 42 = h_i h 12 3 := (F1.2 1 42 (by decide +kernel)).1.trans L.r2.symm
  have a32 : h_i h1 1 32 = h_i h 11 1 := (F1.2 1 32 (by decide +kernel)).1.trans L.r1.symm
  rw [a42] at mn my
  have b123 : h_i h2 12 3 = h_i h1 12 3 := (F2.2 12 3 (by decide +kernel)).1
  have b111 : h_i h2 11 1 = h_i h1 11 1 := (F2.2 11 1 (by decide +kernel)).1
  have F12 : Fr (wbx ++ wbt) h h2 := (F1.more (by decide +kernel)).tr (F2.more (by decide +kernel))
  have Z : Li0 N h2 := L.sb I2 JJ F12 (by decide +kernel)
  have mm : Mn h2 := L.2.2.2.2.2.1.fr F12 (by decide +kernel)
  have e31 : ∀ k, h_i h2 31 k = h_i h 31 k := fun k => fr_i F12 (by decide +kernel) k
  have e225 : ∀ k, h_i h2 225 k = h_i h 225 k := fun k => fr_i F12 (by decide +kernel) k
  have e235 : ∀ k, h_i h2 235 k = h_i h 235 k := fun k => fr_i F12 (by decide +kernel) k
  have e13 : h_i h2 13 5 = h_i h 13 5 := (F12.2 13 5 (by decide +kernel)).1
  have e14 : h_i h2 14 5 = h_i h 14 5 := (F12.2 14 5 (by decide +kernel)).1
  have X0 := L.2.2.2.2.2.2.1
  have B0 := L.2.2.2.2.2.2.2
  have f227 : ∀ k, h_i h1 227 k = h_i h 227 k := fun k => fr_i F1 (by decide +kernel) k
  have f228 : ∀ k, h_i h1 228 k = h_i h 228 k := fun k => fr_i F1 (by decide +kernel) k
  have g35 : ∀ k, h_i h2 35 k = h_i h1 35 k := fun k => fr_i F2 (by decide +kernel) k
  have g36 : ∀ k, h_i h2 36 k = h_i h1 36 k := fun k => fr_i F2 (by decide +kernel) k
  have bb1 : bB h1 = 150 * (h_i h 12 3).toNatClampNeg := by
    show 150 * (h_i h1 1 42).toNatClampNeg = _
    rw [a42]
  have b3 := x12_in L.1
  have n3 := n_nat b3.1
  have lw : ∀ k, k < (h_i h 12 3).toNatClampNeg → h_i h1 35 k = h_i h 35 k → h_i h1 36 k = h_i h 36 k → h_i h2 227 k = h_i h 227 k → h_i h2 35 k = h_i h2 227 k ∧ (h_i h2 36 k).toInt = (mP (h_i h2 228) k (h_i h2 227 k).toNatClampNeg 0 : Int) := fun k hk x y w => by
    have q := B0 k hk
    have rg := L.1.2.1 227 k
    rw [tfa_tf (show tfa 227 = some (0, 150) by decide +kernel)] at rg
    have r0 : 0 ≤ (h_i h 227 k).toInt := rg.1
    have r1' : (h_i h 227 k).toInt ≤ 150 := rg.2
    have rn := n_nat r0
    rw [g35, g36, x, y, w, mP_same (wh := h_i h 228) (fun z u v => by rw [(c8 z (by rw [bb1]; omega)).1, f228])]
    exact q
  by_cases o : okB (h_i h 31) (xn h) (h_i h 12 3)
  · have ky := ky o
    have my := my o
    have t1 : (1 : Int32).toInt = 1 := rfl
    have ex : (h_i h 12 3 + 1).toInt = (h_i h 12 3).toInt + 1 := tx_add (by rw [t1]; omega) (by rw [t1]; omega)
    have n4 := n_nat (x := h_i h 12 3 + 1) (by omega)
    have RB : ExB h2 := fun k hk => by
      rw [b123, ky.2.1] at hk
      have w : h_i h2 227 k = if k = (h_i h 12 3).toNatClampNeg then Int32.ofNat (beo (h_i h 31) (xn h)).length else h_i h 227 k := by rw [my.2.2.2.1 k, f227]
      have x35 := ky.2.2.2.1 k
      have x36 := ky.2.2.2.2.1 k
      rcases Nat.lt_or_ge k (h_i h 12 3).toNatClampNeg with u | u
      · have nk : ¬ k = (h_i h 12 3).toNatClampNeg := by omega
        rw [if_neg nk] at w x35 x36
        exact lw k u x35 x36 w
      · have ek : k = (h_i h 12 3).toNatClampNeg := by omega
        rw [if_pos ek] at w x35 x36
        have l150 := o.2.2
        have ml := mts_l (beo (h_i h 31) (xn h))
        refine ⟨by rw [g35, x35, w], ?_⟩
        rw [g36, x36, w, on_k (by omega), on_j (by omega), mP_mts _ 0 (fun j x e => ?_)]
        have q := (my.2.2.2.2.1 j x e).1
        rw [bb1, ← ek] at q
        rw [Nat.zero_add]
        exact q
    refine ⟨Z.liT (Rlf.mk ?_ ?_) ⟨mm, ⟨fun k hk => ?_, by rw [e235, e13]; exact X0.2.1, by rw [e235, e14]; exact X0.2.2⟩, RB⟩, ky.1.trans my.1.symm⟩
    · rw [b111, ky.2.2.1, my.2.2.1]
    · rw [b123, ky.2.1, my.2.1]
    · have hk : k < (h_i h2 11 1).toNatClampNeg := hk
      rw [b111, ky.2.2.1] at hk
      exact absurd hk (by show ¬ k < 0; omega)
  · have kn := kn o
    have mn := mn o
    have RB : ExB h2 := fun k hk => by
      rw [b123, kn.2.1] at hk
      exact lw k hk (kn.2.2.2.1 k) (kn.2.2.2.2.1 k) ((mn.2.2.2 k).trans (f227 k))
    refine ⟨Z.liT (Rlf.mk ?_ ?_) ⟨mm, X0.cg e31 e225 e235 (b111.trans kn.2.2.1) e13 e14, RB⟩, kn.1.trans mn.1.symm⟩
    · rw [b111, kn.2.2.1, mn.2.2.1, a32]
    · rw [b123, kn.2.1, mn.2.1]
theorem c_actX (d : Nat) {h : Hp_} (I : Iv h) (x1 : Int32) : Ci (m_X11_act (d + 141) 0 0) [.ref 0, .int x1] h (fun r h' => Iv h' ∧ Fr wrx_13 h h' ∧ Rlx_13 x1 h r h') := c_actx d I x1
theorem c_actM (d : Nat) {b : Nat → Int32} {n : Nat} {h : Hp_} (I : Iv h) (q : Qt b n h) (x1 : Int32) : Ci (m_X12_act (d + 80 + 61) 0 0) [.ref 1, .int x1] h (fun r h' => (Iv h' ∧ Fr wzt h h') ∧ Rlm b n 0 x1 h r h') := c_actf d q.2.1 I q.1 x1
theorem LiT.act {N : Nat} {h h1 h2 : Hp_} {x1 r1 r2 : Int32} (L : LiT N h) (k1 : Iv h1 ∧ Fr wrx_13 h h1 ∧ Rlx_13 x1 h r1 h1) (k2 : (Iv h2 ∧ Fr wzt h1 h2) ∧ Rlm (h_i h 31) (xn h) 0 x1 h1 r2 h2) : LiT N h2 ∧ r1 = r2 := by
  obtain ⟨I1, F1, kn, ky⟩ := k1
  obtain ⟨⟨I2, F2⟩, mn, my⟩ := k2
  have X0 := L.2.2.2.2.2.2.1
  have a5 : h_i h1 235 0 = h_i h 13 5 := (fr_i F1 (by decide +kernel) 0).trans X0.2.1
  have a32 : h_i h1 1 32 = h_i h 11 1 := (F1.2 1 32 (by decide +kernel)).1.trans L.r1.symm
  have a235 : ∀ k, h_i h1 235 k = h_i h 235 k := fun k => fr_i F1 (by decide +kernel) k
  rw [a5] at mn my
  have b111 : h_i h2 11 1 = h_i h1 11 1 := (F2.2 11 1 (by decide +kernel)).1
  have bc5 : h_i h2 13 5 = h_i h1 13 5 := (F2.2 13 5 (by decide +kernel)).1
  have F12 : Fr (wrx_13 ++ wzt) h h2 := (F1.more (by decide +kernel)).tr (F2.more (by decide +kernel))
  have Z : Li0 N h2 := L.z.fr I2 F12 (by decide +kernel)
  have mm : Mn h2 := L.2.2.2.2.2.1.fr F12 (by decide +kernel)
  have RB : ExB h2 := L.2.2.2.2.2.2.2.fr F12 (by decide +kernel)
  have e31 : ∀ k, h_i h2 31 k = h_i h 31 k := fun k => fr_i F12 (by decide +kernel) k
  have e225 : ∀ k, h_i h2 225 k = h_i h 225 k := fun k => fr_i F12 (by decide +kernel) k
  have eo : h_i h2 14 5 = h_i h 14 5 := (F12.2 14 5 (by decide +kernel)).1
  have r2' : h_i h2 12 3 = h_i h2 1 42 := by rw [(F12.2 12 3 (by decide +kernel)).1, (F12.2 1 42 (by decide +kernel)).1]; exact L.r2
  by_cases o : okR (h_i h 31) (xn h) 0 x1 (h_i h 13 5)
  · have ky := ky o
    have my := my o
    refine ⟨Z.liT (Rlf.mk ?_ r2') ⟨mm, ⟨fun k hk => ?_, ?_, ?_⟩, RB⟩, ky.1.trans my.1.symm⟩
    · rw [b111, ky.2.1, my.2.1]
    · have hk : k < (h_i h2 11 1).toNatClampNeg := hk
      rw [b111, ky.2.1] at hk
      exact absurd hk (by show ¬ k < 0; omega)
    · rw [my.2.2.1, if_pos rfl, bc5, ky.2.2.1]
    · rw [my.2.2.1, if_neg (by decide), a235, eo]; exact X0.2.2
  · have kn := kn o
    have mn := mn o
    refine ⟨Z.liT (Rlf.mk ?_ r2') ⟨mm, X0.cg e31 e225 (fun k => (mn.2.2.1 k).trans (a235 k)) (b111.trans kn.2.1) (bc5.trans kn.2.2.1) eo, RB⟩, kn.1.trans mn.1.symm⟩
    rw [b111, kn.2.1, mn.2.1, a32]
theorem c_payX (d : Nat) {h : Hp_} (I : Iv h) (x1 : Int32) : Ci (m_X11_pay (d + 141) 0 0) [.ref 0, .int x1] h (fun r h' => Iv h' ∧ Fr wrx_14 h h' ∧ Rlx_14 x1 h r h') := c_payx d I x1
theorem c_payM (d : Nat) {b : Nat → Int32} {n : Nat} {h : Hp_} (I : Iv h) (q : Qt b n h) (x1 : Int32) : Ci (m_X12_pay (d + 80 + 61) 0 0) [.ref 1, .int x1] h (fun r h' => (Iv h' ∧ Fr wzt h h') ∧ Rlm b n 1 x1 h r h') := c_payf d q.2.1 I q.1 x1
theorem LiT.pay {N : Nat} {h h1 h2 : Hp_} {x1 r1 r2 : Int32} (L : LiT N h) (k1 : Iv h1 ∧ Fr wrx_14 h h1 ∧ Rlx_14 x1 h r1 h1) (k2 : (Iv h2 ∧ Fr wzt h1 h2) ∧ Rlm (h_i h 31) (xn h) 1 x1 h1 r2 h2) : LiT N h2 ∧ r1 = r2 := by
  obtain ⟨I1, F1, kn, ky⟩ := k1
  obtain ⟨⟨I2, F2⟩, mn, my⟩ := k2
  have X0 := L.2.2.2.2.2.2.1
  have a5 : h_i h1 235 1 = h_i h 14 5 := (fr_i F1 (by decide +kernel) 1).trans X0.2.2
  have a32 : h_i h1 1 32 = h_i h 11 1 := (F1.2 1 32 (by decide +kernel)).1.trans L.r1.symm
  have a235 : ∀ k, h_i h1 235 k = h_i h 235 k := fun k => fr_i F1 (by decide +kernel) k
  rw [a5] at mn my
  have b111 : h_i h2 11 1 = h_i h1 11 1 := (F2.2 11 1 (by decide +kernel)).1
  have bc5 : h_i h2 14 5 = h_i h1 14 5 := (F2.2 14 5 (by decide +kernel)).1
  have F12 : Fr (wrx_14 ++ wzt) h h2 := (F1.more (by decide +kernel)).tr (F2.more (by decide +kernel))
  have Z : Li0 N h2 := L.z.fr I2 F12 (by decide +kernel)
  have mm : Mn h2 := L.2.2.2.2.2.1.fr F12 (by decide +kernel)
  have RB : ExB h2 := L.2.2.2.2.2.2.2.fr F12 (by decide +kernel)
  have e31 : ∀ k, h_i h2 31 k = h_i h 31 k := fun k => fr_i F12 (by decide +kernel) k
  have e225 : ∀ k, h_i h2 225 k = h_i h 225 k := fun k => fr_i F12 (by decide +kernel) k
  have eo : h_i h2 13 5 = h_i h 13 5 := (F12.2 13 5 (by decide +kernel)).1
  have r2' : h_i h2 12 3 = h_i h2 1 42 := by rw [(F12.2 12 3 (by decide +kernel)).1, (F12.2 1 42 (by decide +kernel)).1]; exact L.r2
  by_cases o : okR (h_i h 31) (xn h) 1 x1 (h_i h 14 5)
  · have ky := ky o
    have my := my o
    refine ⟨Z.liT (Rlf.mk ?_ r2') ⟨mm, ⟨fun k hk => ?_, ?_, ?_⟩, RB⟩, ky.1.trans my.1.symm⟩
    · rw [b111, ky.2.1, my.2.1]
    · have hk : k < (h_i h2 11 1).toNatClampNeg := hk
      rw [b111, ky.2.1] at hk
      exact absurd hk (by show ¬ k < 0; omega)
    · rw [my.2.2.1, if_neg (by decide), a235, eo]; exact X0.2.1
    · rw [my.2.2.1, if_pos rfl, bc5, ky.2.2.1]
  · have kn := kn o
    have mn := mn o
    refine ⟨Z.liT (Rlf.mk ?_ r2') ⟨mm, X0.cg e31 e225 (fun k => (mn.2.2.1 k).trans (a235 k)) (b111.trans kn.2.1) eo (bc5.trans kn.2.2.1), RB⟩, kn.1.trans mn.1.symm⟩
    rw [b111, kn.2.1, mn.2.1, a32]
theorem c_fdX (d : Nat) {h : Hp_} (I : Iv h) (x1 x2 x3 x4 x5 : Int32) : Ci (m_X11_feed (d + 2) 0 0) [.ref 0, .int x1, .int x2, .int x3, .int x4, .int x5] h (fun r h' => Iv h' ∧ Fr [11001, 31999] h h' ∧ Fdx (fdq x1 x2 x3 x4 x5) h r h') := c_fdx d I x1 x2 x3 x4 x5
noncomputable def Fdm (L : List Int32) (h : Hp_) (r : Int32) (h' : Hp_) : Prop := (tn h + L.length ≤ 160 → r = Int32.ofNat (tn h + L.length) ∧ tn h' = tn h + L.length ∧ Apd 225 (tn h) L h h') ∧ (¬ tn h + L.length ≤ 160 → r = -1 ∧ h' = h)
theorem c_fdM (d : Nat) {h : Hp_} (I : Iv h) (x1 x2 x3 x4 x5 : Int32) : Ci (m_X12_feed (d + 1) 0 0) [.ref 1, .int x1, .int x2, .int x3, .int x4, .int x5] h (fun r h' => Iv h' ∧ Fr [1032, 225999] h h' ∧ Fdm (fdq x1 x2 x3 x4 x5) h r h') := c_fdm d I x1 x2 x3 x4 x5
theorem LiT.fd {N : Nat} {h h1 h2 : Hp_} {r1 r2 : Int32} {L0 : List Int32} (L : LiT N h) (k1 : Iv h1 ∧ Fr [11001, 31999] h h1 ∧ Fdx L0 h r1 h1) (k2 : Iv h2 ∧ Fr [1032, 225999] h1 h2 ∧ Fdm L0 h1 r2 h2) : LiT N h2 ∧ r1 = r2 := by
  obtain ⟨I1, F1, ky, kn⟩ := k1
  obtain ⟨I2, F2, my, mn⟩ := k2
  have X0 := L.2.2.2.2.2.2.1
  have tt : tn h1 = xn h := by
    show (h_i h1 1 32).toNatClampNeg = (h_i h 11 1).toNatClampNeg
    rw [(F1.2 1 32 (by decide +kernel)).1, L.r1]
  rw [tt] at my mn
  have F12 : Fr [11001, 31999, 1032, 225999] h h2 := (F1.more (by decide +kernel)).tr (F2.more (by decide +kernel))
  have Z : Li0 N h2 := L.z.fr I2 F12 (by decide +kernel)
  have mm : Mn h2 := L.2.2.2.2.2.1.fr F12 (by decide +kernel)
  have RB : ExB h2 := L.2.2.2.2.2.2.2.fr F12 (by decide +kernel)
  have b111 : h_i h2 11 1 = h_i h1 11 1 := (F2.2 11 1 (by decide +kernel)).1
  have e31 : ∀ k, h_i h2 31 k = h_i h1 31 k := fun k => fr_i F2 (by decide +kernel) k
  have f225 : ∀ k, h_i h1 225 k = h_i h 225 k := fun k => fr_i F1 (by decide +kernel) k
  have e235 : ∀ k, h_i h2 235 k = h_i h 235 k := fun k => fr_i F12 (by decide +kernel) k
  have e13 : h_i h2 13 5 = h_i h 13 5 := (F12.2 13 5 (by decide +kernel)).1
  have e14 : h_i h2 14 5 = h_i h 14 5 := (F12.2 14 5 (by decide +kernel)).1
  have r2' : h_i h2 12 3 = h_i h2 1 42 := by rw [(F12.2 12 3 (by decide +kernel)).1, (F12.2 1 42 (by decide +kernel)).1]; exact L.r2
  by_cases o : xn h + L0.length ≤ 160
  · have ky := ky o
    have my := my o
    have n1 := xn_i I1
    have n2 : (tn h2 : Int) = (h_i h2 1 32).toInt := tn_i I2
    refine ⟨Z.liT (Rlf.mk ?_ r2') ⟨mm, ⟨fun k hk => ?_, by rw [e235, e13]; exact X0.2.1, by rw [e235, e14]; exact X0.2.2⟩, RB⟩, ky.1.trans my.1.symm⟩
    · rw [b111]
      refine Int32.toInt_inj.mp ?_
      have a := ky.2.1
      have b := my.2.1
      omega
    · have hk : k < (h_i h2 11 1).toNatClampNeg := hk
      rw [b111] at hk
      have hk : k < xn h1 := hk
      rw [ky.2.1] at hk
      rw [e31]
      rcases Nat.lt_or_ge k (xn h) with u | u
      · rw [my.2.2.1 k u, f225, ky.2.2.1 k u]
        exact X0.1 k u
      · have l : k - xn h < L0.length := by omega
        have g : L0[k - xn h]? = some (L0[k - xn h]'l) := List.getElem?_eq_getElem l
        have a := ky.2.2.2 _ _ g
        have b := my.2.2.2 _ _ g
        rw [show xn h + (k - xn h) = k by omega] at a b
        rw [a, b]
  · have kn := kn o
    have mn := mn o
    obtain ⟨ka, kb⟩ := kn
    obtain ⟨ma, mb⟩ := mn
    subst kb
    subst mb
    exact ⟨L, ka.trans ma.symm⟩
theorem c_enX (d : Nat) {h : Hp_} (I : Iv h) (x1 : Int32) : Ci (m_X11_end (d + 2) 0 0) [.ref 0, .int x1] h (fun r h' => Iv h' ∧ Fr [11001] h h' ∧ (((0 ≤ x1 ∧ x1 ≤ h_i h 11 1) ∧ r = 1 ∧ h' = h_im h 11 1 x1) ∨ (¬ (0 ≤ x1 ∧ x1 ≤ h_i h 11 1) ∧ r = 0 ∧ h' = h))) := c_endx d I x1
theorem c_enM (d : Nat) {h : Hp_} (I : Iv h) (x1 : Int32) : Ci (m_X12_end (d + 0) 0 0) [.ref 1, .int x1] h (fun r h' => Iv h' ∧ Fr [1032] h h' ∧ (((0 ≤ x1 ∧ x1 ≤ h_i h 1 32) ∧ r = 1 ∧ h' = h_im h 1 32 x1) ∨ (¬ (0 ≤ x1 ∧ x1 ≤ h_i h 1 32) ∧ r = 0 ∧ h' = h))) := by
  have t0 : (0 : Int32).toInt = 0 := rfl
  have z1 : (h_i h 1 32).toInt ≤ 160 := (pz_in I).2
  refine t_X12_end d h I.1 x1 _ ⟨fun z => ⟨I, Fr.rf _ _, Or.inr ⟨fun y => ?_, rfl, rfl⟩⟩, fun z => ⟨fun y => ?_, fun y => ⟨I, Fr.rf _ _, Or.inr ⟨fun u => y u.2, rfl, rfl⟩⟩⟩⟩
  · have z := q_lt.mp z
    have y := q_le.mp y.1
    omega
  · have z := q_nlt z
    have y' := q_le.mp y
    exact ⟨i32 I ⟨by show (0 : Int) ≤ _; omega, by show _ ≤ (160 : Int); omega⟩, (Fr.rf _ _).im (by decide +kernel), Or.inl ⟨⟨q_le.mpr (by omega), y⟩, rfl, rfl⟩⟩
theorem LiT.en {N : Nat} {h h1 h2 : Hp_} {x1 r1 r2 : Int32} (L : LiT N h) (k1 : Iv h1 ∧ Fr [11001] h h1 ∧ (((0 ≤ x1 ∧ x1 ≤ h_i h 11 1) ∧ r1 = 1 ∧ h1 = h_im h 11 1 x1) ∨ (¬ (0 ≤ x1 ∧ x1 ≤ h_i h 11 1) ∧ r1 = 0 ∧ h1 = h))) (k2 : Iv h2 ∧ Fr [1032] h1 h2 ∧ (((0 ≤ x1 ∧ x1 ≤ h_i h1 1 32) ∧ r2 = 1 ∧ h2 = h_im h1 1 32 x1) ∨ (¬ (0 ≤ x1 ∧ x1 ≤ h_i h1 1 32) ∧ r2 = 0 ∧ h2 = h1))) : LiT N h2 ∧ r1 = r2 := by
  obtain ⟨I1, F1, k1⟩ := k1
  obtain ⟨I2, F2, k2⟩ := k2
  have a32 : h_i h1 1 32 = h_i h 11 1 := (F1.2 1 32 (by decide +kernel)).1.trans L.r1.symm
  rw [a32] at k2
  have X0 := L.2.2.2.2.2.2.1
  rcases k1 with ⟨b, e1, e2⟩ | ⟨b, e1, e2⟩ <;> rcases k2 with ⟨c, e3, e4⟩ | ⟨c, e3, e4⟩
  · have F12 : Fr [11001, 1032] h h2 := (F1.more (by decide +kernel)).tr (F2.more (by decide +kernel))
    have Z : Li0 N h2 := L.z.fr I2 F12 (by decide +kernel)
    have mm : Mn h2 := L.2.2.2.2.2.1.fr F12 (by decide +kernel)
    have RB : ExB h2 := L.2.2.2.2.2.2.2.fr F12 (by decide +kernel)
    have r2' : h_i h2 12 3 = h_i h2 1 42 := by rw [(F12.2 12 3 (by decide +kernel)).1, (F12.2 1 42 (by decide +kernel)).1]; exact L.r2
    have b111 : h_i h2 11 1 = x1 := by rw [(F2.2 11 1 (by decide +kernel)).1, e2, im_at]
    have b132 : h_i h2 1 32 = x1 := by rw [e4, im_at]
    refine ⟨Z.liT (Rlf.mk (b111.trans b132.symm) r2') ⟨mm, ⟨fun k hk => ?_, ?_, ?_⟩, RB⟩, e1.trans e3.symm⟩
    · rw [fr_i F12 (by decide +kernel), fr_i F12 (by decide +kernel)]
      refine X0.1 k ?_
      have hk : k < (h_i h2 11 1).toNatClampNeg := hk
      rw [b111] at hk
      have b0 := q_le.mp b.1
      have b2 := q_le.mp b.2
      have t0 : (0 : Int32).toInt = 0 := rfl
      have n1 := n_nat (x := x1) (by omega)
      have n2 := xn_i L.1
      omega
    · rw [fr_i F12 (by decide +kernel), (F12.2 13 5 (by decide +kernel)).1]
      exact X0.2.1
    · rw [fr_i F12 (by decide +kernel), (F12.2 14 5 (by decide +kernel)).1]
      exact X0.2.2
  · exact absurd b c
  · exact absurd c b
  · subst e2
    subst e4
    exact ⟨L, e1.trans e3.symm⟩
/-! fault -/
noncomputable def wzq : List Nat := [11002, 11003, 11004, 11006, 11007, 11009, 32999, 33999]
noncomputable def flq (b : Nat → Int32) (n : Nat) (x : Int32) : Int32 := if x = 0 then enq b n (beq b n) else if x = 1 then enq b n (ruq b n (clq b n 1)) else if x = 2 then enq b n (ruq b n (clq b n 2)) else -2
theorem LiT.fl {N : Nat} {h h1 h2 : Hp_} {x1 r1 r2 : Int32} (L : LiT N h) (k1 : Iv h1 ∧ Fr wzq h h1 ∧ r1 = flq (h_i h 31) (xn h) x1) (k2 : Iv h2 ∧ Fr wzf h1 h2 ∧ r2 = flq (h_i h 31) (xn h) x1) : LiT N h2 ∧ r1 = r2 := ⟨(L.fr k1.1 k1.2.1 (by decide +kernel)).fr k2.1 k2.2.1 (by decide +kernel), k1.2.2.trans k2.2.2.symm⟩
/-! beaten -/
theorem c_has (d : Nat) {h : Hp_} (I : Iv h) (x1 : Int32) : Ci (m_X0_has (d + 0) 0 0) [.ref 12, .int x1] h (fun r h' => h' = h ∧ ((r = 1 ∧ (¬ x1 < 0 ∧ ¬ h_i h 12 3 ≤ x1)) ∨ (r = 0 ∧ ¬ (¬ x1 < 0 ∧ ¬ h_i h 12 3 ≤ x1)))) := t_X0_has d h I.1 x1 _ ⟨fun z => ⟨rfl, Or.inr ⟨rfl, fun y => y.1 z⟩⟩, fun z => ⟨fun y => ⟨rfl, Or.inr ⟨rfl, fun u => u.2 y⟩⟩, fun y => ⟨rfl, Or.inl ⟨rfl, z, y⟩⟩⟩⟩
noncomputable def bnX (h : Hp_) (x1 x2 : Int32) : Int32 := if ¬ x1 < 0 ∧ ¬ h_i h 12 3 ≤ x1 then (if x2 = 0 then h_i h 35 x1.toNatClampNeg else if x2 = 1 then h_i h 36 x1.toNatClampNeg else -1) else -1
theorem LiT.bn {N : Nat} {h h1 h2 : Hp_} {x1 x2 r1 r2 : Int32} (L : LiT N h) (k1 : Iv h1 ∧ h1 = h ∧ r1 = bnX h x1 x2) (k2 : Iv h2 ∧ h2 = h1 ∧ (((0 ≤ x1 ∧ x1 ≤ h_i h1 1 42 - 1) → (x2 = 0 → r2 = h_i h1 227 x1.toNatClampNeg) ∧ (x2 = 1 → r2.toInt = (mP (h_i h1 228) x1.toNatClampNeg (h_i h1 227 x1.toNatClampNeg).toNatClampNeg 0 : Int)) ∧ (¬ x2 = 0 → ¬ x2 = 1 → r2 = -1)) ∧ (¬ (0 ≤ x1 ∧ x1 ≤ h_i h1 1 42 - 1) → r2 = -1))) : LiT N h2 ∧ r1 = r2 := by
  obtain ⟨_, e1, k1⟩ := k1
  obtain ⟨_, e2, ky, kn⟩ := k2
  subst e1
  subst e2
  refine ⟨L, ?_⟩
  have b3 := x12_in L.1
  have t0 : (0 : Int32).toInt = 0 := rfl
  have t1 : (1 : Int32).toInt = 1 := rfl
  rw [← L.r2] at ky kn
  have em : (h_i h2 12 3 - 1).toInt = (h_i h2 12 3).toInt - 1 := by rw [tx_sub (by rw [t1]; omega) (by rw [t1]; omega), t1]
  rw [k1]
  unfold bnX
  by_cases c : ¬ x1 < 0 ∧ ¬ h_i h2 12 3 ≤ x1
  · have c0 := q_nlt c.1
    have c1 := q_nle c.2
    have y : 0 ≤ x1 ∧ x1 ≤ h_i h2 12 3 - 1 := ⟨q_le.mpr (by omega), q_le.mpr (by omega)⟩
    have n1 := n_nat (x := x1) (by omega)
    have n3 := n_nat b3.1
    have q := L.2.2.2.2.2.2.2 x1.toNatClampNeg (by omega)
    rw [if_pos c]
    by_cases z : x2 = 0
    · rw [if_pos z, (ky y).1 z]
      exact q.1
    · rw [if_neg z]
      by_cases w : x2 = 1
      · rw [if_pos w]
        exact Int32.toInt_inj.mp (q.2.trans ((ky y).2.1 w).symm)
      · rw [if_neg w, (ky y).2.2 z w]
  · rw [if_neg c]
    refine (kn (fun y => c ⟨fun z => ?_, fun z => ?_⟩)).symm
    · have z := q_lt.mp z
      have y := q_le.mp y.1
      omega
    · have z := q_le.mp z
      have y := q_le.mp y.2
      omega
/-! walks over paths: lengths, and the least of them -/
noncomputable def wkq (E : Nat → Nat × Nat × Int) (n u : Nat) : Nat → Nat → Int → Prop
  | 0, v, t => v = u ∧ t = 0
  | k + 1, v, t => ∃ i, i < n ∧ ((v = (E i).2.1 ∧ wkq E n u k (E i).1 (t - (E i).2.2)) ∨ (v = (E i).1 ∧ wkq E n u k (E i).2.1 (t - (E i).2.2)))
theorem wkq_mo {E E' : Nat → Nat × Nat × Int} {n n' u : Nat} (hn : n ≤ n') (hE : ∀ i, i < n → E' i = E i) : ∀ (k v : Nat) (t : Int), wkq E n u k v t → wkq E' n' u k v t
  | 0, _, _, h => h
  | k + 1, v, t, ⟨i, hi, h⟩ => ⟨i, by omega, by
    rw [hE i hi]
    exact h.elim (fun h => Or.inl ⟨h.1, wkq_mo hn hE k _ _ h.2⟩) (fun h => Or.inr ⟨h.1, wkq_mo hn hE k _ _ h.2⟩)⟩
theorem wkq_cc {E : Nat → Nat × Nat × Int} {n u w : Nat} {k : Nat} {s : Int} (h : wkq E n u k w s) : ∀ (j v : Nat) (t : Int), wkq E n w j v t → wkq E n u (k + j) v (s + t)
  | 0, v, t, ⟨a, b⟩ => by
    rw [a, b, Int.add_zero]
    exact h
  | j + 1, v, t, ⟨i, hi, g⟩ => ⟨i, hi, by
    have e : s + t - (E i).2.2 = s + (t - (E i).2.2) := by omega
    rw [e]
    exact g.elim (fun g => Or.inl ⟨g.1, wkq_cc h j _ _ g.2⟩) (fun g => Or.inr ⟨g.1, wkq_cc h j _ _ g.2⟩)⟩
/-- d is the least length from u, up to B -/
noncomputable def Exr (E : Nat → Nat × Nat × Int) (n : Nat) (B : Int) (u : Nat) (d : Nat → Int) : Prop := ∀ v, v < 16 → (0 ≤ d v ∧ d v ≤ B) ∧ (∀ k t, wkq E n u k v t → d v ≤ t) ∧ (d v < B → ∃ k, wkq E n u k v (d v))
noncomputable def Ev (E : Nat → Nat × Nat × Int) (n : Nat) : Prop := ∀ i, i < n → ((E i).1 < 16 ∧ (E i).2.1 < 16) ∧ 1 ≤ (E i).2.2 ∧ (E i).2.2 ≤ 60
noncomputable def Fe (E : Nat → Nat × Nat × Int) (n : Nat) (d : Nat → Int) : Prop := ∀ i, i < n → d (E i).2.1 ≤ d (E i).1 + (E i).2.2 ∧ d (E i).1 ≤ d (E i).2.1 + (E i).2.2
theorem fe_le {E : Nat → Nat × Nat × Int} {n u : Nat} {d : Nat → Int} (f : Fe E n d) (h0 : d u ≤ 0) : ∀ (k v : Nat) (t : Int), wkq E n u k v t → d v ≤ t
  | 0, v, t, ⟨a, b⟩ => by
    rw [a, b]
    exact h0
  | k + 1, v, t, ⟨i, hi, h⟩ => by
    have q := f i hi
    rcases h with ⟨a, b⟩ | ⟨a, b⟩
    · have ih := fe_le f h0 k _ _ b
      rw [a]
      omega
    · have ih := fe_le f h0 k _ _ b
      rw [a]
      omega
theorem Exr.fe {E : Nat → Nat × Nat × Int} {n u : Nat} {B : Int} {d : Nat → Int} (x : Exr E n B u d) (e : Ev E n) : Fe E n d := fun i hi => by
  have q := e i hi
  have xa := x _ q.1.1
  have xb := x _ q.1.2
  constructor
  · by_cases c : d (E i).1 < B
    · obtain ⟨k, h⟩ := xa.2.2 c
      refine xb.2.1 (k + 1) _ ⟨i, hi, Or.inl ⟨rfl, ?_⟩⟩
      rw [Int.add_sub_cancel]
      exact h
    · have := xb.1.2
      have := xa.1.2
      omega
  · by_cases c : d (E i).2.1 < B
    · obtain ⟨k, h⟩ := xb.2.2 c
      refine xa.2.1 (k + 1) _ ⟨i, hi, Or.inr ⟨rfl, ?_⟩⟩
      rw [Int.add_sub_cancel]
      exact h
    · have := xb.1.2
      have := xa.1.2
      omega
/-- how many are no farther than t -/
noncomputable def cnp (d : Nat → Int) (t : Int) : Nat → Nat
  | 0 => 0
  | j + 1 => cnp d t j + (if d j ≤ t then 1 else 0)
theorem cnp_le (d : Nat → Int) (t : Int) : ∀ j, cnp d t j ≤ j
  | 0 => Nat.le_refl _
  | j + 1 => by
    have ih := cnp_le d t j
    show cnp d t j + (if d j ≤ t then 1 else 0) ≤ j + 1
    by_cases c : d j ≤ t
    · rw [if_pos c]
      omega
    · rw [if_neg c]
      omega
theorem cnp_mo {d : Nat → Int} {s t : Int} (h : s ≤ t) : ∀ j, cnp d s j ≤ cnp d t j
  | 0 => Nat.le_refl _
  | j + 1 => by
    have ih := cnp_mo (d := d) h j
    show cnp d s j + (if d j ≤ s then 1 else 0) ≤ cnp d t j + (if d j ≤ t then 1 else 0)
    by_cases c : d j ≤ s
    · rw [if_pos c, if_pos (Int.le_trans c h)]
      omega
    · rw [if_neg c]
      omega
theorem cnp_lt {d : Nat → Int} {s t : Int} (h : s ≤ t) {v : Nat} (h1 : s < d v) (h2 : d v ≤ t) : ∀ j, v < j → cnp d s j + 1 ≤ cnp d t j
  | 0, l => absurd l (by omega)
  | j + 1, l => by
    show cnp d s j + (if d j ≤ s then 1 else 0) + 1 ≤ cnp d t j + (if d j ≤ t then 1 else 0)
    by_cases c : v = j
    · have m := cnp_mo (d := d) h j
      rw [← c, if_neg (by omega), if_pos h2]
      rw [← c] at m
      omega
    · have ih := cnp_lt h h1 h2 j (by omega)
      by_cases c : d j ≤ s
      · rw [if_pos c, if_pos (Int.le_trans c h)]
        omega
      · rw [if_neg c]
        omega
theorem Exr.b9 {E : Nat → Nat × Nat × Int} {n u : Nat} {B : Int} {d : Nat → Int} (x : Exr E n B u d) (e : Ev E n) : ∀ (N v : Nat), v < 16 → (d v).toNat < N → d v < B → d v + 60 ≤ 60 * (cnp d (d v) 16 : Int)
  | 0, _, _, l, _ => absurd l (by omega)
  | N + 1, v, hv, l, c => by
    obtain ⟨k, h⟩ := (x v hv).2.2 c
    have p := (x v hv).1.1
    cases k with
    | zero =>
      have h' : v = u ∧ d v = 0 := h
      have q := cnp_lt (d := d) (s := -1) (t := d v) (by omega) (v := v) (by omega) (Int.le_refl _) 16 hv
      omega
    | succ k =>
      obtain ⟨i, hi, g⟩ := h
      have ei := e i hi
      have fe := x.fe e i hi
      have st : ∀ a, a < 16 → wkq E n u k a (d v - (E i).2.2) → d v ≤ d a + (E i).2.2 → d v + 60 ≤ 60 * (cnp d (d v) 16 : Int) := fun a ha hw hf => by
        have xa := (x a ha).2.1 k _ hw
        have pa := (x a ha).1.1
        have ih := Exr.b9 x e N a ha (by omega) (by omega)
        have q := cnp_lt (d := d) (s := d a) (t := d v) (by omega) (v := v) (by omega) (Int.le_refl _) 16 hv
        omega
      rcases g with ⟨a, b⟩ | ⟨a, b⟩
      · exact st _ ei.1.1 b (by rw [a]; exact fe.1)
      · exact st _ ei.1.2 b (by rw [a]; exact fe.2)
theorem Exr.le {E : Nat → Nat × Nat × Int} {n u : Nat} {B : Int} {d : Nat → Int} (x : Exr E n B u d) (e : Ev E n) {v : Nat} (hv : v < 16) (c : d v < B) : d v ≤ 900 := by
  have k := x.b9 e ((d v).toNat + 1) v hv (by omega) c
  have l := cnp_le d (d v) 16
  omega
theorem Exr.eq {E : Nat → Nat × Nat × Int} {n u : Nat} {B B' : Int} {d d' : Nat → Int} (x : Exr E n B u d) (y : Exr E n B' u d') (e : Ev E n) (hB : 900 < B) (hB' : 900 < B') {v : Nat} (hv : v < 16) : (d v < B ∧ d' v < B' ∧ d v = d' v) ∨ (¬ d v < B ∧ ¬ d' v < B') := by
  by_cases c : d v < B
  · obtain ⟨k, h⟩ := (x v hv).2.2 c
    have l := (y v hv).2.1 k _ h
    have l9 := x.le e hv c
    obtain ⟨k', h'⟩ := (y v hv).2.2 (by omega)
    have l' := (x v hv).2.1 k' _ h'
    exact Or.inl ⟨c, by omega, by omega⟩
  · refine Or.inr ⟨c, fun c' => c ?_⟩
    obtain ⟨k', h'⟩ := (y v hv).2.2 c'
    have l' := (x v hv).2.1 k' _ h'
    have l9 := y.le e hv c'
    omega
noncomputable def Exd (E : Nat → Nat × Nat × Int) (n : Nat) (B : Int) (D : Nat → Nat → Int) : Prop := ∀ u, u < 16 → Exr E n B u (D u)
noncomputable def exE (E : Nat → Nat × Nat × Int) (n : Nat) (q : Nat × Nat × Int) : Nat → Nat × Nat × Int := fun i => if i = n then q else E i
/-- one path more: what the table must be -/
theorem Exd.add {E : Nat → Nat × Nat × Int} {n : Nat} {B : Int} {D V : Nat → Nat → Int} {a b : Nat} {m : Int} (x : Exd E n B D) (e : Ev E n) (ha : a < 16) (hb : b < 16) (hm : 1 ≤ m) (hV : ∀ u v, u < 16 → v < 16 → ((0 ≤ V u v ∧ V u v ≤ B) ∧ (V u v < B → ∃ k, wkq (exE E n (a, b, m)) (n + 1) u k v (V u v))) ∧ V u v ≤ D u v ∧ V u v ≤ D u a + m + D b v ∧ V u v ≤ D u b + m + D a v) : Exd (exE E n (a, b, m)) (n + 1) B V := fun u hu v hv => by
  have q := hV u v hu hv
  refine ⟨q.1.1, fun k t h => ?_, q.1.2⟩
  have z : ∀ w, w < 16 → D w w ≤ 0 := fun w hw => (x w hw w hw).2.1 0 0 ⟨rfl, rfl⟩
  have fu := (x u hu).fe e
  have fa := (x a ha).fe e
  have fb := (x b hb).fe e
  have f : Fe (exE E n (a, b, m)) (n + 1) (fun v => min (D u v) (min (D u a + m + D b v) (D u b + m + D a v))) := fun i hi => by
    by_cases c : i = n
    · have ee : exE E n (a, b, m) i = (a, b, m) := if_pos c
      rw [ee]
      have h1 := z a ha
      have h2 := z b hb
      have h3 := (x b hb a ha).1.1
      have h4 := (x a ha b hb).1.1
      have h5 := (x u hu a ha).1.1
      have h6 := (x u hu b hb).1.1
      show min (D u b) (min (D u a + m + D b b) (D u b + m + D a b)) ≤ min (D u a) (min (D u a + m + D b a) (D u b + m + D a a)) + m ∧ min (D u a) (min (D u a + m + D b a) (D u b + m + D a a)) ≤ min (D u b) (min (D u a + m + D b b) (D u b + m + D a b)) + m
      have h7 := (x a ha a ha).1.1
      have h8 := (x b hb b hb).1.1
      omega
    · have ee : exE E n (a, b, m) i = E i := if_neg c
      rw [ee]
      have k1 := fu i (by omega)
      have k2 := fa i (by omega)
      have k3 := fb i (by omega)
      show min (D u (E i).2.1) (min (D u a + m + D b (E i).2.1) (D u b + m + D a (E i).2.1)) ≤ min (D u (E i).1) (min (D u a + m + D b (E i).1) (D u b + m + D a (E i).1)) + (E i).2.2 ∧ min (D u (E i).1) (min (D u a + m + D b (E i).1) (D u b + m + D a (E i).1)) ≤ min (D u (E i).2.1) (min (D u a + m + D b (E i).2.1) (D u b + m + D a (E i).2.1)) + (E i).2.2
      omega
  have g := fe_le f (u := u) (by
    show min (D u u) (min (D u a + m + D b u) (D u b + m + D a u)) ≤ 0
    have := z u hu
    omega) k v t h
  have g' : min (D u v) (min (D u a + m + D b v) (D u b + m + D a v)) ≤ t := g
  omega
/-- the reference's paths, and the class's table -/
noncomputable def eE (h : Hp_) : Nat → Nat × Nat × Int := fun i => ((h_i h 200 i).toNatClampNeg, (h_i h 201 i).toNatClampNeg, (h_i h 202 i).toInt)
noncomputable def eN (h : Hp_) : Nat := (h_i h 1 6).toNatClampNeg
noncomputable def dX (h : Hp_) : Nat → Nat → Int := fun u v => (h_i h 30 (16 * u + v)).toInt
noncomputable def ExP (h : Hp_) : Prop := (∀ i, i < eN h → 1 ≤ (h_i h 202 i).toInt) ∧ Exd (eE h) (eN h) 1000000 (dX h)
noncomputable def exoP (ws : List Nat) : Bool := off ws 30 && off ws 200 && off ws 201 && off ws 202 && !inw ws 1 6
theorem exP_F : ExP HF := by
  have z : eN HF = 0 := by
    unfold eN
    rw [show h_i HF 1 6 = 0 by decide +kernel]
    decide
  refine ⟨fun i hi => absurd hi (by rw [z]; omega), ?_⟩
  rw [z]
  have t : (List.range 256).all (fun k => h_i HF 30 k == (if k / 16 = k % 16 then 0 else 1000000)) = true := by decide +kernel
  have t0 : (0 : Int32).toInt = 0 := rfl
  have tm : (1000000 : Int32).toInt = 1000000 := rfl
  have dv : ∀ u v, u < 16 → v < 16 → dX HF u v = if u = v then 0 else 1000000 := fun u v hu hv => by
    have y := eq_of_beq (List.all_eq_true.mp t (16 * u + v) (List.mem_range.mpr (by omega)))
    unfold dX
    rw [y]
    by_cases c : u = v
    · rw [if_pos c, if_pos (by omega), t0]
    · rw [if_neg c, if_neg (by omega), tm]
  intro u hu v hv
  show (0 ≤ dX HF u v ∧ dX HF u v ≤ 1000000) ∧ (∀ k t, wkq (eE HF) 0 u k v t → dX HF u v ≤ t) ∧ (dX HF u v < 1000000 → ∃ k, wkq (eE HF) 0 u k v (dX HF u v))
  rw [dv u v hu hv]
  by_cases c : u = v
  · rw [if_pos c]
    refine ⟨⟨by decide, by decide⟩, fun k t h => ?_, fun _ => ⟨0, c.symm, rfl⟩⟩
    cases k with
    | zero =>
      have h' : v = u ∧ t = 0 := h
      omega
    | succ k =>
      obtain ⟨i, hi, _⟩ := h
      omega
  · rw [if_neg c]
    refine ⟨⟨by decide, by decide⟩, fun k t h => ?_, fun y => absurd y (by decide)⟩
    cases k with
    | zero =>
      have h' : v = u ∧ t = 0 := h
      omega
    | succ k =>
      obtain ⟨i, hi, _⟩ := h
      omega
theorem ExP.cg {h h' : Hp_} (e : ExP h) (a : h_i h' 30 = h_i h 30) (b : h_i h' 200 = h_i h 200) (c : h_i h' 201 = h_i h 201) (d : h_i h' 202 = h_i h 202) (n : h_i h' 1 6 = h_i h 1 6) : ExP h' := by
  unfold ExP eE eN dX
  rw [a, b, c, d, n]
  exact e
theorem ExP.fr {ws : List Nat} {h h' : Hp_} (e : ExP h) (f : Fr ws h h') (o : exoP ws = true) : ExP h' := by
  unfold exoP at o
  simp only [Bool.and_eq_true, Bool.not_eq_true'] at o
  exact e.cg (funext (fun k => fr_i f o.1.1.1.1 k)) (funext (fun k => fr_i f o.1.1.1.2 k)) (funext (fun k => fr_i f o.1.1.2 k)) (funext (fun k => fr_i f o.1.2 k)) (f.2 1 6 o.2).1
theorem ExP.mf {W : List Nat} {h h' : Hp_} (e : ExP h) (f : Mf W h h') (o : exoP W = true) : ExP h' := by
  unfold exoP at o
  simp only [Bool.and_eq_true, Bool.not_eq_true'] at o
  exact e.cg (funext (fun k => (f.2.2.2 30 k (by decide) (off_inw o.1.1.1.1 k)).1)) (funext (fun k => f.2.1 200 (by decide) (by decide) k)) (funext (fun k => f.2.1 201 (by decide) (by decide) k)) (funext (fun k => f.2.1 202 (by decide) (by decide) k)) (f.1 6)
/-- the number of paths too -/
noncomputable def ExR (h : Hp_) : Prop := h_i h 10 1 = h_i h 1 6 ∧ ExP h
noncomputable def exoR (ws : List Nat) : Bool := !inw ws 10 1 && exoP ws
theorem exR_F : ExR HF := ⟨by decide +kernel, exP_F⟩
theorem ExR.fr {ws : List Nat} {h h' : Hp_} (e : ExR h) (f : Fr ws h h') (o : exoR ws = true) : ExR h' := by
  unfold exoR at o
  rw [Bool.and_eq_true, Bool.not_eq_true'] at o
  refine ⟨?_, e.2.fr f o.2⟩
  have o2 := o.2
  unfold exoP at o2
  simp only [Bool.and_eq_true, Bool.not_eq_true'] at o2
  rw [(f.2 10 1 o.1).1, (f.2 1 6 o2.2).1]
  exact e.1
theorem ExR.mf {W : List Nat} {h h' : Hp_} (e : ExR h) (f : Mf W h h') (o : exoR W = true) : ExR h' := by
  unfold exoR at o
  rw [Bool.and_eq_true, Bool.not_eq_true'] at o
  refine ⟨?_, e.2.mf f o.2⟩
  rw [(f.2.2.2 10 1 (by decide) o.1).1, f.1 6]
  exact e.1
noncomputable def oca (ok : Prop) (m r m' : Int32) : Prop := (ok ∧ r = m ∧ m' = m + 1) ∨ (¬ ok ∧ r = -1 ∧ m' = m)
theorem oca_eq {p q : Prop} {m r1 r2 m1 m2 : Int32} (e : p ↔ q) (a : oca p m r1 m1) (b : oca q m r2 m2) : r1 = r2 ∧ m1 = m2 := by
  rcases a with ⟨a, a1, a2⟩ | ⟨a, a1, a2⟩ <;> rcases b with ⟨b, b1, b2⟩ | ⟨b, b1, b2⟩
  · exact ⟨a1.trans b1.symm, a2.trans b2.symm⟩
  · exact absurd (e.mp a) b
  · exact absurd (e.mpr b) a
  · exact ⟨a1.trans b1.symm, a2.trans b2.symm⟩
theorem nz_lt {m n : Int32} (b : m.toInt ≤ n.toInt) : m < n ↔ ¬ m = n := ⟨fun l e => by rw [e] at l; exact absurd (q_lt.mp l) (Int.lt_irrefl _), fun ne => q_lt.mpr (by
  rcases Int.lt_or_le m.toInt n.toInt with u | u
  · exact u
  · exact absurd (Int32.toInt_inj.mp (Int.le_antisymm b u)) ne)⟩
theorem p15 {x : Int32} : (0 ≤ x ∧ x < 16) ↔ (0 ≤ x ∧ x ≤ 15) := by
  have t15 : (15 : Int32).toInt = 15 := rfl
  have t16 : (16 : Int32).toInt = 16 := rfl
  rw [q_lt, q_le (y := 15), t15, t16]
  exact ⟨fun z => ⟨z.1, by omega⟩, fun z => ⟨z.1, by omega⟩⟩

theorem f_le {h : Hp_} {c f : Nat} {n : Int} (I : Iv h) (e : tf c f = (0, n)) : 0 ≤ (h_i h c f).toInt ∧ (h_i h c f).toInt ≤ n := by
  have rg := I.2.1 c f
  rw [e] at rg
  exact ⟨rg.1, rg.2⟩
theorem i256 {i j : Nat} (hi : i < 16) (hj : j < 16) : ((Int32.ofNat i * 16) + Int32.ofNat j).toNatClampNeg = 16 * i + j ∧ vp_in ((Int32.ofNat i * 16) + Int32.ofNat j) 256 := by
  have t16 : (16 : Int32).toInt = 16 := rfl
  have ei := on_j (n := i) (by omega)
  have ej := on_j (n := j) (by omega)
  have a : (Int32.ofNat i * 16).toInt = (i : Int) * 16 := by rw [tx_mul (by rw [t16]; omega) (by rw [t16]; omega), t16, ei]
  have b : (Int32.ofNat i * 16 + Int32.ofNat j).toInt = (i : Int) * 16 + (j : Int) := by rw [tx_add (by omega) (by omega), a, ej]
  have n := n_nat (x := Int32.ofNat i * 16 + Int32.ofNat j) (by omega)
  exact ⟨by omega, dp_in (lo := 0) (hi := 255) ⟨by show (0 : Int) ≤ _; omega, by show _ ≤ (255 : Int); omega⟩ (by decide) (by decide)⟩
theorem mn_i (x y : Int32) : (if x < y then x else y).toInt = min x.toInt y.toInt := by
  by_cases c : x < y
  · rw [if_pos c]
    have := q_lt.mp c
    omega
  · rw [if_neg c]
    have := q_nlt c
    omega
/-- the table while a path is laid -/
noncomputable def Lv (E : Nat → Nat × Nat × Int) (n a b : Nat) (m : Int) (D : Nat → Nat → Int) (P : Nat → Nat → Prop) (h : Hp_) : Prop := ∀ u v, u < 16 → v < 16 → ((0 ≤ dX h u v ∧ dX h u v ≤ 1000000) ∧ (dX h u v < 1000000 → ∃ k, wkq (exE E n (a, b, m)) (n + 1) u k v (dX h u v))) ∧ dX h u v ≤ D u v ∧ (P u v → dX h u v ≤ D u a + m + D b v ∧ dX h u v ≤ D u b + m + D a v)
theorem Lv.cg {E : Nat → Nat × Nat × Int} {n a b : Nat} {m : Int} {D : Nat → Nat → Int} {P Q : Nat → Nat → Prop} {h : Hp_} (l : Lv E n a b m D P h) (pq : ∀ u v, u < 16 → v < 16 → Q u v → P u v) : Lv E n a b m D Q h := fun u v hu hv => ⟨(l u v hu hv).1, (l u v hu hv).2.1, fun q => (l u v hu hv).2.2 (pq u v hu hv q)⟩
theorem Lv.st {E : Nat → Nat × Nat × Int} {n a b : Nat} {m : Int} {D : Nat → Nat → Int} {P : Nat → Nat → Prop} {h : Hp_} (l : Lv E n a b m D P h) (ha : a < 16) (hb : b < 16) (hm : 1 ≤ m) {i j : Nat} (hi : i < 16) (hj : j < 16) {y : Int32} (ey : y.toInt = min (min (dX h i b + m + dX h a j) (dX h i a + m + dX h b j)) (dX h i j)) : Lv E n a b m D (fun u v => P u v ∨ (u = i ∧ v = j)) (h_im h 30 (16 * i + j) y) := fun u v hu hv => by
  have lij := l i j hi hj
  have lia := l i a hi ha
  have lib := l i b hi hb
  have laj := l a j ha hj
  have lbj := l b j hb hj
  by_cases c : u = i ∧ v = j
  · have e : dX (h_im h 30 (16 * i + j) y) u v = y.toInt := by
      unfold dX
      rw [c.1, c.2, im_at]
    rw [e, c.1, c.2]
    refine ⟨⟨⟨by omega, by omega⟩, fun yb => ?_⟩, by omega, fun _ => ⟨by omega, by omega⟩⟩
    have en : exE E n (a, b, m) n = (a, b, m) := if_pos rfl
    by_cases q1 : y.toInt = dX h i j
    · rw [q1] at yb ⊢
      exact lij.1.2 yb
    · by_cases q2 : y.toInt = dX h i a + m + dX h b j
      · obtain ⟨k1, w1⟩ := lia.1.2 (by omega)
        obtain ⟨k2, w2⟩ := lbj.1.2 (by omega)
        have w3 : wkq (exE E n (a, b, m)) (n + 1) i (k1 + 1) b (dX h i a + m) := ⟨n, by omega, Or.inl ⟨by rw [en], by rw [en]; show wkq _ _ _ _ a (dX h i a + m - m); rw [Int.add_sub_cancel]; exact w1⟩⟩
        rw [q2]
        exact ⟨_, wkq_cc w3 k2 _ _ w2⟩
      · have q3 : y.toInt = dX h i b + m + dX h a j := by omega
        obtain ⟨k1, w1⟩ := lib.1.2 (by omega)
        obtain ⟨k2, w2⟩ := laj.1.2 (by omega)
        have w3 : wkq (exE E n (a, b, m)) (n + 1) i (k1 + 1) a (dX h i b + m) := ⟨n, by omega, Or.inr ⟨by rw [en], by rw [en]; show wkq _ _ _ _ b (dX h i b + m - m); rw [Int.add_sub_cancel]; exact w1⟩⟩
        rw [q3]
        exact ⟨_, wkq_cc w3 k2 _ _ w2⟩
  · have e : dX (h_im h 30 (16 * i + j) y) u v = dX h u v := by
      unfold dX
      rw [h_i_im, if_neg (fun z => c (by have := z.2; omega))]
    rw [e]
    exact ⟨(l u v hu hv).1, (l u v hu hv).2.1, fun q => (l u v hu hv).2.2 (q.elim id (fun q => absurd q c))⟩
theorem ly_in (d : Nat) (h0 : Hp_) {E : Nat → Nat × Nat × Int} {n a b : Nat} {m : Int} {D : Nat → Nat → Int} (ha : a < 16) (hb : b < 16) (hm : 1 ≤ m ∧ m ≤ 60) (x3 : Int32) (e3 : x3.toInt = m) {i : Nat} (hi : i < 16) (K : Int32 → Hp_ → Prop) (O : ∀ h, Iv h → Fr [30999] h0 h → Lv E n a b m D (fun u _ => u < i + 1) h → AW (m_X9_lay (d + 1) 0 0) 0 0 14 [(0, .ref 10), (1, .int (Int32.ofNat a)), (2, .int (Int32.ofNat b)), (3, .int x3), (4, .int (Int32.ofNat i + 1))] [] h (kI K)) :
    ∀ (r j : Nat) (h : Hp_), j + r = 16 → Iv h → Fr [30999] h0 h → Lv E n a b m D (fun u v => u < i ∨ (u = i ∧ v < j)) h → AW (m_X9_lay (d + 1) 0 0) 0 0 24 [(0, .ref 10), (1, .int (Int32.ofNat a)), (2, .int (Int32.ofNat b)), (3, .int x3), (4, .int (Int32.ofNat i)), (5, .int (Int32.ofNat j))] [] h (kI K) := by
  have t16 : (16 : Int32).toInt = 16 := rfl
  intro r
  induction r with
  | zero =>
    intro j h ej I F l
    exact t_X9_lay_24 d h I.1 _ _ x3 _ _ K ⟨fun _ => O h I F (l.cg (fun u v hu hv q => by omega)), fun z => absurd (q_le.mpr (by rw [t16, on_j (by omega)]; omega)) z⟩
  | succ r ih =>
    intro j h ej I F l
    have hj : j < 16 := by omega
    have k1 := i256 hi ha
    have k2 := i256 hb hj
    have k3 := i256 hi hb
    have k4 := i256 ha hj
    have k5 := i256 hi hj
    have lij := (l i j hi hj).1.1
    have lia := (l i a hi ha).1.1
    have lib := (l i b hi hb).1.1
    have laj := (l a j ha hj).1.1
    have lbj := (l b j hb hj).1.1
    unfold dX at lij lia lib laj lbj
    refine t_X9_lay_24 d h I.1 _ _ x3 _ _ K ⟨fun z => by have := q_le.mp z; rw [t16, on_j (by omega)] at this; omega, fun _ => ⟨k1.2, k2.2, k3.2, k4.2, k5.2, k5.2, ?_⟩⟩
    rw [k1.1, k2.1, k3.1, k4.1, k5.1, on_s (by omega)]
    have s1 : (h_i h 30 (16 * i + b) + x3 + h_i h 30 (16 * a + j)).toInt = dX h i b + m + dX h a j := by
      unfold dX
      rw [tx_add (by rw [tx_add (by omega) (by omega)]; omega) (by rw [tx_add (by omega) (by omega)]; omega), tx_add (by omega) (by omega), e3]
    have s2 : (h_i h 30 (16 * i + a) + x3 + h_i h 30 (16 * b + j)).toInt = dX h i a + m + dX h b j := by
      unfold dX
      rw [tx_add (by rw [tx_add (by omega) (by omega)]; omega) (by rw [tx_add (by omega) (by omega)]; omega), tx_add (by omega) (by omega), e3]
    exact ih (j + 1) _ (by omega) (tr_ 30 (by decide +kernel) I _ _ (by decide) (by decide)) (F.im (inw_row (by decide +kernel) _)) ((l.st ha hb hm.1 hi hj (by rw [mn_i, mn_i, s1, s2]; rfl)).cg (fun u v hu hv q => by omega))
theorem ly_out (d : Nat) (h0 : Hp_) {E : Nat → Nat × Nat × Int} {n a b : Nat} {m : Int} {D : Nat → Nat → Int} (ha : a < 16) (hb : b < 16) (hm : 1 ≤ m ∧ m ≤ 60) (x3 : Int32) (e3 : x3.toInt = m) (K : Int32 → Hp_ → Prop) (O : ∀ h, Iv h → Fr [30999] h0 h → Lv E n a b m D (fun _ _ => True) h → K ((h_i h 10 1 + 1) - 1) (h_im h 10 1 (h_i h 10 1 + 1))) :
    ∀ (r i : Nat) (h : Hp_), i + r = 16 → Iv h → Fr [30999] h0 h → Lv E n a b m D (fun u _ => u < i) h → AW (m_X9_lay (d + 1) 0 0) 0 0 14 [(0, .ref 10), (1, .int (Int32.ofNat a)), (2, .int (Int32.ofNat b)), (3, .int x3), (4, .int (Int32.ofNat i))] [] h (kI K) := by
  have t16 : (16 : Int32).toInt = 16 := rfl
  intro r
  induction r with
  | zero =>
    intro i h ei I F l
    exact t_X9_lay_14 d h I.1 _ _ x3 _ K ⟨fun _ => O h I F (l.cg (fun u v hu hv q => by omega)), fun z => absurd (q_le.mpr (by rw [t16, on_j (by omega)]; omega)) z⟩
  | succ r ih =>
    intro i h ei I F l
    refine t_X9_lay_14 d h I.1 _ _ x3 _ K ⟨fun z => by have := q_le.mp z; rw [t16, on_j (by omega)] at this; omega, fun _ => ?_⟩
    refine ly_in d h0 ha hb hm x3 e3 (i := i) (by omega) K (fun h' I' F' l' => ?_) 16 0 h (by omega) I F (l.cg (fun u v hu hv q => by omega))
    rw [on_s (by omega)]
    exact ih (i + 1) h' (by omega) I' F' l'
noncomputable def okPx (m x1 x2 x3 : Int32) : Prop := (0 ≤ x1 ∧ x1 < 16) ∧ (0 ≤ x2 ∧ x2 < 16) ∧ ¬ x1 = x2 ∧ (1 ≤ x3 ∧ x3 ≤ 60) ∧ m < 40
noncomputable def okPn (m x1 x2 x3 : Int32) : Prop := (0 ≤ x1 ∧ x1 ≤ 15) ∧ (0 ≤ x2 ∧ x2 ≤ 15) ∧ ¬ x1 = x2 ∧ (1 ≤ x3 ∧ x3 ≤ 60) ∧ ¬ m = 40
theorem on_of {x : Int32} (b : 0 ≤ x.toInt ∧ x.toInt ≤ 1000000) : Int32.ofNat x.toNatClampNeg = x := by
  have n := n_nat (x := x) b.1
  exact Int32.toInt_inj.mp (by rw [on_j (by omega)]; exact n)
theorem ev_ {h : Hp_} (I : Iv h) (x : ∀ i, i < eN h → 1 ≤ (h_i h 202 i).toInt) : Ev (eE h) (eN h) := fun i hi => by
  have r0 := I.2.1 200 i
  have r1 := I.2.1 201 i
  have r2 := I.2.1 202 i
  rw [tfa_tf (show tfa 200 = some (0, 15) by decide +kernel)] at r0
  rw [tfa_tf (show tfa 201 = some (0, 15) by decide +kernel)] at r1
  rw [tfa_tf (show tfa 202 = some (0, 60) by decide +kernel)] at r2
  have a0 : 0 ≤ (h_i h 200 i).toInt := r0.1
  have a1 : (h_i h 200 i).toInt ≤ 15 := r0.2
  have b0 : 0 ≤ (h_i h 201 i).toInt := r1.1
  have b1 : (h_i h 201 i).toInt ≤ 15 := r1.2
  have n0 := n_nat (x := h_i h 200 i) a0
  have n1 := n_nat (x := h_i h 201 i) b0
  exact ⟨⟨by show (h_i h 200 i).toNatClampNeg < 16; omega, by show (h_i h 201 i).toNatClampNeg < 16; omega⟩, x i hi, r2.2⟩
theorem c_ptX (d : Nat) {h : Hp_} (I : Iv h) (x : ExP h) (x1 x2 x3 : Int32) : Ci (m_X11_path (d + 2) 0 0) [.ref 0, .int x1, .int x2, .int x3] h (fun r h' => Iv h' ∧ Fr [10001, 30999] h h' ∧ oca (okPx (h_i h 10 1) x1 x2 x3) (h_i h 10 1) r (h_i h' 10 1) ∧ (okPx (h_i h 10 1) x1 x2 x3 → Exd (exE (eE h) (eN h) (x1.toNatClampNeg, x2.toNatClampNeg, x3.toInt)) (eN h + 1) 1000000 (dX h')) ∧ (¬ okPx (h_i h 10 1) x1 x2 x3 → h' = h)) := by
  have t1 : (1 : Int32).toInt = 1 := rfl
  have t16 : (16 : Int32).toInt = 16 := rfl
  have t0 : (0 : Int32).toInt = 0 := rfl
  have t60 : (60 : Int32).toInt = 60 := rfl
  have tc : (40 : Int32).toInt = 40 := rfl
  have rg := I.2.1 10 1
  rw [show tf 10 1 = (0, 40) by decide +kernel] at rg
  have r0 : 0 ≤ (h_i h 10 1).toInt := rg.1
  have no : ¬ okPx (h_i h 10 1) x1 x2 x3 → Iv h ∧ Fr [10001, 30999] h h ∧ oca (okPx (h_i h 10 1) x1 x2 x3) (h_i h 10 1) (-1) (h_i h 10 1) ∧ (okPx (h_i h 10 1) x1 x2 x3 → Exd (exE (eE h) (eN h) (x1.toNatClampNeg, x2.toNatClampNeg, x3.toInt)) (eN h + 1) 1000000 (dX h)) ∧ (¬ okPx (h_i h 10 1) x1 x2 x3 → h = h) := fun n => ⟨I, Fr.rf _ _, Or.inr ⟨n, rfl, rfl⟩, fun o => absurd o n, fun _ => rfl⟩
  refine t_X11_path d h x1 x2 x3 _ (Ci.mono (s_X11_isPlace _ h x1) (fun r h1 q => ?_))
  obtain ⟨er, eh⟩ := q
  subst er eh
  refine ⟨I.1, fun z => no (fun o => bI_0.mp z o.1), fun z => Ci.mono (s_X11_isPlace _ _ x2) (fun r h2 q => ?_)⟩
  obtain ⟨er, eh⟩ := q
  subst er eh
  refine ⟨I.1, fun z2 => no (fun o => bI_0.mp z2 o.2.1), fun z2 => ⟨fun e => no (fun o => o.2.2.1 e), fun ne => ⟨fun a3 => ?_, fun n => no (fun o => n o.2.2.2.1)⟩⟩⟩
  have b1 : 0 ≤ x1 ∧ x1 < 16 := Decidable.byContradiction (fun n => z (bI_0.mpr n))
  have b2 : 0 ≤ x2 ∧ x2 < 16 := Decidable.byContradiction (fun n => z2 (bI_0.mpr n))
  have c1 := q_le.mp b1.1
  have c1' := q_lt.mp b1.2
  have c2 := q_le.mp b2.1
  have c2' := q_lt.mp b2.2
  have c3 := q_le.mp a3.1
  have c3' := q_le.mp a3.2
  rw [t0] at c1 c2
  rw [t16] at c1' c2'
  rw [t1] at c3
  rw [t60] at c3'
  have n1 := n_nat (x := x1) c1
  have n2 := n_nat (x := x2) c2
  refine t_X9_lay d h2 I.1 x1 x2 x3 _ ⟨fun l => ?_, fun n => ⟨I.1, no (fun o => n o.2.2.2.2)⟩⟩
  have l0 := q_lt.mp l
  have ex : (h_i h2 10 1 + 1).toInt = (h_i h2 10 1).toInt + 1 := tx_add (by rw [t1]; omega) (by rw [t1]; omega)
  have ev := ev_ I x.1
  have L0 : Lv (eE h2) (eN h2) x1.toNatClampNeg x2.toNatClampNeg x3.toInt (dX h2) (fun u _ => u < 0) h2 := fun u v hu hv => by
    have q := x.2 u hu v hv
    exact ⟨⟨q.1, fun c => by
      obtain ⟨k, w⟩ := q.2.2 c
      exact ⟨k, wkq_mo (Nat.le_succ _) (fun i hi => if_neg (by omega)) k v _ w⟩⟩, Int.le_refl _, fun c => absurd c (by omega)⟩
  have go := ly_out d h2 (E := eE h2) (n := eN h2) (D := dX h2) (a := x1.toNatClampNeg) (b := x2.toNatClampNeg) (m := x3.toInt) (by omega) (by omega) ⟨c3, c3'⟩ x3 rfl (fun r h' => Wf h' ∧ (Iv h' ∧ Fr [10001, 30999] h2 h' ∧ oca (okPx (h_i h2 10 1) x1 x2 x3) (h_i h2 10 1) r (h_i h' 10 1) ∧ (okPx (h_i h2 10 1) x1 x2 x3 → Exd (exE (eE h2) (eN h2) (x1.toNatClampNeg, x2.toNatClampNeg, x3.toInt)) (eN h2 + 1) 1000000 (dX h')) ∧ (¬ okPx (h_i h2 10 1) x1 x2 x3 → h' = h2))) (fun h9 I9 F9 V9 => ?_) 16 0 h2 (by omega) I (Fr.rf _ _) L0
  · rw [on_of ⟨c1, by omega⟩, on_of ⟨c2, by omega⟩] at go
    exact go
  · have e9 : h_i h9 10 1 = h_i h2 10 1 := (F9.2 10 1 (by decide +kernel)).1
    have I5 : Iv (h_im h9 10 1 (h_i h9 10 1 + 1)) := I9.im (by rw [show tf 10 1 = (0, 40) by decide +kernel, e9]; exact ⟨by show (0 : Int) ≤ _; omega, by show _ ≤ (40 : Int); omega⟩) (by decide)
    refine ⟨I5.1, I5, (F9.more (b := [10001, 30999]) (by decide +kernel)).im (by decide +kernel), Or.inl ⟨⟨b1, b2, ne, a3, l⟩, by rw [e9]; exact tx_back _, by rw [im_at, e9]⟩, fun _ => ?_, fun n => absurd ⟨b1, b2, ne, a3, l⟩ n⟩
    have dd : dX (h_im h9 10 1 (h_i h9 10 1 + 1)) = dX h9 := by
      unfold dX
      rw [show h_i (h_im h9 10 1 (h_i h9 10 1 + 1)) 30 = h_i h9 30 from funext (fun k => im_ne (by decide))]
    rw [dd]
    exact x.2.add ev (by omega) (by omega) c3 (fun u v hu hv => ⟨(V9 u v hu hv).1, (V9 u v hu hv).2.1, ((V9 u v hu hv).2.2 trivial).1, ((V9 u v hu hv).2.2 trivial).2⟩)
theorem c_ptM (d : Nat) {h : Hp_} (I : Iv h) (x1 x2 x3 : Int32) : Ci (m_X12_path (d + 2) 0 0) [.ref 1, .int x1, .int x2, .int x3] h (fun r h' => Iv h' ∧ Fr [1006, 200999, 201999, 202999] h h' ∧ oca (okPn (h_i h 1 6) x1 x2 x3) (h_i h 1 6) r (h_i h' 1 6) ∧ (okPn (h_i h 1 6) x1 x2 x3 → eE h' = exE (eE h) (eN h) (x1.toNatClampNeg, x2.toNatClampNeg, x3.toInt) ∧ eN h' = eN h + 1) ∧ (¬ okPn (h_i h 1 6) x1 x2 x3 → h' = h)) := by
  have t1 : (1 : Int32).toInt = 1 := rfl
  have tc : (40 : Int32).toInt = 40 := rfl
  have rg := I.2.1 1 6
  rw [show tf 1 6 = (0, 40) by decide +kernel] at rg
  have r0 : 0 ≤ (h_i h 1 6).toInt := rg.1
  have r1 : (h_i h 1 6).toInt ≤ 40 := rg.2
  have no : ¬ okPn (h_i h 1 6) x1 x2 x3 → Iv h ∧ Fr [1006, 200999, 201999, 202999] h h ∧ oca (okPn (h_i h 1 6) x1 x2 x3) (h_i h 1 6) (-1) (h_i h 1 6) ∧ (okPn (h_i h 1 6) x1 x2 x3 → eE h = exE (eE h) (eN h) (x1.toNatClampNeg, x2.toNatClampNeg, x3.toInt) ∧ eN h = eN h + 1) ∧ (¬ okPn (h_i h 1 6) x1 x2 x3 → h = h) := fun n => ⟨I, Fr.rf _ _, Or.inr ⟨n, rfl, rfl⟩, fun o => absurd o n, fun _ => rfl⟩
  refine t_X12_path d h I.1 x1 x2 x3 _ ⟨fun n => no (fun o => n o.1), fun a1 => ⟨fun n => no (fun o => n o.2.1), fun a2 => ⟨fun e => no (fun o => o.2.2.1 e), fun nx => ⟨fun n => no (fun o => n o.2.2.2.1), fun a3 => ⟨fun ne => ?_, fun e => no (fun o => o.2.2.2.2 e)⟩⟩⟩⟩⟩
  have l := q_lt.mp ((nz_lt (by rw [tc]; exact r1)).mpr ne)
  have ex : (h_i h 1 6 + 1).toInt = (h_i h 1 6).toInt + 1 := tx_add (by rw [t1]; omega) (by rw [t1]; omega)
  have v : vp_in (h_i h 1 6) 40 := dp_in (lo := 0) (hi := 39) ⟨r0, by show _ ≤ (39 : Int); omega⟩ (by decide) (by decide)
  have p3 : rin x3.toInt (0, 60) := ⟨by have := q_le.mp a3.1; show (0 : Int) ≤ _; omega, by have := q_le.mp a3.2; exact this⟩
  refine ⟨v, v, v, ((((I.im (a := 200) (by rw [tfa_tf (show tfa 200 = some (0, 15) by decide +kernel)]; exact ⟨by have := q_le.mp a1.1; exact this, by have := q_le.mp a1.2; exact this⟩) (jw_jr (by decide) (by decide) _)).im (a := 201) (by rw [tfa_tf (show tfa 201 = some (0, 15) by decide +kernel)]; exact ⟨by have := q_le.mp a2.1; exact this, by have := q_le.mp a2.2; exact this⟩) (jw_jr (by decide) (by decide) _)).im (a := 202) (by rw [tfa_tf (show tfa 202 = some (0, 60) by decide +kernel)]; exact p3) (jw_jr (by decide) (by decide) _)).im (a := 1) (k := 6) (by rw [show tf 1 6 = (0, 40) by decide +kernel]; exact ⟨by show (0 : Int) ≤ _; omega, by show _ ≤ (40 : Int); omega⟩) (by decide)), ((((Fr.rf _ _).im (inw_row (by decide +kernel) _)).im (inw_row (by decide +kernel) _)).im (inw_row (by decide +kernel) _)).im (by decide +kernel), Or.inl ⟨⟨a1, a2, nx, a3, ne⟩, tx_back _, im_at⟩, fun _ => ⟨funext (fun i => ?_), ?_⟩, fun n => absurd ⟨a1, a2, nx, a3, ne⟩ n⟩
  · unfold eE exE eN
    by_cases c : i = (h_i h 1 6).toNatClampNeg
    · rw [if_pos c]
      refine Prod.ext ?_ (Prod.ext ?_ ?_)
      · show (h_i _ 200 i).toNatClampNeg = x1.toNatClampNeg
        rw [im_ne (by decide), im_ne (by decide), im_ne (by decide), c, im_at]
      · show (h_i _ 201 i).toNatClampNeg = x2.toNatClampNeg
        rw [im_ne (by decide), im_ne (by decide), c, im_at]
      · show (h_i _ 202 i).toInt = x3.toInt
        rw [im_ne (by decide), c, im_at]
    · rw [if_neg c]
      refine Prod.ext ?_ (Prod.ext ?_ ?_)
      · show (h_i _ 200 i).toNatClampNeg = (h_i h 200 i).toNatClampNeg
        rw [im_ne (by decide), im_ne (by decide), im_ne (by decide), h_i_im, if_neg (fun y => c y.2)]
      · show (h_i _ 201 i).toNatClampNeg = (h_i h 201 i).toNatClampNeg
        rw [im_ne (by decide), im_ne (by decide), h_i_im, if_neg (fun y => c y.2), im_ne (by decide)]
      · show (h_i _ 202 i).toInt = (h_i h 202 i).toInt
        rw [im_ne (by decide), h_i_im, if_neg (fun y => c y.2), im_ne (by decide), im_ne (by decide)]
  · have n0 := n_nat (x := h_i h 1 6) r0
    have n1 := n_nat (x := h_i h 1 6 + 1) (by omega)
    show (h_i (h_im _ 1 6 (h_i h 1 6 + 1)) 1 6).toNatClampNeg = (h_i h 1 6).toNatClampNeg + 1
    rw [im_at]
    omega
theorem okP_eq {m x1 x2 x3 : Int32} (b : m.toInt ≤ 40) : okPx m x1 x2 x3 ↔ okPn m x1 x2 x3 := by
  unfold okPx okPn
  rw [p15, p15, nz_lt (n := 40) b]
noncomputable def PtX (x1 x2 x3 : Int32) (h : Hp_) (r1 : Int32) (h1 : Hp_) : Prop := Fr [10001, 30999] h h1 ∧ oca (okPx (h_i h 10 1) x1 x2 x3) (h_i h 10 1) r1 (h_i h1 10 1) ∧ (okPx (h_i h 10 1) x1 x2 x3 → Exd (exE (eE h) (eN h) (x1.toNatClampNeg, x2.toNatClampNeg, x3.toInt)) (eN h + 1) 1000000 (dX h1)) ∧ (¬ okPx (h_i h 10 1) x1 x2 x3 → h1 = h)
noncomputable def PtM (x1 x2 x3 : Int32) (h1 : Hp_) (r2 : Int32) (h2 : Hp_) : Prop := Fr [1006, 200999, 201999, 202999] h1 h2 ∧ oca (okPn (h_i h1 1 6) x1 x2 x3) (h_i h1 1 6) r2 (h_i h2 1 6) ∧ (okPn (h_i h1 1 6) x1 x2 x3 → eE h2 = exE (eE h1) (eN h1) (x1.toNatClampNeg, x2.toNatClampNeg, x3.toInt) ∧ eN h2 = eN h1 + 1) ∧ (¬ okPn (h_i h1 1 6) x1 x2 x3 → h2 = h1)
theorem ExR.pt {h h1 h2 : Hp_} {x1 x2 x3 r1 r2 : Int32} (I : Iv h) (L : ExR h) (k1 : PtX x1 x2 x3 h r1 h1) (k2 : PtM x1 x2 x3 h1 r2 h2) : ExR h2 ∧ r1 = r2 := by
  have e : h_i h 10 1 = h_i h 1 6 := L.1
  have e1 : h_i h1 1 6 = h_i h 1 6 := (k1.1.2 1 6 (by decide +kernel)).1
  obtain ⟨f1, kp, xp, np⟩ := k1
  obtain ⟨f2, kq, xq, nq⟩ := k2
  rw [e1] at kq xq nq
  rw [e] at kp xp np
  have rg := I.2.1 1 6
  rw [show tf 1 6 = (0, 40) by decide +kernel] at rg
  have oe := okP_eq (x1 := x1) (x2 := x2) (x3 := x3) rg.2
  have z := oca_eq oe kp kq
  have eE1 : eE h1 = eE h := by
    unfold eE
    rw [show h_i h1 200 = h_i h 200 from funext (fun k => fr_i f1 (by decide +kernel) k), show h_i h1 201 = h_i h 201 from funext (fun k => fr_i f1 (by decide +kernel) k), show h_i h1 202 = h_i h 202 from funext (fun k => fr_i f1 (by decide +kernel) k)]
  have eN1 : eN h1 = eN h := by
    unfold eN
    rw [e1]
  have dX2 : dX h2 = dX h1 := by
    unfold dX
    rw [show h_i h2 30 = h_i h1 30 from funext (fun k => fr_i f2 (by decide +kernel) k)]
  refine ⟨⟨?_, ?_⟩, z.1⟩
  · rw [(f2.2 10 1 (by decide +kernel)).1]
    exact z.2
  · by_cases o : okPx (h_i h 1 6) x1 x2 x3
    · have o' := oe.mp o
      have xx := xp o
      have yy := xq o'
      rw [eE1, eN1] at yy
      refine ⟨fun i hi => ?_, ?_⟩
      · have w : (eE h2 i).2.2 = (h_i h2 202 i).toInt := rfl
        rw [← w, yy.1]
        rw [yy.2] at hi
        unfold exE
        by_cases c : i = eN h
        · rw [if_pos c]
          exact q_le.mp o.2.2.2.1.1
        · rw [if_neg c]
          exact L.2.1 i (by omega)
      · rw [yy.1, yy.2, dX2]
        exact xx
    · rw [nq (fun y => o (oe.mpr y)), np o]
      exact L.2
/-- far while the reference searches -/
noncomputable def Fi (u : Nat) (h0 h : Hp_) : Prop := Iv h ∧ Fr [203999] h0 h ∧ (∀ v, v < 16 → (0 ≤ (h_i h 203 v).toInt ∧ (h_i h 203 v).toInt ≤ 100000) ∧ ((h_i h 203 v).toInt < 100000 → ∃ k, wkq (eE h0) (eN h0) u k v (h_i h 203 v).toInt)) ∧ (h_i h 203 u).toInt ≤ 0
theorem Fi.e {u : Nat} {h0 h : Hp_} (f : Fi u h0 h) : eE h = eE h0 ∧ eN h = eN h0 ∧ ∀ k, h_i h 200 k = h_i h0 200 k ∧ h_i h 201 k = h_i h0 201 k ∧ h_i h 202 k = h_i h0 202 k := by
  have a : h_i h 200 = h_i h0 200 := funext (fun k => fr_i f.2.1 (by decide +kernel) k)
  have b : h_i h 201 = h_i h0 201 := funext (fun k => fr_i f.2.1 (by decide +kernel) k)
  have c : h_i h 202 = h_i h0 202 := funext (fun k => fr_i f.2.1 (by decide +kernel) k)
  refine ⟨by unfold eE; rw [a, b, c], by unfold eN; rw [(f.2.1.2 1 6 (by decide +kernel)).1], fun k => ⟨by rw [a], by rw [b], by rw [c]⟩⟩
theorem Fi.st {u : Nat} {h0 h : Hp_} (f : Fi u h0 h) {p : Nat} (hp : p < 16) {y : Int32} (l : 0 ≤ y.toInt) (c : y.toInt < (h_i h 203 p).toInt) (w : y.toInt < 100000 → ∃ k, wkq (eE h0) (eN h0) u k p y.toInt) : Fi u h0 (h_im h 203 p y) ∧ fsn (h_im h 203 p y) 16 < fsn h 16 := by
  have b := (f.2.2.1 p hp).1
  have s := (fsn_le (h := h) (p := p) (x := y) (by omega) l 16).2 hp
  refine ⟨⟨tr_ 203 (by decide +kernel) f.1 _ _ (by decide) (by decide), f.2.1.im (inw_row (by decide +kernel) _), fun v hv => ?_, ?_⟩, by omega⟩
  · by_cases q : v = p
    · rw [q, im_at]
      exact ⟨⟨l, by omega⟩, w⟩
    · rw [h_i_im, if_neg (fun z => q z.2)]
      exact f.2.2.1 v hv
  · by_cases q : u = p
    · rw [q, im_at]
      have := f.2.2.2
      rw [q] at this
      omega
    · rw [h_i_im, if_neg (fun z => q z.2)]
      exact f.2.2.2
/-- the paths before k are no shorter ways -/
noncomputable def Fk (h0 h : Hp_) (j : Nat) : Prop := ∀ i, i < j → (h_i h 203 (eE h0 i).2.1).toInt ≤ (h_i h 203 (eE h0 i).1).toInt + (eE h0 i).2.2 ∧ (h_i h 203 (eE h0 i).1).toInt ≤ (h_i h 203 (eE h0 i).2.1).toInt + (eE h0 i).2.2
theorem wo_43 (d : Nat) (h0 : Hp_) (I0 : Iv h0) (x0 : ∀ i, i < eN h0 → 1 ≤ (h_i h0 202 i).toInt) (u : Nat) (x2 : Int32) (K : Int32 → Hp_ → Prop) (N : Nat) (k0 : ∀ h, Fi u h0 h → Fk h0 h (eN h0) → AW (m_X12_walkOf (d + 0) 0 0) 0 0 34 [(0, .ref 1), (2, .int x2), (3, .int 0)] [] h (kI K)) (k1 : ∀ h, Fi u h0 h → fsn h 16 < N → AW (m_X12_walkOf (d + 0) 0 0) 0 0 34 [(0, .ref 1), (2, .int x2), (3, .int 1)] [] h (kI K)) :
    ∀ (r j : Nat) (x3 : Int32) (h : Hp_), j + r = eN h0 → Fi u h0 h → ((x3 = 0 ∧ fsn h 16 ≤ N ∧ Fk h0 h j) ∨ (x3 = 1 ∧ fsn h 16 < N)) → AW (m_X12_walkOf (d + 0) 0 0) 0 0 43 [(0, .ref 1), (2, .int x2), (3, .int x3), (4, .int (Int32.ofNat j))] [] h (kI K) := by
  have ev := ev_ I0 x0
  have b6 := f_le (c := 1) (f := 6) (n := 40) I0 (by decide +kernel)
  have n6 := n_nat (x := h_i h0 1 6) b6.1
  have en : (eN h0 : Int) = (h_i h0 1 6).toInt := n6
  intro r
  induction r with
  | zero =>
    intro j x3 h ej f c
    have e6 : h_i h 1 6 = h_i h0 1 6 := (f.2.1.2 1 6 (by decide +kernel)).1
    have ejn : j = eN h0 := by omega
    refine t_X12_walkOf_43 d h f.1.1 x2 x3 _ K ⟨fun _ => ?_, fun z => absurd (q_le.mpr (by rw [e6, on_j (by omega)]; omega)) z⟩
    rcases c with ⟨c, _, c'⟩ | ⟨c, c'⟩
    · rw [c]
      exact k0 h f (ejn ▸ c')
    · rw [c]
      exact k1 h f c'
  | succ r ih =>
    intro j x3 h ej f c
    have hj : j < eN h0 := by omega
    have q := ev j hj
    have e6 : h_i h 1 6 = h_i h0 1 6 := (f.2.1.2 1 6 (by decide +kernel)).1
    have ee := f.e
    have kj : (Int32.ofNat j).toNatClampNeg = j := on_k (by omega)
    have vj : vp_in (Int32.ofNat j) 40 := on_in (by omega) (by decide)
    have r0 := I0.2.1 200 j
    have r1 := I0.2.1 201 j
    rw [tfa_tf (show tfa 200 = some (0, 15) by decide +kernel)] at r0
    rw [tfa_tf (show tfa 201 = some (0, 15) by decide +kernel)] at r1
    have va : vp_in (h_i h0 200 j) 16 := dp_in (lo := 0) (hi := 15) r0 (by decide) (by decide)
    have vb : vp_in (h_i h0 201 j) 16 := dp_in (lo := 0) (hi := 15) r1 (by decide) (by decide)
    have em : (h_i h0 202 j).toInt = (eE h0 j).2.2 := rfl
    have ea : (h_i h0 200 j).toNatClampNeg = (eE h0 j).1 := rfl
    have eb : (h_i h0 201 j).toNatClampNeg = (eE h0 j).2.1 := rfl
    have fa := f.2.2.1 _ q.1.1
    have fb := f.2.2.1 _ q.1.2
    have nx : ∀ (h' : Hp_) (y : Int32), Fi u h0 h' → ((y = 0 ∧ fsn h' 16 ≤ N ∧ Fk h0 h' (j + 1)) ∨ (y = 1 ∧ fsn h' 16 < N)) → AW (m_X12_walkOf (d + 0) 0 0) 0 0 43 [(0, .ref 1), (2, .int x2), (3, .int y), (4, .int (Int32.ofNat j + 1))] [] h' (kI K) := fun h' y f' c' => by
      rw [on_s (by omega)]
      exact ih (j + 1) y h' (by omega) f' c'
    have hN : fsn h 16 ≤ N := by rcases c with c | c <;> omega
    have wb : ∀ h', Fi u h0 h' → (h_i h' 203 (eE h0 j).1).toInt + (eE h0 j).2.2 < 100000 → ∃ k, wkq (eE h0) (eN h0) u k (eE h0 j).2.1 ((h_i h' 203 (eE h0 j).1).toInt + (eE h0 j).2.2) := fun h' f' l => by
      obtain ⟨k, w⟩ := (f'.2.2.1 _ q.1.1).2 (by omega)
      exact ⟨k + 1, j, hj, Or.inl ⟨rfl, by rw [Int.add_sub_cancel]; exact w⟩⟩
    have wa : ∀ h', Fi u h0 h' → (h_i h' 203 (eE h0 j).2.1).toInt + (eE h0 j).2.2 < 100000 → ∃ k, wkq (eE h0) (eN h0) u k (eE h0 j).1 ((h_i h' 203 (eE h0 j).2.1).toInt + (eE h0 j).2.2) := fun h' f' l => by
      obtain ⟨k, w⟩ := (f'.2.2.1 _ q.1.2).2 (by omega)
      exact ⟨k + 1, j, hj, Or.inr ⟨rfl, by rw [Int.add_sub_cancel]; exact w⟩⟩
    have sa : (h_i h 203 (eE h0 j).1 + h_i h0 202 j).toInt = (h_i h 203 (eE h0 j).1).toInt + (eE h0 j).2.2 := by
      rw [tx_add (by omega) (by omega), em]
    have sb : (h_i h 203 (eE h0 j).2.1 + h_i h0 202 j).toInt = (h_i h 203 (eE h0 j).2.1).toInt + (eE h0 j).2.2 := by
      rw [tx_add (by omega) (by omega), em]
    have T := t_X12_walkOf_43 d h f.1.1 x2 x3 (Int32.ofNat j) K
    rw [kj, (ee.2.2 j).1, (ee.2.2 j).2.1, (ee.2.2 j).2.2, ea, eb, e6] at T
    refine T ⟨fun z => by have := q_le.mp z; rw [on_j (by omega)] at this; omega, fun _ => ⟨vj, vj, va, vj, vb, fun e1 => ⟨vb, vj, va, fun e2 => nx h x3 f ?_, fun e2 => ⟨vb, vj, va, ?_⟩⟩, fun e1 => ⟨va, vj, vb, vb, vj, va, ?_⟩⟩⟩
    · have e1 := q_le.mp e1
      have e2 := q_le.mp e2
      rw [sa] at e1
      rw [sb] at e2
      rcases c with ⟨c, c1, c2⟩ | c
      · refine Or.inl ⟨c, c1, fun i hi => ?_⟩
        by_cases y : i = j
        · rw [y]
          exact ⟨e1, e2⟩
        · exact c2 i (by omega)
      · exact Or.inr c
    · have e2 := q_nle e2
      rw [sb] at e2
      have s := f.st q.1.1 (y := h_i h 203 (eE h0 j).2.1 + h_i h0 202 j) (by rw [sb]; omega) (by rw [sb]; exact e2) (by rw [sb]; exact wa h f)
      exact nx _ 1 s.1 (Or.inr ⟨rfl, by omega⟩)
    · have e1 := q_nle e1
      rw [sa] at e1
      have s := f.st q.1.2 (y := h_i h 203 (eE h0 j).1 + h_i h0 202 j) (by rw [sa]; omega) (by rw [sa]; exact e1) (by rw [sa]; exact wb h f)
      have at1 : (h_i (h_im h 203 (eE h0 j).2.1 (h_i h 203 (eE h0 j).1 + h_i h0 202 j)) 203 (eE h0 j).2.1) = h_i h 203 (eE h0 j).1 + h_i h0 202 j := im_at
      have s2 : (h_i h 203 (eE h0 j).1 + h_i h0 202 j + h_i h0 202 j).toInt = (h_i h 203 (eE h0 j).1).toInt + (eE h0 j).2.2 + (eE h0 j).2.2 := by
        rw [tx_add (by rw [sa]; omega) (by rw [sa]; omega), sa, em]
      refine ⟨fun _ => nx _ 1 s.1 (Or.inr ⟨rfl, by omega⟩), fun e2 => ⟨vb, vj, va, ?_⟩⟩
      have e2 := q_nle e2
      rw [s2] at e2
      have w2 := wa _ s.1
      rw [at1, sa] at w2
      have t := s.1.st q.1.1 (y := h_i h 203 (eE h0 j).1 + h_i h0 202 j + h_i h0 202 j) (by rw [s2]; omega) (by rw [s2]; exact e2) (by rw [s2]; exact w2)
      exact nx _ 1 t.1 (Or.inr ⟨rfl, by omega⟩)
theorem wo_34 (d : Nat) (h0 : Hp_) (I0 : Iv h0) (x0 : ∀ i, i < eN h0 → 1 ≤ (h_i h0 202 i).toInt) (u : Nat) (x2 : Int32) (K : Int32 → Hp_ → Prop) (k0 : ∀ h, Fi u h0 h → Fk h0 h (eN h0) → AW (m_X12_walkOf (d + 0) 0 0) 0 0 34 [(0, .ref 1), (2, .int x2), (3, .int 0)] [] h (kI K)) :
    ∀ (N : Nat) (h : Hp_), Fi u h0 h → fsn h 16 < N → AW (m_X12_walkOf (d + 0) 0 0) 0 0 34 [(0, .ref 1), (2, .int x2), (3, .int 1)] [] h (kI K)
  | 0, _, _, l => absurd l (by omega)
  | N + 1, h, f, l => t_X12_walkOf_34 d h f.1.1 x2 1 K ⟨fun z => absurd z (by decide), fun _ => wo_43 d h0 I0 x0 u x2 K (fsn h 16) k0 (fun h' f' l' => wo_34 d h0 I0 x0 u x2 K k0 N h' f' (by omega)) (eN h0) 0 0 h (by omega) f (Or.inl ⟨rfl, Nat.le_refl _, fun i hi => absurd hi (by omega)⟩)⟩
/-- what the reference's search answers -/
theorem c_woM (d : Nat) {h : Hp_} (I : Iv h) (x0 : ∀ i, i < eN h → 1 ≤ (h_i h 202 i).toInt) (x1 x2 : Int32) (p1 : 0 ≤ x1.toInt ∧ x1.toInt < 16) (p2 : 0 ≤ x2.toInt ∧ x2.toInt < 16) : Ci (m_X12_walkOf (d + 0) 0 0) [.ref 1, .int x1, .int x2] h (fun r h' => Iv h' ∧ Fr [203999] h h' ∧ ∃ e : Nat → Int, Exr (eE h) (eN h) 100000 x1.toNatClampNeg e ∧ ((e x2.toNatClampNeg < 100000 ∧ r.toInt = e x2.toNatClampNeg) ∨ (¬ e x2.toNatClampNeg < 100000 ∧ r = -1))) := by
  have t16 : (16 : Int32).toInt = 16 := rfl
  have t1 : (1 : Int32).toInt = 1 := rfl
  have t0 : (0 : Int32).toInt = 0 := rfl
  have tm : (100000 : Int32).toInt = 100000 := rfl
  have n1 := n_nat (x := x1) p1.1
  have n2 := n_nat (x := x2) p2.1
  have v2 : vp_in x2 16 := vin_ti p2.1 (by omega)
  have fin : ∀ h', Fi x1.toNatClampNeg h h' → Fk h h' (eN h) → AW (m_X12_walkOf (d + 0) 0 0) 0 0 34 [(0, .ref 1), (2, .int x2), (3, .int 0)] [] h' (kI (fun r h' => Iv h' ∧ Fr [203999] h h' ∧ ∃ e : Nat → Int, Exr (eE h) (eN h) 100000 x1.toNatClampNeg e ∧ ((e x2.toNatClampNeg < 100000 ∧ r.toInt = e x2.toNatClampNeg) ∨ (¬ e x2.toNatClampNeg < 100000 ∧ r = -1)))) := fun h' f g => by
    have X : Exr (eE h) (eN h) 100000 x1.toNatClampNeg (fun v => (h_i h' 203 v).toInt) := fun v hv => ⟨(f.2.2.1 v hv).1, fe_le (d := fun v => (h_i h' 203 v).toInt) g f.2.2.2 |> fun q k t w => q k v t w, (f.2.2.1 v hv).2⟩
    exact t_X12_walkOf_34 d h' f.1.1 x2 0 _ ⟨fun _ => ⟨v2, fun c => ⟨v2, f.1, f.2.1, _, X, Or.inl ⟨by have := q_lt.mp c; rw [tm] at this; exact this, rfl⟩⟩, fun c => ⟨f.1, f.2.1, _, X, Or.inr ⟨fun y => c (q_lt.mpr (by rw [tm]; exact y)), rfl⟩⟩⟩, fun z => absurd rfl z⟩
  have lp : ∀ (r j : Nat) (h' : Hp_), j + r = 16 → Iv h' → Fr [203999] h h' → (∀ v, v < j → h_i h' 203 v = if v = x1.toNatClampNeg then 0 else 100000) → AW (m_X12_walkOf (d + 0) 0 0) 0 0 2 [(0, .ref 1), (1, .int x1), (2, .int x2), (3, .int (Int32.ofNat j))] [] h' (kI (fun r h' => Iv h' ∧ Fr [203999] h h' ∧ ∃ e : Nat → Int, Exr (eE h) (eN h) 100000 x1.toNatClampNeg e ∧ ((e x2.toNatClampNeg < 100000 ∧ r.toInt = e x2.toNatClampNeg) ∨ (¬ e x2.toNatClampNeg < 100000 ∧ r = -1)))) := by
    intro r
    induction r with
    | zero =>
      intro j h' ej I' F' P
      refine t_X12_walkOf_2 d h' I'.1 x1 x2 _ _ ⟨fun _ => ?_, fun z => absurd (q_le.mpr (by rw [t16, on_j (by omega)]; omega)) z⟩
      refine wo_34 d h I x0 x1.toNatClampNeg x2 _ fin (fsn h' 16 + 1) h' ⟨I', F', fun v hv => ?_, ?_⟩ (by omega)
      · rw [P v (by omega)]
        by_cases c : v = x1.toNatClampNeg
        · rw [if_pos c, t0]
          exact ⟨⟨by decide, by decide⟩, fun _ => ⟨0, c, rfl⟩⟩
        · rw [if_neg c, tm]
          exact ⟨⟨by decide, by decide⟩, fun y => absurd y (by decide)⟩
      · rw [P _ (by omega), if_pos rfl, t0]
        exact Int.le_refl _
    | succ r ih =>
      intro j h' ej I' F' P
      have kj : (Int32.ofNat j).toNatClampNeg = j := on_k (by omega)
      have vj : vp_in (Int32.ofNat j) 16 := on_in (by omega) (by decide)
      have go : ∀ y, y = (if j = x1.toNatClampNeg then (0 : Int32) else 100000) → AW (m_X12_walkOf (d + 0) 0 0) 0 0 2 [(0, .ref 1), (1, .int x1), (2, .int x2), (3, .int (Int32.ofNat j + 1))] [] (h_im h' 203 (Int32.ofNat j).toNatClampNeg y) (kI (fun r h' => Iv h' ∧ Fr [203999] h h' ∧ ∃ e : Nat → Int, Exr (eE h) (eN h) 100000 x1.toNatClampNeg e ∧ ((e x2.toNatClampNeg < 100000 ∧ r.toInt = e x2.toNatClampNeg) ∨ (¬ e x2.toNatClampNeg < 100000 ∧ r = -1)))) := fun y ey => by
        rw [kj, on_s (by omega)]
        refine ih (j + 1) _ (by omega) (tr_ 203 (by decide +kernel) I' _ _ (by decide) (by decide)) (F'.im (inw_row (by decide +kernel) _)) (fun v hv => ?_)
        by_cases c : v = j
        · rw [c, im_at]
          exact ey
        · rw [h_i_im, if_neg (fun z => c z.2)]
          exact P v (by omega)
      refine t_X12_walkOf_2 d h' I'.1 x1 x2 _ _ ⟨fun z => by have := q_le.mp z; rw [t16, on_j (by omega)] at this; omega, fun _ => ⟨fun n => ⟨vj, go 100000 ?_⟩, fun e => ⟨vj, go 0 ?_⟩⟩⟩
      · rw [if_neg (fun c => n (Int32.toInt_inj.mp (by rw [on_j (by omega)]; omega)))]
      · rw [if_pos (by rw [← e, kj])]
  exact t_X12_walkOf d h x1 x2 _ (lp 16 0 h (by omega) I (Fr.rf _ _) (fun v hv => absurd hv (by omega)))
/-- the walks, as the class's table has them -/
noncomputable def wX (h : Hp_) (a b : Nat) : Option Int := if a < 16 ∧ b < 16 ∧ dX h a b < 1000000 then some (dX h a b) else none
theorem wX_le {h : Hp_} (I : Iv h) (x : ExP h) (a b : Nat) (k : Int) (e : wX h a b = some k) : 0 ≤ k ∧ k ≤ 900 := by
  unfold wX at e
  by_cases c : a < 16 ∧ b < 16 ∧ dX h a b < 1000000
  · rw [if_pos c] at e
    cases e
    have q := x.2 a c.1
    exact ⟨(q b c.2.1).1.1, q.le (ev_ I x.1) c.2.1 c.2.2⟩
  · rw [if_neg c] at e
    cases e
theorem c_woR (d : Nat) {h : Hp_} (I : Iv h) (x : ExP h) (x1 x2 : Int32) (p1 : 0 ≤ x1.toInt ∧ x1.toInt < 16) (p2 : 0 ≤ x2.toInt ∧ x2.toInt < 16) : Ci (m_X12_walkOf (d + 0) 0 0) [.ref 1, .int x1, .int x2] h (fun r h' => Iv h' ∧ Fr [203999] h h' ∧ ((∃ k, wX h x1.toNatClampNeg x2.toNatClampNeg = some k ∧ r.toInt = k) ∨ (wX h x1.toNatClampNeg x2.toNatClampNeg = none ∧ r = -1))) := by
  have n1 := n_nat (x := x1) p1.1
  have n2 := n_nat (x := x2) p2.1
  refine Ci.mono (c_woM d I x.1 x1 x2 p1 p2) (fun r h' q => ⟨q.1, q.2.1, ?_⟩)
  obtain ⟨e, X, y⟩ := q.2.2
  have z := (x.2 x1.toNatClampNeg (by omega)).eq X (ev_ I x.1) (by decide) (by decide) (v := x2.toNatClampNeg) (by omega)
  unfold wX
  rcases z with ⟨z1, z2, z3⟩ | ⟨z1, z2⟩
  · rw [if_pos ⟨by omega, by omega, z1⟩]
    rcases y with ⟨_, y⟩ | ⟨y, _⟩
    · exact Or.inl ⟨_, rfl, by rw [y, z3]⟩
    · exact absurd z2 y
  · rw [if_neg (fun c => z1 c.2.2)]
    rcases y with ⟨y, _⟩ | ⟨_, y⟩
    · exact absurd y z2
    · exact Or.inr ⟨rfl, y⟩
/-- of each beat its steps -/
noncomputable def sB (h : Hp_) (k i : Nat) : Sp3 := (h_i h 228 (150 * k + i), h_i h 229 (150 * k + i), h_i h 230 (150 * k + i))
noncomputable def bL (h : Hp_) (k : Nat) : List Sp3 := (List.range (h_i h 227 k).toNatClampNeg).map (sB h k)
noncomputable def ExS (h : Hp_) : Prop := ∀ k, k < (h_i h 12 3).toNatClampNeg → ∀ i, i < (h_i h 227 k).toNatClampNeg → h_i h 34 (150 * k + i) = pkS (sB h k i) ∧ stR (sB h k i)
noncomputable def exoS (ws : List Nat) : Bool := off ws 34 && off ws 227 && off ws 228 && off ws 229 && off ws 230 && !inw ws 12 3
theorem exS_F : ExS HF := fun k hk => by
  rw [show h_i HF 12 3 = 0 by decide +kernel] at hk
  exact absurd hk (by show ¬ k < 0; omega)
theorem ExS.cg {h h' : Hp_} (e : ExS h) (a : ∀ k, h_i h' 34 k = h_i h 34 k) (b : ∀ k, h_i h' 227 k = h_i h 227 k) (c : ∀ k, h_i h' 228 k = h_i h 228 k) (d : ∀ k, h_i h' 229 k = h_i h 229 k) (f : ∀ k, h_i h' 230 k = h_i h 230 k) (n : h_i h' 12 3 = h_i h 12 3) : ExS h' := fun k hk i hi => by
  rw [n] at hk
  rw [b] at hi
  have q := e k hk i hi
  unfold sB at q ⊢
  rw [a, c, d, f]
  exact q
theorem ExS.fr {ws : List Nat} {h h' : Hp_} (e : ExS h) (f : Fr ws h h') (o : exoS ws = true) : ExS h' := by
  unfold exoS at o
  simp only [Bool.and_eq_true, Bool.not_eq_true'] at o
  exact e.cg (fun k => fr_i f o.1.1.1.1.1 k) (fun k => fr_i f o.1.1.1.1.2 k) (fun k => fr_i f o.1.1.1.2 k) (fun k => fr_i f o.1.1.2 k) (fun k => fr_i f o.1.2 k) (f.2 12 3 o.2).1
theorem ExS.mf {W : List Nat} {h h' : Hp_} (e : ExS h) (f : Mf W h h') (o : exoS W = true) : ExS h' := by
  unfold exoS at o
  simp only [Bool.and_eq_true, Bool.not_eq_true'] at o
  exact e.cg (fun k => (f.2.2.2 34 k (by decide) (off_inw o.1.1.1.1.1 k)).1) (fun k => f.2.1 227 (by decide) (by decide) k) (fun k => f.2.1 228 (by decide) (by decide) k) (fun k => f.2.1 229 (by decide) (by decide) k) (fun k => f.2.1 230 (by decide) (by decide) k) (f.2.2.2 12 3 (by decide) o.2).1
theorem z227 {h : Hp_} (I : Iv h) (k : Nat) : (h_i h 227 k).toNatClampNeg ≤ 150 ∧ (((h_i h 227 k).toNatClampNeg : Nat) : Int) = (h_i h 227 k).toInt := by
  have rg := I.2.1 227 k
  rw [tfa_tf (show tfa 227 = some (0, 150) by decide +kernel)] at rg
  have r0 : 0 ≤ (h_i h 227 k).toInt := rg.1
  have r1 : (h_i h 227 k).toInt ≤ 150 := rg.2
  have n := n_nat r0
  exact ⟨by omega, by omega⟩
theorem ExS.bt {N : Nat} {h h1 h2 : Hp_} {r1 r2 : Int32} (T : LiT N h) (L : ExS h) (k1 : Iv h1 ∧ Fr wbx h h1 ∧ Btx h r1 h1) (k2 : (Iv h2 ∧ J2 h2) ∧ Btm (h_i h 31) (xn h) h1 r2 h2) : ExS h2 := by
  obtain ⟨I1, F1, kn, ky⟩ := k1
  obtain ⟨⟨I2, JJ⟩, F2, c8, mn, my⟩ := k2
  have a42 : h_i h1 1 42 = h_i h 12 3 := (F1.2 1 42 (by decide +kernel)).1.trans T.r2.symm
  rw [a42] at mn my
  have b123 : h_i h2 12 3 = h_i h1 12 3 := (F2.2 12 3 (by decide +kernel)).1
  have f227 : ∀ k, h_i h1 227 k = h_i h 227 k := fun k => fr_i F1 (by decide +kernel) k
  have f228 : ∀ k, h_i h1 228 k = h_i h 228 k := fun k => fr_i F1 (by decide +kernel) k
  have f229 : ∀ k, h_i h1 229 k = h_i h 229 k := fun k => fr_i F1 (by decide +kernel) k
  have f230 : ∀ k, h_i h1 230 k = h_i h 230 k := fun k => fr_i F1 (by decide +kernel) k
  have g34 : ∀ k, h_i h2 34 k = h_i h1 34 k := fun k => fr_i F2 (by decide +kernel) k
  have bb1 : bB h1 = 150 * (h_i h 12 3).toNatClampNeg := by
    show 150 * (h_i h1 1 42).toNatClampNeg = _
    rw [a42]
  have b3 := x12_in T.1
  have n3 := n_nat b3.1
  have lw : ∀ k, k < (h_i h 12 3).toNatClampNeg → (∀ z, z < 150 * (h_i h 12 3).toNatClampNeg → h_i h1 34 z = h_i h 34 z) → h_i h2 227 k = h_i h 227 k → ∀ i, i < (h_i h2 227 k).toNatClampNeg → h_i h2 34 (150 * k + i) = pkS (sB h2 k i) ∧ stR (sB h2 k i) := fun k hk x w i hi => by
    rw [w] at hi
    have zk := (z227 T.1 k).1
    have q := L k hk i hi
    have cc := c8 (150 * k + i) (by rw [bb1]; omega)
    have es : sB h2 k i = sB h k i := by
      unfold sB
      rw [cc.1, cc.2.1, cc.2.2, f228, f229, f230]
    rw [g34, x _ (by omega), es]
    exact q
  by_cases o : okB (h_i h 31) (xn h) (h_i h 12 3)
  · have ky := ky o
    have my := my o
    have t1 : (1 : Int32).toInt = 1 := rfl
    have ex : (h_i h 12 3 + 1).toInt = (h_i h 12 3).toInt + 1 := tx_add (by rw [t1]; omega) (by rw [t1]; omega)
    have n4 := n_nat (x := h_i h 12 3 + 1) (by omega)
    intro k hk
    rw [b123, ky.2.1] at hk
    have w : h_i h2 227 k = if k = (h_i h 12 3).toNatClampNeg then Int32.ofNat (beo (h_i h 31) (xn h)).length else h_i h 227 k := by rw [my.2.2.2.1 k, f227]
    rcases Nat.lt_or_ge k (h_i h 12 3).toNatClampNeg with u | u
    · have nk : ¬ k = (h_i h 12 3).toNatClampNeg := by omega
      rw [if_neg nk] at w
      exact lw k u ky.2.2.2.2.2.2 w
    · have ek : k = (h_i h 12 3).toNatClampNeg := by omega
      rw [if_pos ek] at w
      intro i hi
      have l150 := o.2.2
      rw [w, on_k (by omega)] at hi
      have gi : (beo (h_i h 31) (xn h))[i]? = some ((beo (h_i h 31) (xn h))[i]'hi) := List.getElem?_eq_getElem hi
      have p := ky.2.2.2.2.2.1 i _ gi
      have m := my.2.2.2.2.1 i _ gi
      have s := my.2.2.2.2.2 _ (List.getElem_mem hi)
      rw [bb1, ← ek] at m
      rw [← ek] at p
      have es : sB h2 k i = (beo (h_i h 31) (xn h))[i]'hi := by
        unfold sB
        rw [m.1, m.2.1, m.2.2]
      rw [g34, p, es]
      exact ⟨rfl, s⟩
  · have kn := kn o
    have mn := mn o
    intro k hk
    rw [b123, kn.2.1] at hk
    exact lw k hk (fun z _ => kn.2.2.2.2.2 z) ((mn.2.2.2 k).trans (f227 k))
noncomputable abbrev okWx (m x1 x2 x3 : Int32) : Prop := (0 ≤ x1 ∧ x1 < 16) ∧ (0 ≤ x2 ∧ x2 ≤ 1440) ∧ (x2 ≤ x3 ∧ x3 ≤ 1440) ∧ m < 8
noncomputable abbrev okWn (m x1 x2 x3 : Int32) : Prop := (0 ≤ x1 ∧ x1 ≤ 15) ∧ (0 ≤ x2 ∧ x2 ≤ 1440) ∧ (x2 ≤ x3 ∧ x3 ≤ 1440) ∧ ¬ m = 8
theorem okW_eq {m x1 x2 x3 : Int32} (b : m.toInt ≤ 8) : okWx m x1 x2 x3 ↔ okWn m x1 x2 x3 := by
  unfold okWx okWn
  rw [p15, nz_lt (n := 8) b]
/-- the watches -/
noncomputable def ExW (h : Hp_) : Prop := h_i h 20 3 = h_i h 1 108 ∧ ∀ k, k < (h_i h 20 3).toNatClampNeg → (h_i h 92 k = h_i h 281 k ∧ h_i h 93 k = h_i h 282 k ∧ h_i h 94 k = h_i h 283 k) ∧ (0 ≤ (h_i h 92 k).toInt ∧ (h_i h 92 k).toInt ≤ 15) ∧ (0 ≤ (h_i h 93 k).toInt ∧ (h_i h 94 k).toInt ≤ 1440)
noncomputable def exoW (ws : List Nat) : Bool := off ws 92 && off ws 93 && off ws 94 && off ws 281 && off ws 282 && off ws 283 && !inw ws 20 3 && !inw ws 1 108
theorem ExW.cg {h h' : Hp_} (e : ExW h) (a : ∀ k, h_i h' 92 k = h_i h 92 k) (b : ∀ k, h_i h' 93 k = h_i h 93 k) (c : ∀ k, h_i h' 94 k = h_i h 94 k) (d : ∀ k, h_i h' 281 k = h_i h 281 k) (f : ∀ k, h_i h' 282 k = h_i h 282 k) (g : ∀ k, h_i h' 283 k = h_i h 283 k) (n : h_i h' 20 3 = h_i h 20 3) (m : h_i h' 1 108 = h_i h 1 108) : ExW h' := by
  refine ⟨by rw [n, m]; exact e.1, fun k hk => ?_⟩
  rw [n] at hk
  rw [a, b, c, d, f, g]
  exact e.2 k hk
theorem ExW.fr {ws : List Nat} {h h' : Hp_} (e : ExW h) (f : Fr ws h h') (o : exoW ws = true) : ExW h' := by
  unfold exoW at o
  simp only [Bool.and_eq_true, Bool.not_eq_true'] at o
  exact e.cg (fun k => fr_i f o.1.1.1.1.1.1.1 k) (fun k => fr_i f o.1.1.1.1.1.1.2 k) (fun k => fr_i f o.1.1.1.1.1.2 k) (fun k => fr_i f o.1.1.1.1.2 k) (fun k => fr_i f o.1.1.1.2 k) (fun k => fr_i f o.1.1.2 k) (f.2 20 3 o.1.2).1 (f.2 1 108 o.2).1
theorem ExW.mf {W : List Nat} {h h' : Hp_} (e : ExW h) (f : Mf W h h') (o : exoW W = true) : ExW h' := by
  unfold exoW at o
  simp only [Bool.and_eq_true, Bool.not_eq_true'] at o
  exact e.cg (fun k => (f.2.2.2 92 k (by decide) (off_inw o.1.1.1.1.1.1.1 k)).1) (fun k => (f.2.2.2 93 k (by decide) (off_inw o.1.1.1.1.1.1.2 k)).1) (fun k => (f.2.2.2 94 k (by decide) (off_inw o.1.1.1.1.1.2 k)).1) (fun k => f.2.1 281 (by decide) (by decide) k) (fun k => f.2.1 282 (by decide) (by decide) k) (fun k => f.2.1 283 (by decide) (by decide) k) (f.2.2.2 20 3 (by decide) o.1.2).1 (f.1 108)
noncomputable def WtX (x1 x2 x3 : Int32) (h : Hp_) (r : Int32) (h' : Hp_) : Prop := Fr [20003, 92999, 93999, 94999] h h' ∧ oca (okWx (h_i h 20 3) x1 x2 x3) (h_i h 20 3) r (h_i h' 20 3) ∧ (∀ k, h_i h' 92 k = if okWx (h_i h 20 3) x1 x2 x3 ∧ k = (h_i h 20 3).toNatClampNeg then x1 else h_i h 92 k) ∧ (∀ k, h_i h' 93 k = if okWx (h_i h 20 3) x1 x2 x3 ∧ k = (h_i h 20 3).toNatClampNeg then x2 else h_i h 93 k) ∧ (∀ k, h_i h' 94 k = if okWx (h_i h 20 3) x1 x2 x3 ∧ k = (h_i h 20 3).toNatClampNeg then x3 else h_i h 94 k)
noncomputable def WtM (x1 x2 x3 : Int32) (h : Hp_) (r : Int32) (h' : Hp_) : Prop := Fr [1108, 281999, 282999, 283999] h h' ∧ oca (okWn (h_i h 1 108) x1 x2 x3) (h_i h 1 108) r (h_i h' 1 108) ∧ (∀ k, h_i h' 281 k = if okWn (h_i h 1 108) x1 x2 x3 ∧ k = (h_i h 1 108).toNatClampNeg then x1 else h_i h 281 k) ∧ (∀ k, h_i h' 282 k = if okWn (h_i h 1 108) x1 x2 x3 ∧ k = (h_i h 1 108).toNatClampNeg then x2 else h_i h 282 k) ∧ (∀ k, h_i h' 283 k = if okWn (h_i h 1 108) x1 x2 x3 ∧ k = (h_i h 1 108).toNatClampNeg then x3 else h_i h 283 k)
theorem ExW.wt {h h1 h2 : Hp_} {x1 x2 x3 r1 r2 : Int32} (I : Iv h) (L : ExW h) (k1 : WtX x1 x2 x3 h r1 h1) (k2 : WtM x1 x2 x3 h1 r2 h2) : ExW h2 ∧ r1 = r2 := by
  obtain ⟨f1, kp, a1, a2, a3⟩ := k1
  obtain ⟨f2, kq, b1, b2, b3⟩ := k2
  have e1 : h_i h1 1 108 = h_i h 20 3 := ((f1.2 1 108 (by decide +kernel)).1).trans L.1.symm
  rw [e1] at kq b1 b2 b3
  have rg := I.2.1 20 3
  rw [show tf 20 3 = (0, 8) by decide +kernel] at rg
  have r0 : 0 ≤ (h_i h 20 3).toInt := rg.1
  have r8 : (h_i h 20 3).toInt ≤ 8 := rg.2
  have oe := okW_eq (x1 := x1) (x2 := x2) (x3 := x3) (m := h_i h 20 3) r8
  have z := oca_eq oe kp kq
  have g1 : ∀ k, h_i h1 281 k = h_i h 281 k := fun k => fr_i f1 (by decide +kernel) k
  have g2 : ∀ k, h_i h1 282 k = h_i h 282 k := fun k => fr_i f1 (by decide +kernel) k
  have g3 : ∀ k, h_i h1 283 k = h_i h 283 k := fun k => fr_i f1 (by decide +kernel) k
  have c1 : ∀ k, h_i h2 92 k = h_i h1 92 k := fun k => fr_i f2 (by decide +kernel) k
  have c2 : ∀ k, h_i h2 93 k = h_i h1 93 k := fun k => fr_i f2 (by decide +kernel) k
  have c3 : ∀ k, h_i h2 94 k = h_i h1 94 k := fun k => fr_i f2 (by decide +kernel) k
  have e20 : h_i h2 20 3 = h_i h1 20 3 := (f2.2 20 3 (by decide +kernel)).1
  refine ⟨⟨e20.trans z.2, fun k hk => ?_⟩, z.1⟩
  rw [e20] at hk
  by_cases o : okWx (h_i h 20 3) x1 x2 x3
  · have o' := oe.mp o
    rcases kp with ⟨_, _, m⟩ | ⟨n, _⟩
    · have t1 : (1 : Int32).toInt = 1 := rfl
      have t0 : (0 : Int32).toInt = 0 := rfl
      have t16 : (16 : Int32).toInt = 16 := rfl
      have t14 : (1440 : Int32).toInt = 1440 := rfl
      have ex : (h_i h 20 3 + 1).toInt = (h_i h 20 3).toInt + 1 := tx_add (by rw [t1]; omega) (by rw [t1]; omega)
      have n0 := n_nat (x := h_i h 20 3) r0
      have n1 := n_nat (x := h_i h 20 3 + 1) (by omega)
      rw [m] at hk
      by_cases q : k = (h_i h 20 3).toNatClampNeg
      · rw [show h_i h2 92 k = x1 by rw [c1, a1, if_pos ⟨o, q⟩], show h_i h2 93 k = x2 by rw [c2, a2, if_pos ⟨o, q⟩], show h_i h2 94 k = x3 by rw [c3, a3, if_pos ⟨o, q⟩], show h_i h2 281 k = x1 by rw [b1, if_pos ⟨o', q⟩], show h_i h2 282 k = x2 by rw [b2, if_pos ⟨o', q⟩], show h_i h2 283 k = x3 by rw [b3, if_pos ⟨o', q⟩]]
        have u1 := q_le.mp o.1.1
        have u2 := q_lt.mp o.1.2
        have u3 := q_le.mp o.2.1.1
        have u4 := q_le.mp o.2.2.1.2
        exact ⟨⟨rfl, rfl, rfl⟩, ⟨by omega, by omega⟩, ⟨by omega, by omega⟩⟩
      · rw [show h_i h2 92 k = h_i h 92 k by rw [c1, a1, if_neg (fun y => q y.2)], show h_i h2 93 k = h_i h 93 k by rw [c2, a2, if_neg (fun y => q y.2)], show h_i h2 94 k = h_i h 94 k by rw [c3, a3, if_neg (fun y => q y.2)], show h_i h2 281 k = h_i h 281 k by rw [b1, if_neg (fun y => q y.2), g1], show h_i h2 282 k = h_i h 282 k by rw [b2, if_neg (fun y => q y.2), g2], show h_i h2 283 k = h_i h 283 k by rw [b3, if_neg (fun y => q y.2), g3]]
        exact L.2 k (by omega)
    · exact absurd o n
  · have o' : ¬ okWn (h_i h 20 3) x1 x2 x3 := fun y => o (oe.mpr y)
    rcases kp with ⟨y, _⟩ | ⟨_, _, m⟩
    · exact absurd y o
    · rw [m] at hk
      rw [show h_i h2 92 k = h_i h 92 k by rw [c1, a1, if_neg (fun y => o y.1)], show h_i h2 93 k = h_i h 93 k by rw [c2, a2, if_neg (fun y => o y.1)], show h_i h2 94 k = h_i h 94 k by rw [c3, a3, if_neg (fun y => o y.1)], show h_i h2 281 k = h_i h 281 k by rw [b1, if_neg (fun y => o' y.1), g1], show h_i h2 282 k = h_i h 282 k by rw [b2, if_neg (fun y => o' y.1), g2], show h_i h2 283 k = h_i h 283 k by rw [b3, if_neg (fun y => o' y.1), g3]]
      exact L.2 k hk
/-! what a beat sees -/
theorem bL_l (h : Hp_) (k : Nat) : (bL h k).length = (h_i h 227 k).toNatClampNeg := by
  unfold bL
  rw [List.length_map, List.length_range]
theorem bL_g {h : Hp_} {k i : Nat} (hi : i < (h_i h 227 k).toNatClampNeg) : (bL h k)[i]? = some (sB h k i) := by
  unfold bL
  rw [List.getElem?_map, List.getElem?_range hi]
  rfl
theorem bL_m {h : Hp_} {k : Nat} {x : Sp3} (hx : x ∈ bL h k) : ∃ i, i < (h_i h 227 k).toNatClampNeg ∧ x = sB h k i := by
  unfold bL at hx
  obtain ⟨i, hi, e⟩ := List.mem_map.mp hx
  exact ⟨i, List.mem_range.mp hi, e.symm⟩
end
section
/-- the minutes of a walk as both answer them -/
noncomputable def wI (h : Hp_) (a b : Int32) : Int32 := if (0 ≤ a ∧ a < 16) ∧ (0 ≤ b ∧ b < 16) then (if h_i h 30 (16 * a.toNatClampNeg + b.toNatClampNeg) < 1000000 then h_i h 30 (16 * a.toNatClampNeg + b.toNatClampNeg) else -1) else -1
/-! MEN: one man as a function of the slot (the class's slots); what befalls him -/
noncomputable def up1 (M : Nat → Int32) (k : Nat) (x : Int32) : Nat → Int32 := fun j => if j = k then x else M j
theorem up1_at {M : Nat → Int32} {k : Nat} {x : Int32} : up1 M k x k = x := if_pos rfl
theorem up1_ne {M : Nat → Int32} {k j : Nat} {x : Int32} (n : j ≠ k) : up1 M k x j = M j := if_neg n
theorem im_row (h : Hp_) (a k : Nat) (x : Int32) : h_i (h_im h a k x) a = up1 (h_i h a) k x := funext (fun j => by
  rw [h_i_im]
  unfold up1
  by_cases c : j = k
  · rw [if_pos ⟨rfl, c⟩, if_pos c]
  · rw [if_neg (fun z => c z.2), if_neg c])
theorem im_oth {h : Hp_} {a k b : Nat} {x : Int32} (n : b ≠ a) : h_i (h_im h a k x) b = h_i h b := funext (fun _ => im_ne n)
noncomputable abbrev Ev2 : Type := Int32 × Int32
/-- rows r, r + 1 .. take what the events say -/
noncomputable def rz (g : Ev2 → Int32) : Nat → List Ev2 → (Nat → Int32) → Nat → Int32
  | _, [], f => f
  | r, e :: E, f => rz g (r + 1) E (up1 f r (g e))
theorem rz_a (g : Ev2 → Int32) : ∀ (E1 E2 : List Ev2) (r : Nat) (f : Nat → Int32), rz g r (E1 ++ E2) f = rz g (r + E1.length) E2 (rz g r E1 f)
  | [], _, _, _ => rfl
  | e :: E1, E2, r, f => by
    show rz g (r + 1) (E1 ++ E2) (up1 f r (g e)) = rz g (r + (E1.length + 1)) E2 (rz g (r + 1) E1 (up1 f r (g e)))
    rw [rz_a g E1 E2 (r + 1), show r + 1 + E1.length = r + (E1.length + 1) by omega]
/-- what stands outside of them stays -/
theorem rz_o (g : Ev2 → Int32) : ∀ (E : List Ev2) (r : Nat) (f : Nat → Int32) (k : Nat), (k < r ∨ r + E.length ≤ k) → rz g r E f k = f k
  | [], _, _, _, _ => rfl
  | e :: E, r, f, k, hk => by
    have hk : k < r ∨ r + (E.length + 1) ≤ k := hk
    show rz g (r + 1) E (up1 f r (g e)) k = f k
    rw [rz_o g E (r + 1) _ k (by omega), up1_ne (by omega)]
theorem rz_i (g : Ev2 → Int32) : ∀ (E : List Ev2) (r : Nat) (f : Nat → Int32) (j : Nat) (e : Ev2), E[j]? = some e → rz g r E f (r + j) = g e
  | [], _, _, _, _, h => by cases h
  | x :: E, r, f, 0, e, h => by
    have h : some x = some e := h
    show rz g (r + 1) E (up1 f r (g x)) (r + 0) = g e
    rw [rz_o g E (r + 1) _ (r + 0) (by omega), Nat.add_zero, up1_at, Option.some.inj h]
  | x :: E, r, f, j + 1, e, h => by
    have h : E[j]? = some e := h
    show rz g (r + 1) E (up1 f r (g x)) (r + (j + 1)) = g e
    rw [show r + (j + 1) = r + 1 + j by omega]
    exact rz_i g E (r + 1) _ j e h
/-- he sets out: now n, m minutes, to p -/
noncomputable def sOut (n m p : Int32) (M : Nat → Int32) : Nat → Int32 := up1 (up1 (up1 M 6 p) 7 (n + m)) 5 (-1)
/-- the next of his rows is settled -/
noncomputable def sRow (e : Ev2) (M : Nat → Int32) : Nat → Int32 := up1 (up1 M 11 (M 11 + 1)) (if e.1 = 1 then 15 else 16) (M (if e.1 = 1 then 15 else 16) + 1)
noncomputable def fFree (M : Nat → Int32) : Nat → Int32 := up1 (up1 M 4 0) 7 (-1)
noncomputable def fHome (n : Int32) (w : Int32 → Int32 → Int32) (M : Nat → Int32) : Nat → Int32 := if 0 < w (M 5) (M 3) then sOut n (w (M 5) (M 3)) (M 3) (up1 M 4 2) else fFree (up1 (up1 M 4 2) 5 (M 3))
/-- he came to a point, due at u: does he wait, how is he then, what is the point -/
noncomputable def fPt (n u : Int32) (M : Nat → Int32) : Bool × (Nat → Int32) × Ev2 := if n ≤ u then (if u ≤ n then (false, sRow (1, -1) M, (1, -1)) else (true, up1 (sRow (1, -1) M) 7 u, (1, -1))) else (false, sRow (2, 1) M, (2, 1))
/-- one step: does it take time, how is he then, which points were settled -/
noncomputable def fOne (n : Int32) (w : Int32 → Int32 → Int32) (x : Sp3) (M : Nat → Int32) : Bool × (Nat → Int32) × List Ev2 := if x.1 = 1 then (true, up1 M 7 (n + x.2.1), []) else if x.1 = 3 then (true, up1 M 7 (n + 1), []) else if 0 < w (M 5) x.2.1 then (true, sOut n (w (M 5) x.2.1) x.2.1 M, []) else if x.1 = 2 then (if w (M 5) x.2.1 = -1 then (false, sRow (2, 2) M, [(2, 2)]) else ((fPt n (M 10 + x.2.2) M).1, (fPt n (M 10 + x.2.2) M).2.1, [(fPt n (M 10 + x.2.2) M).2.2])) else (false, M, [])
/-- steps one behind the other, up to one that takes time -/
noncomputable def fSt (n : Int32) (w : Int32 → Int32 → Int32) : List Sp3 → (Nat → Int32) → (Nat → Int32) × List Ev2
  | [], M => (fHome n w M, [])
  | x :: L, M => if (fOne n w x M).1 = true then ((fOne n w x M).2.1, (fOne n w x M).2.2) else ((fSt n w L (up1 (fOne n w x M).2.1 9 ((fOne n w x M).2.1 9 + 1))).1, (fOne n w x M).2.2 ++ (fSt n w L (up1 (fOne n w x M).2.1 9 ((fOne n w x M).2.1 9 + 1))).2)
/-- one who is drawn is at a place -/
noncomputable def fDr (n : Int32) (w : Int32 → Int32 → Int32) (M : Nat → Int32) : Nat → Int32 := if 0 < w (M 5) (M 13) then sOut n (w (M 5) (M 13)) (M 13) M else if M 5 = M 13 ∧ n < M 14 then up1 M 7 (M 14) else fHome n w M
/-- as he comes, or wakes -/
noncomputable def fCm (M : Nat → Int32) : Nat → Int32 := if M 6 = -1 then up1 M 7 (-1) else up1 (up1 (up1 M 6 (-1)) 5 (M 6)) 7 (-1)
/-- the step x of one who came (or not) is over, or he waits at a point -/
noncomputable def fEn (n : Int32) (x : Sp3) (came : Bool) (M : Nat → Int32) : Bool × (Nat → Int32) × List Ev2 := if x.1 = 2 ∧ came = true then ((fPt n (M 10 + x.2.2) M).1, (fPt n (M 10 + x.2.2) M).2.1, [(fPt n (M 10 + x.2.2) M).2.2]) else (false, M, [])
noncomputable def fNx (n : Int32) (w : Int32 → Int32 → Int32) (L : List Sp3) (o : Bool × (Nat → Int32) × List Ev2) : (Nat → Int32) × List Ev2 := if o.1 = true then (o.2.1, o.2.2) else ((fSt n w L (up1 o.2.1 9 (o.2.1 9 + 1))).1, o.2.2 ++ (fSt n w L (up1 o.2.1 9 (o.2.1 9 + 1))).2)
/-- what he went, waited or looked for is over: x the step, L the steps behind it -/
noncomputable def fGo (n : Int32) (w : Int32 → Int32 → Int32) (x : Sp3) (L : List Sp3) (M : Nat → Int32) : (Nat → Int32) × List Ev2 := if M 4 = 1 then fNx n w L (fEn n x (decide (¬ M 6 = -1)) (fCm M)) else if M 4 = 2 then (fFree (fCm M), []) else if M 4 = 3 then (fDr n w (fCm M), []) else (fCm M, [])
/-! slots that none of these touches -/
theorem sOut_k {n m p : Int32} {M : Nat → Int32} {k : Nat} (a : k ≠ 5) (b : k ≠ 6) (c : k ≠ 7) : sOut n m p M k = M k := by
  unfold sOut
  rw [up1_ne a, up1_ne c, up1_ne b]
theorem sRow_k {e : Ev2} {M : Nat → Int32} {k : Nat} (a : k ≠ 11) (b : k ≠ 15) (c : k ≠ 16) : sRow e M k = M k := by
  unfold sRow
  rw [up1_ne (by split <;> assumption), up1_ne a]
theorem sRow_11 {e : Ev2} {M : Nat → Int32} : sRow e M 11 = M 11 + 1 := by
  unfold sRow
  rw [up1_ne (by split <;> decide), up1_at]
theorem fFree_k {M : Nat → Int32} {k : Nat} (a : k ≠ 4) (b : k ≠ 7) : fFree M k = M k := by
  unfold fFree
  rw [up1_ne b, up1_ne a]
theorem fHome_k {n : Int32} {w : Int32 → Int32 → Int32} {M : Nat → Int32} {k : Nat} (a : k ≠ 4) (b : k ≠ 5) (c : k ≠ 6) (e : k ≠ 7) : fHome n w M k = M k := by
  unfold fHome
  split
  · rw [sOut_k b c e, up1_ne a]
  · rw [fFree_k a e, up1_ne b, up1_ne a]
theorem fPt_k {n u : Int32} {M : Nat → Int32} {k : Nat} (a : k ≠ 7) (b : k ≠ 11) (c : k ≠ 15) (e : k ≠ 16) : (fPt n u M).2.1 k = M k := by
  unfold fPt
  split
  · split
    · exact sRow_k b c e
    · show up1 (sRow (1, -1) M) 7 u k = M k
      rw [up1_ne a]
      exact sRow_k b c e
  · exact sRow_k b c e
theorem fPt_11 {n u : Int32} {M : Nat → Int32} : (fPt n u M).2.1 11 = M 11 + 1 := by
  unfold fPt
  split
  · split
    · show sRow (1, -1) M 11 = M 11 + 1
      exact sRow_11
    · show up1 (sRow (1, -1) M) 7 u 11 = M 11 + 1
      rw [up1_ne (by decide)]
      exact sRow_11
  · show sRow (2, 1) M 11 = M 11 + 1
    exact sRow_11
theorem fOne_k {n : Int32} {w : Int32 → Int32 → Int32} {x : Sp3} {M : Nat → Int32} {k : Nat} (a : k ≠ 5) (b : k ≠ 6) (c : k ≠ 7) (d : k ≠ 11) (e : k ≠ 15) (f : k ≠ 16) : (fOne n w x M).2.1 k = M k := by
  unfold fOne
  split
  · exact up1_ne c
  · split
    · exact up1_ne c
    · split
      · exact sOut_k a b c
      · split
        · split
          · exact sRow_k d e f
          · exact fPt_k c d e f
        · rfl
/-- how many rows a step settles -/
theorem fOne_11 {n : Int32} {w : Int32 → Int32 → Int32} {x : Sp3} {M : Nat → Int32} : ((fOne n w x M).2.2 = [] ∧ (fOne n w x M).2.1 11 = M 11 ∧ ((fOne n w x M).1 = false → ¬ x.1 = 2)) ∨ (x.1 = 2 ∧ (fOne n w x M).2.2.length = 1 ∧ (fOne n w x M).2.1 11 = M 11 + 1) := by
  unfold fOne
  split
  · refine Or.inl ⟨rfl, ?_, fun y => by cases y⟩
    show up1 M 7 (n + x.2.1) 11 = M 11
    exact up1_ne (by decide)
  · split
    · refine Or.inl ⟨rfl, ?_, fun y => by cases y⟩
      show up1 M 7 (n + 1) 11 = M 11
      exact up1_ne (by decide)
    · split
      · refine Or.inl ⟨rfl, ?_, fun y => by cases y⟩
        show sOut n (w (M 5) x.2.1) x.2.1 M 11 = M 11
        exact sOut_k (by decide) (by decide) (by decide)
      · split
        · rename_i e
          split
          · refine Or.inr ⟨e, rfl, ?_⟩
            show sRow (2, 2) M 11 = M 11 + 1
            exact sRow_11
          · refine Or.inr ⟨e, rfl, ?_⟩
            show (fPt n (M 10 + x.2.2) M).2.1 11 = M 11 + 1
            exact fPt_11
        · rename_i e
          exact Or.inl ⟨rfl, rfl, fun _ => e⟩
/-! MEN, the class: frames, and what its methods do to one man (cell c) -/
noncomputable def wgM : List Nat := 51999 :: 52999 :: 53999 :: wz_X11_look
noncomputable def Gw (c : Nat) (ws : List Nat) (h h' : Hp_) : Prop := h_sh h' = h_sh h ∧ ∀ b k, inw ws b k = false → h_r h' b k = h_r h b k ∧ (¬ (b = 0 ∧ k = 14) → h_l h' b k = h_l h b k) ∧ (b ≠ c → h_i h' b k = h_i h b k)
theorem Gw.rf (c : Nat) (ws : List Nat) (h : Hp_) : Gw c ws h h := ⟨rfl, fun _ _ _ => ⟨rfl, fun _ => rfl, fun _ => rfl⟩⟩
theorem Gw.tr {c : Nat} {ws : List Nat} {h h1 h2 : Hp_} (a : Gw c ws h h1) (b : Gw c ws h1 h2) : Gw c ws h h2 := ⟨b.1.trans a.1, fun x k o => ⟨(b.2 x k o).1.trans (a.2 x k o).1, fun n => ((b.2 x k o).2.1 n).trans ((a.2 x k o).2.1 n), fun n => ((b.2 x k o).2.2 n).trans ((a.2 x k o).2.2 n)⟩⟩
theorem Gw.i {c : Nat} {ws : List Nat} {h h' : Hp_} (g : Gw c ws h h') (b k : Nat) (n : b ≠ c) (o : inw ws b k = false) : h_i h' b k = h_i h b k := (g.2 b k o).2.2 n
theorem Gw.imc {c k : Nat} {ws : List Nat} {h0 h : Hp_} {x : Int32} (g : Gw c ws h0 h) : Gw c ws h0 (h_im h c k x) := ⟨g.1, fun b j o => ⟨(g.2 b j o).1, (g.2 b j o).2.1, fun n => by rw [im_ne n]; exact (g.2 b j o).2.2 n⟩⟩
theorem Gw.im {c a k : Nat} {ws : List Nat} {h0 h : Hp_} {x : Int32} (g : Gw c ws h0 h) (w : ∀ k, inw ws a k = true) : Gw c ws h0 (h_im h a k x) := ⟨g.1, fun b j o => ⟨(g.2 b j o).1, (g.2 b j o).2.1, fun n => by
  rw [h_i_im, if_neg (fun e => by rw [e.1, w] at o; cases o)]
  exact (g.2 b j o).2.2 n⟩⟩
theorem Gw.lm {c : Nat} {ws : List Nat} {h0 h : Hp_} {x : Int64} (g : Gw c ws h0 h) : Gw c ws h0 (h_lm h 0 14 x) := ⟨g.1, fun b j o => ⟨(g.2 b j o).1, fun n => by rw [h_l_lm, if_neg n]; exact (g.2 b j o).2.1 n, (g.2 b j o).2.2⟩⟩
theorem Gw.fr {c : Nat} {ws : List Nat} {h h' : Hp_} (f : Fr ws h h') : Gw c ws h h' := ⟨f.1, fun b k o => ⟨(f.2 b k o).2.2, fun _ => (f.2 b k o).2.1, fun _ => (f.2 b k o).1⟩⟩
theorem mIv {h : Hp_} (I : Iv h) {c : Nat} (h1 : 401 ≤ c) (h2 : c ≤ 412) (k : Nat) (x : Int32) : Iv (h_im h c k x) := I.im (by rw [tf_cn h1 h2, tfa_tf (show tfa 401 = some rtop by decide +kernel)]; exact rtop_in _) (jw_jr (by omega) (by
  unfold jr
  have n : ∀ {y : Nat}, y < 401 → Nat.beq c y = false := fun {y} z => by
    cases e : Nat.beq c y with
    | true => exact absurd (Nat.eq_of_beq_eq_true e) (by omega)
    | false => rfl
  rw [n (by omega), n (by omega), n (by omega), n (by omega)]
  rfl) _)
/-- where all are now, packed, when a man is put at x -/
noncomputable def hereN (h : Hp_) (c : Nat) (x : Int32) : Int64 := if x = -1 then (((h_l h 0 14) &&& (((31 : Int64) <<< (((5 * (h_i h c 0)) : Int32).toInt64 &&& 63)) ^^^ (-1 : Int64))) ||| ((17 : Int64) <<< (((5 * (h_i h c 0)) : Int32).toInt64 &&& 63))) else (((h_l h 0 14) &&& (((31 : Int64) <<< (((5 * (h_i h c 0)) : Int32).toInt64 &&& 63)) ^^^ (-1 : Int64))) ||| ((((x + 1) : Int32).toInt64) <<< (((5 * (h_i h c 0)) : Int32).toInt64 &&& 63)))
section MEN
variable {β : Type} {PB : β → Hp_ → Prop} {tB : Int32 → Int32 → β → β} {lB : Nat → Hp_ → β → β}
/-- what else is kept: by stores into a man and the points' rows, when a man is put, by tellNoted and look -/
noncomputable def PBok {β : Type} (PB : β → Hp_ → Prop) (tB : Int32 → Int32 → β → β) (lB : Nat → Hp_ → β → β) : Prop :=
  (∀ b h a k x, ((401 ≤ a ∧ a ≤ 412 ∧ 4 ≤ k ∧ k ≠ 5) ∨ (47 ≤ a ∧ a ≤ 53) ∨ (a = 16 ∧ k = 7)) → PB b h → PB b (h_im h a k x)) ∧
  (∀ b h c x, Cn h c → PB b h → PB b (h_lm (h_im h c 5 x) 0 14 (hereN h c x))) ∧
  (∀ d b h x1 x2, Iv h → (0 ≤ x2.toInt ∧ x2.toInt ≤ 20000) → PB b h → Cv (m_X4_tellNoted (d + 0) 0 0) [.ref 17, .int x1, .int x2] h (fun h' => Iv h' ∧ Fr wz_X11_look h h' ∧ PB (tB x1 x2 b) h')) ∧
  (∀ d b h c, Iv h → Cn h c → PB b h → Cv (m_X11_look (d + 5) 0 0) [.ref 0, .ref c] h (fun h' => Iv h' ∧ Fr wz_X11_look h h' ∧ PB (lB c h b) h'))
theorem c_mn (d : Nat) {h : Hp_} (I : Iv h) (a b : Int32) : Ci (m_X9_minutes (d + 1) 0 0) [.ref 10, .int a, .int b] h (fun r h' => h' = h ∧ r = wI h a b) := by
  refine t_X9_minutes d h a b _ (Ci.mono (s_X11_isPlace _ h a) (fun r h3 q => ?_))
  obtain ⟨er, eh⟩ := q
  subst er eh
  unfold wI
  refine ⟨I.1, fun z => ⟨rfl, ?_⟩, fun z => Ci.mono (s_X11_isPlace _ _ b) (fun r h4 q => ?_)⟩
  · rw [if_neg (fun y => bI_0.mp z y.1)]
  · obtain ⟨er, eh⟩ := q
    subst er eh
    have b1 : 0 ≤ a ∧ a < 16 := Decidable.byContradiction (fun n => z (bI_0.mpr n))
    refine ⟨I.1, fun z2 => ?_, fun z2 => ⟨rfl, ?_⟩⟩
    · have b2 : 0 ≤ b ∧ b < 16 := Decidable.byContradiction (fun n => z2 (bI_0.mpr n))
      have t16 : (16 : Int32).toInt = 16 := rfl
      have t0 : (0 : Int32).toInt = 0 := rfl
      have u1 := q_le.mp b1.1
      have u2 := q_lt.mp b1.2
      have u3 := q_le.mp b2.1
      have u4 := q_lt.mp b2.2
      have na := n_nat (x := a) (by omega)
      have nb := n_nat (x := b) (by omega)
      have k := i256 (i := a.toNatClampNeg) (j := b.toNatClampNeg) (by omega) (by omega)
      rw [of_nat32 (by omega), of_nat32 (by omega)] at k
      refine ⟨k.2, ?_⟩
      rw [k.1]
      exact ⟨fun c => ⟨rfl, by rw [if_pos ⟨b1, b2⟩, if_pos c]⟩, fun c => ⟨rfl, by rw [if_pos ⟨b1, b2⟩, if_neg c]⟩⟩
    · rw [if_neg (fun y => bI_0.mp z2 y.2)]
theorem c_put (P : PBok PB tB lB) (d : Nat) {h : Hp_} (I : Iv h) {c : Nat} (hc : Cn h c) {b : β} (B : PB b h) (x2 : Int32) : Cv (m_X11_putAt (d + 0) 0 0) [.ref 0, .ref c, .int x2] h (fun h' => Iv h' ∧ Gw c wgM h h' ∧ h_i h' c = up1 (h_i h c) 5 x2 ∧ (∀ a, a ≠ c → h_i h' a = h_i h a) ∧ PB b h') := by
  have c1 := hc.1
  have Q := P.2.1 b h c x2 hc B
  unfold hereN at Q
  refine t_X11_putAt d h I.1 c hc.2.2 (by omega) x2 _ ⟨fun n => ?_, fun e => ?_⟩
  · rw [if_neg n] at Q
    exact ⟨(mIv I hc.1 hc.2.1 5 x2).lm, ((Gw.rf c wgM h).imc).lm, im_row h c 5 x2, fun a n => im_oth n, Q⟩
  · rw [if_pos e] at Q
    exact ⟨(mIv I hc.1 hc.2.1 5 x2).lm, ((Gw.rf c wgM h).imc).lm, im_row h c 5 x2, fun a n => im_oth n, Q⟩
/-- from h to h': the man is M', the rows from r on take E -/
noncomputable def Sxm (PB : β → Hp_ → Prop) (c : Nat) (n : Int32) (M' : Nat → Int32) (r : Nat) (E : List Ev2) (b' : β) (h h' : Hp_) : Prop := Iv h' ∧ Gw c wgM h h' ∧ h_i h' c = M' ∧ (h_i h' 51 = rz Prod.fst r E (h_i h 51) ∧ h_i h' 52 = rz (fun _ => n) r E (h_i h 52) ∧ h_i h' 53 = rz Prod.snd r E (h_i h 53)) ∧ PB b' h'
theorem Sxm.tr {c : Nat} {n : Int32} {M1 M2 : Nat → Int32} {r r' : Nat} {E1 E2 : List Ev2} {b1 b2 : β} {h h1 h2 : Hp_} (a : Sxm PB c n M1 r E1 b1 h h1) (b : Sxm PB c n M2 r' E2 b2 h1 h2) (e : r' = r + E1.length) : Sxm PB c n M2 r (E1 ++ E2) b2 h h2 := ⟨b.1, a.2.1.tr b.2.1, b.2.2.1, ⟨by rw [b.2.2.2.1.1, a.2.2.2.1.1, e, rz_a], by rw [b.2.2.2.1.2.1, a.2.2.2.1.2.1, e, rz_a], by rw [b.2.2.2.1.2.2, a.2.2.2.1.2.2, e, rz_a]⟩, b.2.2.2.2⟩
theorem Cn.of {h h' : Hp_} {c : Nat} (hc : Cn h c) (e : h_sh h' = h_sh h) : Cn h' c := ⟨hc.1, hc.2.1, by rw [e]; exact hc.2.2⟩
theorem Sxm.cn {c : Nat} {n : Int32} {M' : Nat → Int32} {r : Nat} {E : List Ev2} {b' : β} {h h' : Hp_} (s : Sxm PB c n M' r E b' h h') (hc : Cn h c) : Cn h' c := hc.of s.2.1.1
/-- what the walks and the hour hang on stays -/
theorem Gw.k {c : Nat} {h h' : Hp_} (g : Gw c wgM h h') (hc : 401 ≤ c) : (∀ a b, wI h' a b = wI h a b) ∧ h_i h' 0 0 = h_i h 0 0 ∧ h_i h' 0 7 = h_i h 0 7 ∧ h_i h' 16 7 = h_i h 16 7 ∧ h_i h' 12 3 = h_i h 12 3 ∧ (∀ k, h_i h' 34 k = h_i h 34 k) ∧ (∀ k, h_i h' 35 k = h_i h 35 k) := by
  have e30 : ∀ k, h_i h' 30 k = h_i h 30 k := fun k => g.i 30 k (by omega) (off_inw (by decide +kernel) k)
  refine ⟨fun a b => ?_, g.i 0 0 (by omega) (by decide +kernel), g.i 0 7 (by omega) (by decide +kernel), g.i 16 7 (by omega) (by decide +kernel), g.i 12 3 (by omega) (by decide +kernel), fun k => g.i 34 k (by omega) (off_inw (by decide +kernel) k), fun k => g.i 35 k (by omega) (off_inw (by decide +kernel) k)⟩
  unfold wI
  rw [e30]
theorem c_so (P : PBok PB tB lB) (d : Nat) {h : Hp_} (I : Iv h) {c : Nat} (hc : Cn h c) {b : β} (B : PB b h) (x2 : Int32) (r : Nat) : Ci (m_X11_setsOut (d + 2) 0 0) [.ref 0, .ref c, .int x2] h (fun q h' => (0 < wI h (h_i h c 5) x2 → q = 1 ∧ Sxm PB c (h_i h 0 0) (sOut (h_i h 0 0) (wI h (h_i h c 5) x2) x2 (h_i h c)) r [] b h h') ∧ (¬ 0 < wI h (h_i h c 5) x2 → q = 0 ∧ h' = h)) := by
  have c1 := hc.1
  have c2 := hc.2.1
  refine t_X11_setsOut d h I.1 c hc.2.2 (by omega) x2 _ (Ci.mono (c_mn d I (h_i h c 5) x2) (fun q h1 k => ?_))
  obtain ⟨eh, eq⟩ := k
  subst eh eq
  refine ⟨I.1, hc.2.2, fun y => ?_, fun n => ⟨fun y => absurd y n, fun _ => ⟨rfl, rfl⟩⟩⟩
  have I2 : Iv (h_im (h_im h1 c 6 x2) c 7 (h_i h1 0 0 + wI h1 (h_i h1 c 5) x2)) := mIv (mIv I c1 c2 6 x2) c1 c2 7 _
  have B2 : PB b (h_im (h_im h1 c 6 x2) c 7 (h_i h1 0 0 + wI h1 (h_i h1 c 5) x2)) := P.1 _ _ _ _ _ (Or.inl ⟨c1, c2, by decide⟩) (P.1 _ _ _ _ _ (Or.inl ⟨c1, c2, by decide⟩) B)
  refine Cv.mono (c_put P d I2 (hc.of rfl) B2 (-1)) (fun h' k => ⟨k.1.1, fun _ => ⟨rfl, k.1, (((Gw.rf c wgM h1).imc).imc).tr k.2.1, ?_, ⟨?_, ?_, ?_⟩, k.2.2.2.2⟩, fun n => absurd y n⟩)
  · rw [k.2.2.1, im_row, im_row]
    rfl
  · rw [k.2.2.2.1 51 (by omega), im_oth (by omega), im_oth (by omega)]
    rfl
  · rw [k.2.2.2.1 52 (by omega), im_oth (by omega), im_oth (by omega)]
    rfl
  · rw [k.2.2.2.1 53 (by omega), im_oth (by omega), im_oth (by omega)]
    rfl
theorem c_sr (P : PBok PB tB lB) (d : Nat) {h : Hp_} (I : Iv h) {c : Nat} (hc : Cn h c) {b : β} (B : PB b h) (x2 x3 : Int32) (lo : 0 ≤ (h_i h c 11).toInt) (l1 : (h_i h c 11).toInt < (h_i h c 12).toInt) (l2 : (h_i h c 12).toInt ≤ (h_i h 16 7).toInt) : Cv (m_X11_settleRow (d + 1) 0 0) [.ref 0, .ref c, .int x2, .int x3] h (fun h' => Sxm PB c (h_i h 0 0) (sRow (x2, x3) (h_i h c)) (h_i h c 11).toNatClampNeg [(x2, x3)] b h h') := by
  have c1 := hc.1
  have c2 := hc.2.1
  have t0 : (0 : Int32).toInt = 0 := rfl
  have rg := I.2.1 16 7
  rw [show tf 16 7 = (0, 400) by decide +kernel] at rg
  have r4 : (h_i h 16 7).toInt ≤ 400 := rg.2
  have v : vp_in (h_i h c 11) 400 := dp_in (lo := 0) (hi := 399) ⟨lo, by show _ ≤ (399 : Int); omega⟩ (by decide) (by decide)
  have n51 : c ≠ 51 := by omega
  have n52 : c ≠ 52 := by omega
  have n53 : c ≠ 53 := by omega
  refine t_X11_settleRow d h I.1 c hc.2.2 (by omega) x2 x3 _ ⟨fun y => ?_, fun _ => t_X7_settle d h I.1 _ x2 x3 _ _ ⟨fun y => ?_, fun _ => ⟨fun y => ?_, fun _ => ⟨v, v, v, ?_⟩⟩⟩⟩
  · have y := q_le.mp y
    omega
  · have y := q_lt.mp y
    omega
  · have y := q_le.mp y
    omega
  · have I3 : Iv (h_im (h_im (h_im h 51 (h_i h c 11).toNatClampNeg x2) 53 (h_i h c 11).toNatClampNeg x3) 52 (h_i h c 11).toNatClampNeg (h_i h 0 0)) := tr_ 52 (by decide +kernel) (tr_ 53 (by decide +kernel) (tr_ 51 (by decide +kernel) I _ _ (by decide) (by decide)) _ _ (by decide) (by decide)) _ _ (by decide) (by decide)
    have B3 : PB b (h_im (h_im (h_im h 51 (h_i h c 11).toNatClampNeg x2) 53 (h_i h c 11).toNatClampNeg x3) 52 (h_i h c 11).toNatClampNeg (h_i h 0 0)) := P.1 _ _ _ _ _ (Or.inr (Or.inl ⟨by decide, by decide⟩)) (P.1 _ _ _ _ _ (Or.inr (Or.inl ⟨by decide, by decide⟩)) (P.1 _ _ _ _ _ (Or.inr (Or.inl ⟨by decide, by decide⟩)) B))
    have ec : h_i (h_im (h_im (h_im h 51 (h_i h c 11).toNatClampNeg x2) 53 (h_i h c 11).toNatClampNeg x3) 52 (h_i h c 11).toNatClampNeg (h_i h 0 0)) c = h_i h c := by rw [im_oth n52, im_oth n53, im_oth n51]
    have G3 : Gw c wgM h (h_im (h_im (h_im h 51 (h_i h c 11).toNatClampNeg x2) 53 (h_i h c 11).toNatClampNeg x3) 52 (h_i h c 11).toNatClampNeg (h_i h 0 0)) := (((Gw.rf c wgM h).im (fun k => inw_row (by decide +kernel) k)).im (fun k => inw_row (by decide +kernel) k)).im (fun k => inw_row (by decide +kernel) k)
    rw [ec]
    generalize hg : h_im (h_im (h_im h 51 (h_i h c 11).toNatClampNeg x2) 53 (h_i h c 11).toNatClampNeg x3) 52 (h_i h c 11).toNatClampNeg (h_i h 0 0) = g at *
    have g51 : h_i g 51 = up1 (h_i h 51) (h_i h c 11).toNatClampNeg x2 := by rw [← hg, im_oth (by decide), im_oth (by decide), im_row]
    have g53 : h_i g 53 = up1 (h_i h 53) (h_i h c 11).toNatClampNeg x3 := by rw [← hg, im_oth (by decide), im_row, im_oth (by decide)]
    have g52 : h_i g 52 = up1 (h_i h 52) (h_i h c 11).toNatClampNeg (h_i h 0 0) := by rw [← hg, im_row, im_oth (by decide), im_oth (by decide)]
    refine ⟨I3.1, by rw [G3.1]; exact hc.2.2, fun n1 => ?_, fun y1 => ?_⟩
    · refine ⟨mIv (mIv I3 c1 c2 11 _) c1 c2 16 _, (G3.imc).imc, ?_, ⟨?_, ?_, ?_⟩, P.1 _ _ _ _ _ (Or.inl ⟨c1, c2, by decide⟩) (P.1 _ _ _ _ _ (Or.inl ⟨c1, c2, by decide⟩) B3)⟩
      · rw [im_row, im_row, ec]
        unfold sRow
        rw [if_neg n1]
      · rw [im_oth (by omega), im_oth (by omega)]
        exact g51
      · rw [im_oth (by omega), im_oth (by omega)]
        exact g52
      · rw [im_oth (by omega), im_oth (by omega)]
        exact g53
    · refine ⟨mIv (mIv I3 c1 c2 11 _) c1 c2 15 _, (G3.imc).imc, ?_, ⟨?_, ?_, ?_⟩, P.1 _ _ _ _ _ (Or.inl ⟨c1, c2, by decide⟩) (P.1 _ _ _ _ _ (Or.inl ⟨c1, c2, by decide⟩) B3)⟩
      · rw [im_row, im_row, ec]
        unfold sRow
        rw [if_pos y1]
      · rw [im_oth (by omega), im_oth (by omega)]
        exact g51
      · rw [im_oth (by omega), im_oth (by omega)]
        exact g52
      · rw [im_oth (by omega), im_oth (by omega)]
        exact g53
theorem inw_man {c : Nat} (h1 : 401 ≤ c) (h2 : c ≤ 412) (k : Nat) : inw wgM c k = false := by
  have e : cn c = cn 401 := by
    have q := cn_man (j := c - 401) (by omega)
    rw [show 401 + (c - 401) = c by omega] at q
    rw [q]
    decide
  rw [inw_ce e]
  exact off_inw (by decide +kernel) k
/-- tellNoted and look: the man and the points' rows stay -/
theorem Sxm.fr {c : Nat} {n : Int32} {M : Nat → Int32} {r : Nat} {E : List Ev2} {b b' : β} {h h1 h2 : Hp_} (hc : Cn h c) (s : Sxm PB c n M r E b h h1) (I : Iv h2) (f : Fr wz_X11_look h1 h2) (B : PB b' h2) : Sxm PB c n M r E b' h h2 := by
  have c1 := hc.1
  have c2 := hc.2.1
  have g : Fr wgM h1 h2 := f.more (by decide +kernel)
  refine ⟨I, s.2.1.tr (Gw.fr g), ?_, ⟨?_, ?_, ?_⟩, B⟩
  · rw [← s.2.2.1]
    exact funext (fun k => (g.2 c k (inw_man c1 c2 k)).1)
  · rw [← s.2.2.2.1.1]
    exact funext (fun k => fr_i f (by decide +kernel) k)
  · rw [← s.2.2.2.1.2.1]
    exact funext (fun k => fr_i f (by decide +kernel) k)
  · rw [← s.2.2.2.1.2.2]
    exact funext (fun k => fr_i f (by decide +kernel) k)
theorem Sxm.rf {c : Nat} {n : Int32} {r : Nat} {b : β} {h : Hp_} (I : Iv h) (B : PB b h) : Sxm PB c n (h_i h c) r [] b h h := ⟨I, Gw.rf _ _ _, rfl, ⟨rfl, rfl, rfl⟩, B⟩
theorem Sxm.im (P : PBok PB tB lB) {c k : Nat} {n : Int32} {M : Nat → Int32} {r : Nat} {E : List Ev2} {b : β} {h h1 : Hp_} (hc : Cn h c) (s : Sxm PB c n M r E b h h1) (nk : 4 ≤ k ∧ k ≠ 5) (v : Int32) : Sxm PB c n (up1 M k v) r E b h (h_im h1 c k v) := by
  have c1 := hc.1
  have c2 := hc.2.1
  exact ⟨mIv s.1 c1 c2 k v, s.2.1.imc, by rw [im_row, s.2.2.1], ⟨by rw [im_oth (by omega)]; exact s.2.2.2.1.1, by rw [im_oth (by omega)]; exact s.2.2.2.1.2.1, by rw [im_oth (by omega)]; exact s.2.2.2.1.2.2⟩, P.1 _ _ _ _ _ (Or.inl ⟨c1, c2, nk⟩) s.2.2.2.2⟩
theorem wI_im {h : Hp_} {c k : Nat} {x : Int32} (n : c ≠ 30) : wI (h_im h c k x) = wI h := by
  funext a b
  unfold wI
  rw [im_ne (Ne.symm n)]
theorem wI_eq {c : Nat} {h h' : Hp_} (g : Gw c wgM h h') (hc : 401 ≤ c) : wI h' = wI h := by
  funext a b
  exact (g.k hc).1 a b
theorem now_in {h : Hp_} (I : Iv h) : 0 ≤ (h_i h 0 0).toInt ∧ (h_i h 0 0).toInt ≤ 20000 := by
  have rg := I.2.1 0 0
  rw [show tf 0 0 = (0, 20000) by decide +kernel] at rg
  exact ⟨rg.1, rg.2⟩
theorem c_wp (P : PBok PB tB lB) (d : Nat) {h : Hp_} (I : Iv h) {c : Nat} (hc : Cn h c) {b : β} (B : PB b h) (x2 u : Int32) (eu : h_i h c 10 + (x2 >>> ((6 : Int32) &&& 31)) = u) (lo : 0 ≤ (h_i h c 11).toInt) (l1 : (h_i h c 11).toInt < (h_i h c 12).toInt) (l2 : (h_i h c 12).toInt ≤ (h_i h 16 7).toInt) : Ci (m_X11_waitsAtPoint (d + 2) 0 0) [.ref 0, .ref c, .int x2] h (fun q h' => q = (if (fPt (h_i h 0 0) u (h_i h c)).1 = true then 1 else 0) ∧ Sxm PB c (h_i h 0 0) (fPt (h_i h 0 0) u (h_i h c)).2.1 (h_i h c 11).toNatClampNeg [(fPt (h_i h 0 0) u (h_i h c)).2.2] b h h') := by
  have c1 := hc.1
  refine t_X11_waitsAtPoint d h c hc.2.2 (by omega) x2 _ (t_X0_amountOf d h x2 _ ⟨I.1, hc.2.2, ?_⟩)
  rw [eu]
  refine ⟨fun y => Cv.mono (c_sr P d I hc B 1 (-1) lo l1 l2) (fun h' k => ?_), fun y => Cv.mono (c_sr P d I hc B 2 1 lo l1 l2) (fun h' k => ⟨k.1.1, ?_⟩)⟩
  · have e0 := (k.2.1.k c1).2.1
    rw [e0]
    refine ⟨k.1.1, (k.cn hc).2.2, fun z => ?_, fun z => ?_⟩
    · unfold fPt
      rw [if_pos y, if_pos z]
      exact ⟨rfl, k⟩
    · unfold fPt
      rw [if_pos y, if_neg z]
      exact ⟨rfl, k.im P hc (by decide) u⟩
  · unfold fPt
    rw [if_neg y]
    exact ⟨rfl, k⟩
noncomputable def fB (tB : Int32 → Int32 → β → β) (n : Int32) (M : Nat → Int32) (b : β) : β := if M 4 = 0 then tB (M 0) n b else b
theorem c_sf (P : PBok PB tB lB) (d : Nat) {h : Hp_} (I : Iv h) {c : Nat} (hc : Cn h c) {b : β} (B : PB b h) (r : Nat) : Cv (m_X11_setFree (d + 1) 0 0) [.ref 0, .ref c] h (fun h' => Sxm PB c (h_i h 0 0) (fFree (h_i h c)) r [] (tB (h_i h c 0) (h_i h 0 0) b) h h') := by
  have c1 := hc.1
  have s : Sxm PB c (h_i h 0 0) (fFree (h_i h c)) r [] b h (h_im (h_im h c 4 0) c 7 (-1)) := ((Sxm.rf I B).im P hc (by decide) 0).im P hc (by decide) (-1)
  refine t_X11_setFree d h I.1 c hc.2.2 (by omega) _ (Cv.mono (P.2.2.1 d b _ (h_i h c 0) (h_i h 0 0) s.1 (now_in I) s.2.2.2.2) (fun h' k => ⟨k.1.1, s.fr hc k.1 k.2.1 k.2.2⟩))
theorem c_gh (P : PBok PB tB lB) (d : Nat) {h : Hp_} (I : Iv h) {c : Nat} (hc : Cn h c) {b : β} (B : PB b h) (r : Nat) : Cv (m_X11_goHome (d + 3) 0 0) [.ref 0, .ref c] h (fun h' => Sxm PB c (h_i h 0 0) (fHome (h_i h 0 0) (wI h) (h_i h c)) r [] (fB tB (h_i h 0 0) (fHome (h_i h 0 0) (wI h) (h_i h c)) b) h h') := by
  have c1 := hc.1
  have c2 := hc.2.1
  have s : Sxm PB c (h_i h 0 0) (up1 (h_i h c) 4 2) r [] b h (h_im h c 4 2) := (Sxm.rf I B).im P hc (by decide) 2
  have ew : wI (h_im h c 4 2) = wI h := wI_im (by omega)
  have e0 : h_i (h_im h c 4 2) 0 0 = h_i h 0 0 := im_ne (by omega)
  have e5 : up1 (h_i h c) 4 2 5 = h_i h c 5 := up1_ne (by decide)
  have k := c_so P d s.1 (s.cn hc) s.2.2.2.2 (h_i h c 3) r
  rw [ew, e0, s.2.2.1, e5] at k
  refine t_X11_goHome d h I.1 c hc.2.2 (by omega) _ (Ci.mono k (fun q h1 k => ?_))
  by_cases y : 0 < wI h (h_i h c 5) (h_i h c 3)
  · replace k := k.1 y
    obtain ⟨eq, k⟩ := k
    subst eq
    refine ⟨k.1.1, (k.cn (s.cn hc)).2.2, fun _ => ?_, fun e => absurd e (by decide)⟩
    have f : fHome (h_i h 0 0) (wI h) (h_i h c) = sOut (h_i h 0 0) (wI h (h_i h c 5) (h_i h c 3)) (h_i h c 3) (up1 (h_i h c) 4 2) := by
      unfold fHome
      rw [if_pos y]
    have f4 : fB tB (h_i h 0 0) (sOut (h_i h 0 0) (wI h (h_i h c 5) (h_i h c 3)) (h_i h c 3) (up1 (h_i h c) 4 2)) b = b := by
      unfold fB
      rw [sOut_k (by decide) (by decide) (by decide), up1_at, if_neg (by decide)]
    rw [f, f4]
    exact s.tr k rfl
  · obtain ⟨eq, eh⟩ := k.2 y
    subst eq eh
    have e3 : h_i (h_im h c 4 2) c 3 = h_i h c 3 := by rw [im_row, up1_ne (by decide)]
    refine ⟨s.1.1, (s.cn hc).2.2, fun n => absurd rfl n, fun _ => Cv.mono (c_put P d s.1 (s.cn hc) s.2.2.2.2 _) (fun h6 k6 => ?_)⟩
    rw [e3] at k6
    have s6 : Sxm PB c (h_i h 0 0) (up1 (up1 (h_i h c) 4 2) 5 (h_i h c 3)) r [] b h h6 := ⟨k6.1, s.2.1.tr k6.2.1, by rw [k6.2.2.1, s.2.2.1], ⟨by rw [k6.2.2.2.1 51 (by omega)]; exact s.2.2.2.1.1, by rw [k6.2.2.2.1 52 (by omega)]; exact s.2.2.2.1.2.1, by rw [k6.2.2.2.1 53 (by omega)]; exact s.2.2.2.1.2.2⟩, k6.2.2.2.2⟩
    have f : fHome (h_i h 0 0) (wI h) (h_i h c) = fFree (up1 (up1 (h_i h c) 4 2) 5 (h_i h c 3)) := by
      unfold fHome
      rw [if_neg y]
    have z0 : fFree (up1 (up1 (h_i h c) 4 2) 5 (h_i h c 3)) 4 = 0 := by
      unfold fFree
      rw [up1_ne (by decide), up1_at]
    have z1 : fFree (up1 (up1 (h_i h c) 4 2) 5 (h_i h c 3)) 0 = h_i h c 0 := by
      rw [fFree_k (by decide) (by decide), up1_ne (by decide), up1_ne (by decide)]
    have f4 : fB tB (h_i h 0 0) (fFree (up1 (up1 (h_i h c) 4 2) 5 (h_i h c 3))) b = tB (h_i h c 0) (h_i h 0 0) b := by
      unfold fB
      rw [if_pos z0, z1]
    have k9 := c_sf P d s6.1 (s6.cn hc) s6.2.2.2.2 r
    rw [(s6.2.1.k c1).2.1, s6.2.2.1, show up1 (up1 (h_i h c) 4 2) 5 (h_i h c 3) 0 = h_i h c 0 by rw [up1_ne (by decide), up1_ne (by decide)]] at k9
    refine ⟨s6.1.1, (s6.cn hc).2.2, Cv.mono k9 (fun h9 k9 => ⟨k9.1.1, ?_⟩)⟩
    rw [f, f4]
    exact s6.tr k9 rfl
/-- the steps of a beat from the i-th on -/
noncomputable def Stb (h : Hp_) (b0 : Int32) (i : Nat) (L : List Sp3) : Prop := (0 ≤ b0.toInt ∧ b0.toInt ≤ 11) ∧ i + L.length ≤ 150 ∧ ∀ k x, L[k]? = some x → h_i h 34 (150 * b0.toNatClampNeg + (i + k)) = pkS x ∧ stR x
theorem Stb.hd {h : Hp_} {b0 : Int32} {i : Nat} {x : Sp3} {L : List Sp3} (s : Stb h b0 i (x :: L)) : h_i h 34 (150 * b0.toNatClampNeg + i) = pkS x ∧ stR x := s.2.2 0 x rfl
theorem Stb.tl {h : Hp_} {b0 : Int32} {i : Nat} {x : Sp3} {L : List Sp3} (s : Stb h b0 i (x :: L)) : Stb h b0 (i + 1) L := ⟨s.1, by
  have q : i + (L.length + 1) ≤ 150 := s.2.1
  omega, fun k y e => by
  have q := s.2.2 (k + 1) y e
  rw [show i + 1 + k = i + (k + 1) by omega]
  exact q⟩
theorem Stb.cg {h h' : Hp_} {b0 : Int32} {i : Nat} {L : List Sp3} (s : Stb h b0 i L) (e : ∀ k, h_i h' 34 k = h_i h 34 k) : Stb h' b0 i L := ⟨s.1, s.2.1, fun k x q => by rw [e]; exact s.2.2 k x q⟩
theorem stR_k {x : Sp3} (sr : stR x) : x.1 = 0 ∨ x.1 = 1 ∨ x.1 = 2 ∨ x.1 = 3 := by
  rcases sr with q | q | q | q
  · exact Or.inl q.1
  · exact Or.inr (Or.inl q.1)
  · exact Or.inr (Or.inr (Or.inl q.1))
  · exact Or.inr (Or.inr (Or.inr q.1))
theorem c_sa (d : Nat) {h : Hp_} (I : Iv h) {b0 : Int32} {i : Nat} {x : Sp3} {L : List Sp3} (s : Stb h b0 i (x :: L)) : Ci (m_X0_stepAt (d + 0) 0 0) [.ref 12, .int b0, .int (Int32.ofNat i)] h (fun r h' => h' = h ∧ r = pkS x) := by
  have t0 : (0 : Int32).toInt = 0 := rfl
  have t150 : (150 : Int32).toInt = 150 := rfl
  have t1800 : (1800 : Int32).toInt = 1800 := rfl
  have b1 := s.1
  have l : i + (L.length + 1) ≤ 150 := s.2.1
  have oi := on_j (n := i) (by omega)
  have n1 := n_nat b1.1
  have m1 : (b0 * 150).toInt = b0.toInt * 150 := by rw [tx_mul (by rw [t150]; omega) (by rw [t150]; omega), t150]
  have m2 : (b0 * 150 + Int32.ofNat i).toInt = b0.toInt * 150 + (i : Int) := by rw [tx_add (by omega) (by omega), m1, oi]
  have nm := n_nat (x := b0 * 150 + Int32.ofNat i) (by omega)
  have km : (b0 * 150 + Int32.ofNat i).toNatClampNeg = 150 * b0.toNatClampNeg + i := by omega
  refine t_X0_stepAt d h I.1 b0 _ _ ⟨fun z => ?_, fun _ => ⟨fun z => ?_, fun _ => ⟨dp_in (lo := 0) (hi := 1799) ⟨by show (0 : Int) ≤ _; omega, by show _ ≤ (1799 : Int); omega⟩ (by decide) (by decide), rfl, ?_⟩⟩⟩
  · have z := q_lt.mp z
    omega
  · have z := q_le.mp z
    omega
  · rw [km]
    exact s.hd.1
/-- room for m rows more among his own -/
noncomputable def Rok (h : Hp_) (M : Nat → Int32) (m : Nat) : Prop := 0 ≤ (M 11).toInt ∧ (M 11).toInt + (m : Int) ≤ (M 12).toInt ∧ (M 12).toInt ≤ (h_i h 16 7).toInt
theorem c_tt (P : PBok PB tB lB) (d : Nat) {h : Hp_} (I : Iv h) {c : Nat} (hc : Cn h c) {b : β} (B : PB b h) {i : Nat} {x : Sp3} {L : List Sp3} (S : Stb h (h_i h c 8) i (x :: L)) (e9 : h_i h c 9 = Int32.ofNat i) (R : Rok h (h_i h c) (if x.1 = 2 then 1 else 0)) : Ci (m_X11_takesTime (d + 4) 0 0) [.ref 0, .ref c] h (fun q h' => q = (if (fOne (h_i h 0 0) (wI h) x (h_i h c)).1 = true then 1 else 0) ∧ Sxm PB c (h_i h 0 0) (fOne (h_i h 0 0) (wI h) x (h_i h c)).2.1 (h_i h c 11).toNatClampNeg (fOne (h_i h 0 0) (wI h) x (h_i h c)).2.2 b h h') := by
  have c1 := hc.1
  have sr := S.hd.2
  have kd := stR_k sr
  have k := c_sa d I S
  rw [← e9] at k
  refine t_X11_takesTime d h I.1 c hc.2.2 (by omega) _ (Ci.mono k (fun r h1 k => ?_))
  obtain ⟨eh, er⟩ := k
  subst eh er
  refine ⟨I.1, hc.2.2, t_X0_kindOf d h1 _ _ ⟨I.1, hc.2.2, ?_⟩⟩
  rw [pkS_3 kd]
  refine ⟨fun y1 => t_X0_amountOf d h1 _ _ ⟨I.1, hc.2.2, ?_⟩, fun y2 => ?_, fun y3 => ?_, fun yn => ?_⟩
  · rw [pkS_am sr, if_pos y1]
    unfold fOne
    rw [if_pos y1]
    exact ⟨rfl, (Sxm.rf I B).im P hc (by decide) _⟩
  · have ny : ¬ x.1 = 1 := by rw [y2]; decide
    have n3 : ¬ x.1 = 3 := by rw [y2]; decide
    rw [if_pos y2] at R
    refine t_X11_goesToMeet d h1 c hc.2.2 (by omega) _ _ (t_X0_placeOf d h1 _ _ ⟨I.1, hc.2.2, ?_⟩)
    rw [pkS_pl sr ny]
    refine Ci.mono (c_mn d I (h_i h1 c 5) x.2.1) (fun r h2 k => ?_)
    obtain ⟨eh, er⟩ := k
    subst eh er
    refine ⟨I.1, hc.2.2, fun n1 => Ci.mono (c_so P d I hc B x.2.1 (h_i h2 c 11).toNatClampNeg) (fun q h3 k => ?_), fun e1 => Cv.mono (c_sr P d I hc B 2 2 R.1 (by have := R.2.1; omega) R.2.2) (fun h3 k => ⟨k.1.1, k.1.1, Or.inl rfl, ?_⟩)⟩
    · by_cases y : 0 < wI h2 (h_i h2 c 5) x.2.1
      · replace k := k.1 y
        obtain ⟨eq, k⟩ := k
        subst eq
        refine ⟨k.1.1, (k.cn hc).2.2, fun _ => ⟨k.1.1, Or.inr rfl, ?_⟩, fun e => absurd e (by decide)⟩
        unfold fOne
        rw [if_neg ny, if_neg n3, if_pos y]
        exact ⟨rfl, k⟩
      · obtain ⟨eq, eh⟩ := k.2 y
        subst eq eh
        have am := pkS_am sr
        rw [if_neg ny] at am
        refine ⟨I.1, hc.2.2, fun n => absurd rfl n, fun _ => Ci.mono (c_wp P d I hc B (pkS x) (h_i h3 c 10 + x.2.2) (by rw [am]) R.1 (by have := R.2.1; omega) R.2.2) (fun q h4 k => ?_)⟩
        obtain ⟨eq, k⟩ := k
        have fo : fOne (h_i h3 0 0) (wI h3) x (h_i h3 c) = ((fPt (h_i h3 0 0) (h_i h3 c 10 + x.2.2) (h_i h3 c)).1, (fPt (h_i h3 0 0) (h_i h3 c 10 + x.2.2) (h_i h3 c)).2.1, [(fPt (h_i h3 0 0) (h_i h3 c 10 + x.2.2) (h_i h3 c)).2.2]) := by
          unfold fOne
          rw [if_neg ny, if_neg n3, if_neg y, if_pos y2, if_neg n1]
        rw [fo]
        by_cases t : (fPt (h_i h3 0 0) (h_i h3 c 10 + x.2.2) (h_i h3 c)).1 = true
        · rw [if_pos t] at eq
          subst eq
          exact ⟨k.1.1, fun e => absurd e (by decide), fun _ => ⟨k.1.1, Or.inr rfl, by show (1 : Int32) = if (fPt (h_i h3 0 0) (h_i h3 c 10 + x.2.2) (h_i h3 c)).1 = true then 1 else 0; rw [if_pos t], k⟩⟩
        · rw [if_neg t] at eq
          subst eq
          exact ⟨k.1.1, fun _ => ⟨k.1.1, Or.inl rfl, by show (0 : Int32) = if (fPt (h_i h3 0 0) (h_i h3 c 10 + x.2.2) (h_i h3 c)).1 = true then 1 else 0; rw [if_neg t], k⟩, fun n => absurd rfl n⟩
    · have nw : ¬ 0 < wI h2 (h_i h2 c 5) x.2.1 := by rw [e1]; decide
      unfold fOne
      rw [if_neg ny, if_neg n3, if_neg nw, if_pos y2, if_pos e1]
      exact ⟨rfl, k⟩
  · have ny : ¬ x.1 = 1 := by rw [y3]; decide
    unfold fOne
    rw [if_neg ny, if_pos y3]
    exact ⟨rfl, (Sxm.rf I B).im P hc (by decide) _⟩
  · refine t_X0_placeOf d h1 _ _ ⟨I.1, hc.2.2, ?_⟩
    rw [pkS_pl sr yn.1]
    refine Ci.mono (c_so P d I hc B x.2.1 (h_i h1 c 11).toNatClampNeg) (fun q h3 k => ?_)
    by_cases y : 0 < wI h1 (h_i h1 c 5) x.2.1
    · replace k := k.1 y
      obtain ⟨eq, k⟩ := k
      subst eq
      refine ⟨k.1.1, Or.inr rfl, ?_⟩
      unfold fOne
      rw [if_neg yn.1, if_neg yn.2.2, if_pos y]
      exact ⟨rfl, k⟩
    · obtain ⟨eq, eh⟩ := k.2 y
      subst eq eh
      refine ⟨I.1, Or.inl rfl, ?_⟩
      unfold fOne
      rw [if_neg yn.1, if_neg yn.2.2, if_neg y, if_neg yn.2.1]
      exact ⟨rfl, Sxm.rf I B⟩
end MEN
/-! MEN, the class: steps, and one who wakes -/
section MEN
variable {β : Type} {PB : β → Hp_ → Prop} {tB : Int32 → Int32 → β → β} {lB : Nat → Hp_ → β → β}
/-- the row number behind those that were settled -/
theorem row_n {x : Int32} (lo : 0 ≤ x.toInt) (hi : x.toInt < 1000) : (x + 1).toNatClampNeg = x.toNatClampNeg + 1 ∧ (x + 1).toInt = x.toInt + 1 := by
  have t1 : (1 : Int32).toInt = 1 := rfl
  have e : (x + 1).toInt = x.toInt + 1 := tx_add (by rw [t1]; omega) (by rw [t1]; omega)
  have n1 := n_nat (x := x) lo
  have n2 := n_nat (x := x + 1) (by omega)
  exact ⟨by omega, e⟩
theorem rowX_in {h : Hp_} (I : Iv h) : 0 ≤ (h_i h 16 7).toInt ∧ (h_i h 16 7).toInt ≤ 400 := by
  have rg := I.2.1 16 7
  rw [show tf 16 7 = (0, 400) by decide +kernel] at rg
  exact ⟨rg.1, rg.2⟩
theorem fOne_r {h : Hp_} (I : Iv h) {n : Int32} {w : Int32 → Int32 → Int32} {x : Sp3} {M : Nat → Int32} {L : List Sp3} (R : Rok h M (mts (x :: L))) : ((fOne n w x M).2.1 11).toNatClampNeg = (M 11).toNatClampNeg + (fOne n w x M).2.2.length ∧ ((fOne n w x M).1 = false → Rok h (fOne n w x M).2.1 (mts L)) := by
  have r4 := rowX_in I
  have m : mts (x :: L) = (if x.1 = 2 then 1 else 0) + mts L := rfl
  have e12 : (fOne n w x M).2.1 12 = M 12 := fOne_k (by decide) (by decide) (by decide) (by decide) (by decide) (by decide)
  have r1 := R.1
  have r2 := R.2.1
  have r3 := R.2.2
  rw [m] at r2
  rcases fOne_11 (n := n) (w := w) (x := x) (M := M) with ⟨a, b, c⟩ | ⟨a, b, c⟩
  · refine ⟨by rw [a, b]; rfl, fun y => ?_⟩
    have c := c y
    rw [if_neg c] at r2
    exact ⟨by rw [b]; exact r1, by rw [b, e12]; omega, by rw [e12]; exact r3⟩
  · rw [if_pos a] at r2
    have q := row_n (x := M 11) r1 (by omega)
    refine ⟨by rw [b, c]; exact q.1, fun _ => ⟨by rw [c]; omega, by rw [c, e12]; omega, by rw [e12]; exact r3⟩⟩
theorem ds_lp (P : PBok PB tB lB) (d : Nat) {c : Nat} : ∀ (L : List Sp3) {h : Hp_} {b : β} (i : Nat) (x2 : Int32), Iv h → Cn h c → PB b h → Stb h (h_i h c 8) i L → h_i h c 9 = Int32.ofNat i → x2 = Int32.ofNat (i + L.length) → Rok h (h_i h c) (mts L) → h_i h c 4 = 1 → AW (m_X11_doSteps (d + 5) 0 0) 0 0 12 [(0, .ref 0), (1, .ref c), (2, .int x2)] [] h (kV (fun h' => Sxm PB c (h_i h 0 0) (fSt (h_i h 0 0) (wI h) L (h_i h c)).1 (h_i h c 11).toNatClampNeg (fSt (h_i h 0 0) (wI h) L (h_i h c)).2 (fB tB (h_i h 0 0) (fSt (h_i h 0 0) (wI h) L (h_i h c)).1 b) h h'))
  | [], h, b, i, x2, I, hc, B, S, e9, e2, R, e4 => by
    have c1 := hc.1
    refine t_X11_doSteps_12 d h I.1 c hc.2.2 (by omega) x2 _ ⟨fun _ => Cv.mono (c_gh P d I hc B (h_i h c 11).toNatClampNeg) (fun h' k => ⟨k.1.1, k⟩), fun n => absurd (q_le.mpr ?_) n⟩
    rw [e9, e2]
    exact Int.le_refl _
  | x :: L, h, b, i, x2, I, hc, B, S, e9, e2, R, e4 => by
    have c1 := hc.1
    have ll : i + (L.length + 1) ≤ 150 := S.2.1
    have l2 : (i + (x :: L).length : Nat) = i + (L.length + 1) := rfl
    refine t_X11_doSteps_12 d h I.1 c hc.2.2 (by omega) x2 _ ⟨fun y => ?_, fun _ => Ci.mono (c_tt P d I hc B S e9 ⟨R.1, ?_, R.2.2⟩) (fun q h9 k => ?_)⟩
    · have y := q_le.mp y
      rw [e9, e2, on_j (by omega), on_j (by omega)] at y
      omega
    · have m : mts (x :: L) = (if x.1 = 2 then 1 else 0) + mts L := rfl
      have r2 := R.2.1
      rw [m] at r2
      omega
    · obtain ⟨eq, k⟩ := k
      have fr := fOne_r I (n := h_i h 0 0) (w := wI h) R
      have f4 : (fOne (h_i h 0 0) (wI h) x (h_i h c)).2.1 4 = 1 := by rw [fOne_k (by decide) (by decide) (by decide) (by decide) (by decide) (by decide)]; exact e4
      by_cases t : (fOne (h_i h 0 0) (wI h) x (h_i h c)).1 = true
      · rw [if_pos t] at eq
        subst eq
        have f : fSt (h_i h 0 0) (wI h) (x :: L) (h_i h c) = ((fOne (h_i h 0 0) (wI h) x (h_i h c)).2.1, (fOne (h_i h 0 0) (wI h) x (h_i h c)).2.2) := by
          show (if (fOne (h_i h 0 0) (wI h) x (h_i h c)).1 = true then _ else _) = _
          rw [if_pos t]
        refine ⟨k.1.1, (k.cn hc).2.2, fun e => absurd e (by decide), fun _ => ?_⟩
        rw [f]
        have fb : fB tB (h_i h 0 0) (fOne (h_i h 0 0) (wI h) x (h_i h c)).2.1 b = b := by
          unfold fB
          rw [f4, if_neg (by decide)]
        show Sxm PB c (h_i h 0 0) (fOne (h_i h 0 0) (wI h) x (h_i h c)).2.1 (h_i h c 11).toNatClampNeg (fOne (h_i h 0 0) (wI h) x (h_i h c)).2.2 (fB tB (h_i h 0 0) (fOne (h_i h 0 0) (wI h) x (h_i h c)).2.1 b) h h9
        rw [fb]
        exact k
      · rw [if_neg t] at eq
        subst eq
        have tf' : (fOne (h_i h 0 0) (wI h) x (h_i h c)).1 = false := by
          cases z : (fOne (h_i h 0 0) (wI h) x (h_i h c)).1 with
          | true => exact absurd z t
          | false => rfl
        have f : fSt (h_i h 0 0) (wI h) (x :: L) (h_i h c) = ((fSt (h_i h 0 0) (wI h) L (up1 (fOne (h_i h 0 0) (wI h) x (h_i h c)).2.1 9 ((fOne (h_i h 0 0) (wI h) x (h_i h c)).2.1 9 + 1))).1, (fOne (h_i h 0 0) (wI h) x (h_i h c)).2.2 ++ (fSt (h_i h 0 0) (wI h) L (up1 (fOne (h_i h 0 0) (wI h) x (h_i h c)).2.1 9 ((fOne (h_i h 0 0) (wI h) x (h_i h c)).2.1 9 + 1))).2) := by
          show (if (fOne (h_i h 0 0) (wI h) x (h_i h c)).1 = true then _ else _) = _
          rw [if_neg t]
        refine ⟨k.1.1, (k.cn hc).2.2, fun _ => ?_, fun n => absurd rfl n⟩
        rw [f, show h_i h9 c 9 = (fOne (h_i h 0 0) (wI h) x (h_i h c)).2.1 9 from congrFun k.2.2.1 9]
        have k10 := k.im P hc (k := 9) (by decide) ((fOne (h_i h 0 0) (wI h) x (h_i h c)).2.1 9 + 1)
        have f9 : (fOne (h_i h 0 0) (wI h) x (h_i h c)).2.1 9 = Int32.ofNat i := by rw [fOne_k (by decide) (by decide) (by decide) (by decide) (by decide) (by decide)]; exact e9
        have f8 : (fOne (h_i h 0 0) (wI h) x (h_i h c)).2.1 8 = h_i h c 8 := fOne_k (by decide) (by decide) (by decide) (by decide) (by decide) (by decide)
        have kk := k10.2.1.k c1
        have Rk := fr.2 tf'
        have r11 := fr.1
        generalize h_im h9 c 9 ((fOne (h_i h 0 0) (wI h) x (h_i h c)).2.1 9 + 1) = h10 at *
        have ec := k10.2.2.1
        have ih := ds_lp P d L (h := h10) (b := b) (i + 1) x2 k10.1 (k10.cn hc) k10.2.2.2.2 (by rw [ec, up1_ne (by decide), f8]; exact S.tl.cg kk.2.2.2.2.2.1) (by rw [ec, up1_at, f9, on_s (by omega)]) (by rw [e2, l2, show i + 1 + L.length = i + (L.length + 1) by omega]) (by
          rw [ec]
          exact ⟨by rw [up1_ne (by decide)]; exact Rk.1, by rw [up1_ne (by decide), up1_ne (by decide)]; exact Rk.2.1, by rw [up1_ne (by decide), kk.2.2.2.1]; exact Rk.2.2⟩) (by rw [ec, up1_ne (by decide)]; exact f4)
        rw [kk.2.1, wI_eq k10.2.1 c1, ec] at ih
        refine AW.mono ih (fun v h' z => ⟨z.1, k10.tr z.2 ?_⟩)
        rw [up1_ne (by decide)]
        exact r11
theorem c_ds (P : PBok PB tB lB) (d : Nat) {h : Hp_} (I : Iv h) {c : Nat} (hc : Cn h c) {b : β} (B : PB b h) (L : List Sp3) (i : Nat) (S : Stb h (h_i h c 8) i L) (e9 : h_i h c 9 = Int32.ofNat i) (b3 : (h_i h c 8).toInt < (h_i h 12 3).toInt) (e35 : h_i h 35 (h_i h c 8).toNatClampNeg = Int32.ofNat (i + L.length)) (R : Rok h (h_i h c) (mts L)) (e4 : h_i h c 4 = 1) : Cv (m_X11_doSteps (d + 5) 0 0) [.ref 0, .ref c] h (fun h' => Sxm PB c (h_i h 0 0) (fSt (h_i h 0 0) (wI h) L (h_i h c)).1 (h_i h c 11).toNatClampNeg (fSt (h_i h 0 0) (wI h) L (h_i h c)).2 (fB tB (h_i h 0 0) (fSt (h_i h 0 0) (wI h) L (h_i h c)).1 b) h h') := by
  have c1 := hc.1
  have t0 : (0 : Int32).toInt = 0 := rfl
  have b8 := S.1
  refine t_X11_doSteps d h I.1 c hc.2.2 (by omega) _ (t_X0_stepsOf d h I.1 _ _ (Ci.mono (c_has d I _) (fun r3 h3 q => ?_)))
  obtain ⟨e, q⟩ := q
  subst e
  refine ⟨I.1, fun z => ?_, fun _ => ⟨dp_in (lo := 0) (hi := 11) ⟨b8.1, b8.2⟩ (by decide) (by decide), I.1, hc.2.2, ?_⟩⟩
  · rcases q with q | q
    · rw [z] at q
      exact absurd q.1 (by decide)
    · refine absurd ⟨fun y => ?_, fun y => ?_⟩ q.2
      · have y := q_lt.mp y
        omega
      · have y := q_le.mp y
        omega
  · exact ds_lp P d L i _ I hc B S e9 e35 R e4
theorem c_sd (P : PBok PB tB lB) (d : Nat) {h : Hp_} (I : Iv h) {c : Nat} (hc : Cn h c) {b : β} (B : PB b h) (r : Nat) (e4 : h_i h c 4 = 3) : Cv (m_X11_serveDrawn (d + 4) 0 0) [.ref 0, .ref c] h (fun h' => Sxm PB c (h_i h 0 0) (fDr (h_i h 0 0) (wI h) (h_i h c)) r [] (fB tB (h_i h 0 0) (fDr (h_i h 0 0) (wI h) (h_i h c)) b) h h') := by
  have c1 := hc.1
  refine t_X11_serveDrawn d h I.1 c hc.2.2 (by omega) _ (Ci.mono (c_so P d I hc B (h_i h c 13) r) (fun q h1 k => ?_))
  by_cases y : 0 < wI h (h_i h c 5) (h_i h c 13)
  · replace k := k.1 y
    obtain ⟨eq, k⟩ := k
    subst eq
    have f : fDr (h_i h 0 0) (wI h) (h_i h c) = sOut (h_i h 0 0) (wI h (h_i h c 5) (h_i h c 13)) (h_i h c 13) (h_i h c) := by
      unfold fDr
      rw [if_pos y]
    refine ⟨k.1.1, (k.cn hc).2.2, fun e => absurd e (by decide), fun _ => ?_⟩
    rw [f]
    unfold fB
    rw [sOut_k (by decide) (by decide) (by decide), e4, if_neg (by decide)]
    exact k
  · obtain ⟨eq, eh⟩ := k.2 y
    subst eq eh
    refine ⟨I.1, hc.2.2, fun _ => ⟨fun n => Cv.mono (c_gh P d I hc B r) (fun h' k => ⟨k.1.1, ?_⟩), fun e => ⟨fun l => Cv.mono (c_gh P d I hc B r) (fun h' k => ⟨k.1.1, ?_⟩), fun l => ?_⟩⟩, fun n => absurd rfl n⟩
    · have f : fDr (h_i h1 0 0) (wI h1) (h_i h1 c) = fHome (h_i h1 0 0) (wI h1) (h_i h1 c) := by
        unfold fDr
        rw [if_neg y, if_neg (fun z => n z.1)]
      rw [f]
      exact k
    · have l := q_le.mp l
      have f : fDr (h_i h1 0 0) (wI h1) (h_i h1 c) = fHome (h_i h1 0 0) (wI h1) (h_i h1 c) := by
        unfold fDr
        rw [if_neg y, if_neg (fun z => by have := q_lt.mp z.2; omega)]
      rw [f]
      exact k
    · have l := q_nle l
      have f : fDr (h_i h1 0 0) (wI h1) (h_i h1 c) = up1 (h_i h1 c) 7 (h_i h1 c 14) := by
        unfold fDr
        rw [if_neg y, if_pos ⟨e, q_lt.mpr l⟩]
      rw [f]
      unfold fB
      rw [up1_ne (by decide), e4, if_neg (by decide)]
      exact (Sxm.rf I B).im P hc (by decide) _
/-- the step is over, or he waits; a look is had -/
theorem c_es (P : PBok PB tB lB) (d : Nat) {h : Hp_} (I : Iv h) {c : Nat} (hc : Cn h c) {b : β} (B : PB b h) {i : Nat} {x : Sp3} {L : List Sp3} (S : Stb h (h_i h c 8) i (x :: L)) (e9 : h_i h c 9 = Int32.ofNat i) (x2 : Int32) (came : Bool) (ec : came = true ↔ ¬ x2 = 0) (R : x.1 = 2 → came = true → Rok h (h_i h c) 1) : Ci (m_X11_endsStep (d + 6) 0 0) [.ref 0, .ref c, .int x2] h (fun q h' => q = (if (fEn (h_i h 0 0) x came (h_i h c)).1 = true then 0 else 1) ∧ Sxm PB c (h_i h 0 0) (fEn (h_i h 0 0) x came (h_i h c)).2.1 (h_i h c 11).toNatClampNeg (fEn (h_i h 0 0) x came (h_i h c)).2.2 (if x.1 = 3 then lB c h b else b) h h') := by
  have c1 := hc.1
  have sr := S.hd.2
  have kd := stR_k sr
  have k := c_sa (d + 1) I S
  rw [← e9] at k
  refine t_X11_endsStep (d + 1) h I.1 c hc.2.2 (by omega) x2 _ (Ci.mono k (fun r h1 k => ?_))
  obtain ⟨eh, er⟩ := k
  subst eh er
  refine ⟨I.1, hc.2.2, t_X0_kindOf (d + 1) h1 _ _ ⟨I.1, hc.2.2, ?_⟩⟩
  rw [pkS_3 kd]
  refine ⟨fun n3 => ⟨fun n2 => ?_, fun y2 => ⟨fun e0 => ?_, fun n0 => ?_⟩⟩, fun y3 => Cv.mono (P.2.2.2 d b h1 c I hc B) (fun h' k => ⟨k.1.1, by rw [k.2.1.1]; exact hc.2.2, fun _ => ?_, fun y2 => absurd (y3.symm.trans y2) (by decide)⟩)⟩
  · have fo : fEn (h_i h1 0 0) x came (h_i h1 c) = (false, h_i h1 c, []) := if_neg (fun z => n2 z.1)
    rw [fo, if_neg n3]
    exact ⟨rfl, Sxm.rf I B⟩
  · have fo : fEn (h_i h1 0 0) x came (h_i h1 c) = (false, h_i h1 c, []) := if_neg (fun z => ec.mp z.2 e0)
    rw [fo, if_neg n3]
    exact ⟨rfl, Sxm.rf I B⟩
  · have yc := ec.mpr n0
    have ny : ¬ x.1 = 1 := by rw [y2]; decide
    have am := pkS_am sr
    rw [if_neg ny] at am
    have R' := R y2 yc
    refine Ci.mono (c_wp P (d + 1) I hc B (pkS x) (h_i h1 c 10 + x.2.2) (by rw [am]) R'.1 (by have := R'.2.1; omega) R'.2.2) (fun q h4 k => ?_)
    obtain ⟨eq, k⟩ := k
    have fo : fEn (h_i h1 0 0) x came (h_i h1 c) = ((fPt (h_i h1 0 0) (h_i h1 c 10 + x.2.2) (h_i h1 c)).1, (fPt (h_i h1 0 0) (h_i h1 c 10 + x.2.2) (h_i h1 c)).2.1, [(fPt (h_i h1 0 0) (h_i h1 c 10 + x.2.2) (h_i h1 c)).2.2]) := by
      unfold fEn
      rw [if_pos ⟨y2, yc⟩]
    rw [fo, if_neg n3]
    by_cases t : (fPt (h_i h1 0 0) (h_i h1 c 10 + x.2.2) (h_i h1 c)).1 = true
    · rw [if_pos t] at eq
      subst eq
      exact ⟨k.1.1, fun _ => ⟨by show (0 : Int32) = if (fPt (h_i h1 0 0) (h_i h1 c 10 + x.2.2) (h_i h1 c)).1 = true then 0 else 1; rw [if_pos t], k⟩, fun e => absurd e (by decide)⟩
    · rw [if_neg t] at eq
      subst eq
      exact ⟨k.1.1, fun n => absurd rfl n, fun _ => ⟨by show (1 : Int32) = if (fPt (h_i h1 0 0) (h_i h1 c 10 + x.2.2) (h_i h1 c)).1 = true then 0 else 1; rw [if_neg t], k⟩⟩
  · have n2 : ¬ x.1 = 2 := by rw [y3]; decide
    have fo : fEn (h_i h1 0 0) x came (h_i h1 c) = (false, h_i h1 c, []) := if_neg (fun z => n2 z.1)
    rw [fo, if_pos y3]
    exact ⟨rfl, (Sxm.rf I B).fr hc k.1 k.2.1 k.2.2⟩
end MEN
/-! MEN, the class: goOn -/
section MEN
variable {β : Type} {PB : β → Hp_ → Prop} {tB : Int32 → Int32 → β → β} {lB : Nat → Hp_ → β → β}
/-- one on a beat: his step x, the steps L behind it, room for his rows -/
noncomputable def Btk (h : Hp_) (M : Nat → Int32) (i : Nat) (x : Sp3) (L : List Sp3) (came : Bool) : Prop := Stb h (M 8) i (x :: L) ∧ M 9 = Int32.ofNat i ∧ (M 8).toInt < (h_i h 12 3).toInt ∧ h_i h 35 (M 8).toNatClampNeg = Int32.ofNat (i + (L.length + 1)) ∧ Rok h M ((if x.1 = 2 ∧ came = true then 1 else 0) + mts L)
theorem fEn_k {n : Int32} {x : Sp3} {came : Bool} {M : Nat → Int32} {k : Nat} (a : k ≠ 7) (b : k ≠ 11) (c : k ≠ 15) (e : k ≠ 16) : (fEn n x came M).2.1 k = M k := by
  unfold fEn
  split
  · exact fPt_k a b c e
  · rfl
theorem fEn_r {h : Hp_} (I : Iv h) {n : Int32} {x : Sp3} {came : Bool} {M : Nat → Int32} {m : Nat} (R : Rok h M ((if x.1 = 2 ∧ came = true then 1 else 0) + m)) : ((fEn n x came M).2.1 11).toNatClampNeg = (M 11).toNatClampNeg + (fEn n x came M).2.2.length ∧ Rok h (fEn n x came M).2.1 m := by
  have r4 := rowX_in I
  have e12 : (fEn n x came M).2.1 12 = M 12 := fEn_k (by decide) (by decide) (by decide) (by decide)
  have r1 := R.1
  have r2 := R.2.1
  have r3 := R.2.2
  unfold Rok
  rw [e12]
  unfold fEn
  by_cases y : x.1 = 2 ∧ came = true
  · rw [if_pos y] at r2 ⊢
    have q := row_n (x := M 11) r1 (by omega)
    refine ⟨?_, ?_, ?_, r3⟩
    · show ((fPt n (M 10 + x.2.2) M).2.1 11).toNatClampNeg = (M 11).toNatClampNeg + 1
      rw [fPt_11]
      exact q.1
    · show 0 ≤ ((fPt n (M 10 + x.2.2) M).2.1 11).toInt
      rw [fPt_11]
      omega
    · show ((fPt n (M 10 + x.2.2) M).2.1 11).toInt + (m : Int) ≤ (M 12).toInt
      rw [fPt_11]
      omega
  · rw [if_neg y] at r2 ⊢
    exact ⟨rfl, r1, by show (M 11).toInt + (m : Int) ≤ (M 12).toInt; omega, r3⟩
theorem go_b (P : PBok PB tB lB) (d : Nat) {h : Hp_} (I : Iv h) {c : Nat} (hc : Cn h c) {b : β} (B : PB b h) {i : Nat} {x : Sp3} {L : List Sp3} {came : Bool} (T : Btk h (h_i h c) i x L came) (e4 : h_i h c 4 = 1) (x2 : Int32) (ec : came = true ↔ ¬ x2 = 0) (K : Hp_ → Prop) (hK : ∀ h', Sxm PB c (h_i h 0 0) (fNx (h_i h 0 0) (wI h) L (fEn (h_i h 0 0) x came (h_i h c))).1 (h_i h c 11).toNatClampNeg (fNx (h_i h 0 0) (wI h) L (fEn (h_i h 0 0) x came (h_i h c))).2 (fB tB (h_i h 0 0) (fNx (h_i h 0 0) (wI h) L (fEn (h_i h 0 0) x came (h_i h c))).1 (if x.1 = 3 then lB c h b else b)) h h' → K h') : Ci (m_X11_endsStep (d + 6) 0 0) [.ref 0, .ref c, .int x2] h (fun r14 h12 => Wf h12 ∧ h_sh h12 c = some (12, 17) ∧ ((r14 = 0 → K h12) ∧ (¬ r14 = 0 → Cv (m_X11_doSteps (d + 1 + 5) 0 0) [.ref 0, .ref c] (h_im h12 c 9 ((h_i h12 c 9) + 1)) (fun h17 => Wf h17 ∧ (K h17))))) := by
  have c1 := hc.1
  obtain ⟨S, e9, b3, e35, R⟩ := T
  have ll : i + (L.length + 1) ≤ 150 := S.2.1
  refine Ci.mono (c_es P d I hc B S e9 x2 came ec (fun y2 yc => ?_)) (fun q h12 k => ?_)
  · rw [if_pos ⟨y2, yc⟩] at R
    exact ⟨R.1, by have := R.2.1; omega, R.2.2⟩
  · obtain ⟨eq, k⟩ := k
    have f4 : (fEn (h_i h 0 0) x came (h_i h c)).2.1 4 = 1 := by rw [fEn_k (by decide) (by decide) (by decide) (by decide)]; exact e4
    have fr := fEn_r I (n := h_i h 0 0) R
    refine ⟨k.1.1, (k.cn hc).2.2, fun e0 => hK h12 ?_, fun n0 => ?_⟩
    · have t : (fEn (h_i h 0 0) x came (h_i h c)).1 = true := by
        cases z : (fEn (h_i h 0 0) x came (h_i h c)).1 with
        | true => rfl
        | false =>
          rw [z, if_neg (by decide)] at eq
          rw [eq] at e0
          exact absurd e0 (by decide)
      have f : fNx (h_i h 0 0) (wI h) L (fEn (h_i h 0 0) x came (h_i h c)) = ((fEn (h_i h 0 0) x came (h_i h c)).2.1, (fEn (h_i h 0 0) x came (h_i h c)).2.2) := by
        unfold fNx
        rw [if_pos t]
      rw [f]
      unfold fB
      show Sxm PB c (h_i h 0 0) (fEn (h_i h 0 0) x came (h_i h c)).2.1 (h_i h c 11).toNatClampNeg (fEn (h_i h 0 0) x came (h_i h c)).2.2 (if (fEn (h_i h 0 0) x came (h_i h c)).2.1 4 = 0 then _ else _) h h12
      rw [f4, if_neg (by decide)]
      exact k
    · have t : ¬ (fEn (h_i h 0 0) x came (h_i h c)).1 = true := fun z => by
        rw [z, if_pos rfl] at eq
        exact n0 eq
      have f : fNx (h_i h 0 0) (wI h) L (fEn (h_i h 0 0) x came (h_i h c)) = ((fSt (h_i h 0 0) (wI h) L (up1 (fEn (h_i h 0 0) x came (h_i h c)).2.1 9 ((fEn (h_i h 0 0) x came (h_i h c)).2.1 9 + 1))).1, (fEn (h_i h 0 0) x came (h_i h c)).2.2 ++ (fSt (h_i h 0 0) (wI h) L (up1 (fEn (h_i h 0 0) x came (h_i h c)).2.1 9 ((fEn (h_i h 0 0) x came (h_i h c)).2.1 9 + 1))).2) := by
        unfold fNx
        rw [if_neg t]
      rw [f] at hK
      rw [show h_i h12 c 9 = (fEn (h_i h 0 0) x came (h_i h c)).2.1 9 from congrFun k.2.2.1 9]
      have k10 := k.im P hc (k := 9) (by decide) ((fEn (h_i h 0 0) x came (h_i h c)).2.1 9 + 1)
      have f9 : (fEn (h_i h 0 0) x came (h_i h c)).2.1 9 = Int32.ofNat i := by rw [fEn_k (by decide) (by decide) (by decide) (by decide)]; exact e9
      have f8 : (fEn (h_i h 0 0) x came (h_i h c)).2.1 8 = h_i h c 8 := fEn_k (by decide) (by decide) (by decide) (by decide)
      have kk := k10.2.1.k c1
      have Rk := fr.2
      have r11 := fr.1
      generalize h_im h12 c 9 ((fEn (h_i h 0 0) x came (h_i h c)).2.1 9 + 1) = h10 at *
      have ec' := k10.2.2.1
      have g := c_ds P (d + 1) (h := h10) k10.1 (k10.cn hc) k10.2.2.2.2 L (i + 1) (by rw [ec', up1_ne (by decide), f8]; exact S.tl.cg kk.2.2.2.2.2.1) (by rw [ec', up1_at, f9, on_s (by omega)]) (by rw [ec', up1_ne (by decide), f8, kk.2.2.2.2.1]; exact b3) (by rw [ec', up1_ne (by decide), f8, kk.2.2.2.2.2.2, e35, show i + 1 + L.length = i + (L.length + 1) by omega]) (by
        rw [ec']
        exact ⟨by rw [up1_ne (by decide)]; exact Rk.1, by rw [up1_ne (by decide), up1_ne (by decide)]; exact Rk.2.1, by rw [up1_ne (by decide), kk.2.2.2.1]; exact Rk.2.2⟩) (by rw [ec', up1_ne (by decide)]; exact f4)
      rw [kk.2.1, wI_eq k10.2.1 c1, ec'] at g
      refine Cv.mono g (fun h' z => ⟨z.1.1, hK h' (k10.tr z ?_)⟩)
      rw [up1_ne (by decide)]
      exact r11
/-- look's share: only one who looks -/
noncomputable def bL3 (lB : Nat → Hp_ → β → β) (c : Nat) (h : Hp_) (x : Sp3) (b : β) : β := if h_i h c 4 = 1 ∧ x.1 = 3 then lB c h b else b
theorem go_t (P : PBok PB tB lB) (d : Nat) {h g : Hp_} {c : Nat} (hc : Cn h c) {b : β} {r : Nat} (er : r = (h_i h c 11).toNatClampNeg) (n0 : ¬ h_i h c 4 = 0) (s : Sxm PB c (h_i h 0 0) (fCm (h_i h c)) r [] b h (h_im g c 7 (-1))) (eg : h_i g c 4 = h_i h c 4) {i : Nat} {x : Sp3} {L : List Sp3} (T : h_i h c 4 = 1 → Btk h (h_i h c) i x L (decide (¬ h_i h c 6 = -1))) (x2 : Int32) (ec : decide (¬ h_i h c 6 = -1) = true ↔ ¬ x2 = 0) (K : Hp_ → Prop) (hK : ∀ h', Sxm PB c (h_i h 0 0) (fGo (h_i h 0 0) (wI h) x L (h_i h c)).1 r (fGo (h_i h 0 0) (wI h) x L (h_i h c)).2 (fB tB (h_i h 0 0) (fGo (h_i h 0 0) (wI h) x L (h_i h c)).1 (bL3 lB c (h_im g c 7 (-1)) x b)) h h' → K h') : (¬ (h_i g c 4) = 1 → (¬ (h_i g c 4) = 2 → (¬ (h_i g c 4) = 3 → K (h_im g c 7 (-1))) ∧ ((h_i g c 4) = 3 → Cv (m_X11_serveDrawn (d + 1 + 4) 0 0) [.ref 0, .ref c] (h_im g c 7 (-1)) (fun h6 => Wf h6 ∧ (K h6)))) ∧ ((h_i g c 4) = 2 → Cv (m_X11_setFree (d + 1 + 1) 0 0) [.ref 0, .ref c] (h_im g c 7 (-1)) (fun h9 => Wf h9 ∧ (K h9)))) ∧ ((h_i g c 4) = 1 → Ci (m_X11_endsStep (d + 1 + 5) 0 0) [.ref 0, .ref c, .int x2] (h_im g c 7 (-1)) (fun r14 h12 => Wf h12 ∧ h_sh h12 c = some (12, 17) ∧ ((r14 = 0 → K h12) ∧ (¬ r14 = 0 → Cv (m_X11_doSteps (d + 1 + 5) 0 0) [.ref 0, .ref c] (h_im h12 c 9 ((h_i h12 c 9) + 1)) (fun h17 => Wf h17 ∧ (K h17)))))) := by
  have c1 := hc.1
  have kk := s.2.1.k c1
  have ew := wI_eq s.2.1 c1
  have ecc := s.2.2.1
  have f4 : fCm (h_i h c) 4 = h_i h c 4 := by
    unfold fCm
    split
    · rw [up1_ne (by decide)]
    · rw [up1_ne (by decide), up1_ne (by decide), up1_ne (by decide)]
  have f11 : fCm (h_i h c) 11 = h_i h c 11 := by
    unfold fCm
    split
    · rw [up1_ne (by decide)]
    · rw [up1_ne (by decide), up1_ne (by decide), up1_ne (by decide)]
  have g4 : h_i (h_im g c 7 (-1)) c 4 = h_i h c 4 := by rw [ecc]; exact f4
  rw [eg]
  have nb : ¬ h_i h c 4 = 1 → bL3 lB c (h_im g c 7 (-1)) x b = b := fun n => by
    unfold bL3
    rw [if_neg (fun z => n (g4.symm.trans z.1))]
  refine ⟨fun n1 => ⟨fun n2 => ⟨fun n3 => hK _ ?_, fun y3 => ?_⟩, fun y2 => ?_⟩, fun y1 => ?_⟩
  · have f : fGo (h_i h 0 0) (wI h) x L (h_i h c) = (fCm (h_i h c), []) := by
      unfold fGo
      rw [if_neg n1, if_neg n2, if_neg n3]
    rw [f, nb n1]
    unfold fB
    show Sxm PB c (h_i h 0 0) (fCm (h_i h c)) r [] (if fCm (h_i h c) 4 = 0 then _ else _) h _
    rw [f4, if_neg n0]
    exact s
  · have f : fGo (h_i h 0 0) (wI h) x L (h_i h c) = (fDr (h_i h 0 0) (wI h) (fCm (h_i h c)), []) := by
      unfold fGo
      rw [if_neg n1, if_neg n2, if_pos y3]
    rw [f, nb n1] at hK
    have z := c_sd P (d + 1) s.1 (s.cn hc) s.2.2.2.2 r (by rw [g4]; exact y3)
    rw [kk.2.1, ew, ecc] at z
    exact Cv.mono z (fun h' k => ⟨k.1.1, hK h' (s.tr k rfl)⟩)
  · have f : fGo (h_i h 0 0) (wI h) x L (h_i h c) = (fFree (fCm (h_i h c)), []) := by
      unfold fGo
      rw [if_neg n1, if_pos y2]
    rw [f, nb n1] at hK
    have z := c_sf P (d + 1) s.1 (s.cn hc) s.2.2.2.2 r
    rw [kk.2.1, ecc] at z
    refine Cv.mono z (fun h' k => ⟨k.1.1, hK h' ?_⟩)
    have z0 : fFree (fCm (h_i h c)) 4 = 0 := by
      unfold fFree
      rw [up1_ne (by decide), up1_at]
    have z1 : fFree (fCm (h_i h c)) 0 = fCm (h_i h c) 0 := fFree_k (by decide) (by decide)
    unfold fB
    show Sxm PB c (h_i h 0 0) (fFree (fCm (h_i h c))) r [] (if fFree (fCm (h_i h c)) 4 = 0 then tB (fFree (fCm (h_i h c)) 0) (h_i h 0 0) b else b) h h'
    rw [if_pos z0, z1]
    exact s.tr k rfl
  · have T := T y1
    obtain ⟨S, e9, b3, e35, R⟩ := T
    have fk : ∀ k, k ≠ 5 → k ≠ 6 → k ≠ 7 → fCm (h_i h c) k = h_i h c k := fun k a b e => by
      unfold fCm
      split
      · rw [up1_ne e]
      · rw [up1_ne e, up1_ne a, up1_ne b]
    have T7 : Btk (h_im g c 7 (-1)) (h_i (h_im g c 7 (-1)) c) i x L (decide (¬ h_i h c 6 = -1)) := by
      rw [ecc]
      unfold Btk Rok
      rw [fk 8 (by decide) (by decide) (by decide), fk 9 (by decide) (by decide) (by decide), fk 11 (by decide) (by decide) (by decide), fk 12 (by decide) (by decide) (by decide), kk.2.2.2.2.1, kk.2.2.2.2.2.2, kk.2.2.2.1]
      exact ⟨S.cg kk.2.2.2.2.2.1, e9, b3, e35, R⟩
    have f : fGo (h_i h 0 0) (wI h) x L (h_i h c) = fNx (h_i h 0 0) (wI h) L (fEn (h_i h 0 0) x (decide (¬ h_i h c 6 = -1)) (fCm (h_i h c))) := by
      unfold fGo
      rw [if_pos y1]
    have eb : bL3 lB c (h_im g c 7 (-1)) x b = if x.1 = 3 then lB c (h_im g c 7 (-1)) b else b := by
      unfold bL3
      by_cases z : x.1 = 3
      · rw [if_pos z, if_pos ⟨g4.trans y1, z⟩]
      · rw [if_neg z, if_neg (fun q => z q.2)]
    rw [f, eb] at hK
    refine go_b P d s.1 (s.cn hc) s.2.2.2.2 T7 (by rw [g4]; exact y1) x2 ec K (fun h' k => hK h' ?_)
    rw [kk.2.1, ew, ecc, f11] at k
    rw [er]
    rw [er] at s
    exact s.tr k rfl
theorem c_go (P : PBok PB tB lB) (d : Nat) {h : Hp_} (I : Iv h) {c : Nat} (hc : Cn h c) {b : β} (B : PB b h) (n0 : ¬ h_i h c 4 = 0) {i : Nat} {x : Sp3} {L : List Sp3} (T : h_i h c 4 = 1 → Btk h (h_i h c) i x L (decide (¬ h_i h c 6 = -1)) ∧ (x.1 = 3 → h_i h c 6 = -1)) : Cv (m_X11_goOn (d + 7) 0 0) [.ref 0, .ref c] h (fun h' => Sxm PB c (h_i h 0 0) (fGo (h_i h 0 0) (wI h) x L (h_i h c)).1 (h_i h c 11).toNatClampNeg (fGo (h_i h 0 0) (wI h) x L (h_i h c)).2 (fB tB (h_i h 0 0) (fGo (h_i h 0 0) (wI h) x L (h_i h c)).1 (bL3 lB c (h_im h c 7 (-1)) x b)) h h') := by
  have c1 := hc.1
  refine t_X11_goOn (d + 1) h I.1 c hc.2.2 (by omega) _ ⟨fun e6 => ?_, fun n6 => ?_⟩
  · have fc : fCm (h_i h c) = up1 (h_i h c) 7 (-1) := by
      unfold fCm
      rw [if_pos e6]
    have s : Sxm PB c (h_i h 0 0) (fCm (h_i h c)) (h_i h c 11).toNatClampNeg [] b h (h_im h c 7 (-1)) := by
      rw [fc]
      exact (Sxm.rf I B).im P hc (by decide) (-1)
    exact go_t P d hc rfl n0 s rfl (fun y => (T y).1) 0 (by rw [decide_eq_true_iff]; exact ⟨fun y => absurd e6 y, fun y => absurd rfl y⟩) _ (fun h' k => k)
  · have s6 : Sxm PB c (h_i h 0 0) (up1 (h_i h c) 6 (-1)) (h_i h c 11).toNatClampNeg [] b h (h_im h c 6 (-1)) := (Sxm.rf I B).im P hc (by decide) (-1)
    refine Cv.mono (c_put P (d + 1) s6.1 (s6.cn hc) s6.2.2.2.2 (h_i h c 6)) (fun h21 k6 => ?_)
    have s21 : Sxm PB c (h_i h 0 0) (up1 (up1 (h_i h c) 6 (-1)) 5 (h_i h c 6)) (h_i h c 11).toNatClampNeg [] b h h21 := ⟨k6.1, s6.2.1.tr k6.2.1, by rw [k6.2.2.1, s6.2.2.1], ⟨by rw [k6.2.2.2.1 51 (by omega)]; exact s6.2.2.2.1.1, by rw [k6.2.2.2.1 52 (by omega)]; exact s6.2.2.2.1.2.1, by rw [k6.2.2.2.1 53 (by omega)]; exact s6.2.2.2.1.2.2⟩, k6.2.2.2.2⟩
    have fc : fCm (h_i h c) = up1 (up1 (up1 (h_i h c) 6 (-1)) 5 (h_i h c 6)) 7 (-1) := by
      unfold fCm
      rw [if_neg n6]
    have s : Sxm PB c (h_i h 0 0) (fCm (h_i h c)) (h_i h c 11).toNatClampNeg [] b h (h_im h21 c 7 (-1)) := by
      rw [fc]
      exact s21.im P hc (by decide) (-1)
    refine ⟨s21.1.1, (s21.cn hc).2.2, go_t P d hc rfl n0 s (by rw [s21.2.2.1, up1_ne (by decide), up1_ne (by decide)]) (fun y => (T y).1) 1 (by rw [decide_eq_true_iff]; exact ⟨fun _ => by decide, fun _ => n6⟩) _ (fun h' k => ?_)⟩
    have e1 : bL3 lB c (h_im h21 c 7 (-1)) x b = b := by
      unfold bL3
      refine if_neg (fun z => ?_)
      have e4 : h_i h c 4 = 1 := by
        have q := z.1
        rw [s.2.2.1, fc, up1_ne (by decide), up1_ne (by decide), up1_ne (by decide)] at q
        exact q
      exact n6 ((T e4).2 z.2)
    have e2 : bL3 lB c (h_im h c 7 (-1)) x b = b := by
      unfold bL3
      refine if_neg (fun z => ?_)
      have e4 : h_i h c 4 = 1 := by
        have q := z.1
        rw [im_row, up1_ne (by decide)] at q
        exact q
      exact n6 ((T e4).2 z.2)
    rw [e1] at k
    rw [e2]
    exact k
end MEN
end
section
/-! MEN, the class: what is dropped, rows written, begin -/
noncomputable def dRow (cz : Int32) : Nat → (Nat → Int32) → Nat → Int32
  | 0, M => M
  | k + 1, M => dRow cz k (sRow (2, cz) M)
theorem dRow_k {cz : Int32} {j : Nat} (a : j ≠ 11) (b : j ≠ 15) (c : j ≠ 16) : ∀ (k : Nat) (M : Nat → Int32), dRow cz k M j = M j
  | 0, _ => rfl
  | k + 1, M => by
    show dRow cz k (sRow (2, cz) M) j = M j
    rw [dRow_k a b c k, sRow_k a b c]
/-- what he is about is dropped -/
noncomputable def fDp (cz : Int32) (M : Nat → Int32) : (Nat → Int32) × List Ev2 := if M 4 = 1 then (dRow cz (M 12 - M 11).toNatClampNeg M, List.replicate (M 12 - M 11).toNatClampNeg (2, cz)) else (M, [])
theorem fDp_k {cz : Int32} {M : Nat → Int32} {j : Nat} (a : j ≠ 11) (b : j ≠ 15) (c : j ≠ 16) : (fDp cz M).1 j = M j := by
  unfold fDp
  split
  · exact dRow_k a b c _ _
  · rfl
/-- the points of a beat: place, minutes -/
noncomputable def ptL : List Sp3 → List Ev2
  | [] => []
  | x :: L => if x.1 = 2 then x.2 :: ptL L else ptL L
theorem ptL_l : ∀ L : List Sp3, (ptL L).length = mts L
  | [] => rfl
  | x :: L => by
    show (if x.1 = 2 then x.2 :: ptL L else ptL L).length = (if x.1 = 2 then 1 else 0) + mts L
    split
    · show (ptL L).length + 1 = 1 + mts L
      rw [ptL_l L]
      omega
    · rw [ptL_l L]
      omega
section MEN
variable {β : Type} {PB : β → Hp_ → Prop} {tB : Int32 → Int32 → β → β} {lB : Nat → Hp_ → β → β}
theorem dp_lp (P : PBok PB tB lB) (d : Nat) {c : Nat} (cz x3 : Int32) (u3 : x3.toInt ≤ 400) : ∀ (k : Nat) {h : Hp_} {b : β} (x4 : Int32), Iv h → Cn h c → PB b h → 0 ≤ x4.toInt → x4.toInt + (k : Int) = x3.toInt → 0 ≤ (h_i h c 11).toInt → (h_i h c 11).toInt + (k : Int) = (h_i h c 12).toInt → (h_i h c 12).toInt ≤ (h_i h 16 7).toInt → AW (m_X11_drop (d + 2) 0 0) 0 0 16 [(0, .ref 0), (1, .ref c), (2, .int cz), (3, .int x3), (4, .int x4)] [] h (kV (fun h' => Sxm PB c (h_i h 0 0) (dRow cz k (h_i h c)) (h_i h c 11).toNatClampNeg (List.replicate k (2, cz)) b h h'))
  | 0, h, b, x4, I, hc, B, p4, e3, lo, e12, l2 => by
    have c1 := hc.1
    refine t_X11_drop_16 d h I.1 c hc.2.2 (by omega) cz x3 x4 _ ⟨fun _ => Sxm.rf I B, fun n => absurd (q_le.mpr (by omega)) n⟩
  | k + 1, h, b, x4, I, hc, B, p4, e3, lo, e12, l2 => by
    have c1 := hc.1
    have t1 : (1 : Int32).toInt = 1 := rfl
    have r4 := rowX_in I
    refine t_X11_drop_16 d h I.1 c hc.2.2 (by omega) cz x3 x4 _ ⟨fun y => ?_, fun _ => Cv.mono (c_sr P d I hc B 2 cz lo (by omega) l2) (fun h7 s => ⟨s.1.1, (s.cn hc).2.2, ?_⟩)⟩
    · have y := q_le.mp y
      omega
    · have kk := s.2.1.k c1
      have q := row_n (x := h_i h c 11) lo (by omega)
      have e4 : (x4 + 1).toInt = x4.toInt + 1 := tx_add (by rw [t1]; omega) (by rw [t1]; omega)
      have e11 : h_i h7 c 11 = h_i h c 11 + 1 := by rw [s.2.2.1]; exact sRow_11
      have e12' : h_i h7 c 12 = h_i h c 12 := by rw [s.2.2.1]; exact sRow_k (by decide) (by decide) (by decide)
      have ih := dp_lp P d cz x3 u3 k (h := h7) (b := b) (x4 + 1) s.1 (s.cn hc) s.2.2.2.2 (by omega) (by omega) (by rw [e11]; omega) (by rw [e11, e12']; omega) (by rw [e12', kk.2.2.2.1]; exact l2)
      rw [kk.2.1, e11, q.1, s.2.2.1] at ih
      exact AW.mono ih (fun v h' z => ⟨z.1, s.tr z.2 rfl⟩)
theorem c_dp (P : PBok PB tB lB) (d : Nat) {h : Hp_} (I : Iv h) {c : Nat} (hc : Cn h c) {b : β} (B : PB b h) (cz : Int32) (R : h_i h c 4 = 1 → Rok h (h_i h c) 0) : Cv (m_X11_drop (d + 2) 0 0) [.ref 0, .ref c, .int cz] h (fun h' => Sxm PB c (h_i h 0 0) (fDp cz (h_i h c)).1 (h_i h c 11).toNatClampNeg (fDp cz (h_i h c)).2 b h h') := by
  have c1 := hc.1
  unfold fDp
  refine t_X11_drop d h c hc.2.2 (by omega) cz _ ⟨fun n => ?_, fun y => t_X2_openPoints d h c hc.2.2 (by omega) _ ⟨I.1, hc.2.2, ?_⟩⟩
  · rw [if_neg n]
    exact Sxm.rf I B
  · rw [if_pos y]
    have R := R y
    have r4 := rowX_in I
    have r1 := R.1
    have r2 := R.2.1
    have r3 := R.2.2
    have es : (h_i h c 12 - h_i h c 11).toInt = (h_i h c 12).toInt - (h_i h c 11).toInt := tx_sub (by omega) (by omega)
    have ns := n_nat (x := h_i h c 12 - h_i h c 11) (by omega)
    have t0 : (0 : Int32).toInt = 0 := rfl
    exact dp_lp P d cz _ (by omega) (h_i h c 12 - h_i h c 11).toNatClampNeg (b := b) 0 I hc B (by omega) (by omega) r1 (by omega) r3
/-- rows written from r on: the man, the points E -/
noncomputable def wwR : List Nat := [16007, 47999, 48999, 49999, 50999]
noncomputable def Wx (PB : β → Hp_ → Prop) (m n : Int32) (r : Nat) (E : List Ev2) (b : β) (h h' : Hp_) : Prop := Iv h' ∧ Fr wwR h h' ∧ h_i h' 47 = rz (fun _ => m) r E (h_i h 47) ∧ h_i h' 48 = rz Prod.fst r E (h_i h 48) ∧ h_i h' 49 = rz (fun e => n + e.2) r E (h_i h 49) ∧ h_i h' 50 = rz (fun _ => n) r E (h_i h 50) ∧ h_i h' 16 7 = Int32.ofNat (r + E.length) ∧ PB b h'
theorem wr_lp (P : PBok PB tB lB) (d : Nat) {c : Nat} : ∀ (L : List Sp3) {h : Hp_} {b : β} (i : Nat) (x2 : Int32), Iv h → Cn h c → PB b h → Stb h (h_i h c 8) i L → x2 = Int32.ofNat (i + L.length) → (h_i h 16 7).toInt + (mts L : Int) ≤ 400 → AW (m_X11_writeRows (d + 2) 0 0) 0 0 14 [(0, .ref 0), (1, .ref c), (2, .int x2), (3, .int (Int32.ofNat i))] [] h (kV (fun h' => Wx PB (h_i h c 0) (h_i h 0 0) (h_i h 16 7).toNatClampNeg (ptL L) b h h'))
  | [], h, b, i, x2, I, hc, B, S, e2, R => by
    have c1 := hc.1
    have r4 := rowX_in I
    refine t_X11_writeRows_14 d h I.1 c hc.2.2 (by omega) x2 _ _ ⟨fun _ => ⟨I, Fr.rf _ _, rfl, rfl, rfl, rfl, ?_, B⟩, fun n => absurd (q_le.mpr ?_) n⟩
    · exact (of_nat32 r4.1).symm
    · rw [e2]
      exact Int.le_refl _
  | x :: L, h, b, i, x2, I, hc, B, S, e2, R => by
    have c1 := hc.1
    have r4 := rowX_in I
    have ll : i + (L.length + 1) ≤ 150 := S.2.1
    have l2 : (i + (x :: L).length : Nat) = i + (L.length + 1) := rfl
    have sr := S.hd.2
    have kd := stR_k sr
    have m : mts (x :: L) = (if x.1 = 2 then 1 else 0) + mts L := rfl
    rw [m] at R
    refine t_X11_writeRows_14 d h I.1 c hc.2.2 (by omega) x2 _ _ ⟨fun y => ?_, fun _ => Ci.mono (c_sa d I S) (fun r8 h6 k => ?_)⟩
    · have y := q_le.mp y
      rw [e2, on_j (by omega), on_j (by omega)] at y
      omega
    · obtain ⟨eh, er⟩ := k
      subst eh er
      refine ⟨I.1, hc.2.2, t_X0_kindOf d h6 _ _ ⟨I.1, hc.2.2, ?_⟩⟩
      rw [pkS_3 kd, on_s (by omega)]
      refine ⟨fun n2 => ?_, fun y2 => t_X0_placeOf d h6 _ _ ⟨I.1, hc.2.2, t_X0_amountOf d h6 _ _ ⟨I.1, hc.2.2, ?_⟩⟩⟩
      · have f : ptL (x :: L) = ptL L := if_neg n2
        rw [f]
        rw [if_neg n2] at R
        exact wr_lp P d L (i + 1) x2 I hc B S.tl (by rw [e2, l2, show i + 1 + L.length = i + (L.length + 1) by omega]) (by omega)
      · have ny : ¬ x.1 = 1 := by rw [y2]; decide
        have f : ptL (x :: L) = x.2 :: ptL L := if_pos y2
        have am := pkS_am sr
        rw [if_neg ny] at am
        rw [if_pos y2] at R
        rw [pkS_pl sr ny, am, f]
        have v : vp_in (h_i h6 16 7) 400 := dp_in (lo := 0) (hi := 399) ⟨r4.1, by show _ ≤ (399 : Int); omega⟩ (by decide) (by decide)
        have t400 : (400 : Int32).toInt = 400 := rfl
        have rn := row_n (x := h_i h6 16 7) r4.1 (by omega)
        refine t_X7_write d h6 I.1 _ _ _ _ _ ⟨fun y => ?_, fun _ => ⟨v, v, v, v, ?_⟩⟩
        · have y := q_le.mp y
          omega
        · have I5 : Iv (h_im (h_im (h_im (h_im (h_im h6 47 (h_i h6 16 7).toNatClampNeg (h_i h6 c 0)) 48 (h_i h6 16 7).toNatClampNeg x.2.1) 49 (h_i h6 16 7).toNatClampNeg (h_i h6 0 0 + x.2.2)) 50 (h_i h6 16 7).toNatClampNeg (h_i h6 0 0)) 16 7 (h_i h6 16 7 + 1)) := (tr_ 50 (by decide +kernel) (tr_ 49 (by decide +kernel) (tr_ 48 (by decide +kernel) (tr_ 47 (by decide +kernel) I _ _ (by decide) (by decide)) _ _ (by decide) (by decide)) _ _ (by decide) (by decide)) _ _ (by decide) (by decide)).im (a := 16) (k := 7) (by rw [show tf 16 7 = (0, 400) by decide +kernel]; exact ⟨by show (0 : Int) ≤ _; omega, by show _ ≤ (400 : Int); omega⟩) (by decide)
          have B5 : PB b (h_im (h_im (h_im (h_im (h_im h6 47 (h_i h6 16 7).toNatClampNeg (h_i h6 c 0)) 48 (h_i h6 16 7).toNatClampNeg x.2.1) 49 (h_i h6 16 7).toNatClampNeg (h_i h6 0 0 + x.2.2)) 50 (h_i h6 16 7).toNatClampNeg (h_i h6 0 0)) 16 7 (h_i h6 16 7 + 1)) := P.1 _ _ _ _ _ (Or.inr (Or.inr ⟨rfl, rfl⟩)) (P.1 _ _ _ _ _ (Or.inr (Or.inl ⟨by decide, by decide⟩)) (P.1 _ _ _ _ _ (Or.inr (Or.inl ⟨by decide, by decide⟩)) (P.1 _ _ _ _ _ (Or.inr (Or.inl ⟨by decide, by decide⟩)) (P.1 _ _ _ _ _ (Or.inr (Or.inl ⟨by decide, by decide⟩)) B))))
          have F5 : Fr wwR h6 (h_im (h_im (h_im (h_im (h_im h6 47 (h_i h6 16 7).toNatClampNeg (h_i h6 c 0)) 48 (h_i h6 16 7).toNatClampNeg x.2.1) 49 (h_i h6 16 7).toNatClampNeg (h_i h6 0 0 + x.2.2)) 50 (h_i h6 16 7).toNatClampNeg (h_i h6 0 0)) 16 7 (h_i h6 16 7 + 1)) := (((((Fr.rf _ _).im (inw_row (by decide +kernel) _)).im (inw_row (by decide +kernel) _)).im (inw_row (by decide +kernel) _)).im (inw_row (by decide +kernel) _)).im (by decide +kernel)
          generalize hg : h_im (h_im (h_im (h_im (h_im h6 47 (h_i h6 16 7).toNatClampNeg (h_i h6 c 0)) 48 (h_i h6 16 7).toNatClampNeg x.2.1) 49 (h_i h6 16 7).toNatClampNeg (h_i h6 0 0 + x.2.2)) 50 (h_i h6 16 7).toNatClampNeg (h_i h6 0 0)) 16 7 (h_i h6 16 7 + 1) = g at *
          have g47 : h_i g 47 = up1 (h_i h6 47) (h_i h6 16 7).toNatClampNeg (h_i h6 c 0) := by rw [← hg, im_oth (by decide), im_oth (by decide), im_oth (by decide), im_oth (by decide), im_row]
          have g48 : h_i g 48 = up1 (h_i h6 48) (h_i h6 16 7).toNatClampNeg x.2.1 := by rw [← hg, im_oth (by decide), im_oth (by decide), im_oth (by decide), im_row, im_oth (by decide)]
          have g49 : h_i g 49 = up1 (h_i h6 49) (h_i h6 16 7).toNatClampNeg (h_i h6 0 0 + x.2.2) := by rw [← hg, im_oth (by decide), im_oth (by decide), im_row, im_oth (by decide), im_oth (by decide)]
          have g50 : h_i g 50 = up1 (h_i h6 50) (h_i h6 16 7).toNatClampNeg (h_i h6 0 0) := by rw [← hg, im_oth (by decide), im_row, im_oth (by decide), im_oth (by decide), im_oth (by decide)]
          have g16 : h_i g 16 7 = h_i h6 16 7 + 1 := by rw [← hg, im_at]
          have g0 : h_i g 0 0 = h_i h6 0 0 := (F5.2 0 0 (by decide +kernel)).1
          have gc : h_i g c = h_i h6 c := by rw [← hg, im_oth (by omega), im_oth (by omega), im_oth (by omega), im_oth (by omega), im_oth (by omega)]
          have g34 : ∀ k, h_i g 34 k = h_i h6 34 k := fun k => fr_i F5 (by decide +kernel) k
          have hcg : Cn g c := hc.of F5.1
          have ih := wr_lp P d L (h := g) (b := b) (i + 1) x2 I5 hcg B5 (by rw [gc]; exact S.tl.cg g34) (by rw [e2, l2, show i + 1 + L.length = i + (L.length + 1) by omega]) (by rw [g16]; omega)
          rw [g0, gc, g16, rn.1] at ih
          refine ⟨I5.1, hcg.2.2, AW.mono ih (fun v h' z => ⟨z.1, z.2.1, F5.tr z.2.2.1, ?_, ?_, ?_, ?_, ?_, z.2.2.2.2.2.2.2.2⟩)⟩
          · rw [z.2.2.2.1, g47]
            rfl
          · rw [z.2.2.2.2.1, g48]
            rfl
          · rw [z.2.2.2.2.2.1, g49]
            rfl
          · rw [z.2.2.2.2.2.2.1, g50]
            rfl
          · rw [z.2.2.2.2.2.2.2.1]
            show Int32.ofNat ((h_i h6 16 7).toNatClampNeg + 1 + (ptL L).length) = Int32.ofNat ((h_i h6 16 7).toNatClampNeg + ((ptL L).length + 1))
            rw [show (h_i h6 16 7).toNatClampNeg + 1 + (ptL L).length = (h_i h6 16 7).toNatClampNeg + ((ptL L).length + 1) by omega]
end MEN
/-! MEN, the reference: man j of its rows against a man M as the class has him -/
theorem wI_X {h : Hp_} {a b : Int32} (p1 : 0 ≤ a.toInt ∧ a.toInt < 16) (p2 : 0 ≤ b.toInt ∧ b.toInt < 16) : (∀ k, wX h a.toNatClampNeg b.toNatClampNeg = some k → (wI h a b).toInt = k) ∧ (wX h a.toNatClampNeg b.toNatClampNeg = none → wI h a b = -1) := by
  have t16 : (16 : Int32).toInt = 16 := rfl
  have t0 : (0 : Int32).toInt = 0 := rfl
  have tm : (1000000 : Int32).toInt = 1000000 := rfl
  have na := n_nat p1.1
  have nb := n_nat p2.1
  have c : (0 ≤ a ∧ a < 16) ∧ (0 ≤ b ∧ b < 16) := ⟨⟨q_le.mpr (by omega), q_lt.mpr (by omega)⟩, ⟨q_le.mpr (by omega), q_lt.mpr (by omega)⟩⟩
  unfold wX wI
  rw [if_pos c]
  by_cases y : dX h a.toNatClampNeg b.toNatClampNeg < 1000000
  · have y' : h_i h 30 (16 * a.toNatClampNeg + b.toNatClampNeg) < 1000000 := q_lt.mpr (by rw [tm]; exact y)
    rw [if_pos ⟨by omega, by omega, y⟩, if_pos y']
    exact ⟨fun k e => Option.some.inj e, fun e => (by cases e)⟩
  · have y' : ¬ h_i h 30 (16 * a.toNatClampNeg + b.toNatClampNeg) < 1000000 := fun z => y (by have := q_lt.mp z; rw [tm] at this; exact this)
    rw [if_neg (fun z => y z.2.2), if_neg y']
    exact ⟨fun k e => (by cases e), fun _ => rfl⟩
theorem wI_p {h : Hp_} (I : Iv h) (X : ExP h) (a b : Int32) : wI h a b = -1 ∨ (0 ≤ (wI h a b).toInt ∧ (wI h a b).toInt ≤ 900 ∧ (0 ≤ a.toInt ∧ a.toInt < 16) ∧ (0 ≤ b.toInt ∧ b.toInt < 16) ∧ wX h a.toNatClampNeg b.toNatClampNeg = some (wI h a b).toInt) := by
  by_cases c : (0 ≤ a ∧ a < 16) ∧ (0 ≤ b ∧ b < 16)
  · have t16 : (16 : Int32).toInt = 16 := rfl
    have t0 : (0 : Int32).toInt = 0 := rfl
    have u1 := q_le.mp c.1.1
    have u2 := q_lt.mp c.1.2
    have u3 := q_le.mp c.2.1
    have u4 := q_lt.mp c.2.2
    have q := wI_X (h := h) (a := a) (b := b) ⟨by omega, by omega⟩ ⟨by omega, by omega⟩
    cases e : wX h a.toNatClampNeg b.toNatClampNeg with
    | none => exact Or.inl (q.2 e)
    | some k =>
      have w := wX_le I X _ _ _ e
      have z := q.1 k e
      exact Or.inr ⟨by omega, by omega, ⟨by omega, by omega⟩, ⟨by omega, by omega⟩, by rw [z]⟩
  · refine Or.inl ?_
    unfold wI
    rw [if_neg c]
theorem c_woI (d : Nat) {h : Hp_} (I : Iv h) (x : ExP h) (x1 x2 : Int32) (p1 : 0 ≤ x1.toInt ∧ x1.toInt < 16) (p2 : 0 ≤ x2.toInt ∧ x2.toInt < 16) : Ci (m_X12_walkOf (d + 0) 0 0) [.ref 1, .int x1, .int x2] h (fun r h' => Iv h' ∧ Fr [203999] h h' ∧ r = wI h x1 x2) := by
  have q := wI_X (h := h) p1 p2
  refine Ci.mono (c_woR d I x x1 x2 p1 p2) (fun r h' k => ⟨k.1, k.2.1, ?_⟩)
  rcases k.2.2 with ⟨k, e, y⟩ | ⟨e, y⟩
  · exact Int32.toInt_inj.mp (y.trans (q.1 k e).symm)
  · rw [y, q.2 e]
noncomputable def mrL : List Nat := [208, 209, 210, 211, 212, 213, 214, 215, 216, 217, 218, 219, 248]
noncomputable def mwR : List Nat := 208999 :: 209999 :: 210999 :: 211999 :: 213999 :: 216999 :: 218999 :: 219999 :: 241999 :: 242999 :: 243999 :: 248999 :: wz_X12_see
noncomputable def Gmm (j : Nat) (h h' : Hp_) : Prop := Fr mwR h h' ∧ ∀ a, a ∈ mrL → ∀ k, k ≠ j → h_i h' a k = h_i h a k
theorem Gmm.rf (j : Nat) (h : Hp_) : Gmm j h h := ⟨Fr.rf _ _, fun _ _ _ _ => rfl⟩
theorem Gmm.tr {j : Nat} {h h1 h2 : Hp_} (a : Gmm j h h1) (b : Gmm j h1 h2) : Gmm j h h2 := ⟨a.1.tr b.1, fun x hx k n => (b.2 x hx k n).trans (a.2 x hx k n)⟩
theorem Gmm.im {j a k : Nat} {h0 h : Hp_} {x : Int32} (g : Gmm j h0 h) (w : inw mwR a k = true) (hk : a ∈ mrL → k = j) : Gmm j h0 (h_im h a k x) := ⟨g.1.im w, fun b hb i n => by
  rw [h_i_im, if_neg (fun e => n (e.2.trans (hk (e.1 ▸ hb))))]
  exact g.2 b hb i n⟩
theorem Gmm.imj {j a : Nat} {h0 h : Hp_} {x : Int32} (g : Gmm j h0 h) (w : inw mwR a 999 = true) : Gmm j h0 (h_im h a j x) := g.im (inw_row w j) (fun _ => rfl)
theorem Gmm.imo {j a k : Nat} {h0 h : Hp_} {x : Int32} (g : Gmm j h0 h) (w : inw mwR a 999 = true) (n : a ∉ mrL) : Gmm j h0 (h_im h a k x) := g.im (inw_row w k) (fun z => absurd z n)
theorem Gmm.fr {j : Nat} {ws : List Nat} {h0 h h' : Hp_} (g : Gmm j h0 h) (f : Fr ws h h') (s : wsub ws mwR = true) (o : mrL.all (fun a => off ws a) = true) : Gmm j h0 h' := g.tr ⟨f.more s, fun a ha k _ => fr_i f (List.all_eq_true.mp o a ha) k⟩
/-- what the reference reads and none of these methods writes -/
theorem Gmm.k {j : Nat} {h h' : Hp_} (g : Gmm j h h') : wI h' = wI h ∧ h_i h' 1 0 = h_i h 1 0 ∧ (∀ k, h_i h' 206 k = h_i h 206 k) ∧ (∀ k, h_i h' 227 k = h_i h 227 k) ∧ (∀ k, sB h' k = sB h k) ∧ (ExP h → ExP h') := by
  have e30 : ∀ k, h_i h' 30 k = h_i h 30 k := fun k => fr_i g.1 (by decide +kernel) k
  have e8 : ∀ k, h_i h' 228 k = h_i h 228 k := fun k => fr_i g.1 (by decide +kernel) k
  have e9 : ∀ k, h_i h' 229 k = h_i h 229 k := fun k => fr_i g.1 (by decide +kernel) k
  have e10 : ∀ k, h_i h' 230 k = h_i h 230 k := fun k => fr_i g.1 (by decide +kernel) k
  refine ⟨?_, (g.1.2 1 0 (by decide +kernel)).1, fun k => fr_i g.1 (by decide +kernel) k, fun k => fr_i g.1 (by decide +kernel) k, fun k => ?_, fun x => x.fr g.1 (by decide +kernel)⟩
  · funext a b
    unfold wI
    rw [e30]
  · funext i
    unfold sB
    rw [e8, e9, e10]
/-- man j of the reference is M -/
noncomputable def RMp (j : Nat) (M : Nat → Int32) (h : Hp_) : Prop := (h_i h 208 j = M 4 ∧ h_i h 209 j = M 5 ∧ h_i h 210 j = M 6 ∧ h_i h 211 j = M 7) ∧ (M 4 = 1 → h_i h 212 j = M 8 ∧ h_i h 213 j = M 9 ∧ h_i h 214 j = M 10 ∧ h_i h 216 j = M 11 ∧ h_i h 217 j = M 12) ∧ (M 4 = 3 → h_i h 218 j = M 13 ∧ h_i h 219 j = M 14) ∧ h_i h 206 j = M 3
/-- the reference's rows take events -/
noncomputable def rq (g : Ev2 → Option Int32) : Nat → List Ev2 → (Nat → Int32) → Nat → Int32
  | _, [], f => f
  | r, e :: E, f => rq g (r + 1) E (match g e with | some v => up1 f r v | none => f)
theorem rq_a (g : Ev2 → Option Int32) : ∀ (E1 E2 : List Ev2) (r : Nat) (f : Nat → Int32), rq g r (E1 ++ E2) f = rq g (r + E1.length) E2 (rq g r E1 f)
  | [], _, _, _ => rfl
  | e :: E1, E2, r, f => by
    show rq g (r + 1) (E1 ++ E2) _ = rq g (r + (E1.length + 1)) E2 (rq g (r + 1) E1 _)
    rw [rq_a g E1 E2 (r + 1), show r + 1 + E1.length = r + (E1.length + 1) by omega]
noncomputable def gM (n : Int32) (e : Ev2) : Option Int32 := if e.1 = 1 then some n else none
noncomputable def gS (n : Int32) (e : Ev2) : Option Int32 := if e.1 = 1 then none else some n
noncomputable def gC (e : Ev2) : Option Int32 := if e.1 = 1 then none else some e.2
section MEN
variable {β : Type} {PM : β → Hp_ → Prop} {tB : Int32 → Int32 → β → β} {lM : Nat → Hp_ → β → β}
/-- what else is kept in the reference -/
noncomputable def PMok {β : Type} (PM : β → Hp_ → Prop) (tB : Int32 → Int32 → β → β) (lM : Nat → Hp_ → β → β) : Prop :=
  (∀ b h a k x, ((208 ≤ a ∧ a ≤ 219) ∨ (238 ≤ a ∧ a ≤ 244) ∨ a = 248 ∨ (a = 1 ∧ k = 63)) → PM b h → PM b (h_im h a k x)) ∧
  (∀ b h h', Fr [203999] h h' → PM b h → PM b h') ∧
  (∀ d b h x1, Iv h → (0 ≤ x1.toInt ∧ x1.toInt ≤ 11) → PM b h → AW (m_X12_free (d + 0) 0 0) 0 0 42 [(0, .ref 1), (1, .int x1), (2, .int 0)] [] h (kV (fun h' => Iv h' ∧ Fr [260999] h h' ∧ PM (tB x1 (h_i h 1 0) b) h'))) ∧
  (∀ d b h x1, Iv h → (0 ≤ x1.toInt ∧ x1.toInt ≤ 11) → PM b h → Cv (m_X12_see (d + 7) 0 0) [.ref 1, .int x1] h (fun h' => Iv h' ∧ Fr wz_X12_see h h' ∧ PM (lM x1.toNatClampNeg h b) h'))
noncomputable def Mx (PM : β → Hp_ → Prop) (j : Nat) (n : Int32) (M' : Nat → Int32) (r : Nat) (E : List Ev2) (b' : β) (h h' : Hp_) : Prop := Iv h' ∧ Gmm j h h' ∧ RMp j M' h' ∧ (h_i h' 241 = rq (gM n) r E (h_i h 241) ∧ h_i h' 242 = rq (gS n) r E (h_i h 242) ∧ h_i h' 243 = rq gC r E (h_i h 243)) ∧ PM b' h'
theorem Mx.tr {j : Nat} {n : Int32} {M1 M2 : Nat → Int32} {r r' : Nat} {E1 E2 : List Ev2} {b1 b2 : β} {h h1 h2 : Hp_} (a : Mx PM j n M1 r E1 b1 h h1) (b : Mx PM j n M2 r' E2 b2 h1 h2) (e : r' = r + E1.length) : Mx PM j n M2 r (E1 ++ E2) b2 h h2 := ⟨b.1, a.2.1.tr b.2.1, b.2.2.1, ⟨by rw [b.2.2.2.1.1, a.2.2.2.1.1, e, rq_a], by rw [b.2.2.2.1.2.1, a.2.2.2.1.2.1, e, rq_a], by rw [b.2.2.2.1.2.2, a.2.2.2.1.2.2, e, rq_a]⟩, b.2.2.2.2⟩
theorem Mx.rf {j : Nat} {n : Int32} {M : Nat → Int32} {r : Nat} {b : β} {h : Hp_} (I : Iv h) (R : RMp j M h) (B : PM b h) : Mx PM j n M r [] b h h := ⟨I, Gmm.rf _ _, R, ⟨rfl, rfl, rfl⟩, B⟩
theorem v12 {x1 : Int32} (b : 0 ≤ x1.toInt ∧ x1.toInt ≤ 11) : vp_in x1 12 := dp_in (lo := 0) (hi := 11) ⟨b.1, b.2⟩ (by decide) (by decide)
/-- ranges of what the reference keeps of a man -/
theorem m209 {h : Hp_} (I : Iv h) (k : Nat) : -1 ≤ (h_i h 209 k).toInt ∧ (h_i h 209 k).toInt ≤ 15 := by
  have rg := I.2.1 209 k
  rw [tfa_tf (show tfa 209 = some (-1, 15) by decide +kernel)] at rg
  exact ⟨rg.1, rg.2⟩
theorem m210 {h : Hp_} (I : Iv h) (k : Nat) : -1 ≤ (h_i h 210 k).toInt ∧ (h_i h 210 k).toInt ≤ 15 := by
  have rg := I.2.1 210 k
  rw [tfa_tf (show tfa 210 = some (-1, 15) by decide +kernel)] at rg
  exact ⟨rg.1, rg.2⟩
theorem m206 {h : Hp_} (I : Iv h) (k : Nat) : 0 ≤ (h_i h 206 k).toInt ∧ (h_i h 206 k).toInt ≤ 15 := by
  have rg := I.2.1 206 k
  rw [tfa_tf (show tfa 206 = some (0, 15) by decide +kernel)] at rg
  exact ⟨rg.1, rg.2⟩
theorem m218 {h : Hp_} (I : Iv h) (k : Nat) : 0 ≤ (h_i h 218 k).toInt ∧ (h_i h 218 k).toInt ≤ 15 := by
  have rg := I.2.1 218 k
  rw [tfa_tf (show tfa 218 = some (0, 15) by decide +kernel)] at rg
  exact ⟨rg.1, rg.2⟩
theorem im208 {h : Hp_} (I : Iv h) (k : Nat) (x : Int32) : Iv (h_im h 208 k x) := tr_ 208 (by decide +kernel) I _ _ (by decide) (by decide)
theorem im211 {h : Hp_} (I : Iv h) (k : Nat) (x : Int32) : Iv (h_im h 211 k x) := tr_ 211 (by decide +kernel) I _ _ (by decide) (by decide)
theorem im209 {h : Hp_} (I : Iv h) (k : Nat) (x : Int32) (b : -1 ≤ x.toInt ∧ x.toInt ≤ 15) : Iv (h_im h 209 k x) := I.im (by rw [tfa_tf (show tfa 209 = some (-1, 15) by decide +kernel)]; exact ⟨b.1, b.2⟩) (jw_jr (by decide) (by decide) _)
theorem im210 {h : Hp_} (I : Iv h) (k : Nat) (x : Int32) (b : -1 ≤ x.toInt ∧ x.toInt ≤ 15) : Iv (h_im h 210 k x) := I.im (by rw [tfa_tf (show tfa 210 = some (-1, 15) by decide +kernel)]; exact ⟨b.1, b.2⟩) (jw_jr (by decide) (by decide) _)
theorem im213 {h : Hp_} (I : Iv h) (k : Nat) (x : Int32) (b : -1 ≤ x.toInt ∧ x.toInt ≤ 150) : Iv (h_im h 213 k x) := I.im (by rw [tfa_tf (show tfa 213 = some (-1, 150) by decide +kernel)]; exact ⟨b.1, b.2⟩) (jw_jr (by decide) (by decide) _)
theorem im216 {h : Hp_} (I : Iv h) (k : Nat) (x : Int32) (b : 0 ≤ x.toInt ∧ x.toInt ≤ 400) : Iv (h_im h 216 k x) := I.im (by rw [tfa_tf (show tfa 216 = some (0, 400) by decide +kernel)]; exact ⟨b.1, b.2⟩) (jw_jr (by decide) (by decide) _)
theorem i24 {h : Hp_} (I : Iv h) (a k : Nat) (x : Int32) (b : a = 241 ∨ a = 242 ∨ a = 243) : Iv (h_im h a k x) := by
  rcases b with e | e | e <;> subst e
  · exact tr_ 241 (by decide +kernel) I _ _ (by decide) (by decide)
  · exact tr_ 242 (by decide +kernel) I _ _ (by decide) (by decide)
  · exact tr_ 243 (by decide +kernel) I _ _ (by decide) (by decide)
/-- he sets out: the reference, where there is a walk and it takes time -/
theorem m_so (P : PMok PM tB lM) (d : Nat) {h : Hp_} (I : Iv h) (X : ExP h) {x1 : Int32} (hx : 0 ≤ x1.toInt ∧ x1.toInt ≤ 11) {M : Nat → Int32} (R : RMp x1.toNatClampNeg M h) {b : β} (B : PM b h) (x2 : Int32) (p : 0 ≤ (M 5).toInt) (p2 : 0 ≤ x2.toInt ∧ x2.toInt ≤ 15) (r : Nat) (nz : ¬ wI h (M 5) x2 = -1) : Cv (m_X12_setOut (d + 1) 0 0) [.ref 1, .int x1, .int x2] h (fun h' => Mx PM x1.toNatClampNeg (h_i h 1 0) (if 0 < wI h (M 5) x2 then sOut (h_i h 1 0) (wI h (M 5) x2) x2 M else M) r [] b h h') := by
  have v := v12 hx
  have b9 := m209 I x1.toNatClampNeg
  have t0 : (0 : Int32).toInt = 0 := rfl
  rw [R.1.2.1] at b9
  have W := c_woI d I X (M 5) x2 ⟨p, by omega⟩ ⟨p2.1, by omega⟩
  refine t_X12_setOut d h I.1 x1 x2 _ ⟨v, ?_⟩
  rw [R.1.2.1]
  refine Ci.mono W (fun r4 h2 k => ?_)
  obtain ⟨I2, F2, er⟩ := k
  subst er
  have G2 : Gmm x1.toNatClampNeg h h2 := (Gmm.rf _ _).fr F2 (by decide +kernel) (by decide +kernel)
  have B2 : PM b h2 := P.2.1 b h h2 F2 B
  have f : ∀ a, off [203999] a = true → ∀ k, h_i h2 a k = h_i h a k := fun a o k => fr_i F2 o k
  have n2 : h_i h2 1 0 = h_i h 1 0 := (F2.2 1 0 (by decide +kernel)).1
  refine ⟨I2.1, fun n0 => ⟨v, v, v, ?_⟩, fun e0 => ?_⟩
  · have y : 0 < wI h (M 5) x2 := by
      rcases wI_p I X (M 5) x2 with q | q
      · exact absurd q nz
      · refine q_lt.mpr ?_
        rcases Int.lt_or_le 0 (wI h (M 5) x2).toInt with u | u
        · omega
        · exact absurd (Int32.toInt_inj.mp (by omega)) n0
    rw [if_pos y, n2]
    refine ⟨im211 (im210 (im209 I2 _ _ (by decide)) _ _ ⟨by omega, p2.2⟩) _ _, ((G2.imj (by decide +kernel)).imj (by decide +kernel)).imj (by decide +kernel), ⟨⟨?_, ?_, ?_, ?_⟩, fun e4 => ?_, fun e4 => ?_, ?_⟩, ⟨?_, ?_, ?_⟩, P.1 _ _ _ _ _ (Or.inl (by decide)) (P.1 _ _ _ _ _ (Or.inl (by decide)) (P.1 _ _ _ _ _ (Or.inl (by decide)) B2))⟩
    · rw [im_ne (by decide), im_ne (by decide), im_ne (by decide), f 208 (by decide +kernel), sOut_k (by decide) (by decide) (by decide)]
      exact R.1.1
    · rw [im_ne (by decide), im_ne (by decide), im_at]
      exact up1_at.symm
    · rw [im_ne (by decide), im_at]
      unfold sOut
      rw [up1_ne (by decide), up1_ne (by decide), up1_at]
    · rw [im_at]
      unfold sOut
      rw [up1_ne (by decide), up1_at]
    · rw [sOut_k (by decide) (by decide) (by decide)] at e4
      rw [im_ne (by decide), im_ne (by decide), im_ne (by decide), im_ne (by decide), im_ne (by decide), im_ne (by decide), im_ne (by decide), im_ne (by decide), im_ne (by decide), im_ne (by decide), im_ne (by decide), im_ne (by decide), im_ne (by decide), im_ne (by decide), im_ne (by decide), f 212 (by decide +kernel), f 213 (by decide +kernel), f 214 (by decide +kernel), f 216 (by decide +kernel), f 217 (by decide +kernel), sOut_k (by decide) (by decide) (by decide), sOut_k (by decide) (by decide) (by decide), sOut_k (by decide) (by decide) (by decide), sOut_k (by decide) (by decide) (by decide), sOut_k (by decide) (by decide) (by decide)]
      exact R.2.1 e4
    · rw [sOut_k (by decide) (by decide) (by decide)] at e4
      rw [im_ne (by decide), im_ne (by decide), im_ne (by decide), im_ne (by decide), im_ne (by decide), im_ne (by decide), f 218 (by decide +kernel), f 219 (by decide +kernel), sOut_k (by decide) (by decide) (by decide), sOut_k (by decide) (by decide) (by decide)]
      exact R.2.2.1 e4
    · rw [im_ne (by decide), im_ne (by decide), im_ne (by decide), f 206 (by decide +kernel), sOut_k (by decide) (by decide) (by decide)]
      exact R.2.2.2
    · rw [im_oth (by decide), im_oth (by decide), im_oth (by decide)]
      exact funext (fun k => f 241 (by decide +kernel) k)
    · rw [im_oth (by decide), im_oth (by decide), im_oth (by decide)]
      exact funext (fun k => f 242 (by decide +kernel) k)
    · rw [im_oth (by decide), im_oth (by decide), im_oth (by decide)]
      exact funext (fun k => f 243 (by decide +kernel) k)
  · rw [if_neg (by rw [e0]; decide)]
    refine ⟨I2, G2, ?_, ⟨funext (fun k => f 241 (by decide +kernel) k), funext (fun k => f 242 (by decide +kernel) k), funext (fun k => f 243 (by decide +kernel) k)⟩, B2⟩
    unfold RMp
    rw [f 208 (by decide +kernel), f 209 (by decide +kernel), f 210 (by decide +kernel), f 211 (by decide +kernel), f 212 (by decide +kernel), f 213 (by decide +kernel), f 214 (by decide +kernel), f 216 (by decide +kernel), f 217 (by decide +kernel), f 218 (by decide +kernel), f 219 (by decide +kernel), f 206 (by decide +kernel)]
    exact R
end MEN
/-! MEN, the reference: free, goHome, stay, goDrawn, comes -/
theorem RMp.cg {j : Nat} {M : Nat → Int32} {h h' : Hp_} (R : RMp j M h) (e : ∀ a, a ∈ (206 :: mrL) → h_i h' a j = h_i h a j) : RMp j M h' := by
  unfold RMp
  rw [e 208 (by decide), e 209 (by decide), e 210 (by decide), e 211 (by decide), e 212 (by decide), e 213 (by decide), e 214 (by decide), e 216 (by decide), e 217 (by decide), e 218 (by decide), e 219 (by decide), e 206 (by decide)]
  exact R
section MEN
variable {β : Type} {PM : β → Hp_ → Prop} {tB : Int32 → Int32 → β → β} {lM : Nat → Hp_ → β → β}
theorem Mx.fr {j : Nat} {n : Int32} {M : Nat → Int32} {r : Nat} {E : List Ev2} {b b' : β} {ws : List Nat} {h h1 h2 : Hp_} (s : Mx PM j n M r E b h h1) (I : Iv h2) (f : Fr ws h1 h2) (B : PM b' h2) (o1 : wsub ws mwR = true) (o2 : mrL.all (fun a => off ws a) = true) (o3 : (off ws 206 && off ws 241 && off ws 242 && off ws 243) = true) : Mx PM j n M r E b' h h2 := by
  simp only [Bool.and_eq_true] at o3
  refine ⟨I, s.2.1.fr f o1 o2, s.2.2.1.cg (fun a ha => ?_), ⟨?_, ?_, ?_⟩, B⟩
  · rcases List.mem_cons.mp ha with e | e
    · rw [e]
      exact fr_i f o3.1.1.1 j
    · exact fr_i f (List.all_eq_true.mp o2 a e) j
  · rw [← s.2.2.2.1.1]
    exact funext (fun k => fr_i f o3.1.1.2 k)
  · rw [← s.2.2.2.1.2.1]
    exact funext (fun k => fr_i f o3.1.2 k)
  · rw [← s.2.2.2.1.2.2]
    exact funext (fun k => fr_i f o3.2 k)
theorem m_fr (P : PMok PM tB lM) (d : Nat) {h : Hp_} (I : Iv h) {x1 : Int32} (hx : 0 ≤ x1.toInt ∧ x1.toInt ≤ 11) {b : β} (B : PM b h) (r : Nat) (M' : Nat → Int32) (e4 : M' 4 = 0) (e5 : M' 5 = h_i h 206 x1.toNatClampNeg) (e6 : M' 6 = -1) (e7 : M' 7 = -1) (e3 : M' 3 = h_i h 206 x1.toNatClampNeg) : Cv (m_X12_free (d + 0) 0 0) [.ref 1, .int x1] h (fun h' => Mx PM x1.toNatClampNeg (h_i h 1 0) M' r [] (tB x1 (h_i h 1 0) b) h h') := by
  have v := v12 hx
  have b6 := m206 I x1.toNatClampNeg
  have I5 := im213 (im211 (im210 (im209 (im208 I x1.toNatClampNeg 0) x1.toNatClampNeg (h_i h 206 x1.toNatClampNeg) ⟨by omega, b6.2⟩) x1.toNatClampNeg (-1) (by decide)) x1.toNatClampNeg (-1)) x1.toNatClampNeg (-1) (by decide)
  have B5 := P.1 _ _ 213 x1.toNatClampNeg (-1) (Or.inl (by decide)) (P.1 _ _ 211 x1.toNatClampNeg (-1) (Or.inl (by decide)) (P.1 _ _ 210 x1.toNatClampNeg (-1) (Or.inl (by decide)) (P.1 _ _ 209 x1.toNatClampNeg (h_i h 206 x1.toNatClampNeg) (Or.inl (by decide)) (P.1 b h 208 x1.toNatClampNeg 0 (Or.inl (by decide)) B))))
  have G5 : Gmm x1.toNatClampNeg h (h_im (h_im (h_im (h_im (h_im h 208 x1.toNatClampNeg 0) 209 x1.toNatClampNeg (h_i h 206 x1.toNatClampNeg)) 210 x1.toNatClampNeg (-1)) 211 x1.toNatClampNeg (-1)) 213 x1.toNatClampNeg (-1)) := (((((Gmm.rf _ _).imj (by decide +kernel)).imj (by decide +kernel)).imj (by decide +kernel)).imj (by decide +kernel)).imj (by decide +kernel)
  have q8 : h_i (h_im (h_im (h_im (h_im (h_im h 208 x1.toNatClampNeg 0) 209 x1.toNatClampNeg (h_i h 206 x1.toNatClampNeg)) 210 x1.toNatClampNeg (-1)) 211 x1.toNatClampNeg (-1)) 213 x1.toNatClampNeg (-1)) 208 x1.toNatClampNeg = 0 := by rw [im_ne (by decide), im_ne (by decide), im_ne (by decide), im_ne (by decide), im_at]
  have q9 : h_i (h_im (h_im (h_im (h_im (h_im h 208 x1.toNatClampNeg 0) 209 x1.toNatClampNeg (h_i h 206 x1.toNatClampNeg)) 210 x1.toNatClampNeg (-1)) 211 x1.toNatClampNeg (-1)) 213 x1.toNatClampNeg (-1)) 209 x1.toNatClampNeg = h_i h 206 x1.toNatClampNeg := by rw [im_ne (by decide), im_ne (by decide), im_ne (by decide), im_at]
  have q10 : h_i (h_im (h_im (h_im (h_im (h_im h 208 x1.toNatClampNeg 0) 209 x1.toNatClampNeg (h_i h 206 x1.toNatClampNeg)) 210 x1.toNatClampNeg (-1)) 211 x1.toNatClampNeg (-1)) 213 x1.toNatClampNeg (-1)) 210 x1.toNatClampNeg = -1 := by rw [im_ne (by decide), im_ne (by decide), im_at]
  have q11 : h_i (h_im (h_im (h_im (h_im (h_im h 208 x1.toNatClampNeg 0) 209 x1.toNatClampNeg (h_i h 206 x1.toNatClampNeg)) 210 x1.toNatClampNeg (-1)) 211 x1.toNatClampNeg (-1)) 213 x1.toNatClampNeg (-1)) 211 x1.toNatClampNeg = -1 := by rw [im_ne (by decide), im_at]
  have qo : ∀ a, a ≠ 208 → a ≠ 209 → a ≠ 210 → a ≠ 211 → a ≠ 213 → h_i (h_im (h_im (h_im (h_im (h_im h 208 x1.toNatClampNeg 0) 209 x1.toNatClampNeg (h_i h 206 x1.toNatClampNeg)) 210 x1.toNatClampNeg (-1)) 211 x1.toNatClampNeg (-1)) 213 x1.toNatClampNeg (-1)) a = h_i h a := fun a n1 n2 n3 n4 n5 => by rw [im_oth n5, im_oth n4, im_oth n3, im_oth n2, im_oth n1]
  refine t_X12_free d h I.1 x1 _ ⟨v, v, v, v, v, v, ?_⟩
  generalize h_im (h_im (h_im (h_im (h_im h 208 x1.toNatClampNeg 0) 209 x1.toNatClampNeg (h_i h 206 x1.toNatClampNeg)) 210 x1.toNatClampNeg (-1)) 211 x1.toNatClampNeg (-1)) 213 x1.toNatClampNeg (-1) = g at *
  have g0 : h_i g 1 0 = h_i h 1 0 := by rw [qo 1 (by decide) (by decide) (by decide) (by decide) (by decide)]
  have s : Mx PM x1.toNatClampNeg (h_i h 1 0) M' r [] b h g := ⟨I5, G5, ⟨⟨by rw [q8, e4], by rw [q9, e5], by rw [q10, e6], by rw [q11, e7]⟩, fun y => absurd (e4.symm.trans y) (by decide), fun y => absurd (e4.symm.trans y) (by decide), by rw [qo 206 (by decide) (by decide) (by decide) (by decide) (by decide), e3]⟩, ⟨qo 241 (by decide) (by decide) (by decide) (by decide) (by decide), qo 242 (by decide) (by decide) (by decide) (by decide) (by decide), qo 243 (by decide) (by decide) (by decide) (by decide) (by decide)⟩, B5⟩
  have z := P.2.2.1 d b g x1 I5 hx B5
  rw [g0] at z
  exact AW.mono z (fun w h' k => ⟨k.1, s.fr k.2.1 k.2.2.1 k.2.2.2 (by decide +kernel) (by decide +kernel) (by decide +kernel)⟩)
/-- a store into the man himself -/
theorem Mx.imj (P : PMok PM tB lM) {j a : Nat} {n : Int32} {M M' : Nat → Int32} {r : Nat} {E : List Ev2} {b : β} {h h1 : Hp_} {x : Int32} (s : Mx PM j n M r E b h h1) (I : Iv (h_im h1 a j x)) (ha : 208 ≤ a ∧ a ≤ 219) (w : inw mwR a 999 = true) (R : RMp j M' (h_im h1 a j x)) : Mx PM j n M' r E b h (h_im h1 a j x) := ⟨I, s.2.1.imj w, R, ⟨by rw [im_oth (by omega)]; exact s.2.2.2.1.1, by rw [im_oth (by omega)]; exact s.2.2.2.1.2.1, by rw [im_oth (by omega)]; exact s.2.2.2.1.2.2⟩, P.1 _ _ _ _ _ (Or.inl ha) s.2.2.2.2⟩
theorem m_gh (P : PMok PM tB lM) (d : Nat) {h : Hp_} (I : Iv h) (X : ExP h) {x1 : Int32} (hx : 0 ≤ x1.toInt ∧ x1.toInt ≤ 11) {M : Nat → Int32} (R : RMp x1.toNatClampNeg M h) {b : β} (B : PM b h) (p : 0 ≤ (M 5).toInt) (p6 : M 6 = -1) (n0 : M 0 = x1) (r : Nat) : Cv (m_X12_goHome (d + 2) 0 0) [.ref 1, .int x1] h (fun h' => Mx PM x1.toNatClampNeg (h_i h 1 0) (fHome (h_i h 1 0) (wI h) M) r [] (fB tB (h_i h 1 0) (fHome (h_i h 1 0) (wI h) M) b) h h') := by
  have v := v12 hx
  have b6 := m206 I x1.toNatClampNeg
  have b9 := m209 I x1.toNatClampNeg
  have t0 : (0 : Int32).toInt = 0 := rfl
  have I3 := im211 (im213 (im208 I x1.toNatClampNeg 2) x1.toNatClampNeg (-1) (by decide)) x1.toNatClampNeg (-1)
  have B3 := P.1 _ _ 211 x1.toNatClampNeg (-1) (Or.inl (by decide)) (P.1 _ _ 213 x1.toNatClampNeg (-1) (Or.inl (by decide)) (P.1 b h 208 x1.toNatClampNeg 2 (Or.inl (by decide)) B))
  have G3 : Gmm x1.toNatClampNeg h (h_im (h_im (h_im h 208 x1.toNatClampNeg 2) 213 x1.toNatClampNeg (-1)) 211 x1.toNatClampNeg (-1)) := (((Gmm.rf _ _).imj (by decide +kernel)).imj (by decide +kernel)).imj (by decide +kernel)
  have R3 : RMp x1.toNatClampNeg (up1 (up1 M 4 2) 7 (-1)) (h_im (h_im (h_im h 208 x1.toNatClampNeg 2) 213 x1.toNatClampNeg (-1)) 211 x1.toNatClampNeg (-1)) := by
    refine ⟨⟨?_, ?_, ?_, ?_⟩, fun y => absurd (show (2 : Int32) = 1 from y) (by decide), fun y => absurd (show (2 : Int32) = 3 from y) (by decide), ?_⟩
    · rw [im_ne (by decide), im_ne (by decide), im_at]
      rfl
    · rw [im_ne (by decide), im_ne (by decide), im_ne (by decide)]
      exact R.1.2.1
    · rw [im_ne (by decide), im_ne (by decide), im_ne (by decide)]
      exact R.1.2.2.1
    · rw [im_at]
      rfl
    · rw [im_ne (by decide), im_ne (by decide), im_ne (by decide)]
      exact R.2.2.2
  have qo : ∀ a, a ≠ 208 → a ≠ 213 → a ≠ 211 → h_i (h_im (h_im (h_im h 208 x1.toNatClampNeg 2) 213 x1.toNatClampNeg (-1)) 211 x1.toNatClampNeg (-1)) a = h_i h a := fun a n1 n2 n3 => by rw [im_oth n3, im_oth n2, im_oth n1]
  have s : Mx PM x1.toNatClampNeg (h_i h 1 0) (up1 (up1 M 4 2) 7 (-1)) r [] b h (h_im (h_im (h_im h 208 x1.toNatClampNeg 2) 213 x1.toNatClampNeg (-1)) 211 x1.toNatClampNeg (-1)) := ⟨I3, G3, R3, ⟨qo 241 (by decide) (by decide) (by decide), qo 242 (by decide) (by decide) (by decide), qo 243 (by decide) (by decide) (by decide)⟩, B3⟩
  have e206 := R.2.2.2
  have e209 := R.1.2.1
  refine t_X12_goHome d h I.1 x1 _ ⟨v, v, v, v, v, ?_⟩
  generalize h_im (h_im (h_im h 208 x1.toNatClampNeg 2) 213 x1.toNatClampNeg (-1)) 211 x1.toNatClampNeg (-1) = g at *
  have gk := G3.k
  rw [e206] at b6
  rw [e209] at b9
  rw [e206, e209]
  have W := c_woI d I3 (gk.2.2.2.2.2 X) (M 5) (M 3) ⟨p, by omega⟩ ⟨by omega, by omega⟩
  rw [gk.1] at W
  refine Ci.mono W (fun r8 h6 k => ?_)
  obtain ⟨I6, F6, er⟩ := k
  subst er
  have B6 : PM b h6 := P.2.1 b g h6 F6 B3
  have s6 : Mx PM x1.toNatClampNeg (h_i h 1 0) (up1 (up1 M 4 2) 7 (-1)) r [] b h h6 := s.fr I6 F6 B6 (by decide +kernel) (by decide +kernel) (by decide +kernel)
  have k6 := s6.2.1.k
  have h206 : h_i h6 206 x1.toNatClampNeg = M 3 := s6.2.2.1.2.2.2
  have fr : ¬ 0 < wI h (M 5) (M 3) → Cv (m_X12_free (d + 0) 0 0) [.ref 1, .int x1] h6 (fun h10 => Wf h10 ∧ Mx PM x1.toNatClampNeg (h_i h 1 0) (fHome (h_i h 1 0) (wI h) M) r [] (fB tB (h_i h 1 0) (fHome (h_i h 1 0) (wI h) M) b) h h10) := fun y => by
    have f : fHome (h_i h 1 0) (wI h) M = fFree (up1 (up1 M 4 2) 5 (M 3)) := by
      unfold fHome
      rw [if_neg y]
    have z0 : fFree (up1 (up1 M 4 2) 5 (M 3)) 4 = 0 := by
      unfold fFree
      rw [up1_ne (by decide), up1_at]
    have z1 : fFree (up1 (up1 M 4 2) 5 (M 3)) 0 = x1 := by
      rw [fFree_k (by decide) (by decide), up1_ne (by decide), up1_ne (by decide), n0]
    have fb : fB tB (h_i h 1 0) (fFree (up1 (up1 M 4 2) 5 (M 3))) b = tB x1 (h_i h 1 0) b := by
      unfold fB
      rw [if_pos z0, z1]
    rw [f, fb]
    have z := m_fr P d I6 hx B6 r (fFree (up1 (up1 M 4 2) 5 (M 3))) z0 (by rw [fFree_k (by decide) (by decide), up1_at, h206]) (by rw [fFree_k (by decide) (by decide), up1_ne (by decide), up1_ne (by decide)]; exact p6) (by unfold fFree; rw [up1_at]) (by rw [fFree_k (by decide) (by decide), up1_ne (by decide), up1_ne (by decide), h206])
    rw [k6.2.1] at z
    exact Cv.mono z (fun h10 k => ⟨k.1.1, s6.tr k rfl⟩)
  refine ⟨I6.1, fun e1 => fr (by rw [e1]; decide), fun n1 => ⟨fun nz => ⟨v, ?_⟩, fun e0 => fr (by rw [e0]; decide)⟩⟩
  have y : 0 < wI h (M 5) (M 3) := by
    rcases wI_p I X (M 5) (M 3) with q | q
    · exact absurd q n1
    · refine q_lt.mpr ?_
      rcases Int.lt_or_le 0 (wI h (M 5) (M 3)).toInt with u | u
      · omega
      · exact absurd (Int32.toInt_inj.mp (by omega)) nz
  have f : fHome (h_i h 1 0) (wI h) M = sOut (h_i h 1 0) (wI h (M 5) (M 3)) (M 3) (up1 M 4 2) := by
    unfold fHome
    rw [if_pos y]
  have f7 : sOut (h_i h 1 0) (wI h (M 5) (M 3)) (M 3) (up1 (up1 M 4 2) 7 (-1)) = sOut (h_i h 1 0) (wI h (M 5) (M 3)) (M 3) (up1 M 4 2) := by
    funext k
    unfold sOut
    by_cases a5 : k = 5
    · rw [a5, up1_at, up1_at]
    · rw [up1_ne a5, up1_ne a5]
      by_cases a7 : k = 7
      · rw [a7, up1_at, up1_at]
      · rw [up1_ne a7, up1_ne a7]
        by_cases a6 : k = 6
        · rw [a6, up1_at, up1_at]
        · rw [up1_ne a6, up1_ne a6, up1_ne a7]
  have fb : fB tB (h_i h 1 0) (sOut (h_i h 1 0) (wI h (M 5) (M 3)) (M 3) (up1 M 4 2)) b = b := by
    unfold fB
    rw [sOut_k (by decide) (by decide) (by decide), up1_at, if_neg (by decide)]
  rw [h206, f, fb]
  have u5 : up1 (up1 M 4 2) 7 (-1) 5 = M 5 := by rw [up1_ne (by decide), up1_ne (by decide)]
  have z := m_so P d I6 (k6.2.2.2.2.2 X) hx s6.2.2.1 B6 (M 3) (by rw [u5]; exact p) ⟨by omega, by omega⟩ r (by rw [u5, k6.1]; exact n1)
  rw [u5, k6.1, k6.2.1, if_pos y, f7] at z
  exact Cv.mono z (fun h15 k => ⟨k.1.1, s6.tr k rfl⟩)
end MEN
/-! walks: who can reach whom -/
theorem wkq_1 {E : Nat → Nat × Nat × Int} {n i : Nat} (hi : i < n) : wkq E n (E i).1 1 (E i).2.1 (E i).2.2 ∧ wkq E n (E i).2.1 1 (E i).1 (E i).2.2 := ⟨⟨i, hi, Or.inl ⟨rfl, rfl, Int.sub_self _⟩⟩, ⟨i, hi, Or.inr ⟨rfl, rfl, Int.sub_self _⟩⟩⟩
theorem wkq_rv {E : Nat → Nat × Nat × Int} {n u : Nat} : ∀ (k v : Nat) (t : Int), wkq E n u k v t → ∃ k' t', wkq E n v k' u t'
  | 0, v, t, h => by
    have h' : v = u ∧ t = 0 := h
    exact ⟨0, 0, h'.1.symm, rfl⟩
  | k + 1, v, t, ⟨i, hi, h⟩ => by
    have e := wkq_1 (E := E) hi
    rcases h with ⟨a, b⟩ | ⟨a, b⟩
    · obtain ⟨k', t', z⟩ := wkq_rv k _ _ b
      rw [a]
      exact ⟨_, _, wkq_cc e.2 k' _ _ z⟩
    · obtain ⟨k', t', z⟩ := wkq_rv k _ _ b
      rw [a]
      exact ⟨_, _, wkq_cc e.1 k' _ _ z⟩
theorem Exr.cn {E : Nat → Nat × Nat × Int} {n u : Nat} {B : Int} {d : Nat → Int} (x : Exr E n B u d) (e : Ev E n) (hB : 1000 < B) : ∀ (k v : Nat) (t : Int), v < 16 → wkq E n u k v t → d v < B
  | 0, v, t, hv, h => by
    have q := (x v hv).2.1 0 t h
    have h' : v = u ∧ t = 0 := h
    omega
  | k + 1, v, t, hv, ⟨i, hi, h⟩ => by
    have ei := e i hi
    have fe := x.fe e i hi
    rcases h with ⟨a, b⟩ | ⟨a, b⟩
    · have ih := x.cn e hB k _ _ ei.1.1 b
      have l := x.le e ei.1.1 ih
      rw [a]
      omega
    · have ih := x.cn e hB k _ _ ei.1.2 b
      have l := x.le e ei.1.2 ih
      rw [a]
      omega
theorem wkq_t {E : Nat → Nat × Nat × Int} {n u : Nat} (e : Ev E n) : ∀ (k v : Nat) (t : Int), wkq E n u k v t → (k : Int) ≤ t
  | 0, v, t, h => by
    have h' : v = u ∧ t = 0 := h
    omega
  | k + 1, v, t, ⟨i, hi, h⟩ => by
    have ei := e i hi
    rcases h with ⟨_, b⟩ | ⟨_, b⟩
    · have ih := wkq_t e k _ _ b
      omega
    · have ih := wkq_t e k _ _ b
      omega
/-- there is a walk from a to b -/
noncomputable def Wy (h : Hp_) (a b : Int32) : Prop := (0 ≤ a.toInt ∧ a.toInt < 16) ∧ (0 ≤ b.toInt ∧ b.toInt < 16) ∧ ∃ k t, wkq (eE h) (eN h) a.toNatClampNeg k b.toNatClampNeg t
theorem wI_y {h : Hp_} (I : Iv h) (X : ExP h) {a b : Int32} : ¬ wI h a b = -1 ↔ Wy h a b := by
  constructor
  · intro n
    rcases wI_p I X a b with q | q
    · exact absurd q n
    · refine ⟨q.2.2.1, q.2.2.2.1, ?_⟩
      have na := n_nat q.2.2.1.1
      have nb := n_nat q.2.2.2.1.1
      have e := q.2.2.2.2
      unfold wX at e
      split at e
      · rename_i c
        obtain ⟨k, w⟩ := (X.2 a.toNatClampNeg c.1 b.toNatClampNeg c.2.1).2.2 c.2.2
        exact ⟨k, _, w⟩
      · cases e
  · intro y e
    obtain ⟨p1, p2, k, t, w⟩ := y
    have na := n_nat p1.1
    have nb := n_nat p2.1
    have l := (X.2 a.toNatClampNeg (by omega)).cn (ev_ I X.1) (by decide) k b.toNatClampNeg t (by omega) w
    have q := (wI_X (h := h) p1 p2).1 (dX h a.toNatClampNeg b.toNatClampNeg) (by
      unfold wX
      rw [if_pos ⟨by omega, by omega, l⟩])
    have z := (X.2 a.toNatClampNeg (by omega) b.toNatClampNeg (by omega)).1.1
    rw [e] at q
    have tm : (-1 : Int32).toInt = -1 := rfl
    omega
theorem Wy.s {h : Hp_} {a b : Int32} (y : Wy h a b) : Wy h b a := by
  obtain ⟨p1, p2, k, t, w⟩ := y
  obtain ⟨k', t', w'⟩ := wkq_rv k _ _ w
  exact ⟨p2, p1, k', t', w'⟩
theorem Wy.t {h : Hp_} {a b c : Int32} (y : Wy h a b) (z : Wy h b c) : Wy h a c := by
  obtain ⟨p1, _, k, t, w⟩ := y
  obtain ⟨_, p3, k', t', w'⟩ := z
  exact ⟨p1, p3, _, _, wkq_cc w k' _ _ w'⟩
theorem Wy.r {h : Hp_} {a : Int32} (p : 0 ≤ a.toInt ∧ a.toInt < 16) : Wy h a a := ⟨p, p, 0, 0, rfl, rfl⟩
theorem wI_z {h : Hp_} (I : Iv h) (X : ExP h) {a b : Int32} (e0 : wI h a b = 0) : a = b := by
  rcases wI_p I X a b with q | q
  · rw [q] at e0
    exact absurd e0 (by decide)
  · have na := n_nat q.2.2.1.1
    have nb := n_nat q.2.2.2.1.1
    have e := q.2.2.2.2
    have t0 : (0 : Int32).toInt = 0 := rfl
    rw [e0] at e
    unfold wX at e
    split at e
    · rename_i c
      have e := Option.some.inj e
      obtain ⟨k, w⟩ := (X.2 a.toNatClampNeg c.1 b.toNatClampNeg c.2.1).2.2 c.2.2
      have l := wkq_t (ev_ I X.1) k _ _ w
      have k0 : k = 0 := by omega
      rw [k0] at w
      have w' : b.toNatClampNeg = a.toNatClampNeg ∧ dX h a.toNatClampNeg b.toNatClampNeg = 0 := w
      exact Int32.toInt_inj.mp (by omega)
    · cases e
theorem wI_tr {h : Hp_} (I : Iv h) (X : ExP h) {a p q : Int32} (y : ¬ wI h a p = -1) (z : ¬ wI h a q = -1) : ¬ wI h p q = -1 := (wI_y I X).mpr (((wI_y I X).mp y).s.t ((wI_y I X).mp z))
theorem wI_t2 {h : Hp_} (I : Iv h) (X : ExP h) {a p q : Int32} (y : ¬ wI h a p = -1) (z : ¬ wI h p q = -1) : ¬ wI h a q = -1 := (wI_y I X).mpr (((wI_y I X).mp y).t ((wI_y I X).mp z))
theorem wI_r {h : Hp_} (I : Iv h) (X : ExP h) {a : Int32} (p : 0 ≤ a.toInt ∧ a.toInt ≤ 15) : ¬ wI h a a = -1 := (wI_y I X).mpr (Wy.r ⟨p.1, by omega⟩)
end
section
/-! MEN, the reference: one who is drawn; points; steps -/
theorem fHome_7 {n x : Int32} {w : Int32 → Int32 → Int32} {M : Nat → Int32} : fHome n w (up1 M 7 x) = fHome n w M := by
  have u5 : up1 M 7 x 5 = M 5 := up1_ne (by decide)
  have u3 : up1 M 7 x 3 = M 3 := up1_ne (by decide)
  unfold fHome
  rw [u5, u3]
  funext k
  split
  · unfold sOut
    by_cases a5 : k = 5
    · rw [a5, up1_at, up1_at]
    · rw [up1_ne a5, up1_ne a5]
      by_cases a7 : k = 7
      · rw [a7, up1_at, up1_at]
      · rw [up1_ne a7, up1_ne a7]
        by_cases a6 : k = 6
        · rw [a6, up1_at, up1_at]
        · rw [up1_ne a6, up1_ne a6]
          by_cases a4 : k = 4
          · rw [a4, up1_at, up1_at]
          · rw [up1_ne a4, up1_ne a4, up1_ne a7]
  · unfold fFree
    by_cases a7 : k = 7
    · rw [a7, up1_at, up1_at]
    · rw [up1_ne a7, up1_ne a7]
      by_cases a4 : k = 4
      · rw [a4, up1_at, up1_at]
      · rw [up1_ne a4, up1_ne a4]
        by_cases a5 : k = 5
        · rw [a5, up1_at, up1_at]
        · rw [up1_ne a5, up1_ne a5, up1_ne a4, up1_ne a4, up1_ne a7]
theorem sOut_7 {n m p x : Int32} {M : Nat → Int32} : sOut n m p (up1 M 7 x) = sOut n m p M := by
  funext k
  unfold sOut
  by_cases a5 : k = 5
  · rw [a5, up1_at, up1_at]
  · rw [up1_ne a5, up1_ne a5]
    by_cases a7 : k = 7
    · rw [a7, up1_at, up1_at]
    · rw [up1_ne a7, up1_ne a7]
      by_cases a6 : k = 6
      · rw [a6, up1_at, up1_at]
      · rw [up1_ne a6, up1_ne a6, up1_ne a7]
theorem nm_ {a b : Nat} (ha : a ∈ 206 :: mrL) (hb : b ∉ 206 :: mrL) : a ≠ b := fun e => hb (e ▸ ha)
theorem RMp.im {j a k : Nat} {M : Nat → Int32} {h : Hp_} {x : Int32} (R : RMp j M h) (n : a ∉ 206 :: mrL) : RMp j M (h_im h a k x) := R.cg (fun b hb => im_ne (nm_ hb n))
theorem RMp.i7 {j : Nat} {M : Nat → Int32} {h : Hp_} {x : Int32} (R : RMp j M h) : RMp j (up1 M 7 x) (h_im h 211 j x) := by
  refine ⟨⟨?_, ?_, ?_, ?_⟩, fun e => ?_, fun e => ?_, ?_⟩
  · rw [im_ne (by decide), up1_ne (by decide)]
    exact R.1.1
  · rw [im_ne (by decide), up1_ne (by decide)]
    exact R.1.2.1
  · rw [im_ne (by decide), up1_ne (by decide)]
    exact R.1.2.2.1
  · rw [im_at, up1_at]
  · rw [up1_ne (by decide)] at e
    have q := R.2.1 e
    rw [im_ne (by decide), im_ne (by decide), im_ne (by decide), im_ne (by decide), im_ne (by decide), up1_ne (by decide), up1_ne (by decide), up1_ne (by decide), up1_ne (by decide), up1_ne (by decide)]
    exact q
  · rw [up1_ne (by decide)] at e
    have q := R.2.2.1 e
    rw [im_ne (by decide), im_ne (by decide), up1_ne (by decide), up1_ne (by decide)]
    exact q
  · rw [im_ne (by decide), up1_ne (by decide)]
    exact R.2.2.2
theorem RMp.i9 {j : Nat} {M : Nat → Int32} {h : Hp_} {x : Int32} (R : RMp j M h) : RMp j (up1 M 9 x) (h_im h 213 j x) := by
  refine ⟨⟨?_, ?_, ?_, ?_⟩, fun e => ?_, fun e => ?_, ?_⟩
  · rw [im_ne (by decide), up1_ne (by decide)]
    exact R.1.1
  · rw [im_ne (by decide), up1_ne (by decide)]
    exact R.1.2.1
  · rw [im_ne (by decide), up1_ne (by decide)]
    exact R.1.2.2.1
  · rw [im_ne (by decide), up1_ne (by decide)]
    exact R.1.2.2.2
  · rw [up1_ne (by decide)] at e
    have q := R.2.1 e
    rw [im_ne (by decide), im_at, im_ne (by decide), im_ne (by decide), im_ne (by decide), up1_ne (by decide), up1_at, up1_ne (by decide), up1_ne (by decide), up1_ne (by decide)]
    exact ⟨q.1, rfl, q.2.2⟩
  · rw [up1_ne (by decide)] at e
    have q := R.2.2.1 e
    rw [im_ne (by decide), im_ne (by decide), up1_ne (by decide), up1_ne (by decide)]
    exact q
  · rw [im_ne (by decide), up1_ne (by decide)]
    exact R.2.2.2
theorem RMp.row {j : Nat} {M : Nat → Int32} {h : Hp_} {e : Ev2} (R : RMp j M h) (e4 : M 4 = 1) : RMp j (sRow e M) (h_im h 216 j (M 11 + 1)) := by
  have q := R.2.1 e4
  refine ⟨⟨?_, ?_, ?_, ?_⟩, fun _ => ?_, fun z => ?_, ?_⟩
  · rw [im_ne (by decide), sRow_k (by decide) (by decide) (by decide)]
    exact R.1.1
  · rw [im_ne (by decide), sRow_k (by decide) (by decide) (by decide)]
    exact R.1.2.1
  · rw [im_ne (by decide), sRow_k (by decide) (by decide) (by decide)]
    exact R.1.2.2.1
  · rw [im_ne (by decide), sRow_k (by decide) (by decide) (by decide)]
    exact R.1.2.2.2
  · rw [im_ne (by decide), im_ne (by decide), im_ne (by decide), im_at, im_ne (by decide), sRow_11, sRow_k (by decide) (by decide) (by decide), sRow_k (by decide) (by decide) (by decide), sRow_k (by decide) (by decide) (by decide), sRow_k (by decide) (by decide) (by decide)]
    exact ⟨q.1, q.2.1, q.2.2.1, rfl, q.2.2.2.2⟩
  · rw [sRow_k (by decide) (by decide) (by decide), e4] at z
    exact absurd z (by decide)
  · rw [im_ne (by decide), sRow_k (by decide) (by decide) (by decide)]
    exact R.2.2.2
/-- a step that takes no time leaves him where he is -/
theorem fOne_n {n : Int32} {w : Int32 → Int32 → Int32} {x : Sp3} {M : Nat → Int32} (t : (fOne n w x M).1 = false) : (fOne n w x M).2.1 5 = M 5 ∧ (fOne n w x M).2.1 6 = M 6 ∧ (fOne n w x M).2.1 7 = M 7 := by
  unfold fOne at t ⊢
  split at t
  · cases t
  · rename_i c1
    rw [if_neg c1]
    split at t
    · cases t
    · rename_i c3
      rw [if_neg c3]
      split at t
      · cases t
      · rename_i cw
        rw [if_neg cw]
        split at t
        · rename_i c2
          rw [if_pos c2]
          split at t
          · rename_i cm
            rw [if_pos cm]
            show sRow (2, 2) M 5 = M 5 ∧ sRow (2, 2) M 6 = M 6 ∧ sRow (2, 2) M 7 = M 7
            exact ⟨sRow_k (by decide) (by decide) (by decide), sRow_k (by decide) (by decide) (by decide), sRow_k (by decide) (by decide) (by decide)⟩
          · rename_i cm
            rw [if_neg cm]
            show (fPt n (M 10 + x.2.2) M).2.1 5 = M 5 ∧ (fPt n (M 10 + x.2.2) M).2.1 6 = M 6 ∧ (fPt n (M 10 + x.2.2) M).2.1 7 = M 7
            have t : (fPt n (M 10 + x.2.2) M).1 = false := t
            refine ⟨fPt_k (by decide) (by decide) (by decide) (by decide), fPt_k (by decide) (by decide) (by decide) (by decide), ?_⟩
            unfold fPt at t ⊢
            split at t
            · rename_i c
              rw [if_pos c]
              split at t
              · rename_i c'
                rw [if_pos c']
                show sRow (1, -1) M 7 = M 7
                exact sRow_k (by decide) (by decide) (by decide)
              · cases t
            · rename_i c
              rw [if_neg c]
              show sRow (2, 1) M 7 = M 7
              exact sRow_k (by decide) (by decide) (by decide)
        · rename_i c2
          rw [if_neg c2]
          exact ⟨rfl, rfl, rfl⟩
theorem fOne_m {n : Int32} {w : Int32 → Int32 → Int32} {x : Sp3} {M : Nat → Int32} {m : Nat} (r0 : 0 ≤ (M 11).toInt) (r4 : (M 11).toInt + (((if x.1 = 2 then 1 else 0) + m : Nat) : Int) ≤ 400) (t : (fOne n w x M).1 = false) : ((fOne n w x M).2.1 11).toNatClampNeg = (M 11).toNatClampNeg + (fOne n w x M).2.2.length ∧ 0 ≤ ((fOne n w x M).2.1 11).toInt ∧ ((fOne n w x M).2.1 11).toInt + (m : Int) ≤ 400 := by
  rcases fOne_11 (n := n) (w := w) (x := x) (M := M) with ⟨a, b, c⟩ | ⟨a, b, c⟩
  · have c := c t
    rw [if_neg c] at r4
    refine ⟨by rw [a, b]; rfl, by rw [b]; exact r0, by rw [b]; omega⟩
  · rw [if_pos a] at r4
    have q := row_n (x := M 11) r0 (by omega)
    refine ⟨by rw [b, c]; exact q.1, by rw [c]; omega, by rw [c]; omega⟩
section MEN
variable {β : Type} {PM : β → Hp_ → Prop} {tB : Int32 → Int32 → β → β} {lM : Nat → Hp_ → β → β}
theorem m_st (P : PMok PM tB lM) (d : Nat) {h : Hp_} (I : Iv h) (X : ExP h) {x1 : Int32} (hx : 0 ≤ x1.toInt ∧ x1.toInt ≤ 11) {M : Nat → Int32} (R : RMp x1.toNatClampNeg M h) {b : β} (B : PM b h) (p : 0 ≤ (M 5).toInt) (p6 : M 6 = -1) (n0 : M 0 = x1) (e4 : M 4 = 3) (r : Nat) (F : Nat → Int32) (hF : F = if h_i h 1 0 < M 14 then up1 M 7 (M 14) else fHome (h_i h 1 0) (wI h) M) : Cv (m_X12_stay (d + 3) 0 0) [.ref 1, .int x1] h (fun h' => Mx PM x1.toNatClampNeg (h_i h 1 0) F r [] (fB tB (h_i h 1 0) F b) h h') := by
  have v := v12 hx
  have e19 := (R.2.2.1 e4).2
  have Tt := t_X12_stay d h I.1 x1
  rw [e19] at Tt
  refine Tt _ ⟨v, fun y => ⟨v, v, ?_⟩, fun n => ?_⟩
  · rw [if_pos y] at hF
    have fb : fB tB (h_i h 1 0) F b = b := by
      unfold fB
      rw [hF, up1_ne (by decide), e4, if_neg (by decide)]
    rw [fb, hF]
    exact (Mx.rf I R B).imj P (im211 I _ _) (by decide) (by decide +kernel) R.i7
  · rw [if_neg n] at hF
    rw [hF]
    exact Cv.mono (m_gh P d I X hx R B p p6 n0 r) (fun h' k => ⟨k.1.1, k⟩)
/-- one drawn who is at a place -/
theorem m_gd (P : PMok PM tB lM) (d : Nat) {h : Hp_} (I : Iv h) (X : ExP h) {x1 : Int32} (hx : 0 ≤ x1.toInt ∧ x1.toInt ≤ 11) {M : Nat → Int32} (R : RMp x1.toNatClampNeg M h) {b : β} (B : PM b h) (p : 0 ≤ (M 5).toInt) (p6 : M 6 = -1) (n0 : M 0 = x1) (e4 : M 4 = 3) (nz : ¬ wI h (M 5) (M 13) = -1) (z0 : wI h (M 5) (M 13) = 0 → M 5 = M 13) (r : Nat) : Cv (m_X12_goDrawn (d + 4) 0 0) [.ref 1, .int x1] h (fun h' => Mx PM x1.toNatClampNeg (h_i h 1 0) (fDr (h_i h 1 0) (wI h) M) r [] (fB tB (h_i h 1 0) (fDr (h_i h 1 0) (wI h) M) b) h h') := by
  have v := v12 hx
  have e18 := (R.2.2.1 e4).1
  have b18 := m218 I x1.toNatClampNeg
  rw [e18] at b18
  have Tt := t_X12_goDrawn d h I.1 x1
  rw [e18] at Tt
  have s1 : Mx PM x1.toNatClampNeg (h_i h 1 0) (up1 M 7 (-1)) r [] b h (h_im h 211 x1.toNatClampNeg (-1)) := (Mx.rf I R B).imj P (im211 I _ _) (by decide) (by decide +kernel) R.i7
  have k1 := s1.2.1.k
  have u5 : up1 M 7 (-1) 5 = M 5 := up1_ne (by decide)
  have z := m_so P d s1.1 (k1.2.2.2.2.2 X) hx s1.2.2.1 s1.2.2.2.2 (M 13) (by rw [u5]; exact p) ⟨b18.1, b18.2⟩ r (by rw [u5, k1.1]; exact nz)
  rw [u5, k1.1, k1.2.1] at z
  refine Tt _ ⟨v, v, Cv.mono z (fun h3 k => ?_)⟩
  by_cases y : 0 < wI h (M 5) (M 13)
  · rw [if_pos y, sOut_7] at k
    have f : fDr (h_i h 1 0) (wI h) M = sOut (h_i h 1 0) (wI h (M 5) (M 13)) (M 13) M := by
      unfold fDr
      rw [if_pos y]
    have fb : fB tB (h_i h 1 0) (sOut (h_i h 1 0) (wI h (M 5) (M 13)) (M 13) M) b = b := by
      unfold fB
      rw [sOut_k (by decide) (by decide) (by decide), e4, if_neg (by decide)]
    have e10 : h_i h3 210 x1.toNatClampNeg = M 13 := by
      rw [k.2.2.1.1.2.2.1]
      unfold sOut
      rw [up1_ne (by decide), up1_ne (by decide), up1_at]
    refine ⟨k.1.1, v, fun _ => ?_, fun e => ?_⟩
    · rw [f, fb]
      exact s1.tr k rfl
    · rw [e10] at e
      rw [e] at b18
      exact absurd b18.1 (by decide)
  · rw [if_neg y] at k
    have w0 : wI h (M 5) (M 13) = 0 := by
      have t0 : (0 : Int32).toInt = 0 := rfl
      rcases wI_p I X (M 5) (M 13) with q | q
      · exact absurd q nz
      · have y' := q_nlt y
        exact Int32.toInt_inj.mp (by omega)
    have s3 := s1.tr k rfl
    have k3 := s3.2.1.k
    have e10 : h_i h3 210 x1.toNatClampNeg = -1 := by
      rw [k.2.2.1.1.2.2.1, up1_ne (by decide)]
      exact p6
    refine ⟨k.1.1, v, fun n => absurd e10 n, fun _ => ?_⟩
    have f : fDr (h_i h 1 0) (wI h) M = if h_i h 1 0 < M 14 then up1 (up1 M 7 (-1)) 7 (M 14) else fHome (h_i h 1 0) (wI h) (up1 M 7 (-1)) := by
      unfold fDr
      rw [if_neg y, fHome_7]
      by_cases c : h_i h 1 0 < M 14
      · rw [if_pos ⟨z0 w0, c⟩, if_pos c]
        funext k
        by_cases a7 : k = 7
        · rw [a7, up1_at, up1_at]
        · rw [up1_ne a7, up1_ne a7, up1_ne a7]
      · rw [if_neg (fun q => c q.2), if_neg c]
    have q := m_st P d s3.1 (k3.2.2.2.2.2 X) hx s3.2.2.1 s3.2.2.2.2 (by rw [u5]; exact p) (by rw [up1_ne (by decide)]; exact p6) (by rw [up1_ne (by decide)]; exact n0) (by rw [up1_ne (by decide)]; exact e4) r (fDr (h_i h 1 0) (wI h) M) (by
      rw [k3.2.1, k3.1, show up1 M 7 (-1) 14 = M 14 from up1_ne (by decide)]
      exact f)
    rw [k3.2.1] at q
    exact Cv.mono q (fun h8 k8 => ⟨k8.1.1, s3.tr k8 rfl⟩)
/-- he came to a point -/
theorem m_cm (P : PMok PM tB lM) (d : Nat) {h : Hp_} (I : Iv h) {x1 : Int32} (hx : 0 ≤ x1.toInt ∧ x1.toInt ≤ 11) {M : Nat → Int32} (R : RMp x1.toNatClampNeg M h) {b : β} (B : PM b h) (e4 : M 4 = 1) (x2 : Int32) (r0 : 0 ≤ (M 11).toInt ∧ (M 11).toInt < 400) : Ci (m_X12_comes (d + 1) 0 0) [.ref 1, .int x1, .int x2] h (fun q h' => q = (if (fPt (h_i h 1 0) (M 10 + x2) M).1 = true then 1 else 0) ∧ Mx PM x1.toNatClampNeg (h_i h 1 0) (fPt (h_i h 1 0) (M 10 + x2) M).2.1 (M 11).toNatClampNeg [(fPt (h_i h 1 0) (M 10 + x2) M).2.2] b h h') := by
  have v := v12 hx
  have q := R.2.1 e4
  have rn := row_n (x := M 11) r0.1 (by omega)
  have vr : vp_in (M 11) 400 := dp_in (lo := 0) (hi := 399) ⟨r0.1, by show _ ≤ (399 : Int); omega⟩ (by decide) (by decide)
  have I1 : Iv (h_im h 216 x1.toNatClampNeg (M 11 + 1)) := im216 I _ _ ⟨by omega, by omega⟩
  have G1 : Gmm x1.toNatClampNeg h (h_im h 216 x1.toNatClampNeg (M 11 + 1)) := (Gmm.rf _ _).imj (by decide +kernel)
  have B1 : PM b (h_im h 216 x1.toNatClampNeg (M 11 + 1)) := P.1 _ _ _ _ _ (Or.inl (by decide)) B
  have Tt := t_X12_comes d h I.1 x1 x2
  rw [q.2.2.1, q.2.2.2.1] at Tt
  refine Tt _ ⟨v, v, v, v, fun y => ⟨vr, fun z => ?_, fun z => ⟨v, ?_⟩⟩, fun y => t_X12_miss d _ I1.1 (M 11) 1 _ ⟨vr, vr, ?_⟩⟩
  · have fo : fPt (h_i h 1 0) (M 10 + x2) M = (false, sRow (1, -1) M, (1, -1)) := by
      unfold fPt
      rw [if_pos y, if_pos z]
    rw [fo]
    exact ⟨rfl, i24 I1 241 _ _ (Or.inl rfl), G1.imo (by decide +kernel) (by decide), (R.row e4).im (by decide), ⟨by rw [im_row, im_oth (by decide)]; rfl, by rw [im_oth (by decide), im_oth (by decide)]; rfl, by rw [im_oth (by decide), im_oth (by decide)]; rfl⟩, P.1 _ _ _ _ _ (Or.inr (Or.inl (by decide))) B1⟩
  · have fo : fPt (h_i h 1 0) (M 10 + x2) M = (true, up1 (sRow (1, -1) M) 7 (M 10 + x2), (1, -1)) := by
      unfold fPt
      rw [if_pos y, if_neg z]
    rw [fo]
    exact ⟨rfl, im211 (i24 I1 241 _ _ (Or.inl rfl)) _ _, (G1.imo (by decide +kernel) (by decide)).imj (by decide +kernel), ((R.row e4).im (by decide)).i7, ⟨by rw [im_oth (by decide), im_row, im_oth (by decide)]; rfl, by rw [im_oth (by decide), im_oth (by decide), im_oth (by decide)]; rfl, by rw [im_oth (by decide), im_oth (by decide), im_oth (by decide)]; rfl⟩, P.1 _ _ _ _ _ (Or.inl (by decide)) (P.1 _ _ _ _ _ (Or.inr (Or.inl (by decide))) B1)⟩
  · have fo : fPt (h_i h 1 0) (M 10 + x2) M = (false, sRow (2, 1) M, (2, 1)) := by
      unfold fPt
      rw [if_neg y]
    have e0 : h_i (h_im h 216 x1.toNatClampNeg (M 11 + 1)) 1 0 = h_i h 1 0 := im_ne (by decide)
    rw [fo, e0]
    have I3 := i24 (i24 I1 242 (M 11).toNatClampNeg (h_i h 1 0) (Or.inr (Or.inl rfl))) 243 (M 11).toNatClampNeg 1 (Or.inr (Or.inr rfl))
    exact ⟨I3.1, rfl, I3, (G1.imo (by decide +kernel) (by decide)).imo (by decide +kernel) (by decide), ((R.row e4).im (by decide)).im (by decide), ⟨by rw [im_oth (by decide), im_oth (by decide), im_oth (by decide)]; rfl, by rw [im_oth (by decide), im_row, im_oth (by decide)]; rfl, by rw [im_row, im_oth (by decide), im_oth (by decide)]; rfl⟩, P.1 _ _ _ _ _ (Or.inr (Or.inl (by decide))) (P.1 _ _ _ _ _ (Or.inr (Or.inl (by decide))) B1)⟩
/-- the steps of a beat from the i-th on, in the reference -/
noncomputable def Stm (h : Hp_) (b0 : Int32) (i : Nat) (L : List Sp3) : Prop := (0 ≤ b0.toInt ∧ b0.toInt ≤ 11) ∧ i + L.length ≤ 150 ∧ ∀ k x, L[k]? = some x → sB h b0.toNatClampNeg (i + k) = x ∧ stR x
theorem Stm.hd {h : Hp_} {b0 : Int32} {i : Nat} {x : Sp3} {L : List Sp3} (s : Stm h b0 i (x :: L)) : sB h b0.toNatClampNeg i = x ∧ stR x := s.2.2 0 x rfl
theorem Stm.tl {h : Hp_} {b0 : Int32} {i : Nat} {x : Sp3} {L : List Sp3} (s : Stm h b0 i (x :: L)) : Stm h b0 (i + 1) L := ⟨s.1, by
  have q : i + (L.length + 1) ≤ 150 := s.2.1
  omega, fun k y e => by
  have q := s.2.2 (k + 1) y e
  rw [show i + 1 + k = i + (k + 1) by omega]
  exact q⟩
theorem Stm.cg {h h' : Hp_} {b0 : Int32} {i : Nat} {L : List Sp3} (s : Stm h b0 i L) (e : ∀ k, sB h' k = sB h k) : Stm h' b0 i L := ⟨s.1, s.2.1, fun k x q => by rw [e]; exact s.2.2 k x q⟩
theorem mgo_1 (P : PMok PM tB lM) (d : Nat) {h : Hp_} (I : Iv h) (X : ExP h) {x1 : Int32} (hx : 0 ≤ x1.toInt ∧ x1.toInt ≤ 11) {M : Nat → Int32} (R : RMp x1.toNatClampNeg M h) {b : β} (B : PM b h) (e4 : M 4 = 1) (p5 : 0 ≤ (M 5).toInt) (p7 : M 7 = -1) {i : Nat} {x : Sp3} {L : List Sp3} (S : Stm h (M 8) i (x :: L)) (e9 : M 9 = Int32.ofNat i) (e227 : h_i h 227 (M 8).toNatClampNeg = Int32.ofNat (i + (L.length + 1))) (r0 : 0 ≤ (M 11).toInt) (r4 : (M 11).toInt + (if x.1 = 2 then 1 else 0) ≤ 400) (K : Hp_ → Prop)
    (hY : (fOne (h_i h 1 0) (wI h) x M).1 = true → ∀ h', Mx PM x1.toNatClampNeg (h_i h 1 0) (fOne (h_i h 1 0) (wI h) x M).2.1 (M 11).toNatClampNeg (fOne (h_i h 1 0) (wI h) x M).2.2 b h h' → K h')
    (hN : (fOne (h_i h 1 0) (wI h) x M).1 = false → ∀ h', Mx PM x1.toNatClampNeg (h_i h 1 0) (up1 (fOne (h_i h 1 0) (wI h) x M).2.1 9 ((fOne (h_i h 1 0) (wI h) x M).2.1 9 + 1)) (M 11).toNatClampNeg (fOne (h_i h 1 0) (wI h) x M).2.2 b h h' → AW (m_X12_goOn (d + 3) 0 0) 0 0 0 [(0, .ref 1), (1, .int x1)] [] h' (kV K)) : AW (m_X12_goOn (d + 3) 0 0) 0 0 0 [(0, .ref 1), (1, .int x1)] [] h (kV K) := by
  have v := v12 hx
  have q := R.2.1 e4
  have t0 : (0 : Int32).toInt = 0 := rfl
  have t150 : (150 : Int32).toInt = 150 := rfl
  have b8 := S.1
  have sr := S.hd.2
  have ll : i + (L.length + 1) ≤ 150 := S.2.1
  have oi := on_j (n := i) (by omega)
  have ol := on_j (n := i + (L.length + 1)) (by omega)
  have n8 := n_nat b8.1
  have b9 := m209 I x1.toNatClampNeg
  rw [R.1.2.1] at b9
  have m1 : (150 * M 8).toInt = 150 * (M 8).toInt := by rw [tx_mul (by rw [t150]; omega) (by rw [t150]; omega), t150]
  have m2 : (150 * M 8 + Int32.ofNat i).toInt = 150 * (M 8).toInt + (i : Int) := by rw [tx_add (by omega) (by omega), m1, oi]
  have nm := n_nat (x := 150 * M 8 + Int32.ofNat i) (by omega)
  have km : (150 * M 8 + Int32.ofNat i).toNatClampNeg = 150 * (M 8).toNatClampNeg + i := by omega
  have vi : vp_in (150 * M 8 + Int32.ofNat i) 1800 := dp_in (lo := 0) (hi := 1799) ⟨by show (0 : Int) ≤ _; omega, by show _ ≤ (1799 : Int); omega⟩ (by decide) (by decide)
  have v8 : vp_in (M 8) 12 := dp_in (lo := 0) (hi := 11) ⟨b8.1, b8.2⟩ (by decide) (by decide)
  have sb := S.hd.1
  have a8 : h_i h 228 (150 * (M 8).toNatClampNeg + i) = x.1 := congrArg (fun z => z.1) sb
  have a9 : h_i h 229 (150 * (M 8).toNatClampNeg + i) = x.2.1 := congrArg (fun z => z.2.1) sb
  have Tt := t_X12_goOn_0 d h I.1 x1
  rw [R.1.1, e4, q.1, q.2.1, e9, km, e227, a8, a9, R.1.2.1] at Tt
  have s1 : Mx PM x1.toNatClampNeg (h_i h 1 0) M (M 11).toNatClampNeg [] b h (h_im h 211 x1.toNatClampNeg (-1)) := (Mx.rf I R B).imj P (im211 I _ _) (by decide) (by decide +kernel) (by
    have z := R.i7 (x := -1)
    have e : up1 M 7 (-1) = M := funext (fun k => by
      by_cases c : k = 7
      · rw [c, up1_at, p7]
      · rw [up1_ne c])
    rw [e] at z
    exact z)
  have k1 := s1.2.1.k
  have W : 0 ≤ x.2.1.toInt → x.2.1.toInt ≤ 15 → Ci (m_X12_walkOf (d + 0) 0 0) [.ref 1, .int (M 5), .int x.2.1] (h_im h 211 x1.toNatClampNeg (-1)) (fun r h' => Iv h' ∧ Fr [203999] (h_im h 211 x1.toNatClampNeg (-1)) h' ∧ r = wI h (M 5) x.2.1) := fun l1 l2 => by
    have z := c_woI d s1.1 (k1.2.2.2.2.2 X) (M 5) x.2.1 ⟨p5, by omega⟩ ⟨l1, by omega⟩
    rw [k1.1] at z
    exact z
  refine Tt _ ⟨v, fun n => absurd rfl n, fun _ => ⟨v, v, v8, fun _ => ⟨v, v, vi, v, fun y0 => ⟨v, vi, ?_⟩, fun n0 => ⟨fun n2 => ⟨fun n1 => ⟨v, ?_⟩, fun y1 => ⟨vi, v, ?_⟩⟩, fun y2 => ⟨v, vi, ?_⟩⟩⟩, fun e => ?_⟩⟩
  · have n1 : ¬ x.1 = 1 := by rw [y0]; decide
    have n3 : ¬ x.1 = 3 := by rw [y0]; decide
    have p2 : 0 ≤ x.2.1.toInt ∧ x.2.1.toInt ≤ 15 := by
      rcases sr with q | q | q | q
      · exact ⟨q.2.1, q.2.2.1⟩
      · exact absurd q.1 n1
      · exact ⟨q.2.1, q.2.2.1⟩
      · exact absurd q.1 n3
    refine Ci.mono (W p2.1 p2.2) (fun q2 h2 k => ?_)
    obtain ⟨I2, F2, er⟩ := k
    subst er
    have B2 : PM b h2 := P.2.1 b _ h2 F2 s1.2.2.2.2
    have s2 : Mx PM x1.toNatClampNeg (h_i h 1 0) M (M 11).toNatClampNeg [] b h h2 := s1.fr I2 F2 B2 (by decide +kernel) (by decide +kernel) (by decide +kernel)
    have k2 := s2.2.1.k
    have sb2 : sB h2 (M 8).toNatClampNeg i = x := by rw [k2.2.2.2.2.1]; exact sb
    have c9 : h_i h2 229 (150 * (M 8).toNatClampNeg + i) = x.2.1 := congrArg (fun z => z.2.1) sb2
    have c10 : h_i h2 230 (150 * (M 8).toNatClampNeg + i) = x.2.2 := congrArg (fun z => z.2.2) sb2
    have q2 := s2.2.2.1.2.1 e4
    have e13 : h_i h2 213 x1.toNatClampNeg = Int32.ofNat i := q2.2.1.trans e9
    rw [c9, c10, e13, q2.2.2.2.1]
    have b13 : ∀ g, Iv g → Iv (h_im g 213 x1.toNatClampNeg (Int32.ofNat i + 1)) := fun g Ig => by
      rw [on_s (by omega)]
      exact im213 Ig _ _ (by rw [on_j (by omega)]; omega)
    refine ⟨I2.1, fun le => ⟨fun n2 => ⟨fun _ => ⟨v, v, ?_⟩, fun y2 => absurd y2 n2⟩, fun y2 => ⟨fun nmn => ⟨fun n2 => absurd y2 n2, fun _ => ⟨vi, ?_⟩⟩, fun em => ⟨v, ?_⟩⟩⟩, fun gt => ⟨vi, ?_⟩⟩
    · have le := q_le.mp le
      have nw : ¬ 0 < wI h (M 5) x.2.1 := fun z => by have := q_lt.mp z; omega
      have fo : fOne (h_i h 1 0) (wI h) x M = (false, M, []) := by
        unfold fOne
        rw [if_neg n1, if_neg n3, if_neg nw, if_neg n2]
      rw [fo] at hN
      refine hN rfl _ ?_
      show Mx PM x1.toNatClampNeg (h_i h 1 0) (up1 M 9 (M 9 + 1)) (M 11).toNatClampNeg [] b h _
      rw [e9]
      exact s2.imj P (b13 _ I2) (by decide) (by decide +kernel) s2.2.2.1.i9
    · have le := q_le.mp le
      have nw : ¬ 0 < wI h (M 5) x.2.1 := fun z => by have := q_lt.mp z; omega
      have fo : fOne (h_i h 1 0) (wI h) x M = ((fPt (h_i h 1 0) (M 10 + x.2.2) M).1, (fPt (h_i h 1 0) (M 10 + x.2.2) M).2.1, [(fPt (h_i h 1 0) (M 10 + x.2.2) M).2.2]) := by
        unfold fOne
        rw [if_neg n1, if_neg n3, if_neg nw, if_pos y2, if_neg nmn]
      rw [if_pos y2] at r4
      have z := m_cm P d I2 hx s2.2.2.1 B2 e4 x.2.2 ⟨r0, by omega⟩
      rw [k2.2.1] at z
      rw [fo] at hY hN
      refine Ci.mono z (fun q3 h4 k => ?_)
      obtain ⟨eq, k⟩ := k
      have k4 := s2.tr k rfl
      refine ⟨k.1.1, fun e0 => ⟨v, v, ?_⟩, fun ne => hY ?_ _ k4⟩
      · have t : (fPt (h_i h 1 0) (M 10 + x.2.2) M).1 = false := by
          cases z : (fPt (h_i h 1 0) (M 10 + x.2.2) M).1 with
          | true =>
            rw [z, if_pos rfl] at eq
            rw [eq] at e0
            exact absurd e0 (by decide)
          | false => rfl
        refine hN t _ ?_
        have f9 : (fPt (h_i h 1 0) (M 10 + x.2.2) M).2.1 9 = Int32.ofNat i := by rw [fPt_k (by decide) (by decide) (by decide) (by decide)]; exact e9
        have f4 : (fPt (h_i h 1 0) (M 10 + x.2.2) M).2.1 4 = 1 := by rw [fPt_k (by decide) (by decide) (by decide) (by decide)]; exact e4
        have g13 : h_i h4 213 x1.toNatClampNeg = Int32.ofNat i := (k4.2.2.1.2.1 f4).2.1.trans f9
        rw [g13]
        show Mx PM x1.toNatClampNeg (h_i h 1 0) (up1 (fPt (h_i h 1 0) (M 10 + x.2.2) M).2.1 9 ((fPt (h_i h 1 0) (M 10 + x.2.2) M).2.1 9 + 1)) (M 11).toNatClampNeg [(fPt (h_i h 1 0) (M 10 + x.2.2) M).2.2] b h _
        rw [f9]
        exact k4.imj P (b13 _ k4.1) (by decide) (by decide +kernel) k4.2.2.1.i9
      · cases z : (fPt (h_i h 1 0) (M 10 + x.2.2) M).1 with
        | true => rfl
        | false =>
          rw [z, if_neg (by decide)] at eq
          exact absurd eq ne
    · have nw : ¬ 0 < wI h (M 5) x.2.1 := by rw [em]; decide
      have fo : fOne (h_i h 1 0) (wI h) x M = (false, sRow (2, 2) M, [(2, 2)]) := by
        unfold fOne
        rw [if_neg n1, if_neg n3, if_neg nw, if_pos y2, if_pos em]
      rw [if_pos y2] at r4
      rw [fo] at hN
      have vr : vp_in (M 11) 400 := dp_in (lo := 0) (hi := 399) ⟨r0, by show _ ≤ (399 : Int); omega⟩ (by decide) (by decide)
      have I3 := i24 (i24 I2 242 (M 11).toNatClampNeg (h_i h2 1 0) (Or.inr (Or.inl rfl))) 243 (M 11).toNatClampNeg 2 (Or.inr (Or.inr rfl))
      have rn := row_n (x := M 11) r0 (by omega)
      refine t_X12_miss d h2 I2.1 (M 11) 2 _ ⟨vr, vr, I3.1, v, v, v, v, hN rfl _ ?_⟩
      have g16 : h_i (h_im (h_im h2 242 (M 11).toNatClampNeg (h_i h2 1 0)) 243 (M 11).toNatClampNeg 2) 216 x1.toNatClampNeg = M 11 := by rw [im_ne (by decide), im_ne (by decide)]; exact q2.2.2.2.1
      have g13 : h_i (h_im (h_im h2 242 (M 11).toNatClampNeg (h_i h2 1 0)) 243 (M 11).toNatClampNeg 2) 213 x1.toNatClampNeg = Int32.ofNat i := by rw [im_ne (by decide), im_ne (by decide)]; exact e13
      rw [g16, g13]
      show Mx PM x1.toNatClampNeg (h_i h 1 0) (up1 (sRow (2, 2) M) 9 (sRow (2, 2) M 9 + 1)) (M 11).toNatClampNeg [(2, 2)] b h _
      rw [sRow_k (by decide) (by decide) (by decide), e9]
      have R3 : RMp x1.toNatClampNeg M (h_im (h_im h2 242 (M 11).toNatClampNeg (h_i h2 1 0)) 243 (M 11).toNatClampNeg 2) := (s2.2.2.1.im (by decide)).im (by decide)
      have I4 : Iv (h_im (h_im (h_im h2 242 (M 11).toNatClampNeg (h_i h2 1 0)) 243 (M 11).toNatClampNeg 2) 216 x1.toNatClampNeg (M 11 + 1)) := im216 I3 _ _ ⟨by omega, by omega⟩
      have s4 : Mx PM x1.toNatClampNeg (h_i h 1 0) (sRow (2, 2) M) (M 11).toNatClampNeg [(2, 2)] b h (h_im (h_im (h_im h2 242 (M 11).toNatClampNeg (h_i h2 1 0)) 243 (M 11).toNatClampNeg 2) 216 x1.toNatClampNeg (M 11 + 1)) := ⟨I4, ((s2.2.1.imo (by decide +kernel) (by decide)).imo (by decide +kernel) (by decide)).imj (by decide +kernel), R3.row e4, ⟨by rw [im_oth (by decide), im_oth (by decide), im_oth (by decide), s2.2.2.2.1.1]; rfl, by rw [im_oth (by decide), im_oth (by decide), im_row, s2.2.2.2.1.2.1, k2.2.1]; rfl, by rw [im_oth (by decide), im_row, im_oth (by decide), s2.2.2.2.1.2.2]; rfl⟩, P.1 _ _ _ _ _ (Or.inl (by decide)) (P.1 _ _ _ _ _ (Or.inr (Or.inl (by decide))) (P.1 _ _ _ _ _ (Or.inr (Or.inl (by decide))) B2))⟩
      exact s4.imj P (b13 _ I4) (by decide) (by decide +kernel) s4.2.2.1.i9
    · have gt := q_nle gt
      have yw : 0 < wI h (M 5) x.2.1 := q_lt.mpr gt
      have nmn : ¬ wI h (M 5) x.2.1 = -1 := fun z => by rw [z] at yw; exact absurd yw (by decide)
      have fo : fOne (h_i h 1 0) (wI h) x M = (true, sOut (h_i h 1 0) (wI h (M 5) x.2.1) x.2.1 M, []) := by
        unfold fOne
        rw [if_neg n1, if_neg n3, if_pos yw]
      rw [fo] at hY
      have z := m_so P d I2 (k2.2.2.2.2.2 X) hx s2.2.2.1 B2 x.2.1 p5 p2 (M 11).toNatClampNeg (by rw [k2.1]; exact nmn)
      rw [k2.1, k2.2.1, if_pos yw] at z
      exact Cv.mono z (fun h9 k => ⟨k.1.1, hY rfl _ (s2.tr k rfl)⟩)
  · have y3 : x.1 = 3 := by
      rcases stR_k sr with z | z | z | z
      · exact absurd z n0
      · exact absurd z n1
      · exact absurd z n2
      · exact z
    have fo : fOne (h_i h 1 0) (wI h) x M = (true, up1 M 7 (h_i h 1 0 + 1), []) := by
      unfold fOne
      rw [if_neg n1, if_pos y3]
    rw [fo] at hY
    refine hY rfl _ (s1.imj P (im211 s1.1 _ _) (by decide) (by decide +kernel) s1.2.2.1.i7)
  · have fo : fOne (h_i h 1 0) (wI h) x M = (true, up1 M 7 (h_i h 1 0 + x.2.1), []) := by
      unfold fOne
      rw [if_pos y1]
    rw [fo] at hY
    refine hY rfl _ (s1.imj P (im211 s1.1 _ _) (by decide) (by decide +kernel) s1.2.2.1.i7)
  · have n1 : ¬ x.1 = 1 := by rw [y2]; decide
    have n3 : ¬ x.1 = 3 := by rw [y2]; decide
    have p2 : 0 ≤ x.2.1.toInt ∧ x.2.1.toInt ≤ 15 := by
      rcases sr with q | q | q | q
      · exact ⟨q.2.1, q.2.2.1⟩
      · exact absurd q.1 n1
      · exact ⟨q.2.1, q.2.2.1⟩
      · exact absurd q.1 n3
    refine Ci.mono (W p2.1 p2.2) (fun q2 h2 k => ?_)
    obtain ⟨I2, F2, er⟩ := k
    subst er
    have B2 : PM b h2 := P.2.1 b _ h2 F2 s1.2.2.2.2
    have s2 : Mx PM x1.toNatClampNeg (h_i h 1 0) M (M 11).toNatClampNeg [] b h h2 := s1.fr I2 F2 B2 (by decide +kernel) (by decide +kernel) (by decide +kernel)
    have k2 := s2.2.1.k
    have sb2 : sB h2 (M 8).toNatClampNeg i = x := by rw [k2.2.2.2.2.1]; exact sb
    have c9 : h_i h2 229 (150 * (M 8).toNatClampNeg + i) = x.2.1 := congrArg (fun z => z.2.1) sb2
    have c10 : h_i h2 230 (150 * (M 8).toNatClampNeg + i) = x.2.2 := congrArg (fun z => z.2.2) sb2
    have q2 := s2.2.2.1.2.1 e4
    have e13 : h_i h2 213 x1.toNatClampNeg = Int32.ofNat i := q2.2.1.trans e9
    rw [c9, c10, e13, q2.2.2.2.1]
    have b13 : ∀ g, Iv g → Iv (h_im g 213 x1.toNatClampNeg (Int32.ofNat i + 1)) := fun g Ig => by
      rw [on_s (by omega)]
      exact im213 Ig _ _ (by rw [on_j (by omega)]; omega)
    refine ⟨I2.1, fun le => ⟨fun n2 => ⟨fun _ => ⟨v, v, ?_⟩, fun y2 => absurd y2 n2⟩, fun y2 => ⟨fun nmn => ⟨fun n2 => absurd y2 n2, fun _ => ⟨vi, ?_⟩⟩, fun em => ⟨v, ?_⟩⟩⟩, fun gt => ⟨vi, ?_⟩⟩
    · have le := q_le.mp le
      have nw : ¬ 0 < wI h (M 5) x.2.1 := fun z => by have := q_lt.mp z; omega
      have fo : fOne (h_i h 1 0) (wI h) x M = (false, M, []) := by
        unfold fOne
        rw [if_neg n1, if_neg n3, if_neg nw, if_neg n2]
      rw [fo] at hN
      refine hN rfl _ ?_
      show Mx PM x1.toNatClampNeg (h_i h 1 0) (up1 M 9 (M 9 + 1)) (M 11).toNatClampNeg [] b h _
      rw [e9]
      exact s2.imj P (b13 _ I2) (by decide) (by decide +kernel) s2.2.2.1.i9
    · have le := q_le.mp le
      have nw : ¬ 0 < wI h (M 5) x.2.1 := fun z => by have := q_lt.mp z; omega
      have fo : fOne (h_i h 1 0) (wI h) x M = ((fPt (h_i h 1 0) (M 10 + x.2.2) M).1, (fPt (h_i h 1 0) (M 10 + x.2.2) M).2.1, [(fPt (h_i h 1 0) (M 10 + x.2.2) M).2.2]) := by
        unfold fOne
        rw [if_neg n1, if_neg n3, if_neg nw, if_pos y2, if_neg nmn]
      rw [if_pos y2] at r4
      have z := m_cm P d I2 hx s2.2.2.1 B2 e4 x.2.2 ⟨r0, by omega⟩
      rw [k2.2.1] at z
      rw [fo] at hY hN
      refine Ci.mono z (fun q3 h4 k => ?_)
      obtain ⟨eq, k⟩ := k
      have k4 := s2.tr k rfl
      refine ⟨k.1.1, fun e0 => ⟨v, v, ?_⟩, fun ne => hY ?_ _ k4⟩
      · have t : (fPt (h_i h 1 0) (M 10 + x.2.2) M).1 = false := by
          cases z : (fPt (h_i h 1 0) (M 10 + x.2.2) M).1 with
          | true =>
            rw [z, if_pos rfl] at eq
            rw [eq] at e0
            exact absurd e0 (by decide)
          | false => rfl
        refine hN t _ ?_
        have f9 : (fPt (h_i h 1 0) (M 10 + x.2.2) M).2.1 9 = Int32.ofNat i := by rw [fPt_k (by decide) (by decide) (by decide) (by decide)]; exact e9
        have f4 : (fPt (h_i h 1 0) (M 10 + x.2.2) M).2.1 4 = 1 := by rw [fPt_k (by decide) (by decide) (by decide) (by decide)]; exact e4
        have g13 : h_i h4 213 x1.toNatClampNeg = Int32.ofNat i := (k4.2.2.1.2.1 f4).2.1.trans f9
        rw [g13]
        show Mx PM x1.toNatClampNeg (h_i h 1 0) (up1 (fPt (h_i h 1 0) (M 10 + x.2.2) M).2.1 9 ((fPt (h_i h 1 0) (M 10 + x.2.2) M).2.1 9 + 1)) (M 11).toNatClampNeg [(fPt (h_i h 1 0) (M 10 + x.2.2) M).2.2] b h _
        rw [f9]
        exact k4.imj P (b13 _ k4.1) (by decide) (by decide +kernel) k4.2.2.1.i9
      · cases z : (fPt (h_i h 1 0) (M 10 + x.2.2) M).1 with
        | true => rfl
        | false =>
          rw [z, if_neg (by decide)] at eq
          exact absurd eq ne
    · have nw : ¬ 0 < wI h (M 5) x.2.1 := by rw [em]; decide
      have fo : fOne (h_i h 1 0) (wI h) x M = (false, sRow (2, 2) M, [(2, 2)]) := by
        unfold fOne
        rw [if_neg n1, if_neg n3, if_neg nw, if_pos y2, if_pos em]
      rw [if_pos y2] at r4
      rw [fo] at hN
      have vr : vp_in (M 11) 400 := dp_in (lo := 0) (hi := 399) ⟨r0, by show _ ≤ (399 : Int); omega⟩ (by decide) (by decide)
      have I3 := i24 (i24 I2 242 (M 11).toNatClampNeg (h_i h2 1 0) (Or.inr (Or.inl rfl))) 243 (M 11).toNatClampNeg 2 (Or.inr (Or.inr rfl))
      have rn := row_n (x := M 11) r0 (by omega)
      refine t_X12_miss d h2 I2.1 (M 11) 2 _ ⟨vr, vr, I3.1, v, v, v, v, hN rfl _ ?_⟩
      have g16 : h_i (h_im (h_im h2 242 (M 11).toNatClampNeg (h_i h2 1 0)) 243 (M 11).toNatClampNeg 2) 216 x1.toNatClampNeg = M 11 := by rw [im_ne (by decide), im_ne (by decide)]; exact q2.2.2.2.1
      have g13 : h_i (h_im (h_im h2 242 (M 11).toNatClampNeg (h_i h2 1 0)) 243 (M 11).toNatClampNeg 2) 213 x1.toNatClampNeg = Int32.ofNat i := by rw [im_ne (by decide), im_ne (by decide)]; exact e13
      rw [g16, g13]
      show Mx PM x1.toNatClampNeg (h_i h 1 0) (up1 (sRow (2, 2) M) 9 (sRow (2, 2) M 9 + 1)) (M 11).toNatClampNeg [(2, 2)] b h _
      rw [sRow_k (by decide) (by decide) (by decide), e9]
      have R3 : RMp x1.toNatClampNeg M (h_im (h_im h2 242 (M 11).toNatClampNeg (h_i h2 1 0)) 243 (M 11).toNatClampNeg 2) := (s2.2.2.1.im (by decide)).im (by decide)
      have I4 : Iv (h_im (h_im (h_im h2 242 (M 11).toNatClampNeg (h_i h2 1 0)) 243 (M 11).toNatClampNeg 2) 216 x1.toNatClampNeg (M 11 + 1)) := im216 I3 _ _ ⟨by omega, by omega⟩
      have s4 : Mx PM x1.toNatClampNeg (h_i h 1 0) (sRow (2, 2) M) (M 11).toNatClampNeg [(2, 2)] b h (h_im (h_im (h_im h2 242 (M 11).toNatClampNeg (h_i h2 1 0)) 243 (M 11).toNatClampNeg 2) 216 x1.toNatClampNeg (M 11 + 1)) := ⟨I4, ((s2.2.1.imo (by decide +kernel) (by decide)).imo (by decide +kernel) (by decide)).imj (by decide +kernel), R3.row e4, ⟨by rw [im_oth (by decide), im_oth (by decide), im_oth (by decide), s2.2.2.2.1.1]; rfl, by rw [im_oth (by decide), im_oth (by decide), im_row, s2.2.2.2.1.2.1, k2.2.1]; rfl, by rw [im_oth (by decide), im_row, im_oth (by decide), s2.2.2.2.1.2.2]; rfl⟩, P.1 _ _ _ _ _ (Or.inl (by decide)) (P.1 _ _ _ _ _ (Or.inr (Or.inl (by decide))) (P.1 _ _ _ _ _ (Or.inr (Or.inl (by decide))) B2))⟩
      exact s4.imj P (b13 _ I4) (by decide) (by decide +kernel) s4.2.2.1.i9
    · have gt := q_nle gt
      have yw : 0 < wI h (M 5) x.2.1 := q_lt.mpr gt
      have nmn : ¬ wI h (M 5) x.2.1 = -1 := fun z => by rw [z] at yw; exact absurd yw (by decide)
      have fo : fOne (h_i h 1 0) (wI h) x M = (true, sOut (h_i h 1 0) (wI h (M 5) x.2.1) x.2.1 M, []) := by
        unfold fOne
        rw [if_neg n1, if_neg n3, if_pos yw]
      rw [fo] at hY
      have z := m_so P d I2 (k2.2.2.2.2.2 X) hx s2.2.2.1 B2 x.2.1 p5 p2 (M 11).toNatClampNeg (by rw [k2.1]; exact nmn)
      rw [k2.1, k2.2.1, if_pos yw] at z
      exact Cv.mono z (fun h9 k => ⟨k.1.1, hY rfl _ (s2.tr k rfl)⟩)
  · have z := congrArg Int32.toInt e
    omega
/-- steps one behind the other -/
theorem mgo_lp (P : PMok PM tB lM) (d : Nat) {x1 : Int32} (hx : 0 ≤ x1.toInt ∧ x1.toInt ≤ 11) : ∀ (L : List Sp3) {h : Hp_} {b : β} {M : Nat → Int32} (i : Nat), Iv h → ExP h → RMp x1.toNatClampNeg M h → PM b h → M 4 = 1 → M 6 = -1 → 0 ≤ (M 5).toInt → M 7 = -1 → M 0 = x1 → Stm h (M 8) i L → M 9 = Int32.ofNat i → h_i h 227 (M 8).toNatClampNeg = Int32.ofNat (i + L.length) → 0 ≤ (M 11).toInt → (M 11).toInt + (mts L : Int) ≤ 400 → AW (m_X12_goOn (d + 3) 0 0) 0 0 0 [(0, .ref 1), (1, .int x1)] [] h (kV (fun h' => Mx PM x1.toNatClampNeg (h_i h 1 0) (fSt (h_i h 1 0) (wI h) L M).1 (M 11).toNatClampNeg (fSt (h_i h 1 0) (wI h) L M).2 (fB tB (h_i h 1 0) (fSt (h_i h 1 0) (wI h) L M).1 b) h h'))
  | [], h, b, M, i, I, X, R, B, e4, p6, p5, p7, n0, S, e9, e227, r0, r4 => by
    have v := v12 hx
    have q := R.2.1 e4
    have Tt := t_X12_goOn_0 d h I.1 x1
    rw [R.1.1, e4, q.1, q.2.1, e9, e227] at Tt
    exact Tt _ ⟨v, fun n => absurd rfl n, fun _ => ⟨v, v, dp_in (lo := 0) (hi := 11) ⟨S.1.1, S.1.2⟩ (by decide) (by decide), fun n => absurd rfl n, fun _ => Cv.mono (m_gh P d I X hx R B p5 p6 n0 (M 11).toNatClampNeg) (fun h' k => ⟨k.1.1, k⟩)⟩⟩
  | x :: L, h, b, M, i, I, X, R, B, e4, p6, p5, p7, n0, S, e9, e227, r0, r4 => by
    have m : mts (x :: L) = (if x.1 = 2 then 1 else 0) + mts L := rfl
    rw [m] at r4
    have ll : i + (L.length + 1) ≤ 150 := S.2.1
    have f4 : (fOne (h_i h 1 0) (wI h) x M).2.1 4 = 1 := by rw [fOne_k (by decide) (by decide) (by decide) (by decide) (by decide) (by decide)]; exact e4
    refine mgo_1 P d I X hx R B e4 p5 p7 S e9 e227 r0 (by split at r4 <;> (rename_i c; first | rw [if_pos c] | rw [if_neg c]) <;> omega) _ (fun t h' k => ?_) (fun t h' k => ?_)
    · have f : fSt (h_i h 1 0) (wI h) (x :: L) M = ((fOne (h_i h 1 0) (wI h) x M).2.1, (fOne (h_i h 1 0) (wI h) x M).2.2) := by
        show (if (fOne (h_i h 1 0) (wI h) x M).1 = true then _ else _) = _
        rw [if_pos t]
      have fb : fB tB (h_i h 1 0) (fOne (h_i h 1 0) (wI h) x M).2.1 b = b := by
        unfold fB
        rw [f4, if_neg (by decide)]
      rw [f]
      show Mx PM x1.toNatClampNeg (h_i h 1 0) (fOne (h_i h 1 0) (wI h) x M).2.1 (M 11).toNatClampNeg (fOne (h_i h 1 0) (wI h) x M).2.2 (fB tB (h_i h 1 0) (fOne (h_i h 1 0) (wI h) x M).2.1 b) h h'
      rw [fb]
      exact k
    · have f : fSt (h_i h 1 0) (wI h) (x :: L) M = ((fSt (h_i h 1 0) (wI h) L (up1 (fOne (h_i h 1 0) (wI h) x M).2.1 9 ((fOne (h_i h 1 0) (wI h) x M).2.1 9 + 1))).1, (fOne (h_i h 1 0) (wI h) x M).2.2 ++ (fSt (h_i h 1 0) (wI h) L (up1 (fOne (h_i h 1 0) (wI h) x M).2.1 9 ((fOne (h_i h 1 0) (wI h) x M).2.1 9 + 1))).2) := by
        show (if (fOne (h_i h 1 0) (wI h) x M).1 = true then _ else _) = _
        rw [if_neg (by rw [t]; decide)]
      rw [f]
      have f9 : (fOne (h_i h 1 0) (wI h) x M).2.1 9 = Int32.ofNat i := by rw [fOne_k (by decide) (by decide) (by decide) (by decide) (by decide) (by decide)]; exact e9
      have f8 : (fOne (h_i h 1 0) (wI h) x M).2.1 8 = M 8 := fOne_k (by decide) (by decide) (by decide) (by decide) (by decide) (by decide)
      have f0 : (fOne (h_i h 1 0) (wI h) x M).2.1 0 = x1 := by rw [fOne_k (by decide) (by decide) (by decide) (by decide) (by decide) (by decide)]; exact n0
      have fN := fOne_n (n := h_i h 1 0) (w := wI h) (x := x) (M := M) t
      have fr := fOne_m (n := h_i h 1 0) (w := wI h) (x := x) (M := M) (m := mts L) r0 r4 t
      have kk := k.2.1.k
      have ih := mgo_lp P d hx L (h := h') (b := b) (M := up1 (fOne (h_i h 1 0) (wI h) x M).2.1 9 ((fOne (h_i h 1 0) (wI h) x M).2.1 9 + 1)) (i + 1) k.1 (kk.2.2.2.2.2 X) k.2.2.1 k.2.2.2.2 (by rw [up1_ne (by decide)]; exact f4) (by rw [up1_ne (by decide), fN.2.1]; exact p6) (by rw [up1_ne (by decide), fN.1]; exact p5) (by rw [up1_ne (by decide), fN.2.2]; exact p7) (by rw [up1_ne (by decide)]; exact f0) (by rw [up1_ne (by decide), f8]; exact S.tl.cg kk.2.2.2.2.1) (by rw [up1_at, f9, on_s (by omega)]) (by rw [up1_ne (by decide), f8, kk.2.2.2.1, e227]; show Int32.ofNat (i + (L.length + 1)) = Int32.ofNat (i + 1 + L.length); rw [show i + (L.length + 1) = i + 1 + L.length by omega]) (by rw [up1_ne (by decide)]; exact fr.2.1) (by rw [up1_ne (by decide)]; exact fr.2.2)
      rw [kk.2.1, kk.1] at ih
      refine AW.mono ih (fun w h2 z => ⟨z.1, k.tr z.2 ?_⟩)
      rw [up1_ne (by decide)]
      exact fr.1
end MEN
/-! MEN, the reference: one who wakes -/
theorem wI_s {h : Hp_} (I : Iv h) (X : ExP h) (a : Int32) : wI h a a = 0 ∨ wI h a a = -1 := by
  rcases wI_p I X a a with q | q
  · exact Or.inr q
  · refine Or.inl (Int32.toInt_inj.mp ?_)
    have na := n_nat q.2.2.1.1
    have z := (X.2 a.toNatClampNeg (by omega) a.toNatClampNeg (by omega)).2.1 0 0 ⟨rfl, rfl⟩
    have e := q.2.2.2.2
    unfold wX at e
    split at e
    · have e := Option.some.inj e
      have t0 : (0 : Int32).toInt = 0 := rfl
      omega
    · cases e
theorem im248 {h : Hp_} (I : Iv h) (k : Nat) (x : Int32) (b : x = 0 ∨ x = 1) : Iv (h_im h 248 k (vp_nar .boolean x)) := I.im (by
  rw [tfa_tf (show tfa 248 = some (0, 1) by decide +kernel)]
  rcases b with e | e <;> subst e <;> exact ⟨by decide, by decide⟩) (jw_jr (by decide) (by decide) _)
theorem RMp.i8 {j : Nat} {M : Nat → Int32} {h : Hp_} {x : Int32} (R : RMp j M h) : RMp j M (h_im h 248 j x) := by
  unfold RMp
  rw [im_ne (by decide), im_ne (by decide), im_ne (by decide), im_ne (by decide), im_ne (by decide), im_ne (by decide), im_ne (by decide), im_ne (by decide), im_ne (by decide), im_ne (by decide), im_ne (by decide), im_ne (by decide)]
  exact R
section MEN
variable {β : Type} {PM : β → Hp_ → Prop} {tB : Int32 → Int32 → β → β} {lM : Nat → Hp_ → β → β}
theorem cv_goOn {d : Nat} {x1 : Int32} {h : Hp_} {K : Hp_ → Prop} (k : AW (m_X12_goOn (d + 3) 0 0) 0 0 0 [(0, .ref 1), (1, .int x1)] [] h (kV K)) : Cv (m_X12_goOn (d + 3) 0 0) [.ref 1, .int x1] h K := by
  refine Ct.of (fun _ _ _ => trivial) pn_X12 (Nat.le_of_ble_eq_true rfl) ?_
  exact k
/-- the step is over: those behind it -/
theorem mgo_c (P : PMok PM tB lM) (d : Nat) {h h1 : Hp_} (X : ExP h) {x1 : Int32} (hx : 0 ≤ x1.toInt ∧ x1.toInt ≤ 11) {M1 : Nat → Int32} {r : Nat} {E : List Ev2} {b1 : β} (s : Mx PM x1.toNatClampNeg (h_i h 1 0) M1 r E b1 h h1) (er : (M1 11).toNatClampNeg = r + E.length) (e4 : M1 4 = 1) (p6 : M1 6 = -1) (p5 : 0 ≤ (M1 5).toInt) (p7 : M1 7 = -1) (n0 : M1 0 = x1) {i : Nat} {x : Sp3} {L : List Sp3} (S : Stm h (M1 8) i (x :: L)) (e9 : M1 9 = Int32.ofNat i) (e227 : h_i h 227 (M1 8).toNatClampNeg = Int32.ofNat (i + (L.length + 1))) (r0 : 0 ≤ (M1 11).toInt) (r4 : (M1 11).toInt + (mts L : Int) ≤ 400) (K : Hp_ → Prop) (hK : ∀ h', Mx PM x1.toNatClampNeg (h_i h 1 0) (fSt (h_i h 1 0) (wI h) L (up1 M1 9 (M1 9 + 1))).1 r (E ++ (fSt (h_i h 1 0) (wI h) L (up1 M1 9 (M1 9 + 1))).2) (fB tB (h_i h 1 0) (fSt (h_i h 1 0) (wI h) L (up1 M1 9 (M1 9 + 1))).1 b1) h h' → K h') : Cv (m_X12_goOn (d + 3) 0 0) [.ref 1, .int x1] (h_im h1 213 x1.toNatClampNeg ((h_i h1 213 x1.toNatClampNeg) + 1)) (fun h' => Wf h' ∧ (K h')) := by
  have ll : i + (L.length + 1) ≤ 150 := S.2.1
  have g13 : h_i h1 213 x1.toNatClampNeg = M1 9 := (s.2.2.1.2.1 e4).2.1
  rw [g13]
  have I2 : Iv (h_im h1 213 x1.toNatClampNeg (M1 9 + 1)) := by
    rw [e9, on_s (by omega)]
    exact im213 s.1 _ _ (by rw [on_j (by omega)]; omega)
  have s2 := s.imj P I2 (by decide) (by decide +kernel) s.2.2.1.i9
  have kk := s2.2.1.k
  generalize h_im h1 213 x1.toNatClampNeg (M1 9 + 1) = g at *
  have z := mgo_lp P d hx L (h := g) (b := b1) (M := up1 M1 9 (M1 9 + 1)) (i + 1) I2 (kk.2.2.2.2.2 X) s2.2.2.1 s2.2.2.2.2 (by rw [up1_ne (by decide)]; exact e4) (by rw [up1_ne (by decide)]; exact p6) (by rw [up1_ne (by decide)]; exact p5) (by rw [up1_ne (by decide)]; exact p7) (by rw [up1_ne (by decide)]; exact n0) (by rw [up1_ne (by decide)]; exact S.tl.cg kk.2.2.2.2.1) (by rw [up1_at, e9, on_s (by omega)]) (by rw [up1_ne (by decide), kk.2.2.2.1, e227, show i + (L.length + 1) = i + 1 + L.length by omega]) (by rw [up1_ne (by decide)]; exact r0) (by rw [up1_ne (by decide)]; exact r4)
  rw [kk.2.1, kk.1, show up1 M1 9 (M1 9 + 1) 11 = M1 11 from up1_ne (by decide)] at z
  exact cv_goOn (AW.mono z (fun v h' k => ⟨k.1, k.2.1.1, hK h' (s2.tr k.2 er)⟩))
theorem m_wb (P : PMok PM tB lM) (d : Nat) {h : Hp_} (I : Iv h) (X : ExP h) {x1 : Int32} (hx : 0 ≤ x1.toInt ∧ x1.toInt ≤ 11) {M : Nat → Int32} (R : RMp x1.toNatClampNeg M h) {b : β} (B : PM b h) (e4 : M 4 = 1) (p6 : M 6 = -1) (p5 : 0 ≤ (M 5).toInt) (p7 : M 7 = -1) (n0 : M 0 = x1) {i : Nat} {x : Sp3} {L : List Sp3} (S : Stm h (M 8) i (x :: L)) (e9 : M 9 = Int32.ofNat i) (e227 : h_i h 227 (M 8).toNatClampNeg = Int32.ofNat (i + (L.length + 1))) (came : Bool) (x2 : Int32) (ec : came = true ↔ ¬ x2 = 0) (r0 : 0 ≤ (M 11).toInt) (r4 : (M 11).toInt + (((if x.1 = 2 ∧ came = true then 1 else 0) + mts L : Nat) : Int) ≤ 400) (lk : x.1 = 3 → came = false) : Cv (m_X12_wakeBeat (d + 8) 0 0) [.ref 1, .int x1, .int x2] h (fun h' => Mx PM x1.toNatClampNeg (h_i h 1 0) (fNx (h_i h 1 0) (wI h) L (fEn (h_i h 1 0) x came M)).1 (M 11).toNatClampNeg (fNx (h_i h 1 0) (wI h) L (fEn (h_i h 1 0) x came M)).2 (fB tB (h_i h 1 0) (fNx (h_i h 1 0) (wI h) L (fEn (h_i h 1 0) x came M)).1 (if x.1 = 3 then lM x1.toNatClampNeg h b else b)) h h') := by
  have v := v12 hx
  have q := R.2.1 e4
  have t0 : (0 : Int32).toInt = 0 := rfl
  have t150 : (150 : Int32).toInt = 150 := rfl
  have b8 := S.1
  have sr := S.hd.2
  have ll : i + (L.length + 1) ≤ 150 := S.2.1
  have oi := on_j (n := i) (by omega)
  have n8 := n_nat b8.1
  have m1 : (150 * M 8).toInt = 150 * (M 8).toInt := by rw [tx_mul (by rw [t150]; omega) (by rw [t150]; omega), t150]
  have m2 : (150 * M 8 + Int32.ofNat i).toInt = 150 * (M 8).toInt + (i : Int) := by rw [tx_add (by omega) (by omega), m1, oi]
  have nm := n_nat (x := 150 * M 8 + Int32.ofNat i) (by omega)
  have km : (150 * M 8 + Int32.ofNat i).toNatClampNeg = 150 * (M 8).toNatClampNeg + i := by omega
  have vi : vp_in (150 * M 8 + Int32.ofNat i) 1800 := dp_in (lo := 0) (hi := 1799) ⟨by show (0 : Int) ≤ _; omega, by show _ ≤ (1799 : Int); omega⟩ (by decide) (by decide)
  have sb := S.hd.1
  have a8 : h_i h 228 (150 * (M 8).toNatClampNeg + i) = x.1 := congrArg (fun z => z.1) sb
  have a10 : h_i h 230 (150 * (M 8).toNatClampNeg + i) = x.2.2 := congrArg (fun z => z.2.2) sb
  have e13 : h_i h 213 x1.toNatClampNeg = Int32.ofNat i := q.2.1.trans e9
  have Tt := t_X12_wakeBeat d h I.1 x1 x2
  rw [q.1, e13, km, a8, a10] at Tt
  rw [← e13] at Tt
  rw [← e13] at vi
  have on : ∀ (h1 : Hp_) (b1 : β), ¬ (x.1 = 2 ∧ came = true) → b1 = (if x.1 = 3 then lM x1.toNatClampNeg h b else b) → Mx PM x1.toNatClampNeg (h_i h 1 0) M (M 11).toNatClampNeg [] b1 h h1 → Cv (m_X12_goOn (d + 3) 0 0) [.ref 1, .int x1] (h_im h1 213 x1.toNatClampNeg ((h_i h1 213 x1.toNatClampNeg) + 1)) (fun h' => Wf h' ∧ Mx PM x1.toNatClampNeg (h_i h 1 0) (fNx (h_i h 1 0) (wI h) L (fEn (h_i h 1 0) x came M)).1 (M 11).toNatClampNeg (fNx (h_i h 1 0) (wI h) L (fEn (h_i h 1 0) x came M)).2 (fB tB (h_i h 1 0) (fNx (h_i h 1 0) (wI h) L (fEn (h_i h 1 0) x came M)).1 (if x.1 = 3 then lM x1.toNatClampNeg h b else b)) h h') := fun h1 b1 ny eb s => by
    have fo : fEn (h_i h 1 0) x came M = (false, M, []) := if_neg ny
    have fx : fNx (h_i h 1 0) (wI h) L (false, M, []) = ((fSt (h_i h 1 0) (wI h) L (up1 M 9 (M 9 + 1))).1, [] ++ (fSt (h_i h 1 0) (wI h) L (up1 M 9 (M 9 + 1))).2) := by
      unfold fNx
      rw [if_neg (show ¬ (false : Bool) = true by decide)]
    rw [if_neg ny] at r4
    rw [fo, fx, ← eb]
    exact mgo_c P d X hx s rfl e4 p6 p5 p7 n0 S e9 e227 r0 (by omega) _ (fun h' k => k)
  refine Tt _ ⟨v, v, fun y0 => ⟨vi, fun n3 => ⟨v, v, ?_⟩, fun y3 => ?_⟩, fun n0' => ⟨vi, fun n2 => ⟨v, v, ?_⟩, fun y2 => ⟨vi, ?_⟩⟩⟩
  · have nc : ¬ (x.1 = 2 ∧ came = true) := fun z => ec.mp z.2 y0
    exact on h b nc (by rw [if_neg n3]) (Mx.rf I R B)
  · have nc : ¬ (x.1 = 2 ∧ came = true) := fun z => ec.mp z.2 y0
    refine Cv.mono (P.2.2.2 d b h x1 I hx B) (fun h1 k => ⟨k.1.1, v, v, on h1 _ nc (by rw [if_pos y3]) ((Mx.rf I R B).fr k.1 k.2.1 k.2.2 (by decide +kernel) (by decide +kernel) (by decide +kernel))⟩)
  · have n3 : ¬ x.1 = 3 := fun z => by
      have c1 := lk z
      have c2 := ec.mpr n0'
      rw [c1] at c2
      cases c2
    exact on h b (fun z => n2 z.1) (by rw [if_neg n3]) (Mx.rf I R B)
  · have yc := ec.mpr n0'
    have n3 : ¬ x.1 = 3 := by rw [y2]; decide
    rw [if_pos ⟨y2, yc⟩] at r4
    have fo : fEn (h_i h 1 0) x came M = ((fPt (h_i h 1 0) (M 10 + x.2.2) M).1, (fPt (h_i h 1 0) (M 10 + x.2.2) M).2.1, [(fPt (h_i h 1 0) (M 10 + x.2.2) M).2.2]) := if_pos ⟨y2, yc⟩
    rw [fo, if_neg n3]
    have fk : ∀ k, k ≠ 7 → k ≠ 11 → k ≠ 15 → k ≠ 16 → (fPt (h_i h 1 0) (M 10 + x.2.2) M).2.1 k = M k := fun k a b c d => fPt_k a b c d
    have rn := row_n (x := M 11) r0 (by omega)
    refine Ci.mono (m_cm P d I hx R B e4 x.2.2 ⟨r0, by omega⟩) (fun q3 h4 k => ?_)
    obtain ⟨eq, k⟩ := k
    refine ⟨k.1.1, fun e0 => ⟨v, v, ?_⟩, fun ne => ?_⟩
    · have t : (fPt (h_i h 1 0) (M 10 + x.2.2) M).1 = false := by
        cases z : (fPt (h_i h 1 0) (M 10 + x.2.2) M).1 with
        | true =>
          rw [z, if_pos rfl] at eq
          rw [eq] at e0
          exact absurd e0 (by decide)
        | false => rfl
      have fx : fNx (h_i h 1 0) (wI h) L ((fPt (h_i h 1 0) (M 10 + x.2.2) M).1, (fPt (h_i h 1 0) (M 10 + x.2.2) M).2.1, [(fPt (h_i h 1 0) (M 10 + x.2.2) M).2.2]) = ((fSt (h_i h 1 0) (wI h) L (up1 (fPt (h_i h 1 0) (M 10 + x.2.2) M).2.1 9 ((fPt (h_i h 1 0) (M 10 + x.2.2) M).2.1 9 + 1))).1, [(fPt (h_i h 1 0) (M 10 + x.2.2) M).2.2] ++ (fSt (h_i h 1 0) (wI h) L (up1 (fPt (h_i h 1 0) (M 10 + x.2.2) M).2.1 9 ((fPt (h_i h 1 0) (M 10 + x.2.2) M).2.1 9 + 1))).2) := by
        unfold fNx
        rw [if_neg (by rw [t]; decide)]
      rw [fx]
      have f7 : (fPt (h_i h 1 0) (M 10 + x.2.2) M).2.1 7 = -1 := by
        rw [← p7]
        unfold fPt at t ⊢
        split at t
        · rename_i c
          rw [if_pos c]
          split at t
          · rename_i c'
            rw [if_pos c']
            show sRow (1, -1) M 7 = M 7
            exact sRow_k (by decide) (by decide) (by decide)
          · cases t
        · rename_i c
          rw [if_neg c]
          show sRow (2, 1) M 7 = M 7
          exact sRow_k (by decide) (by decide) (by decide)
      exact mgo_c P d X hx k (by rw [fPt_11]; exact rn.1) (by rw [fk 4 (by decide) (by decide) (by decide) (by decide)]; exact e4) (by rw [fk 6 (by decide) (by decide) (by decide) (by decide)]; exact p6) (by rw [fk 5 (by decide) (by decide) (by decide) (by decide)]; exact p5) f7 (by rw [fk 0 (by decide) (by decide) (by decide) (by decide)]; exact n0) (by rw [fk 8 (by decide) (by decide) (by decide) (by decide)]; exact S) (by rw [fk 9 (by decide) (by decide) (by decide) (by decide)]; exact e9) (by rw [fk 8 (by decide) (by decide) (by decide) (by decide)]; exact e227) (by rw [fPt_11]; omega) (by rw [fPt_11]; omega) _ (fun h' k => k)
    · have t : (fPt (h_i h 1 0) (M 10 + x.2.2) M).1 = true := by
        cases z : (fPt (h_i h 1 0) (M 10 + x.2.2) M).1 with
        | true => rfl
        | false =>
          rw [z, if_neg (by decide)] at eq
          exact absurd eq ne
      have fx : fNx (h_i h 1 0) (wI h) L ((fPt (h_i h 1 0) (M 10 + x.2.2) M).1, (fPt (h_i h 1 0) (M 10 + x.2.2) M).2.1, [(fPt (h_i h 1 0) (M 10 + x.2.2) M).2.2]) = ((fPt (h_i h 1 0) (M 10 + x.2.2) M).2.1, [(fPt (h_i h 1 0) (M 10 + x.2.2) M).2.2]) := by
        unfold fNx
        rw [if_pos t]
      rw [fx]
      have fb : fB tB (h_i h 1 0) (fPt (h_i h 1 0) (M 10 + x.2.2) M).2.1 b = b := by
        unfold fB
        rw [fk 4 (by decide) (by decide) (by decide) (by decide), e4, if_neg (by decide)]
      show Mx PM x1.toNatClampNeg (h_i h 1 0) (fPt (h_i h 1 0) (M 10 + x.2.2) M).2.1 (M 11).toNatClampNeg [(fPt (h_i h 1 0) (M 10 + x.2.2) M).2.2] (fB tB (h_i h 1 0) (fPt (h_i h 1 0) (M 10 + x.2.2) M).2.1 b) h h4
      rw [fb]
      exact k
/-- what holds of a man at any time: w the walks, at minute n -/
noncomputable def KmA (w : Int32 → Int32 → Int32) (M : Nat → Int32) : Prop := (0 ≤ (M 3).toInt ∧ (M 3).toInt ≤ 15) ∧ (M 6 = -1 → 0 ≤ (M 5).toInt) ∧ (¬ M 6 = -1 → 0 ≤ (M 6).toInt) ∧ (M 4 = 0 → M 6 = -1 ∧ M 7 = -1) ∧ (M 4 = 4 → M 6 = -1 ∧ M 5 = M 3) ∧ (M 4 = 2 → M 6 = M 3) ∧ (M 4 = 3 → (0 ≤ (M 13).toInt ∧ (M 13).toInt ≤ 15) ∧ ¬ w (M 3) (M 13) = -1 ∧ (M 6 = -1 → M 5 = M 13 ∧ M 7 = M 14)) ∧ ¬ w (M 3) (if M 6 = -1 then M 5 else M 6) = -1
theorem m_wk (P : PMok PM tB lM) (d : Nat) {h : Hp_} (I : Iv h) (X : ExP h) {x1 : Int32} (hx : 0 ≤ x1.toInt ∧ x1.toInt ≤ 11) {M : Nat → Int32} (R : RMp x1.toNatClampNeg M h) {b : β} (B : PM b h) (n0 : M 0 = x1) (ka : KmA (wI h) M) (wt : ∀ p q, ¬ wI h (M 3) p = -1 → ¬ wI h (M 3) q = -1 → ¬ wI h p q = -1) (wz : ∀ p q, wI h p q = 0 → p = q) {i : Nat} {x : Sp3} {L : List Sp3} (T : M 4 = 1 → (Stm h (M 8) i (x :: L) ∧ M 9 = Int32.ofNat i ∧ h_i h 227 (M 8).toNatClampNeg = Int32.ofNat (i + (L.length + 1)) ∧ 0 ≤ (M 11).toInt ∧ (M 11).toInt + (((if x.1 = 2 ∧ decide (¬ M 6 = -1) = true then 1 else 0) + mts L : Nat) : Int) ≤ 400) ∧ (x.1 = 3 → M 6 = -1)) (yt : M 7 = h_i h 1 0) : Cv (m_X12_wake (d + 9) 0 0) [.ref 1, .int x1] h (fun h' => Mx PM x1.toNatClampNeg (h_i h 1 0) (fGo (h_i h 1 0) (wI h) x L M).1 (M 11).toNatClampNeg (fGo (h_i h 1 0) (wI h) x L M).2 (fB tB (h_i h 1 0) (fGo (h_i h 1 0) (wI h) x L M).1 (if M 4 = 1 ∧ x.1 = 3 then lM x1.toNatClampNeg (h_im h 211 x1.toNatClampNeg (-1)) b else b)) h h') := by
  have v := v12 hx
  have t0 : (0 : Int32).toInt = 0 := rfl
  have tm : (-1 : Int32).toInt = -1 := rfl
  obtain ⟨k3, k5, k6, kf, _, k2, kd, kc⟩ := ka
  have bn := I.2.1 1 0
  rw [show tf 1 0 = (0, 20000) by decide +kernel] at bn
  have bn0 : 0 ≤ (h_i h 1 0).toInt := bn.1
  have n00 : ¬ M 4 = 0 := fun e => by
    have z := congrArg Int32.toInt ((kf e).2.symm.trans yt)
    omega
  have Tt := t_X12_wake d h I.1 x1
  rw [R.1.2.2.2, R.1.2.2.1] at Tt
  have E29 : ∀ s0 : Int32, (decide (¬ M 6 = -1) = true ↔ ¬ s0 = 0) → AW (m_X12_wake (d + 9) 0 0) 0 0 29 [(0, .ref 1), (1, .int x1)] [.int s0] h (kV (fun h' => Mx PM x1.toNatClampNeg (h_i h 1 0) (fGo (h_i h 1 0) (wI h) x L M).1 (M 11).toNatClampNeg (fGo (h_i h 1 0) (wI h) x L M).2 (fB tB (h_i h 1 0) (fGo (h_i h 1 0) (wI h) x L M).1 (if M 4 = 1 ∧ x.1 = 3 then lM x1.toNatClampNeg (h_im h 211 x1.toNatClampNeg (-1)) b else b)) h h')) := fun s0 ec => by
    have e208 := R.1.1
    have T2 := t_X12_wake_29 d h I.1 x1 s0
    rw [e208, R.1.2.1, R.1.2.2.1] at T2
    refine T2 _ ⟨fun y => ?_, fun n => ?_⟩
    · have e6 : M 6 = -1 := Decidable.byContradiction (fun z => ec.mp (decide_eq_true z) y)
      have fc : fCm M = up1 M 7 (-1) := by
        unfold fCm
        rw [if_pos e6]
      have s : Mx PM x1.toNatClampNeg (h_i h 1 0) (fCm M) (M 11).toNatClampNeg [] b h (h_im h 211 x1.toNatClampNeg (-1)) := by
        rw [fc]
        exact (Mx.rf I R B).imj P (im211 I _ _) (by decide) (by decide +kernel) R.i7
      have ck : ∀ k, k ≠ 7 → fCm M k = M k := fun k a => by rw [fc, up1_ne a]
      have kk := s.2.1.k
      refine ⟨v, v, fun n2 => ⟨v, fun n3 => ⟨v, fun n1 => ?_, fun y1 => ?_⟩, fun y3 => ⟨fun z => absurd y z, fun _ => ?_⟩⟩, fun y2 => ?_⟩
      · have f : fGo (h_i h 1 0) (wI h) x L M = (fCm M, []) := by
          unfold fGo
          rw [if_neg n1, if_neg n2, if_neg n3]
        rw [f, if_neg (fun z => n1 z.1)]
        unfold fB
        show Mx PM x1.toNatClampNeg (h_i h 1 0) (fCm M) (M 11).toNatClampNeg [] (if fCm M 4 = 0 then _ else _) h _
        rw [ck 4 (by decide), if_neg n00]
        exact s
      · have f : fGo (h_i h 1 0) (wI h) x L M = fNx (h_i h 1 0) (wI h) L (fEn (h_i h 1 0) x (decide (¬ M 6 = -1)) (fCm M)) := by
          unfold fGo
          rw [if_pos y1]
        have T1 := T y1
        rw [f]
        have z := m_wb P d s.1 (kk.2.2.2.2.2 X) hx s.2.2.1 s.2.2.2.2 (by rw [ck 4 (by decide)]; exact y1) (by rw [ck 6 (by decide)]; exact e6) (by rw [ck 5 (by decide)]; exact k5 e6) (by rw [fc, up1_at]) (by rw [ck 0 (by decide)]; exact n0) (i := i) (x := x) (L := L) (by rw [ck 8 (by decide)]; exact T1.1.1.cg kk.2.2.2.2.1) (by rw [ck 9 (by decide)]; exact T1.1.2.1) (by rw [ck 8 (by decide), kk.2.2.2.1]; exact T1.1.2.2.1) (decide (¬ M 6 = -1)) s0 ec (by rw [ck 11 (by decide)]; exact T1.1.2.2.2.1) (by rw [ck 11 (by decide)]; exact T1.1.2.2.2.2) (fun _ => decide_eq_false (fun z => z e6))
        rw [kk.2.1, kk.1, ck 11 (by decide)] at z
        have eb : (if M 4 = 1 ∧ x.1 = 3 then lM x1.toNatClampNeg (h_im h 211 x1.toNatClampNeg (-1)) b else b) = (if x.1 = 3 then lM x1.toNatClampNeg (h_im h 211 x1.toNatClampNeg (-1)) b else b) := by
          by_cases c : x.1 = 3
          · rw [if_pos c, if_pos ⟨y1, c⟩]
          · rw [if_neg c, if_neg (fun u => c u.2)]
        rw [eb]
        exact Cv.mono z (fun h' k => ⟨k.1.1, s.tr k rfl⟩)
      · have f : fGo (h_i h 1 0) (wI h) x L M = (fDr (h_i h 1 0) (wI h) (fCm M), []) := by
          unfold fGo
          rw [if_neg (by rw [y3]; decide), if_neg (by rw [y3]; decide), if_pos y3]
        have q := kd y3
        have q6 := q.2.2 e6
        have z0 : wI h (M 5) (M 13) = 0 ∨ ¬ 0 < wI h (M 5) (M 13) := Or.inr (fun z => by
          have e := q6.1
          rw [e] at z
          rcases wI_s I X (M 13) with w0 | w0 <;> rw [w0] at z <;> exact absurd z (by decide))
        have nw : ¬ 0 < wI h (M 5) (M 13) := z0.elim (fun z => by rw [z]; decide) id
        have fd : fDr (h_i h 1 0) (wI h) (fCm M) = fHome (h_i h 1 0) (wI h) (fCm M) := by
          unfold fDr
          rw [ck 5 (by decide), ck 13 (by decide), ck 14 (by decide), if_neg nw, if_neg (fun z => by
            have l := q_lt.mp z.2
            rw [← q6.2, yt] at l
            omega)]
        rw [f, fd, if_neg (fun z => by rw [y3] at z; exact absurd z.1 (by decide))]
        have z := m_gh P d s.1 (kk.2.2.2.2.2 X) hx s.2.2.1 s.2.2.2.2 (by rw [ck 5 (by decide)]; exact k5 e6) (by rw [ck 6 (by decide)]; exact e6) (by rw [ck 0 (by decide)]; exact n0) (M 11).toNatClampNeg
        rw [kk.2.1, kk.1] at z
        exact Cv.mono z (fun h' k => ⟨k.1.1, s.tr k rfl⟩)
      · have z := k2 y2
        rw [e6] at z
        rw [← z] at k3
        exact absurd k3.1 (by decide)
    · have n6 : ¬ M 6 = -1 := of_decide_eq_true (ec.mpr n)
      have fc : fCm M = up1 (up1 (up1 M 6 (-1)) 5 (M 6)) 7 (-1) := by
        unfold fCm
        rw [if_neg n6]
      have b10 := m210 I x1.toNatClampNeg
      rw [R.1.2.2.1] at b10
      have ck : ∀ k, k ≠ 5 → k ≠ 6 → k ≠ 7 → fCm M k = M k := fun k a b c => by rw [fc, up1_ne c, up1_ne a, up1_ne b]
      have c5 : fCm M 5 = M 6 := by rw [fc, up1_ne (by decide), up1_at]
      have c6 : fCm M 6 = -1 := by rw [fc, up1_ne (by decide), up1_ne (by decide), up1_at]
      have c7 : fCm M 7 = -1 := by rw [fc, up1_at]
      have I3 : Iv (h_im (h_im (h_im h 209 x1.toNatClampNeg (M 6)) 210 x1.toNatClampNeg (-1)) 211 x1.toNatClampNeg (-1)) := im211 (im210 (im209 I _ _ b10) _ _ (by decide)) _ _
      have R3 : RMp x1.toNatClampNeg (fCm M) (h_im (h_im (h_im h 209 x1.toNatClampNeg (M 6)) 210 x1.toNatClampNeg (-1)) 211 x1.toNatClampNeg (-1)) := by
        refine ⟨⟨?_, ?_, ?_, ?_⟩, fun e => ?_, fun e => ?_, ?_⟩
        · rw [im_ne (by decide), im_ne (by decide), im_ne (by decide), ck 4 (by decide) (by decide) (by decide)]
          exact e208
        · rw [im_ne (by decide), im_ne (by decide), im_at, c5]
        · rw [im_ne (by decide), im_at, c6]
        · rw [im_at, c7]
        · rw [ck 4 (by decide) (by decide) (by decide)] at e
          have u := R.2.1 e
          rw [im_ne (by decide), im_ne (by decide), im_ne (by decide), im_ne (by decide), im_ne (by decide), im_ne (by decide), im_ne (by decide), im_ne (by decide), im_ne (by decide), im_ne (by decide), im_ne (by decide), im_ne (by decide), im_ne (by decide), im_ne (by decide), im_ne (by decide), ck 8 (by decide) (by decide) (by decide), ck 9 (by decide) (by decide) (by decide), ck 10 (by decide) (by decide) (by decide), ck 11 (by decide) (by decide) (by decide), ck 12 (by decide) (by decide) (by decide)]
          exact u
        · rw [ck 4 (by decide) (by decide) (by decide)] at e
          have u := R.2.2.1 e
          rw [im_ne (by decide), im_ne (by decide), im_ne (by decide), im_ne (by decide), im_ne (by decide), im_ne (by decide), ck 13 (by decide) (by decide) (by decide), ck 14 (by decide) (by decide) (by decide)]
          exact u
        · rw [im_ne (by decide), im_ne (by decide), im_ne (by decide), ck 3 (by decide) (by decide) (by decide)]
          exact R.2.2.2
      have s : Mx PM x1.toNatClampNeg (h_i h 1 0) (fCm M) (M 11).toNatClampNeg [] b h (h_im (h_im (h_im h 209 x1.toNatClampNeg (M 6)) 210 x1.toNatClampNeg (-1)) 211 x1.toNatClampNeg (-1)) := ⟨I3, (((Gmm.rf _ _).imj (by decide +kernel)).imj (by decide +kernel)).imj (by decide +kernel), R3, ⟨by rw [im_oth (by decide), im_oth (by decide), im_oth (by decide)]; rfl, by rw [im_oth (by decide), im_oth (by decide), im_oth (by decide)]; rfl, by rw [im_oth (by decide), im_oth (by decide), im_oth (by decide)]; rfl⟩, P.1 _ _ _ _ _ (Or.inl (by decide)) (P.1 _ _ _ _ _ (Or.inl (by decide)) (P.1 _ _ _ _ _ (Or.inl (by decide)) B))⟩
      have s8 : Mx PM x1.toNatClampNeg (h_i h 1 0) (fCm M) (M 11).toNatClampNeg [] b h (h_im (h_im (h_im (h_im h 209 x1.toNatClampNeg (M 6)) 210 x1.toNatClampNeg (-1)) 211 x1.toNatClampNeg (-1)) 248 x1.toNatClampNeg (vp_nar .boolean 1)) := ⟨im248 I3 _ 1 (Or.inr rfl), s.2.1.imj (by decide +kernel), R3.i8, ⟨by rw [im_oth (by decide)]; exact s.2.2.2.1.1, by rw [im_oth (by decide)]; exact s.2.2.2.1.2.1, by rw [im_oth (by decide)]; exact s.2.2.2.1.2.2⟩, P.1 _ _ _ _ _ (Or.inr (Or.inr (Or.inl rfl))) s.2.2.2.2⟩
      have kk := s.2.1.k
      have p6 := k6 n6
      rw [if_neg n6] at kc
      have gd : ∀ (g : Hp_), M 4 = 3 → Mx PM x1.toNatClampNeg (h_i h 1 0) (fCm M) (M 11).toNatClampNeg [] b h g → Cv (m_X12_goDrawn (d + 4) 0 0) [.ref 1, .int x1] g (fun h' => Wf h' ∧ Mx PM x1.toNatClampNeg (h_i h 1 0) (fDr (h_i h 1 0) (wI h) (fCm M)) (M 11).toNatClampNeg [] (fB tB (h_i h 1 0) (fDr (h_i h 1 0) (wI h) (fCm M)) b) h h') := fun g y3 sg => by
        have kg := sg.2.1.k
        have q := kd y3
        have z := m_gd P d sg.1 (kg.2.2.2.2.2 X) hx sg.2.2.1 sg.2.2.2.2 (by rw [c5]; exact p6) c6 (by rw [ck 0 (by decide) (by decide) (by decide)]; exact n0) (by rw [ck 4 (by decide) (by decide) (by decide)]; exact y3) (by rw [c5, ck 13 (by decide) (by decide) (by decide), kg.1]; exact wt _ _ kc q.2.1) (by rw [c5, ck 13 (by decide) (by decide) (by decide), kg.1]; exact wz _ _) (M 11).toNatClampNeg
        rw [kg.2.1, kg.1] at z
        exact Cv.mono z (fun h' k => ⟨k.1.1, sg.tr k rfl⟩)
      refine ⟨v, v, v, v, v, fun n2 => ⟨v, fun n3 => ⟨v, fun n1 => ?_, fun y1 => ?_⟩, fun y3 => ⟨fun _ => ?_, fun z => absurd z n⟩⟩, fun y2 => ?_⟩
      · have f : fGo (h_i h 1 0) (wI h) x L M = (fCm M, []) := by
          unfold fGo
          rw [if_neg n1, if_neg n2, if_neg n3]
        rw [f, if_neg (fun z => n1 z.1)]
        unfold fB
        show Mx PM x1.toNatClampNeg (h_i h 1 0) (fCm M) (M 11).toNatClampNeg [] (if fCm M 4 = 0 then _ else _) h _
        rw [ck 4 (by decide) (by decide) (by decide), if_neg n00]
        exact s
      · have f : fGo (h_i h 1 0) (wI h) x L M = fNx (h_i h 1 0) (wI h) L (fEn (h_i h 1 0) x (decide (¬ M 6 = -1)) (fCm M)) := by
          unfold fGo
          rw [if_pos y1]
        have T1 := T y1
        rw [f]
        have n3x : ¬ x.1 = 3 := fun z => n6 (T1.2 z)
        have z := m_wb P d s.1 (kk.2.2.2.2.2 X) hx s.2.2.1 s.2.2.2.2 (by rw [ck 4 (by decide) (by decide) (by decide)]; exact y1) c6 (by rw [c5]; exact p6) c7 (by rw [ck 0 (by decide) (by decide) (by decide)]; exact n0) (i := i) (x := x) (L := L) (by rw [ck 8 (by decide) (by decide) (by decide)]; exact T1.1.1.cg kk.2.2.2.2.1) (by rw [ck 9 (by decide) (by decide) (by decide)]; exact T1.1.2.1) (by rw [ck 8 (by decide) (by decide) (by decide), kk.2.2.2.1]; exact T1.1.2.2.1) (decide (¬ M 6 = -1)) s0 ec (by rw [ck 11 (by decide) (by decide) (by decide)]; exact T1.1.2.2.2.1) (by rw [ck 11 (by decide) (by decide) (by decide)]; exact T1.1.2.2.2.2) (fun z => absurd z n3x)
        rw [kk.2.1, kk.1, ck 11 (by decide) (by decide) (by decide), if_neg n3x] at z
        rw [if_neg (fun u => n3x u.2)]
        exact Cv.mono z (fun h' k => ⟨k.1.1, s.tr k rfl⟩)
      · have f : fGo (h_i h 1 0) (wI h) x L M = (fDr (h_i h 1 0) (wI h) (fCm M), []) := by
          unfold fGo
          rw [if_neg (by rw [y3]; decide), if_neg (by rw [y3]; decide), if_pos y3]
        rw [f, if_neg (fun z => by rw [y3] at z; exact absurd z.1 (by decide))]
        have e18 := (R.2.2.1 y3).1
        rw [e18]
        refine ⟨v, v, fun ne => ⟨v, gd _ y3 s8⟩, fun e => ⟨v, fun z => ⟨v, gd _ y3 s8⟩, fun z => ?_⟩⟩
        have w0 : ¬ 0 < wI h (fCm M 5) (fCm M 13) := by
          rw [c5, ck 13 (by decide) (by decide) (by decide), e]
          rcases wI_s I X (M 13) with w0 | w0 <;> rw [w0] <;> decide
        have fd : fDr (h_i h 1 0) (wI h) (fCm M) = if h_i h 1 0 < fCm M 14 then up1 (fCm M) 7 (fCm M 14) else fHome (h_i h 1 0) (wI h) (fCm M) := by
          unfold fDr
          rw [if_neg w0]
          by_cases c : h_i h 1 0 < fCm M 14
          · rw [if_pos ⟨by rw [c5, ck 13 (by decide) (by decide) (by decide)]; exact e, c⟩, if_pos c]
          · rw [if_neg (fun u => c u.2), if_neg c]
        have z := m_st P d s.1 (kk.2.2.2.2.2 X) hx s.2.2.1 s.2.2.2.2 (by rw [c5]; exact p6) c6 (by rw [ck 0 (by decide) (by decide) (by decide)]; exact n0) (by rw [ck 4 (by decide) (by decide) (by decide)]; exact y3) (M 11).toNatClampNeg (fDr (h_i h 1 0) (wI h) (fCm M)) (by rw [kk.2.1, kk.1]; exact fd)
        rw [kk.2.1] at z
        exact Cv.mono z (fun h' k => ⟨k.1.1, s.tr k rfl⟩)
      · have f : fGo (h_i h 1 0) (wI h) x L M = (fFree (fCm M), []) := by
          unfold fGo
          rw [if_neg (by rw [y2]; decide), if_pos y2]
        have z0 : fFree (fCm M) 4 = 0 := by
          unfold fFree
          rw [up1_ne (by decide), up1_at]
        have z1 : fFree (fCm M) 0 = x1 := by
          rw [fFree_k (by decide) (by decide), ck 0 (by decide) (by decide) (by decide)]
          exact n0
        have fb : fB tB (h_i h 1 0) (fFree (fCm M)) b = tB x1 (h_i h 1 0) b := by
          unfold fB
          rw [if_pos z0, z1]
        have h206 : h_i (h_im (h_im (h_im h 209 x1.toNatClampNeg (M 6)) 210 x1.toNatClampNeg (-1)) 211 x1.toNatClampNeg (-1)) 206 x1.toNatClampNeg = M 3 := by
          rw [R3.2.2.2]
          exact ck 3 (by decide) (by decide) (by decide)
        rw [f, if_neg (fun z => by rw [y2] at z; exact absurd z.1 (by decide))]
        show Cv _ _ _ (fun h72 => Wf h72 ∧ Mx PM x1.toNatClampNeg (h_i h 1 0) (fFree (fCm M)) (M 11).toNatClampNeg [] (fB tB (h_i h 1 0) (fFree (fCm M)) b) h h72)
        rw [fb]
        have z := m_fr P d s.1 hx s.2.2.2.2 (M 11).toNatClampNeg (fFree (fCm M)) z0 (by rw [fFree_k (by decide) (by decide), c5, h206]; exact k2 y2) (by rw [fFree_k (by decide) (by decide)]; exact c6) (by unfold fFree; rw [up1_at]) (by rw [fFree_k (by decide) (by decide), h206]; exact ck 3 (by decide) (by decide) (by decide))
        rw [kk.2.1] at z
        exact Cv.mono z (fun h' k => ⟨k.1.1, s.tr k rfl⟩)
  refine Tt _ ⟨v, fun _ => ⟨v, fun e6 => E29 0 ?_, fun n6 => E29 1 ?_⟩, fun n => absurd yt n⟩
  · rw [decide_eq_true_iff]
    exact ⟨fun z => absurd e6 z, fun z => absurd rfl z⟩
  · rw [decide_eq_true_iff]
    exact ⟨fun _ => by decide, fun _ => n6⟩
end MEN
end
section
/-! MEN: what holds of a man at any time, kept by all that befalls him -/
noncomputable def WOk (w : Int32 → Int32 → Int32) : Prop := (∀ a p q, ¬ w a p = -1 → ¬ w p q = -1 → ¬ w a q = -1) ∧ (∀ a, 0 ≤ a.toInt ∧ a.toInt ≤ 15 → ¬ w a a = -1) ∧ (∀ a b, ¬ w a b = -1 → (0 ≤ b.toInt ∧ b.toInt ≤ 15) ∧ 0 ≤ (w a b).toInt) ∧ (∀ a p q, ¬ w a p = -1 → ¬ w a q = -1 → ¬ w p q = -1) ∧ ∀ a b, w a b = 0 → a = b
theorem wok {h : Hp_} (I : Iv h) (X : ExP h) : WOk (wI h) := ⟨fun _ _ _ y z => wI_t2 I X y z, fun _ p => wI_r I X p, fun a b y => by
  rcases wI_p I X a b with q | q
  · exact absurd q y
  · exact ⟨⟨q.2.2.2.1.1, by have := q.2.2.2.1.2; omega⟩, q.1⟩, fun _ _ _ y z => wI_tr I X y z, fun _ _ e => wI_z I X e⟩
noncomputable def KmB (BL : Nat → List Sp3) (nb rw : Nat) (M : Nat → Int32) : Prop := ∃ i x L, (0 ≤ (M 8).toInt ∧ (M 8).toNatClampNeg < nb) ∧ (BL (M 8).toNatClampNeg).drop i = x :: L ∧ M 9 = Int32.ofNat i ∧ ((x.1 = 1 ∨ x.1 = 3) → M 6 = -1) ∧ 0 ≤ (M 11).toInt ∧ (M 11).toInt + (((if x.1 = 2 ∧ decide (¬ M 6 = -1) = true then 1 else 0) + mts L : Nat) : Int) = (M 12).toInt ∧ (M 12).toInt ≤ (rw : Int)
noncomputable def Km (w : Int32 → Int32 → Int32) (BL : Nat → List Sp3) (nb rw : Nat) (M : Nat → Int32) : Prop := KmA w M ∧ (M 4 = 1 → KmB BL nb rw M)
/-- events of one sort, of the other -/
noncomputable def c1 : List Ev2 → Nat
  | [] => 0
  | e :: E => (if e.1 = 1 then 1 else 0) + c1 E
noncomputable def c2 : List Ev2 → Nat
  | [] => 0
  | e :: E => (if e.1 = 1 then 0 else 1) + c2 E
theorem c1_a : ∀ A B : List Ev2, c1 (A ++ B) = c1 A + c1 B
  | [], B => by show c1 B = 0 + c1 B; omega
  | e :: A, B => by
    show (if e.1 = 1 then 1 else 0) + c1 (A ++ B) = (if e.1 = 1 then 1 else 0) + c1 A + c1 B
    rw [c1_a A B]
    omega
theorem c2_a : ∀ A B : List Ev2, c2 (A ++ B) = c2 A + c2 B
  | [], B => by show c2 B = 0 + c2 B; omega
  | e :: A, B => by
    show (if e.1 = 1 then 0 else 1) + c2 (A ++ B) = (if e.1 = 1 then 0 else 1) + c2 A + c2 B
    rw [c2_a A B]
    omega
/-- slots that stay -/
noncomputable abbrev fx (k : Nat) : Prop := k ≠ 4 ∧ k ≠ 5 ∧ k ≠ 6 ∧ k ≠ 7 ∧ k ≠ 9 ∧ k ≠ 11 ∧ k ≠ 15 ∧ k ≠ 16
/-- what became of a man M: nothing but his own, m rows at most were settled -/
noncomputable def Rk (m : Nat) (M : Nat → Int32) (o : (Nat → Int32) × List Ev2) : Prop := (∀ k, fx k → o.1 k = M k) ∧ (∀ e ∈ o.2, e.1 = 1 ∨ e.1 = 2) ∧ o.2.length ≤ m ∧ o.1 11 = M 11 + Int32.ofNat o.2.length ∧ o.1 15 = M 15 + Int32.ofNat (c1 o.2) ∧ o.1 16 = M 16 + Int32.ofNat (c2 o.2)
theorem i_0 (x : Int32) : x + Int32.ofNat 0 = x := by
  show x + 0 = x
  exact Int32.add_zero x
theorem i_a (x : Int32) (a b : Nat) : x + Int32.ofNat a + Int32.ofNat b = x + Int32.ofNat (a + b) := by rw [Int32.add_assoc, Int32.ofNat_add]
theorem Rk.rf {m : Nat} {M M' : Nat → Int32} (a : ∀ k, fx k → M' k = M k) (b : M' 11 = M 11) (c : M' 15 = M 15) (d : M' 16 = M 16) : Rk m M (M', []) := ⟨a, fun e he => (by cases he), Nat.zero_le _, by show M' 11 = M 11 + Int32.ofNat 0; rw [i_0, b], by show M' 15 = M 15 + Int32.ofNat 0; rw [i_0, c], by show M' 16 = M 16 + Int32.ofNat 0; rw [i_0, d]⟩
theorem Rk.tr {m m' : Nat} {M M1 : Nat → Int32} {E1 : List Ev2} {o : (Nat → Int32) × List Ev2} (a : Rk m M (M1, E1)) (b : Rk m' M1 o) : Rk (m + m') M (o.1, E1 ++ o.2) := ⟨fun k hk => (b.1 k hk).trans (a.1 k hk), fun e he => (List.mem_append.mp he).elim (a.2.1 e) (b.2.1 e), by
  have x := a.2.2.1
  have y := b.2.2.1
  show (E1 ++ o.2).length ≤ m + m'
  rw [List.length_append]
  have x : E1.length ≤ m := x
  omega, by
  show o.1 11 = M 11 + Int32.ofNat (E1 ++ o.2).length
  rw [b.2.2.2.1, show M1 11 = M 11 + Int32.ofNat E1.length from a.2.2.2.1, i_a, List.length_append], by
  show o.1 15 = M 15 + Int32.ofNat (c1 (E1 ++ o.2))
  rw [b.2.2.2.2.1, show M1 15 = M 15 + Int32.ofNat (c1 E1) from a.2.2.2.2.1, i_a, c1_a], by
  show o.1 16 = M 16 + Int32.ofNat (c2 (E1 ++ o.2))
  rw [b.2.2.2.2.2, show M1 16 = M 16 + Int32.ofNat (c2 E1) from a.2.2.2.2.2, i_a, c2_a]⟩
theorem Rk.mo {m m' : Nat} {M : Nat → Int32} {o : (Nat → Int32) × List Ev2} (a : Rk m M o) (l : m ≤ m') : Rk m' M o := ⟨a.1, a.2.1, Nat.le_trans a.2.2.1 l, a.2.2.2⟩
theorem n9 {k : Nat} (hk : fx k) : k ≠ 4 ∧ k ≠ 5 ∧ k ≠ 6 ∧ k ≠ 7 ∧ k ≠ 9 ∧ k ≠ 11 ∧ k ≠ 15 ∧ k ≠ 16 := hk
theorem Rk.out {m : Nat} {n k p : Int32} {M : Nat → Int32} : Rk m M (sOut n k p M, []) := Rk.rf (fun j hj => sOut_k (n9 hj).2.1 (n9 hj).2.2.1 (n9 hj).2.2.2.1) (sOut_k (by decide) (by decide) (by decide)) (sOut_k (by decide) (by decide) (by decide)) (sOut_k (by decide) (by decide) (by decide))
theorem Rk.u7 {m : Nat} {x : Int32} {M : Nat → Int32} : Rk m M (up1 M 7 x, []) := Rk.rf (fun j hj => up1_ne (n9 hj).2.2.2.1) (up1_ne (by decide)) (up1_ne (by decide)) (up1_ne (by decide))
theorem Rk.u9 {m : Nat} {x : Int32} {M : Nat → Int32} : Rk m M (up1 M 9 x, []) := Rk.rf (fun j hj => up1_ne (n9 hj).2.2.2.2.1) (up1_ne (by decide)) (up1_ne (by decide)) (up1_ne (by decide))
theorem Rk.hm {m : Nat} {n : Int32} {w : Int32 → Int32 → Int32} {M : Nat → Int32} : Rk m M (fHome n w M, []) := Rk.rf (fun j hj => fHome_k (n9 hj).1 (n9 hj).2.1 (n9 hj).2.2.1 (n9 hj).2.2.2.1) (fHome_k (by decide) (by decide) (by decide) (by decide)) (fHome_k (by decide) (by decide) (by decide) (by decide)) (fHome_k (by decide) (by decide) (by decide) (by decide))
theorem Rk.row {m : Nat} {e : Ev2} {M : Nat → Int32} (he : e.1 = 1 ∨ e.1 = 2) (l : 1 ≤ m) : Rk m M (sRow e M, [e]) := by
  have o1 : Int32.ofNat 1 = 1 := rfl
  refine ⟨fun j hj => sRow_k (n9 hj).2.2.2.2.2.1 (n9 hj).2.2.2.2.2.2.1 (n9 hj).2.2.2.2.2.2.2, fun x hx => by rw [List.mem_singleton.mp hx]; exact he, l, sRow_11, ?_, ?_⟩
  · show sRow e M 15 = M 15 + Int32.ofNat ((if e.1 = 1 then 1 else 0) + 0)
    unfold sRow
    by_cases c : e.1 = 1
    · rw [if_pos c, if_pos c, up1_at]
      rfl
    · rw [if_neg c, if_neg c, up1_ne (by decide), up1_ne (by decide)]
      exact (i_0 _).symm
  · show sRow e M 16 = M 16 + Int32.ofNat ((if e.1 = 1 then 0 else 1) + 0)
    unfold sRow
    by_cases c : e.1 = 1
    · rw [if_pos c, if_pos c, up1_ne (by decide), up1_ne (by decide)]
      exact (i_0 _).symm
    · rw [if_neg c, if_neg c, up1_at]
      rfl
theorem Rk.pt {m : Nat} {n u : Int32} {M : Nat → Int32} (l : 1 ≤ m) : Rk m M ((fPt n u M).2.1, [(fPt n u M).2.2]) := by
  unfold fPt
  split
  · split
    · exact Rk.row (Or.inl rfl) l
    · have a := Rk.row (m := m) (M := M) (e := (1, -1)) (Or.inl rfl) l
      have b := Rk.u7 (m := 0) (x := u) (M := sRow (1, -1) M)
      have c := a.tr b
      exact c
  · exact Rk.row (Or.inr rfl) l
theorem Rk.one {m : Nat} {n : Int32} {w : Int32 → Int32 → Int32} {x : Sp3} {M : Nat → Int32} (l : x.1 = 2 → 1 ≤ m) : Rk m M ((fOne n w x M).2.1, (fOne n w x M).2.2) := by
  unfold fOne
  split
  · exact Rk.u7
  · split
    · exact Rk.u7
    · split
      · exact Rk.out
      · split
        · rename_i c
          split
          · exact Rk.row (Or.inr rfl) (l c)
          · exact Rk.pt (l c)
        · exact Rk.rf (fun _ _ => rfl) rfl rfl rfl
theorem Rk.st {n : Int32} {w : Int32 → Int32 → Int32} : ∀ (L : List Sp3) (M : Nat → Int32), Rk (mts L) M (fSt n w L M)
  | [], _ => Rk.hm
  | x :: L, M => by
    have o := Rk.one (m := if x.1 = 2 then 1 else 0) (n := n) (w := w) (x := x) (M := M) (fun e => by rw [if_pos e]; exact Nat.le_refl _)
    show Rk ((if x.1 = 2 then 1 else 0) + mts L) M (if (fOne n w x M).1 = true then ((fOne n w x M).2.1, (fOne n w x M).2.2) else ((fSt n w L (up1 (fOne n w x M).2.1 9 ((fOne n w x M).2.1 9 + 1))).1, (fOne n w x M).2.2 ++ (fSt n w L (up1 (fOne n w x M).2.1 9 ((fOne n w x M).2.1 9 + 1))).2))
    by_cases t : (fOne n w x M).1 = true
    · rw [if_pos t]
      exact o.mo (Nat.le_add_right _ _)
    · rw [if_neg t]
      have z := (o.tr (Rk.u9 (m := 0) (x := (fOne n w x M).2.1 9 + 1))).tr (Rk.st (n := n) (w := w) L (up1 (fOne n w x M).2.1 9 ((fOne n w x M).2.1 9 + 1)))
      have e : (fOne n w x M).2.2 ++ ([] : List Ev2) = (fOne n w x M).2.2 := List.append_nil _
      have z : Rk ((if x.1 = 2 then 1 else 0) + 0 + mts L) M ((fSt n w L (up1 (fOne n w x M).2.1 9 ((fOne n w x M).2.1 9 + 1))).1, ((fOne n w x M).2.2 ++ []) ++ (fSt n w L (up1 (fOne n w x M).2.1 9 ((fOne n w x M).2.1 9 + 1))).2) := z
      rw [e] at z
      exact z
theorem Rk.cm {m : Nat} {M : Nat → Int32} : Rk m M (fCm M, []) := by
  have q : ∀ k, k ≠ 5 → k ≠ 6 → k ≠ 7 → fCm M k = M k := fun k a b e => by
    unfold fCm
    split
    · rw [up1_ne e]
    · rw [up1_ne e, up1_ne a, up1_ne b]
  exact Rk.rf (fun j hj => q j (n9 hj).2.1 (n9 hj).2.2.1 (n9 hj).2.2.2.1) (q 11 (by decide) (by decide) (by decide)) (q 15 (by decide) (by decide) (by decide)) (q 16 (by decide) (by decide) (by decide))
theorem Rk.fr {m : Nat} {M : Nat → Int32} : Rk m M (fFree M, []) := Rk.rf (fun j hj => fFree_k (n9 hj).1 (n9 hj).2.2.2.1) (fFree_k (by decide) (by decide)) (fFree_k (by decide) (by decide)) (fFree_k (by decide) (by decide))
theorem Rk.dr {m : Nat} {n : Int32} {w : Int32 → Int32 → Int32} {M : Nat → Int32} : Rk m M (fDr n w M, []) := by
  unfold fDr
  split
  · exact Rk.out
  · split
    · exact Rk.u7
    · exact Rk.hm
theorem Rk.en {m : Nat} {n : Int32} {x : Sp3} {came : Bool} {M : Nat → Int32} (l : x.1 = 2 ∧ came = true → 1 ≤ m) : Rk m M ((fEn n x came M).2.1, (fEn n x came M).2.2) := by
  unfold fEn
  split
  · rename_i c
    exact Rk.pt (l c)
  · exact Rk.rf (fun _ _ => rfl) rfl rfl rfl
theorem Rk.nx {m : Nat} {n : Int32} {w : Int32 → Int32 → Int32} {L : List Sp3} {M : Nat → Int32} {o : Bool × (Nat → Int32) × List Ev2} (a : Rk m M (o.2.1, o.2.2)) : Rk (m + mts L) M (fNx n w L o) := by
  unfold fNx
  split
  · exact a.mo (by omega)
  · have z := (a.tr (Rk.u9 (m := 0) (x := o.2.1 9 + 1))).tr (Rk.st (n := n) (w := w) L (up1 o.2.1 9 (o.2.1 9 + 1)))
    have e : o.2.2 ++ ([] : List Ev2) = o.2.2 := List.append_nil _
    have z : Rk (m + 0 + mts L) M ((fSt n w L (up1 o.2.1 9 (o.2.1 9 + 1))).1, (o.2.2 ++ []) ++ (fSt n w L (up1 o.2.1 9 (o.2.1 9 + 1))).2) := z
    rw [e] at z
    exact z
theorem Rk.go {n : Int32} {w : Int32 → Int32 → Int32} {x : Sp3} {L : List Sp3} {M : Nat → Int32} : Rk ((if x.1 = 2 ∧ decide (¬ M 6 = -1) = true then 1 else 0) + mts L) M (fGo n w x L M) := by
  have o := Rk.en (m := if x.1 = 2 ∧ decide (¬ M 6 = -1) = true then 1 else 0) (n := n) (x := x) (came := decide (¬ M 6 = -1)) (M := fCm M) (fun e => by rw [if_pos e]; exact Nat.le_refl _)
  generalize (if x.1 = 2 ∧ decide (¬ M 6 = -1) = true then 1 else 0) = q at o ⊢
  unfold fGo
  split
  · have z := (Rk.cm (m := 0) (M := M)).tr (Rk.nx (n := n) (w := w) (L := L) o)
    exact z.mo (by omega)
  · split
    · exact ((Rk.cm (m := 0) (M := M)).tr (Rk.fr (m := 0))).mo (by omega)
    · split
      · exact ((Rk.cm (m := 0) (M := M)).tr (Rk.dr (m := 0) (n := n) (w := w))).mo (by omega)
      · exact Rk.cm
/-! the invariant -/
theorem km_hm {n : Int32} {w : Int32 → Int32 → Int32} {BL : Nat → List Sp3} {nb rw : Nat} {M : Nat → Int32} (W : WOk w) (p3 : 0 ≤ (M 3).toInt ∧ (M 3).toInt ≤ 15) (p6 : M 6 = -1) : Km w BL nb rw (fHome n w M) := by
  have tm : (-1 : Int32).toInt = -1 := rfl
  unfold fHome
  split
  · have e3 : sOut n (w (M 5) (M 3)) (M 3) (up1 M 4 2) 3 = M 3 := by rw [sOut_k (by decide) (by decide) (by decide), up1_ne (by decide)]
    have e4 : sOut n (w (M 5) (M 3)) (M 3) (up1 M 4 2) 4 = 2 := by rw [sOut_k (by decide) (by decide) (by decide), up1_at]
    have e6 : sOut n (w (M 5) (M 3)) (M 3) (up1 M 4 2) 6 = M 3 := by
      unfold sOut
      rw [up1_ne (by decide), up1_ne (by decide), up1_at]
    have n6 : ¬ M 3 = -1 := fun e => by rw [e] at p3; exact absurd p3.1 (by decide)
    unfold Km KmA
    rw [e3, e4, e6]
    exact ⟨⟨p3, fun e => absurd e n6, fun _ => p3.1, fun e => absurd e (by decide), fun e => absurd e (by decide), fun _ => rfl, fun e => absurd e (by decide), by rw [if_neg n6]; exact W.2.1 _ p3⟩, fun e => absurd e (by decide)⟩
  · have e3 : fFree (up1 (up1 M 4 2) 5 (M 3)) 3 = M 3 := by rw [fFree_k (by decide) (by decide), up1_ne (by decide), up1_ne (by decide)]
    have e4 : fFree (up1 (up1 M 4 2) 5 (M 3)) 4 = 0 := by
      unfold fFree
      rw [up1_ne (by decide), up1_at]
    have e5 : fFree (up1 (up1 M 4 2) 5 (M 3)) 5 = M 3 := by rw [fFree_k (by decide) (by decide), up1_at]
    have e6 : fFree (up1 (up1 M 4 2) 5 (M 3)) 6 = -1 := by rw [fFree_k (by decide) (by decide), up1_ne (by decide), up1_ne (by decide), p6]
    have e7 : fFree (up1 (up1 M 4 2) 5 (M 3)) 7 = -1 := by
      unfold fFree
      rw [up1_at]
    unfold Km KmA
    rw [e3, e4, e5, e6, e7]
    exact ⟨⟨p3, fun _ => p3.1, fun e => absurd rfl e, fun _ => ⟨rfl, rfl⟩, fun e => absurd e (by decide), fun e => absurd e (by decide), fun e => absurd e (by decide), by rw [if_pos rfl]; exact W.2.1 _ p3⟩, fun e => absurd e (by decide)⟩
/-- one who stands at a place, free of points to come to -/
theorem kma_at {w : Int32 → Int32 → Int32} {M : Nat → Int32} (p3 : 0 ≤ (M 3).toInt ∧ (M 3).toInt ≤ 15) (p6 : M 6 = -1) (p5 : 0 ≤ (M 5).toInt) (e4 : M 4 = 1) (c : ¬ w (M 3) (M 5) = -1) : KmA w M := ⟨p3, fun _ => p5, fun e => absurd p6 e, fun e => absurd (e4.symm.trans e) (by decide), fun e => absurd (e4.symm.trans e) (by decide), fun e => absurd (e4.symm.trans e) (by decide), fun e => absurd (e4.symm.trans e) (by decide), by rw [if_pos p6]; exact c⟩
theorem kma_out {n : Int32} {w : Int32 → Int32 → Int32} {M : Nat → Int32} {p : Int32} (W : WOk w) (p3 : 0 ≤ (M 3).toInt ∧ (M 3).toInt ≤ 15) (e4 : M 4 = 1) (c : ¬ w (M 3) (M 5) = -1) (y : 0 < w (M 5) p) : KmA w (sOut n (w (M 5) p) p M) ∧ ¬ sOut n (w (M 5) p) p M 6 = -1 := by
  have ny : ¬ w (M 5) p = -1 := fun e => by rw [e] at y; exact absurd y (by decide)
  have q := W.2.2.1 _ _ ny
  have e3 : sOut n (w (M 5) p) p M 3 = M 3 := sOut_k (by decide) (by decide) (by decide)
  have e4' : sOut n (w (M 5) p) p M 4 = 1 := by rw [sOut_k (by decide) (by decide) (by decide), e4]
  have e6 : sOut n (w (M 5) p) p M 6 = p := by
    unfold sOut
    rw [up1_ne (by decide), up1_ne (by decide), up1_at]
  have n6 : ¬ p = -1 := fun e => by rw [e] at q; exact absurd q.1.1 (by decide)
  unfold KmA
  rw [e3, e4', e6]
  exact ⟨⟨p3, fun e => absurd e n6, fun _ => q.1.1, fun e => absurd e (by decide), fun e => absurd e (by decide), fun e => absurd e (by decide), fun e => absurd e (by decide), by rw [if_neg n6]; exact W.1 _ _ _ c ny⟩, n6⟩
theorem km_st {n : Int32} {w : Int32 → Int32 → Int32} {BL : Nat → List Sp3} {nb rw : Nat} (W : WOk w) : ∀ (L : List Sp3) (M : Nat → Int32) (i : Nat), (∀ x ∈ L, stR x) → M 4 = 1 → M 6 = -1 → 0 ≤ (M 5).toInt → (0 ≤ (M 3).toInt ∧ (M 3).toInt ≤ 15) → ¬ w (M 3) (M 5) = -1 → (0 ≤ (M 8).toInt ∧ (M 8).toNatClampNeg < nb) → (BL (M 8).toNatClampNeg).drop i = L → M 9 = Int32.ofNat i → i + L.length ≤ 150 → 0 ≤ (M 11).toInt → (M 11).toInt + (mts L : Int) = (M 12).toInt → (M 12).toInt ≤ (rw : Int) → rw ≤ 400 → Km w BL nb rw (fSt n w L M).1
  | [], M, i, _, e4, p6, p5, p3, c, b8, hd, e9, il, r0, r12, rr, r4 => km_hm W p3 p6
  | x :: L, M, i, hs, e4, p6, p5, p3, c, b8, hd, e9, il, r0, r12, rr, r4 => by
    have sr := hs x List.mem_cons_self
    have m : mts (x :: L) = (if x.1 = 2 then 1 else 0) + mts L := rfl
    have il' : i + (L.length + 1) ≤ 150 := il
    rw [m] at r12
    have dr : (BL (M 8).toNatClampNeg).drop (i + 1) = L := by
      rw [← List.drop_drop, hd]
      rfl
    show Km w BL nb rw (if (fOne n w x M).1 = true then ((fOne n w x M).2.1, (fOne n w x M).2.2) else ((fSt n w L (up1 (fOne n w x M).2.1 9 ((fOne n w x M).2.1 9 + 1))).1, (fOne n w x M).2.2 ++ (fSt n w L (up1 (fOne n w x M).2.1 9 ((fOne n w x M).2.1 9 + 1))).2)).1
    by_cases t : (fOne n w x M).1 = true
    · rw [if_pos t]
      show Km w BL nb rw (fOne n w x M).2.1
      have fk : ∀ k, k ≠ 5 → k ≠ 6 → k ≠ 7 → k ≠ 11 → k ≠ 15 → k ≠ 16 → (fOne n w x M).2.1 k = M k := fun k a b c d e f => fOne_k a b c d e f
      have key : KmA w (fOne n w x M).2.1 ∧ ((x.1 = 1 ∨ x.1 = 3) → (fOne n w x M).2.1 6 = -1) ∧ 0 ≤ ((fOne n w x M).2.1 11).toInt ∧ ((fOne n w x M).2.1 11).toInt + (((if x.1 = 2 ∧ decide (¬ (fOne n w x M).2.1 6 = -1) = true then 1 else 0) + mts L : Nat) : Int) = (M 12).toInt := by
        by_cases y1 : x.1 = 1
        · have fo : fOne n w x M = (true, up1 M 7 (n + x.2.1), []) := by
            unfold fOne
            rw [if_pos y1]
          rw [fo]
          show KmA w (up1 M 7 (n + x.2.1)) ∧ (_ → up1 M 7 (n + x.2.1) 6 = -1) ∧ 0 ≤ (up1 M 7 (n + x.2.1) 11).toInt ∧ (up1 M 7 (n + x.2.1) 11).toInt + (((if x.1 = 2 ∧ decide (¬ up1 M 7 (n + x.2.1) 6 = -1) = true then 1 else 0) + mts L : Nat) : Int) = (M 12).toInt
          rw [up1_ne (by decide), up1_ne (by decide)]
          have n2 : ¬ x.1 = 2 := by rw [y1]; decide
          rw [if_neg n2] at r12
          rw [if_neg (fun z => n2 z.1)]
          exact ⟨kma_at (by rw [up1_ne (by decide)]; exact p3) (by rw [up1_ne (by decide)]; exact p6) (by rw [up1_ne (by decide)]; exact p5) (by rw [up1_ne (by decide)]; exact e4) (by rw [up1_ne (by decide), up1_ne (by decide)]; exact c), fun _ => p6, r0, r12⟩
        · by_cases y3 : x.1 = 3
          · have fo : fOne n w x M = (true, up1 M 7 (n + 1), []) := by
              unfold fOne
              rw [if_neg y1, if_pos y3]
            rw [fo]
            show KmA w (up1 M 7 (n + 1)) ∧ (_ → up1 M 7 (n + 1) 6 = -1) ∧ 0 ≤ (up1 M 7 (n + 1) 11).toInt ∧ (up1 M 7 (n + 1) 11).toInt + (((if x.1 = 2 ∧ decide (¬ up1 M 7 (n + 1) 6 = -1) = true then 1 else 0) + mts L : Nat) : Int) = (M 12).toInt
            rw [up1_ne (by decide), up1_ne (by decide)]
            have n2 : ¬ x.1 = 2 := by rw [y3]; decide
            rw [if_neg n2] at r12
            rw [if_neg (fun z => n2 z.1)]
            exact ⟨kma_at (by rw [up1_ne (by decide)]; exact p3) (by rw [up1_ne (by decide)]; exact p6) (by rw [up1_ne (by decide)]; exact p5) (by rw [up1_ne (by decide)]; exact e4) (by rw [up1_ne (by decide), up1_ne (by decide)]; exact c), fun _ => p6, r0, r12⟩
          · by_cases yw : 0 < w (M 5) x.2.1
            · have fo : fOne n w x M = (true, sOut n (w (M 5) x.2.1) x.2.1 M, []) := by
                unfold fOne
                rw [if_neg y1, if_neg y3, if_pos yw]
              rw [fo]
              have q := kma_out (n := n) (M := M) W p3 e4 c yw
              show KmA w (sOut n (w (M 5) x.2.1) x.2.1 M) ∧ (_ → sOut n (w (M 5) x.2.1) x.2.1 M 6 = -1) ∧ 0 ≤ (sOut n (w (M 5) x.2.1) x.2.1 M 11).toInt ∧ (sOut n (w (M 5) x.2.1) x.2.1 M 11).toInt + (((if x.1 = 2 ∧ decide (¬ sOut n (w (M 5) x.2.1) x.2.1 M 6 = -1) = true then 1 else 0) + mts L : Nat) : Int) = (M 12).toInt
              rw [sOut_k (k := 11) (by decide) (by decide) (by decide)]
              refine ⟨q.1, fun z => absurd z (fun u => u.elim y1 y3), r0, ?_⟩
              by_cases y2 : x.1 = 2
              · rw [if_pos y2] at r12
                rw [if_pos ⟨y2, decide_eq_true q.2⟩]
                exact r12
              · rw [if_neg y2] at r12
                rw [if_neg (fun z => y2 z.1)]
                exact r12
            · by_cases y2 : x.1 = 2
              · rw [if_pos y2] at r12
                by_cases em : w (M 5) x.2.1 = -1
                · have fo : fOne n w x M = (false, sRow (2, 2) M, [(2, 2)]) := by
                    unfold fOne
                    rw [if_neg y1, if_neg y3, if_neg yw, if_pos y2, if_pos em]
                  rw [fo] at t
                  cases t
                · have fo : fOne n w x M = ((fPt n (M 10 + x.2.2) M).1, (fPt n (M 10 + x.2.2) M).2.1, [(fPt n (M 10 + x.2.2) M).2.2]) := by
                    unfold fOne
                    rw [if_neg y1, if_neg y3, if_neg yw, if_pos y2, if_neg em]
                  rw [fo]
                  have pk : ∀ k, k ≠ 7 → k ≠ 11 → k ≠ 15 → k ≠ 16 → (fPt n (M 10 + x.2.2) M).2.1 k = M k := fun k a b c d => fPt_k a b c d
                  have rn := row_n (x := M 11) r0 (by omega)
                  show KmA w (fPt n (M 10 + x.2.2) M).2.1 ∧ (_ → (fPt n (M 10 + x.2.2) M).2.1 6 = -1) ∧ 0 ≤ ((fPt n (M 10 + x.2.2) M).2.1 11).toInt ∧ ((fPt n (M 10 + x.2.2) M).2.1 11).toInt + (((if x.1 = 2 ∧ decide (¬ (fPt n (M 10 + x.2.2) M).2.1 6 = -1) = true then 1 else 0) + mts L : Nat) : Int) = (M 12).toInt
                  rw [fPt_11, pk 6 (by decide) (by decide) (by decide) (by decide)]
                  have nn : ¬ (x.1 = 2 ∧ decide (¬ M 6 = -1) = true) := fun z => of_decide_eq_true z.2 p6
                  rw [if_neg nn]
                  exact ⟨kma_at (by rw [pk 3 (by decide) (by decide) (by decide) (by decide)]; exact p3) (by rw [pk 6 (by decide) (by decide) (by decide) (by decide)]; exact p6) (by rw [pk 5 (by decide) (by decide) (by decide) (by decide)]; exact p5) (by rw [pk 4 (by decide) (by decide) (by decide) (by decide)]; exact e4) (by rw [pk 3 (by decide) (by decide) (by decide) (by decide), pk 5 (by decide) (by decide) (by decide) (by decide)]; exact c), fun _ => p6, by omega, by omega⟩
              · have fo : fOne n w x M = (false, M, []) := by
                  unfold fOne
                  rw [if_neg y1, if_neg y3, if_neg yw, if_neg y2]
                rw [fo] at t
                cases t
      refine ⟨key.1, fun _ => ⟨i, x, L, ?_, ?_, ?_, key.2.1, key.2.2.1, ?_, ?_⟩⟩
      · rw [fk 8 (by decide) (by decide) (by decide) (by decide) (by decide) (by decide)]
        exact b8
      · rw [fk 8 (by decide) (by decide) (by decide) (by decide) (by decide) (by decide)]
        exact hd
      · rw [fk 9 (by decide) (by decide) (by decide) (by decide) (by decide) (by decide)]
        exact e9
      · rw [fk 12 (by decide) (by decide) (by decide) (by decide) (by decide) (by decide)]
        exact key.2.2.2
      · rw [fk 12 (by decide) (by decide) (by decide) (by decide) (by decide) (by decide)]
        exact rr
    · rw [if_neg t]
      show Km w BL nb rw (fSt n w L (up1 (fOne n w x M).2.1 9 ((fOne n w x M).2.1 9 + 1))).1
      have tf' : (fOne n w x M).1 = false := by
        cases z : (fOne n w x M).1 with
        | true => exact absurd z t
        | false => rfl
      have fn := fOne_n tf'
      have fk : ∀ k, k ≠ 5 → k ≠ 6 → k ≠ 7 → k ≠ 11 → k ≠ 15 → k ≠ 16 → (fOne n w x M).2.1 k = M k := fun k a b c d e f => fOne_k a b c d e f
      have f9 : (fOne n w x M).2.1 9 = Int32.ofNat i := by rw [fk 9 (by decide) (by decide) (by decide) (by decide) (by decide) (by decide)]; exact e9
      have f11 : 0 ≤ ((fOne n w x M).2.1 11).toInt ∧ ((fOne n w x M).2.1 11).toInt + (mts L : Int) = (M 12).toInt := by
        rcases fOne_11 (n := n) (w := w) (x := x) (M := M) with ⟨_, b, c⟩ | ⟨a, _, c⟩
        · have c := c tf'
          rw [if_neg c] at r12
          rw [b]
          exact ⟨r0, by omega⟩
        · rw [if_pos a] at r12
          have rn := row_n (x := M 11) r0 (by omega)
          rw [c]
          exact ⟨by omega, by omega⟩
      refine km_st W L _ (i + 1) (fun y hy => hs y (List.mem_cons_of_mem _ hy)) ?_ ?_ ?_ ?_ ?_ ?_ ?_ ?_ (by omega) ?_ ?_ ?_ r4
      · rw [up1_ne (by decide), fk 4 (by decide) (by decide) (by decide) (by decide) (by decide) (by decide)]
        exact e4
      · rw [up1_ne (by decide), fn.2.1]
        exact p6
      · rw [up1_ne (by decide), fn.1]
        exact p5
      · rw [up1_ne (by decide), fk 3 (by decide) (by decide) (by decide) (by decide) (by decide) (by decide)]
        exact p3
      · rw [up1_ne (by decide), up1_ne (by decide), fk 3 (by decide) (by decide) (by decide) (by decide) (by decide) (by decide), fn.1]
        exact c
      · rw [up1_ne (by decide), fk 8 (by decide) (by decide) (by decide) (by decide) (by decide) (by decide)]
        exact b8
      · rw [up1_ne (by decide), fk 8 (by decide) (by decide) (by decide) (by decide) (by decide) (by decide)]
        exact dr
      · rw [up1_at, f9, on_s (by omega)]
      · rw [up1_ne (by decide)]
        exact f11.1
      · rw [up1_ne (by decide), up1_ne (by decide), fk 12 (by decide) (by decide) (by decide) (by decide) (by decide) (by decide)]
        exact f11.2
      · rw [up1_ne (by decide), fk 12 (by decide) (by decide) (by decide) (by decide) (by decide) (by decide)]
        exact rr
theorem km_dr {n : Int32} {w : Int32 → Int32 → Int32} {BL : Nat → List Sp3} {nb rw : Nat} {M : Nat → Int32} (W : WOk w) (p3 : 0 ≤ (M 3).toInt ∧ (M 3).toInt ≤ 15) (p6 : M 6 = -1) (p5 : 0 ≤ (M 5).toInt) (e4 : M 4 = 3) (c : ¬ w (M 3) (M 5) = -1) (p13 : 0 ≤ (M 13).toInt ∧ (M 13).toInt ≤ 15) (c13 : ¬ w (M 3) (M 13) = -1) : Km w BL nb rw (fDr n w M) := by
  unfold fDr
  split
  · rename_i y
    have n6 : ¬ M 13 = -1 := fun e => by rw [e] at p13; exact absurd p13.1 (by decide)
    have e3 : sOut n (w (M 5) (M 13)) (M 13) M 3 = M 3 := sOut_k (by decide) (by decide) (by decide)
    have e4' : sOut n (w (M 5) (M 13)) (M 13) M 4 = 3 := by rw [sOut_k (by decide) (by decide) (by decide), e4]
    have e13 : sOut n (w (M 5) (M 13)) (M 13) M 13 = M 13 := sOut_k (by decide) (by decide) (by decide)
    have e6 : sOut n (w (M 5) (M 13)) (M 13) M 6 = M 13 := by
      unfold sOut
      rw [up1_ne (by decide), up1_ne (by decide), up1_at]
    unfold Km KmA
    rw [e3, e4', e6, e13]
    exact ⟨⟨p3, fun e => absurd e n6, fun _ => p13.1, fun e => absurd e (by decide), fun e => absurd e (by decide), fun e => absurd e (by decide), fun _ => ⟨p13, c13, fun e => absurd e n6⟩, by rw [if_neg n6]; exact c13⟩, fun e => absurd e (by decide)⟩
  · split
    · rename_i y
      unfold Km KmA
      rw [up1_ne (k := 7) (j := 3) (by decide), up1_ne (k := 7) (j := 4) (by decide), up1_ne (k := 7) (j := 5) (by decide), up1_ne (k := 7) (j := 6) (by decide), up1_ne (k := 7) (j := 13) (by decide), up1_ne (k := 7) (j := 14) (by decide), up1_at, e4]
      exact ⟨⟨p3, fun _ => p5, fun e => absurd p6 e, fun e => absurd e (by decide), fun e => absurd e (by decide), fun e => absurd e (by decide), fun _ => ⟨p13, c13, fun _ => ⟨y.1, rfl⟩⟩, by rw [if_pos p6]; exact c⟩, fun e => absurd e (by decide)⟩
    · exact km_hm W p3 p6
theorem km_go {n : Int32} {w : Int32 → Int32 → Int32} {BL : Nat → List Sp3} {nb rw : Nat} {M : Nat → Int32} (W : WOk w) (hb : ∀ k x, k < nb → x ∈ BL k → stR x) (hl : ∀ k, k < nb → (BL k).length ≤ 150) (r4 : rw ≤ 400) (n0 : ¬ M 4 = 0) (K : Km w BL nb rw M) {i : Nat} {x : Sp3} {L : List Sp3} (T : M 4 = 1 → (BL (M 8).toNatClampNeg).drop i = x :: L ∧ M 9 = Int32.ofNat i ∧ (0 ≤ (M 8).toInt ∧ (M 8).toNatClampNeg < nb) ∧ 0 ≤ (M 11).toInt ∧ (M 11).toInt + (((if x.1 = 2 ∧ decide (¬ M 6 = -1) = true then 1 else 0) + mts L : Nat) : Int) = (M 12).toInt ∧ (M 12).toInt ≤ (rw : Int)) : Km w BL nb rw (fGo n w x L M).1 := by
  obtain ⟨⟨p3, k5, k6, kf, k4, k2, kd, kc⟩, _⟩ := K
  have ck : ∀ k, k ≠ 5 → k ≠ 6 → k ≠ 7 → fCm M k = M k := fun k a b e => by
    unfold fCm
    split
    · rw [up1_ne e]
    · rw [up1_ne e, up1_ne a, up1_ne b]
  have c6 : fCm M 6 = -1 := by
    unfold fCm
    split
    · rename_i e
      rw [up1_ne (by decide), e]
    · rw [up1_ne (by decide), up1_ne (by decide), up1_at]
  have c5 : fCm M 5 = if M 6 = -1 then M 5 else M 6 := by
    unfold fCm
    split
    · rw [up1_ne (by decide)]
    · rw [up1_ne (by decide), up1_at]
  have p5 : 0 ≤ (fCm M 5).toInt := by
    rw [c5]
    split
    · rename_i e
      exact k5 e
    · rename_i e
      exact k6 e
  have cc : ¬ w (fCm M 3) (fCm M 5) = -1 := by
    rw [c5, ck 3 (by decide) (by decide) (by decide)]
    exact kc
  unfold fGo
  split
  · rename_i y1
    have T := T y1
    obtain ⟨hd, e9, b8, r0, r12, rr⟩ := T
    have hdl : (BL (M 8).toNatClampNeg).drop i = x :: L := hd
    have il : i + (L.length + 1) ≤ 150 := by
      have l := congrArg List.length hd
      rw [List.length_drop] at l
      have l : (BL (M 8).toNatClampNeg).length - i = L.length + 1 := l
      have := hl _ b8.2
      omega
    have dr : (BL (M 8).toNatClampNeg).drop (i + 1) = L := by
      rw [← List.drop_drop, hd]
      rfl
    have hs : ∀ y ∈ L, stR y := fun y hy => hb _ y b8.2 (List.mem_of_mem_drop (i := i) (by rw [hd]; exact List.mem_cons_of_mem _ hy))
    unfold fNx
    have ek : ∀ k, k ≠ 7 → k ≠ 11 → k ≠ 15 → k ≠ 16 → (fEn n x (decide (¬ M 6 = -1)) (fCm M)).2.1 k = fCm M k := fun k a b c d => fEn_k a b c d
    have e11 : 0 ≤ ((fEn n x (decide (¬ M 6 = -1)) (fCm M)).2.1 11).toInt ∧ ((fEn n x (decide (¬ M 6 = -1)) (fCm M)).2.1 11).toInt + (mts L : Int) = (M 12).toInt := by
      unfold fEn
      by_cases y : x.1 = 2 ∧ decide (¬ M 6 = -1) = true
      · rw [if_pos y] at r12 ⊢
        have rn := row_n (x := M 11) r0 (by omega)
        show 0 ≤ ((fPt n (fCm M 10 + x.2.2) (fCm M)).2.1 11).toInt ∧ ((fPt n (fCm M 10 + x.2.2) (fCm M)).2.1 11).toInt + (mts L : Int) = (M 12).toInt
        rw [fPt_11, ck 11 (by decide) (by decide) (by decide)]
        omega
      · rw [if_neg y] at r12 ⊢
        show 0 ≤ (fCm M 11).toInt ∧ (fCm M 11).toInt + (mts L : Int) = (M 12).toInt
        rw [ck 11 (by decide) (by decide) (by decide)]
        omega
    split
    · rename_i t
      show Km w BL nb rw (fEn n x (decide (¬ M 6 = -1)) (fCm M)).2.1
      have y : x.1 = 2 ∧ decide (¬ M 6 = -1) = true := Decidable.byContradiction (fun y => by
        unfold fEn at t
        rw [if_neg y] at t
        cases t)
      refine ⟨kma_at (by rw [ek 3 (by decide) (by decide) (by decide) (by decide), ck 3 (by decide) (by decide) (by decide)]; exact p3) (by rw [ek 6 (by decide) (by decide) (by decide) (by decide)]; exact c6) (by rw [ek 5 (by decide) (by decide) (by decide) (by decide)]; exact p5) (by rw [ek 4 (by decide) (by decide) (by decide) (by decide), ck 4 (by decide) (by decide) (by decide)]; exact y1) (by rw [ek 3 (by decide) (by decide) (by decide) (by decide), ek 5 (by decide) (by decide) (by decide) (by decide)]; exact cc), fun _ => ⟨i, x, L, ?_, ?_, ?_, fun _ => ?_, e11.1, ?_, ?_⟩⟩
      · rw [ek 8 (by decide) (by decide) (by decide) (by decide), ck 8 (by decide) (by decide) (by decide)]
        exact b8
      · rw [ek 8 (by decide) (by decide) (by decide) (by decide), ck 8 (by decide) (by decide) (by decide)]
        exact hd
      · rw [ek 9 (by decide) (by decide) (by decide) (by decide), ck 9 (by decide) (by decide) (by decide)]
        exact e9
      · rw [ek 6 (by decide) (by decide) (by decide) (by decide)]
        exact c6
      · have n6 : ¬ (x.1 = 2 ∧ decide (¬ (fEn n x (decide (¬ M 6 = -1)) (fCm M)).2.1 6 = -1) = true) := fun z => of_decide_eq_true z.2 (by rw [ek 6 (by decide) (by decide) (by decide) (by decide)]; exact c6)
        rw [if_neg n6, ek 12 (by decide) (by decide) (by decide) (by decide), ck 12 (by decide) (by decide) (by decide)]
        have := e11.2
        omega
      · rw [ek 12 (by decide) (by decide) (by decide) (by decide), ck 12 (by decide) (by decide) (by decide)]
        exact rr
    · rename_i t
      show Km w BL nb rw (fSt n w L (up1 (fEn n x (decide (¬ M 6 = -1)) (fCm M)).2.1 9 ((fEn n x (decide (¬ M 6 = -1)) (fCm M)).2.1 9 + 1))).1
      refine km_st W L _ (i + 1) hs ?_ ?_ ?_ ?_ ?_ ?_ ?_ ?_ (by omega) ?_ ?_ ?_ r4
      · rw [up1_ne (by decide), ek 4 (by decide) (by decide) (by decide) (by decide), ck 4 (by decide) (by decide) (by decide)]
        exact y1
      · rw [up1_ne (by decide), ek 6 (by decide) (by decide) (by decide) (by decide)]
        exact c6
      · rw [up1_ne (by decide), ek 5 (by decide) (by decide) (by decide) (by decide)]
        exact p5
      · rw [up1_ne (by decide), ek 3 (by decide) (by decide) (by decide) (by decide), ck 3 (by decide) (by decide) (by decide)]
        exact p3
      · rw [up1_ne (by decide), up1_ne (by decide), ek 3 (by decide) (by decide) (by decide) (by decide), ek 5 (by decide) (by decide) (by decide) (by decide)]
        exact cc
      · rw [up1_ne (by decide), ek 8 (by decide) (by decide) (by decide) (by decide), ck 8 (by decide) (by decide) (by decide)]
        exact b8
      · rw [up1_ne (by decide), ek 8 (by decide) (by decide) (by decide) (by decide), ck 8 (by decide) (by decide) (by decide)]
        exact dr
      · rw [up1_at, ek 9 (by decide) (by decide) (by decide) (by decide), ck 9 (by decide) (by decide) (by decide), e9, on_s (by omega)]
      · rw [up1_ne (by decide)]
        exact e11.1
      · rw [up1_ne (by decide), up1_ne (by decide), ek 12 (by decide) (by decide) (by decide) (by decide), ck 12 (by decide) (by decide) (by decide)]
        exact e11.2
      · rw [up1_ne (by decide), ek 12 (by decide) (by decide) (by decide) (by decide), ck 12 (by decide) (by decide) (by decide)]
        exact rr
  · rename_i y1
    split
    · rename_i y2
      show Km w BL nb rw (fFree (fCm M))
      have n6 : ¬ M 6 = -1 := fun e => by
        have z := k2 y2
        rw [e] at z
        rw [← z] at p3
        exact absurd p3.1 (by decide)
      have e5 : fFree (fCm M) 5 = M 3 := by rw [fFree_k (by decide) (by decide), c5, if_neg n6]; exact k2 y2
      have e3 : fFree (fCm M) 3 = M 3 := by rw [fFree_k (by decide) (by decide)]; exact ck 3 (by decide) (by decide) (by decide)
      have e4 : fFree (fCm M) 4 = 0 := by
        unfold fFree
        rw [up1_ne (by decide), up1_at]
      have e6 : fFree (fCm M) 6 = -1 := by rw [fFree_k (by decide) (by decide)]; exact c6
      have e7 : fFree (fCm M) 7 = -1 := by
        unfold fFree
        rw [up1_at]
      unfold Km KmA
      rw [e3, e4, e5, e6, e7]
      exact ⟨⟨p3, fun _ => p3.1, fun e => absurd rfl e, fun _ => ⟨rfl, rfl⟩, fun e => absurd e (by decide), fun e => absurd e (by decide), fun e => absurd e (by decide), by rw [if_pos rfl]; exact W.2.1 _ p3⟩, fun e => absurd e (by decide)⟩
    · rename_i y2
      split
      · rename_i y3
        have q := kd y3
        exact km_dr W (by rw [ck 3 (by decide) (by decide) (by decide)]; exact p3) c6 p5 (by rw [ck 4 (by decide) (by decide) (by decide)]; exact y3) cc (by rw [ck 13 (by decide) (by decide) (by decide)]; exact q.1) (by rw [ck 3 (by decide) (by decide) (by decide), ck 13 (by decide) (by decide) (by decide)]; exact q.2.1)
      · rename_i y3
        show Km w BL nb rw (fCm M)
        unfold Km KmA
        rw [ck 3 (by decide) (by decide) (by decide), ck 4 (by decide) (by decide) (by decide), c6, if_pos rfl]
        refine ⟨⟨p3, fun _ => p5, fun e => absurd rfl e, fun e => absurd e n0, fun e => ⟨rfl, by rw [c5, if_pos (k4 e).1]; exact (k4 e).2⟩, fun e => absurd e y2, fun e => absurd e y3, ?_⟩, fun e => absurd e y1⟩
        rw [ck 3 (by decide) (by decide) (by decide)] at cc
        exact cc
/-! MEN, the class: begin, draw, ill -/
noncomputable def isM (h : Hp_) (x1 : Int32) : Prop := 0 ≤ x1.toInt ∧ x1.toInt < (h_i h 0 7).toInt
/-- the men's row -/
noncomputable def Mrw (h : Hp_) : Prop := ∀ k : Nat, (k : Int) < (h_i h 0 7).toInt → h_r h 15 k = some (401 + k)
theorem menX_in {h : Hp_} (I : Iv h) : 0 ≤ (h_i h 0 7).toInt ∧ (h_i h 0 7).toInt ≤ 12 := by
  have rg := I.2.1 0 7
  rw [show tf 0 7 = (0, 12) by decide +kernel] at rg
  exact ⟨rg.1, rg.2⟩
theorem Mrw.cn {h : Hp_} (I : Iv h) (m : Mrw h) {x1 : Int32} (y : isM h x1) : Cn h (401 + x1.toNatClampNeg) := by
  have b := menX_in I
  have y1 := y.1
  have y2 := y.2
  have n := n_nat y.1
  have r := m x1.toNatClampNeg (by omega)
  rcases I.2.2.1 x1.toNatClampNeg with q | ⟨c, q, hc⟩
  · rw [r] at q
    cases q
  · rw [r] at q
    rw [Option.some.inj q]
    exact hc
theorem c_mo (d : Nat) {h : Hp_} (I : Iv h) (m : Mrw h) (x1 : Int32) : Cr (m_X11_manOf (d + 1) 0 0) [.ref 0, .int x1] h (fun o h' => h' = h ∧ ((isM h x1 ∧ o = some (401 + x1.toNatClampNeg)) ∨ (¬ isM h x1 ∧ o = none))) := by
  have t0 : (0 : Int32).toInt = 0 := rfl
  have t1 : (1 : Int32).toInt = 1 := rfl
  have b := menX_in I
  have s1 : (h_i h 0 7 - 1).toInt = (h_i h 0 7).toInt - 1 := by rw [tx_sub (by rw [t1]; omega) (by rw [t1]; omega), t1]
  refine t_X11_manOf d h I.1 x1 _ ⟨fun n => ⟨rfl, Or.inr ⟨fun y => n ⟨q_le.mpr (by have := y.1; omega), q_le.mpr (by have := y.2; omega)⟩, rfl⟩⟩, fun y => ?_⟩
  have y1 := q_le.mp y.1
  have y2 := q_le.mp y.2
  have n1 := n_nat (x := x1) (by omega)
  have ym : isM h x1 := ⟨by omega, by omega⟩
  have r := m x1.toNatClampNeg (by omega)
  have hc := m.cn I ym
  refine ⟨dp_in (lo := 0) (hi := 11) ⟨by show (0 : Int) ≤ _; omega, by show _ ≤ (11 : Int); omega⟩ (by decide) (by decide), fun e => ?_, fun b5 e => ?_⟩
  · rw [r] at e
    cases e
  · rw [r] at e
    have e := Option.some.inj e
    subst e
    exact ⟨hc.2.2, by omega, rfl, Or.inl ⟨ym, rfl⟩⟩
noncomputable def fDw (n : Int32) (w : Int32 → Int32 → Int32) (x2 x3 : Int32) (M : Nat → Int32) : (Nat → Int32) × List Ev2 := ((if (fDp 3 M).1 6 = -1 then fDr n w (up1 (up1 (up1 (up1 (fDp 3 M).1 4 3) 13 x2) 14 x3) 7 (-1)) else up1 (up1 (up1 (fDp 3 M).1 4 3) 13 x2) 14 x3), (fDp 3 M).2)
noncomputable def okDw (h : Hp_) (M : Nat → Int32) (x2 x3 : Int32) : Prop := (0 ≤ x2 ∧ x2 < 16) ∧ ((h_i h 0 0) ≤ x3 ∧ x3 ≤ 30000) ∧ ¬ wI h (M 3) x2 = -1 ∧ ¬ M 4 = 3 ∧ ¬ M 4 = 4
noncomputable def fIl (M : Nat → Int32) : (Nat → Int32) × List Ev2 := (up1 (up1 (up1 (up1 (fDp 4 M).1 4 4) 6 (-1)) 7 (-1)) 5 (M 3), (fDp 4 M).2)
section MEN
variable {β : Type} {PB : β → Hp_ → Prop} {tB : Int32 → Int32 → β → β} {lB : Nat → Hp_ → β → β}
theorem c_dw (P : PBok PB tB lB) (d : Nat) {h : Hp_} (I : Iv h) (m : Mrw h) {b : β} (B : PB b h) (x1 x2 x3 : Int32) (R : isM h x1 → h_i h (401 + x1.toNatClampNeg) 4 = 1 → Rok h (h_i h (401 + x1.toNatClampNeg)) 0) : Ci (m_X11_draw (d + 5) 0 0) [.ref 0, .int x1, .int x2, .int x3] h (fun r h' => ((isM h x1 ∧ okDw h (h_i h (401 + x1.toNatClampNeg)) x2 x3) → r = 1 ∧ Sxm PB (401 + x1.toNatClampNeg) (h_i h 0 0) (fDw (h_i h 0 0) (wI h) x2 x3 (h_i h (401 + x1.toNatClampNeg))).1 (h_i h (401 + x1.toNatClampNeg) 11).toNatClampNeg (fDw (h_i h 0 0) (wI h) x2 x3 (h_i h (401 + x1.toNatClampNeg))).2 (fB tB (h_i h 0 0) (fDw (h_i h 0 0) (wI h) x2 x3 (h_i h (401 + x1.toNatClampNeg))).1 b) h h') ∧ (¬ (isM h x1 ∧ okDw h (h_i h (401 + x1.toNatClampNeg)) x2 x3) → r = 0 ∧ h' = h)) := by
  refine t_X11_draw d h I.1 x1 x2 x3 _ (Cr.mono (c_mo d I m x1) (fun o h1 q => ?_))
  obtain ⟨eh, q⟩ := q
  subst eh
  refine ⟨I.1, fun e => ?_, fun b4 e => ?_⟩
  · rcases q with q | q
    · rw [e] at q
      cases q.2
    · exact ⟨fun y => absurd y.1 q.1, fun _ => ⟨rfl, rfl⟩⟩
  · have ym : isM h1 x1 := by
      rcases q with q | q
      · exact q.1
      · rw [e] at q
        cases q.2
    have eb : b4 = 401 + x1.toNatClampNeg := by
      rcases q with q | q
      · exact Option.some.inj (e.symm.trans q.2)
      · exact absurd ym q.1
    subst eb
    have hc := m.cn I ym
    have R := R ym
    generalize 401 + x1.toNatClampNeg = c at *
    have c1 := hc.1
    refine ⟨hc.2.2, by omega, Ci.mono (s_X11_isPlace _ h1 x2) (fun r8 h8 k => ?_)⟩
    obtain ⟨er, eh⟩ := k
    subst er eh
    refine ⟨I.1, hc.2.2, fun z => ⟨fun y => absurd y.2.1 (bI_0.mp z), fun _ => ⟨rfl, rfl⟩⟩, fun z => ⟨fun yt => Ci.mono (c_mn d I (h_i h8 c 3) x2) (fun r16 h16 k => ?_), fun nt => ⟨fun y => absurd y.2.2.1 nt, fun _ => ⟨rfl, rfl⟩⟩⟩⟩
    obtain ⟨eh, er⟩ := k
    subst eh er
    have yp : 0 ≤ x2 ∧ x2 < 16 := Decidable.byContradiction (fun n => z (bI_0.mpr n))
    refine ⟨I.1, hc.2.2, fun e1 => ⟨fun y => absurd e1 y.2.2.2.1, fun _ => ⟨rfl, rfl⟩⟩, fun n1 => ⟨fun e3 => ⟨fun y => absurd e3 y.2.2.2.2.1, fun _ => ⟨rfl, rfl⟩⟩, fun n3 => ⟨fun n4 => ?_, fun e4 => ⟨fun y => absurd e4 y.2.2.2.2.2, fun _ => ⟨rfl, rfl⟩⟩⟩⟩⟩
    have ok : isM h16 x1 ∧ okDw h16 (h_i h16 c) x2 x3 := ⟨ym, yp, yt, n1, n3, n4⟩
    refine Cv.mono (c_dp P d I hc B 3 R) (fun h23 s => ?_)
    have kk := s.2.1.k c1
    have ew := wI_eq s.2.1 c1
    have e6 : h_i h23 c 6 = (fDp 3 (h_i h16 c)).1 6 := by rw [s.2.2.1]
    refine ⟨s.1.1, (s.cn hc).2.2, fun n6 => ⟨fun _ => ⟨rfl, ?_⟩, fun y => absurd ok y⟩, fun y6 => ?_⟩
    · rw [e6] at n6
      have f : fDw (h_i h16 0 0) (wI h16) x2 x3 (h_i h16 c) = (up1 (up1 (up1 (fDp 3 (h_i h16 c)).1 4 3) 13 x2) 14 x3, (fDp 3 (h_i h16 c)).2) := by
        unfold fDw
        rw [if_neg n6]
      rw [f]
      have fb : fB tB (h_i h16 0 0) (up1 (up1 (up1 (fDp 3 (h_i h16 c)).1 4 3) 13 x2) 14 x3) b = b := by
        unfold fB
        rw [up1_ne (by decide), up1_ne (by decide), up1_at, if_neg (by decide)]
      show Sxm PB c (h_i h16 0 0) (up1 (up1 (up1 (fDp 3 (h_i h16 c)).1 4 3) 13 x2) 14 x3) _ _ (fB tB (h_i h16 0 0) (up1 (up1 (up1 (fDp 3 (h_i h16 c)).1 4 3) 13 x2) 14 x3) b) h16 _
      rw [fb]
      exact ((s.im P hc (by decide) 3).im P hc (by decide) x2).im P hc (by decide) x3
    · rw [e6] at y6
      have f : fDw (h_i h16 0 0) (wI h16) x2 x3 (h_i h16 c) = (fDr (h_i h16 0 0) (wI h16) (up1 (up1 (up1 (up1 (fDp 3 (h_i h16 c)).1 4 3) 13 x2) 14 x3) 7 (-1)), (fDp 3 (h_i h16 c)).2) := by
        unfold fDw
        rw [if_pos y6]
      rw [f]
      have s4 := (((s.im P hc (k := 4) (by decide) 3).im P hc (k := 13) (by decide) x2).im P hc (k := 14) (by decide) x3).im P hc (k := 7) (by decide) (-1)
      have k4 := s4.2.1.k c1
      have ew4 := wI_eq s4.2.1 c1
      have z := c_sd P d s4.1 (s4.cn hc) s4.2.2.2.2 ((h_i h16 c 11).toNatClampNeg + (fDp 3 (h_i h16 c)).2.length) (by rw [s4.2.2.1, up1_ne (by decide), up1_ne (by decide), up1_ne (by decide), up1_at])
      rw [k4.2.1, ew4, s4.2.2.1] at z
      refine Cv.mono z (fun h28 k => ⟨k.1.1, fun _ => ⟨rfl, ?_⟩, fun y => absurd ok y⟩)
      have q := s4.tr k rfl
      rw [List.append_nil] at q
      exact q
theorem c_il (P : PBok PB tB lB) (d : Nat) {h : Hp_} (I : Iv h) (m : Mrw h) {b : β} (B : PB b h) (x1 x2 : Int32) (b2 : x2 = 0 ∨ x2 = 1) (R : isM h x1 → h_i h (401 + x1.toNatClampNeg) 4 = 1 → Rok h (h_i h (401 + x1.toNatClampNeg)) 0) : Ci (m_X11_ill (d + 3) 0 0) [.ref 0, .int x1, .int x2] h (fun r h' => ((isM h x1 ∧ ¬ h_i h (401 + x1.toNatClampNeg) 4 = 4 ∧ x2 = 1) → r = 1 ∧ Sxm PB (401 + x1.toNatClampNeg) (h_i h 0 0) (fIl (h_i h (401 + x1.toNatClampNeg))).1 (h_i h (401 + x1.toNatClampNeg) 11).toNatClampNeg (fIl (h_i h (401 + x1.toNatClampNeg))).2 b h h') ∧ ((isM h x1 ∧ h_i h (401 + x1.toNatClampNeg) 4 = 4 ∧ x2 = 0) → r = 1 ∧ Sxm PB (401 + x1.toNatClampNeg) (h_i h 0 0) (fFree (h_i h (401 + x1.toNatClampNeg))) (h_i h (401 + x1.toNatClampNeg) 11).toNatClampNeg [] (tB (h_i h (401 + x1.toNatClampNeg) 0) (h_i h 0 0) b) h h') ∧ (¬ (isM h x1 ∧ ((¬ h_i h (401 + x1.toNatClampNeg) 4 = 4 ∧ x2 = 1) ∨ (h_i h (401 + x1.toNatClampNeg) 4 = 4 ∧ x2 = 0))) → r = 0 ∧ h' = h)) := by
  refine t_X11_ill d h I.1 x1 x2 _ (Cr.mono (c_mo d I m x1) (fun o h1 q => ?_))
  obtain ⟨eh, q⟩ := q
  subst eh
  refine ⟨I.1, fun e => ?_, fun b4 e => ?_⟩
  · rcases q with q | q
    · rw [e] at q
      cases q.2
    · exact ⟨fun y => absurd y.1 q.1, fun y => absurd y.1 q.1, fun _ => ⟨rfl, rfl⟩⟩
  · have ym : isM h1 x1 := by
      rcases q with q | q
      · exact q.1
      · rw [e] at q
        cases q.2
    have eb : b4 = 401 + x1.toNatClampNeg := by
      rcases q with q | q
      · exact Option.some.inj (e.symm.trans q.2)
      · exact absurd ym q.1
    subst eb
    have hc := m.cn I ym
    have R := R ym
    generalize 401 + x1.toNatClampNeg = c at *
    have c1 := hc.1
    have z10 : ∀ {x : Int32}, x = 1 → ¬ x = 0 := fun e => by rw [e]; decide
    refine ⟨hc.2.2, by omega, fun n4 => ⟨fun nz => ⟨fun ez => absurd ez nz, fun _ => Cv.mono (c_dp P d I hc B 4 R) (fun h14 s => ?_)⟩, fun ez => ⟨fun y => absurd ez (z10 y.2.2), fun y => absurd y.2.1 n4, fun _ => ⟨rfl, rfl⟩⟩⟩, fun y4 => ⟨fun n1 => ⟨fun ez => Cv.mono (c_sf P d I hc B (h_i h1 c 11).toNatClampNeg) (fun h23 k => ⟨k.1.1, fun y => absurd y4 y.2.1, fun _ => ⟨rfl, k⟩, fun y => absurd ⟨ym, Or.inr ⟨y4, ez⟩⟩ y⟩), fun nz => ?_⟩, fun e1 => ⟨fun y => absurd y4 y.2.1, fun y => absurd y.2.2 (z10 e1), fun _ => ⟨rfl, rfl⟩⟩⟩⟩
    · have e1 : x2 = 1 := b2.elim (fun e => absurd e nz) id
      have s3 := ((s.im P hc (k := 4) (by decide) 4).im P hc (k := 6) (by decide) (-1)).im P hc (k := 7) (by decide) (-1)
      have e3 : h_i h14 c 3 = h_i h1 c 3 := by rw [s.2.2.1]; exact fDp_k (by decide) (by decide) (by decide)
      rw [e3]
      refine ⟨s.1.1, (s.cn hc).2.2, Cv.mono (c_put P d s3.1 (s3.cn hc) s3.2.2.2.2 (h_i h1 c 3)) (fun h18 k6 => ⟨k6.1.1, fun _ => ⟨rfl, ?_⟩, fun y => absurd y.2.1 n4, fun y => absurd ⟨ym, Or.inl ⟨n4, e1⟩⟩ y⟩)⟩
      exact ⟨k6.1, s3.2.1.tr k6.2.1, by rw [k6.2.2.1, s3.2.2.1]; rfl, ⟨by rw [k6.2.2.2.1 51 (by omega)]; exact s3.2.2.2.1.1, by rw [k6.2.2.2.1 52 (by omega)]; exact s3.2.2.2.1.2.1, by rw [k6.2.2.2.1 53 (by omega)]; exact s3.2.2.2.1.2.2⟩, k6.2.2.2.2⟩
    · exact absurd (b2.elim (fun e => absurd e nz) id) n1
/-- begin: the rows of the beat's points, then its steps -/
noncomputable def fBg (n : Int32) (w : Int32 → Int32 → Int32) (b0 : Int32) (r r' : Nat) (L : List Sp3) (M : Nat → Int32) : (Nat → Int32) × List Ev2 := fSt n w L (up1 (up1 (up1 (up1 (up1 (up1 M 4 1) 8 b0) 9 0) 10 n) 11 (Int32.ofNat r)) 12 (Int32.ofNat r'))
noncomputable def Bxm (PB : β → Hp_ → Prop) (c : Nat) (m n : Int32) (M' : Nat → Int32) (r : Nat) (Q E : List Ev2) (b' : β) (h h' : Hp_) : Prop := Iv h' ∧ Gw c (wwR ++ wgM) h h' ∧ h_i h' c = M' ∧ (h_i h' 47 = rz (fun _ => m) r Q (h_i h 47) ∧ h_i h' 48 = rz Prod.fst r Q (h_i h 48) ∧ h_i h' 49 = rz (fun e => n + e.2) r Q (h_i h 49) ∧ h_i h' 50 = rz (fun _ => n) r Q (h_i h 50)) ∧ h_i h' 16 7 = Int32.ofNat (r + Q.length) ∧ (h_i h' 51 = rz Prod.fst r E (h_i h 51) ∧ h_i h' 52 = rz (fun _ => n) r E (h_i h 52) ∧ h_i h' 53 = rz Prod.snd r E (h_i h 53)) ∧ PB b' h'
theorem Gw.mo {c : Nat} {a b : List Nat} {h h' : Hp_} (g : Gw c a h h') (s : wsub a b = true) : Gw c b h h' := ⟨g.1, fun x k o => g.2 x k (inw_sub s o)⟩
theorem c_bg (P : PBok PB tB lB) (d : Nat) {h : Hp_} (I : Iv h) (m : Mrw h) {b : β} (B : PB b h) (x1 x2 : Int32) (n0 : isM h x1 → h_i h (401 + x1.toNatClampNeg) 0 = x1) (L : List Sp3) (S : (0 ≤ x2.toInt ∧ x2.toInt < (h_i h 12 3).toInt) → Stb h x2 0 L ∧ h_i h 35 x2.toNatClampNeg = Int32.ofNat L.length ∧ (h_i h 36 x2.toNatClampNeg).toInt = (mts L : Int)) : Ci (m_X11_begin (d + 6) 0 0) [.ref 0, .int x1, .int x2] h (fun r h' => ((isM h x1 ∧ (0 ≤ x2.toInt ∧ x2.toInt < (h_i h 12 3).toInt) ∧ h_i h (401 + x1.toNatClampNeg) 4 = 0 ∧ (h_i h 16 7).toInt + (mts L : Int) ≤ 400) → r = 1 ∧ Bxm PB (401 + x1.toNatClampNeg) x1 (h_i h 0 0) (fBg (h_i h 0 0) (wI h) x2 (h_i h 16 7).toNatClampNeg ((h_i h 16 7).toNatClampNeg + mts L) L (h_i h (401 + x1.toNatClampNeg))).1 (h_i h 16 7).toNatClampNeg (ptL L) (fBg (h_i h 0 0) (wI h) x2 (h_i h 16 7).toNatClampNeg ((h_i h 16 7).toNatClampNeg + mts L) L (h_i h (401 + x1.toNatClampNeg))).2 (fB tB (h_i h 0 0) (fBg (h_i h 0 0) (wI h) x2 (h_i h 16 7).toNatClampNeg ((h_i h 16 7).toNatClampNeg + mts L) L (h_i h (401 + x1.toNatClampNeg))).1 b) h h') ∧ (¬ (isM h x1 ∧ (0 ≤ x2.toInt ∧ x2.toInt < (h_i h 12 3).toInt) ∧ h_i h (401 + x1.toNatClampNeg) 4 = 0 ∧ (h_i h 16 7).toInt + (mts L : Int) ≤ 400) → r = 0 ∧ h' = h)) := by
  have t0 : (0 : Int32).toInt = 0 := rfl
  have t400 : (400 : Int32).toInt = 400 := rfl
  have b3 := x12_in I
  have r4 := rowX_in I
  refine t_X11_begin d h I.1 x1 x2 _ (Cr.mono (c_mo d I m x1) (fun o h1 q => ?_))
  obtain ⟨eh, q⟩ := q
  subst eh
  refine ⟨I.1, fun e => ?_, fun b4 e => ?_⟩
  · rcases q with q | q
    · rw [e] at q
      cases q.2
    · exact ⟨fun y => absurd y.1 q.1, fun _ => ⟨rfl, rfl⟩⟩
  · have ym : isM h1 x1 := by
      rcases q with q | q
      · exact q.1
      · rw [e] at q
        cases q.2
    have eb : b4 = 401 + x1.toNatClampNeg := by
      rcases q with q | q
      · exact Option.some.inj (e.symm.trans q.2)
      · exact absurd ym q.1
    subst eb
    have hc := m.cn I ym
    have n0 := n0 ym
    generalize 401 + x1.toNatClampNeg = c at *
    have c1 := hc.1
    refine ⟨hc.2.2, by omega, Ci.mono (c_has d I x2) (fun r10 h8 k => ?_)⟩
    obtain ⟨eh, k⟩ := k
    subst eh
    have hb : (¬ x2 < 0 ∧ ¬ h_i h8 12 3 ≤ x2) ↔ (0 ≤ x2.toInt ∧ x2.toInt < (h_i h8 12 3).toInt) := ⟨fun y => ⟨by have := q_nlt y.1; omega, by have := q_nle y.2; omega⟩, fun y => ⟨fun z => by have := q_lt.mp z; omega, fun z => by have := q_le.mp z; omega⟩⟩
    rw [hb] at k
    refine ⟨I.1, hc.2.2, fun e0 => ⟨fun y => ?_, fun _ => ⟨rfl, rfl⟩⟩, fun ne => ⟨fun nf => ⟨fun y => absurd y.2.2.1 nf, fun _ => ⟨rfl, rfl⟩⟩, fun yf => ?_⟩⟩
    · rcases k with k | k
      · rw [e0] at k
        exact absurd k.1 (by decide)
      · exact absurd y.2.1 k.2
    · have yb : 0 ≤ x2.toInt ∧ x2.toInt < (h_i h8 12 3).toInt := by
        rcases k with k | k
        · exact k.2
        · exact absurd k.1 ne
      obtain ⟨S, e35, e36⟩ := S yb
      have n2 := n_nat yb.1
      have ll : 0 + L.length ≤ 150 := S.2.1
      have ml := mts_l L
      have v2 : vp_in x2 12 := dp_in (lo := 0) (hi := 11) ⟨yb.1, by show _ ≤ (11 : Int); omega⟩ (by decide) (by decide)
      refine t_X0_pointsOf d h8 I.1 x2 _ (Ci.mono (c_has d I x2) (fun r3 h3 k3 => ?_))
      obtain ⟨eh, k3⟩ := k3
      subst eh
      rw [hb] at k3
      refine ⟨I.1, fun z => ?_, fun _ => ⟨v2, I.1, hc.2.2, ?_⟩⟩
      · rcases k3 with k3 | k3
        · rw [z] at k3
          exact absurd k3.1 (by decide)
        · exact absurd yb k3.2
      · have sm : (h_i h3 16 7 + h_i h3 36 x2.toNatClampNeg).toInt = (h_i h3 16 7).toInt + (mts L : Int) := by rw [tx_add (by omega) (by omega), e36]
        refine t_X7_hasRoom d h3 I.1 _ _ ⟨fun l => ⟨I.1, hc.2.2, fun n => absurd rfl n, fun _ => ⟨fun y => ?_, fun _ => ⟨rfl, rfl⟩⟩⟩, fun l => ⟨I.1, hc.2.2, fun _ => ?_, fun e => absurd e (by decide)⟩⟩
        · have l := q_lt.mp l
          have := y.2.2.2
          omega
        · have l := q_nlt l
          have lr : (h_i h3 16 7).toInt + (mts L : Int) ≤ 400 := by omega
          have ok : isM h3 x1 ∧ (0 ≤ x2.toInt ∧ x2.toInt < (h_i h3 12 3).toInt) ∧ h_i h3 c 4 = 0 ∧ (h_i h3 16 7).toInt + (mts L : Int) ≤ 400 := ⟨ym, yb, yf, lr⟩
          have s5 := (((((Sxm.rf (PB := PB) (c := c) (n := h_i h3 0 0) (r := 0) I B).im P hc (k := 4) (by decide) 1).im P hc (k := 8) (by decide) x2).im P hc (k := 9) (by decide) 0).im P hc (k := 10) (by decide) (h_i h3 0 0)).im P hc (k := 11) (by decide) (h_i h3 16 7)
          have k5 := s5.2.1.k c1
          have hc5 := s5.cn hc
          have o5 : ∀ a, a ≠ c → h_i (h_im (h_im (h_im (h_im (h_im h3 c 4 1) c 8 x2) c 9 0) c 10 (h_i h3 0 0)) c 11 (h_i h3 16 7)) a = h_i h3 a := fun a n => by rw [im_oth n, im_oth n, im_oth n, im_oth n, im_oth n]
          generalize hg : h_im (h_im (h_im (h_im (h_im h3 c 4 1) c 8 x2) c 9 0) c 10 (h_i h3 0 0)) c 11 (h_i h3 16 7) = g at *
          have ec := s5.2.2.1
          have g8 : h_i g c 8 = x2 := by rw [ec, up1_ne (by decide), up1_ne (by decide), up1_ne (by decide), up1_at]
          have g0 : h_i g c 0 = x1 := by rw [ec, up1_ne (by decide), up1_ne (by decide), up1_ne (by decide), up1_ne (by decide), up1_ne (by decide)]; exact n0
          have Sg : Stb g (h_i g c 8) 0 L := by rw [g8]; exact S.cg (fun k => by rw [o5 34 (by omega)])
          have hbg : Ci (m_X0_has (d + 0) 0 0) [.ref 12, .int x2] g (fun r h' => h' = g ∧ ((r = 1 ∧ (¬ x2 < 0 ∧ ¬ h_i g 12 3 ≤ x2)) ∨ (r = 0 ∧ ¬ (¬ x2 < 0 ∧ ¬ h_i g 12 3 ≤ x2)))) := c_has d s5.1 x2
          have g12 : h_i g 12 3 = h_i h3 12 3 := by rw [o5 12 (by omega)]
          have g35 : h_i g 35 x2.toNatClampNeg = Int32.ofNat L.length := by rw [o5 35 (by omega)]; exact e35
          rw [g12] at hbg
          have Wr := wr_lp P d L (h := g) (b := b) 0 (Int32.ofNat L.length) s5.1 hc5 s5.2.2.2.2 Sg (by rw [Nat.zero_add]) (by rw [k5.2.2.2.1]; exact lr)
          rw [g0, k5.2.1, k5.2.2.2.1] at Wr
          have Cw1 : Cv (m_X11_writeRows (d + 2) 0 0) [.ref 0, .ref c] g (fun h' => Wx PB x1 (h_i h3 0 0) (h_i h3 16 7).toNatClampNeg (ptL L) b g h') := by
            refine t_X11_writeRows d g s5.1.1 c hc5.2.2 (by omega) _ ?_
            rw [g8]
            refine t_X0_stepsOf d g s5.1.1 _ _ (Ci.mono hbg (fun r3 h' q => ?_))
            obtain ⟨e, q⟩ := q
            subst e
            rw [hb] at q
            refine ⟨s5.1.1, fun z => ?_, fun _ => ⟨v2, s5.1.1, hc5.2.2, ?_⟩⟩
            · rcases q with q | q
              · rw [z] at q
                exact absurd q.1 (by decide)
              · exact absurd yb q.2
            · rw [g35]
              exact Wr
          refine Cv.mono Cw1 (fun h23 w => ?_)
          obtain ⟨Iw, Fw, w47, w48, w49, w50, w16, Bw⟩ := w
          have hcw : Cn h23 c := hc5.of Fw.1
          have oc : ∀ a, a ≠ 16 → a ≠ 47 → a ≠ 48 → a ≠ 49 → a ≠ 50 → (∀ k, inw wwR a k = false) → h_i h23 a = h_i g a := fun a _ _ _ _ _ o => funext (fun k => (Fw.2 a k (o k)).1)
          have icn : ∀ k, inw wwR c k = false := fun k => by
            have e : cn c = cn 401 := by
              have q := cn_man (j := c - 401) (by have := hc.2.1; omega)
              rw [show 401 + (c - 401) = c by omega] at q
              rw [q]
              decide
            rw [inw_ce e]
            exact off_inw (by decide +kernel) k
          have hcc : h_i h23 c = h_i g c := funext (fun k => (Fw.2 c k (icn k)).1)
          rw [w16]
          have s6 : Sxm PB c (h_i h3 0 0) (up1 (h_i h23 c) 12 (Int32.ofNat ((h_i h3 16 7).toNatClampNeg + (ptL L).length))) 0 [] b h23 (h_im h23 c 12 (Int32.ofNat ((h_i h3 16 7).toNatClampNeg + (ptL L).length))) := (Sxm.rf Iw Bw).im P hcw (by decide) _
          have k6 := s6.2.1.k c1
          have f34 : ∀ k, h_i h23 34 k = h_i h3 34 k := fun k => by rw [(Fw.2 34 k (off_inw (by decide +kernel) k)).1, o5 34 (by omega)]
          have f0 : h_i h23 0 0 = h_i h3 0 0 := by rw [(Fw.2 0 0 (by decide +kernel)).1, o5 0 (by omega)]
          have f12 : h_i h23 12 3 = h_i h3 12 3 := by rw [(Fw.2 12 3 (by decide +kernel)).1, o5 12 (by omega)]
          have f35 : ∀ k, h_i h23 35 k = h_i h3 35 k := fun k => by rw [(Fw.2 35 k (off_inw (by decide +kernel) k)).1, o5 35 (by omega)]
          have fw : wI h23 = wI h3 := by
            funext p q
            unfold wI
            rw [(Fw.2 30 _ (off_inw (by decide +kernel) _)).1, o5 30 (by omega)]
          have hM : up1 (h_i h23 c) 12 (Int32.ofNat ((h_i h3 16 7).toNatClampNeg + (ptL L).length)) = up1 (up1 (up1 (up1 (up1 (up1 (h_i h3 c) 4 1) 8 x2) 9 0) 10 (h_i h3 0 0)) 11 (Int32.ofNat (h_i h3 16 7).toNatClampNeg)) 12 (Int32.ofNat ((h_i h3 16 7).toNatClampNeg + mts L)) := by rw [hcc, ec, ptL_l, of_nat32 r4.1]
          have f16 : h_i h23 16 7 = Int32.ofNat ((h_i h3 16 7).toNatClampNeg + mts L) := by rw [w16, ptL_l]
          have nr := n_nat r4.1
          have gM : h_i (h_im h23 c 12 (Int32.ofNat ((h_i h3 16 7).toNatClampNeg + (ptL L).length))) c = up1 (up1 (up1 (up1 (up1 (up1 (h_i h3 c) 4 1) 8 x2) 9 0) 10 (h_i h3 0 0)) 11 (Int32.ofNat (h_i h3 16 7).toNatClampNeg)) 12 (Int32.ofNat ((h_i h3 16 7).toNatClampNeg + mts L)) := s6.2.2.1.trans hM
          have z := c_ds P d s6.1 (s6.cn hcw) s6.2.2.2.2 L 0 (by rw [gM]; exact S.cg (fun k => (k6.2.2.2.2.2.1 k).trans (f34 k))) (by rw [gM]; rfl) (by rw [gM, k6.2.2.2.2.1, f12]; exact yb.2) (by rw [gM, k6.2.2.2.2.2.2, f35, Nat.zero_add]; exact e35) (by
            rw [gM]
            refine ⟨?_, ?_, ?_⟩
            · show 0 ≤ (Int32.ofNat (h_i h3 16 7).toNatClampNeg).toInt
              rw [on_j (by omega)]
              omega
            · show (Int32.ofNat (h_i h3 16 7).toNatClampNeg).toInt + (mts L : Int) ≤ (Int32.ofNat ((h_i h3 16 7).toNatClampNeg + mts L)).toInt
              rw [on_j (by omega), on_j (by omega)]
              omega
            · show (Int32.ofNat ((h_i h3 16 7).toNatClampNeg + mts L)).toInt ≤ _
              rw [k6.2.2.2.1, f16]
              exact Int.le_refl _) (by rw [gM]; rfl)
          rw [k6.2.1, f0, wI_eq s6.2.1 c1, fw, gM] at z
          refine ⟨Iw.1, hcw.2.2, Cv.mono z (fun h27 k => ⟨k.1.1, fun _ => ⟨rfl, ?_⟩, fun y => absurd ok y⟩)⟩
          have e11 : (up1 (up1 (up1 (up1 (up1 (up1 (h_i h3 c) 4 1) 8 x2) 9 0) 10 (h_i h3 0 0)) 11 (Int32.ofNat (h_i h3 16 7).toNatClampNeg)) 12 (Int32.ofNat ((h_i h3 16 7).toNatClampNeg + mts L)) 11).toNatClampNeg = (h_i h3 16 7).toNatClampNeg := by
            rw [up1_ne (by decide), up1_at, of_nat32 r4.1]
          rw [e11] at k
          have G : Gw c (wwR ++ wgM) h3 h27 := (((s5.2.1.mo (by decide +kernel)).tr ((Gw.fr (c := c) Fw).mo (by decide +kernel))).tr (s6.2.1.mo (by decide +kernel))).tr (k.2.1.mo (by decide +kernel))
          have p : ∀ a, a ≠ c → inw wgM a 0 = false → (∀ k, inw wgM a k = false) → h_i h27 a = h_i h23 a := fun a n _ o => funext (fun i => by rw [k.2.1.i a i n (o i), im_ne n])
          refine ⟨k.1, G, k.2.2.1, ⟨?_, ?_, ?_, ?_⟩, ?_, ⟨?_, ?_, ?_⟩, k.2.2.2.2⟩
          · rw [p 47 (by omega) (by decide +kernel) (fun k => off_inw (by decide +kernel) k), w47, o5 47 (by omega)]
          · rw [p 48 (by omega) (by decide +kernel) (fun k => off_inw (by decide +kernel) k), w48, o5 48 (by omega)]
          · rw [p 49 (by omega) (by decide +kernel) (fun k => off_inw (by decide +kernel) k), w49, o5 49 (by omega)]
          · rw [p 50 (by omega) (by decide +kernel) (fun k => off_inw (by decide +kernel) k), w50, o5 50 (by omega)]
          · rw [k.2.1.i 16 7 (by omega) (by decide +kernel), im_ne (by omega), w16]
          · rw [k.2.2.2.1.1, im_oth (by omega), show h_i h23 51 = h_i g 51 from funext (fun i => (Fw.2 51 i (off_inw (by decide +kernel) i)).1), o5 51 (by omega)]
            rfl
          · rw [k.2.2.2.1.2.1, im_oth (by omega), show h_i h23 52 = h_i g 52 from funext (fun i => (Fw.2 52 i (off_inw (by decide +kernel) i)).1), o5 52 (by omega)]
            rfl
          · rw [k.2.2.2.1.2.2, im_oth (by omega), show h_i h23 53 = h_i g 53 from funext (fun i => (Fw.2 53 i (off_inw (by decide +kernel) i)).1), o5 53 (by omega)]
            rfl
end MEN
/-! MEN, the reference: drop, draw, ill -/
theorem rq_o (g : Ev2 → Option Int32) : ∀ (E : List Ev2) (r : Nat) (f : Nat → Int32) (k : Nat), (k < r ∨ r + E.length ≤ k) → rq g r E f k = f k
  | [], _, _, _, _ => rfl
  | e :: E, r, f, k, hk => by
    have hk : k < r ∨ r + (E.length + 1) ≤ k := hk
    show rq g (r + 1) E (match g e with | some v => up1 f r v | none => f) k = f k
    rw [rq_o g E (r + 1) _ k (by omega)]
    cases g e with
    | none => rfl
    | some v => exact up1_ne (by omega)
theorem fDr_7 {n x : Int32} {w : Int32 → Int32 → Int32} {M : Nat → Int32} : fDr n w (up1 M 7 x) = fDr n w M := by
  have u5 : up1 M 7 x 5 = M 5 := up1_ne (by decide)
  have u13 : up1 M 7 x 13 = M 13 := up1_ne (by decide)
  have u14 : up1 M 7 x 14 = M 14 := up1_ne (by decide)
  unfold fDr
  rw [u5, u13, u14, sOut_7, fHome_7]
  have e : up1 (up1 M 7 x) 7 (M 14) = up1 M 7 (M 14) := funext (fun k => by
    by_cases a7 : k = 7
    · rw [a7, up1_at, up1_at]
    · rw [up1_ne a7, up1_ne a7, up1_ne a7])
  rw [e]
section MEN
variable {β : Type} {PM : β → Hp_ → Prop} {tB : Int32 → Int32 → β → β} {lM : Nat → Hp_ → β → β}
/-- what is dropped: rows r, r + 1 .. r + k, all of them open -/
noncomputable def Dpm (PM : β → Hp_ → Prop) (j : Nat) (n cz : Int32) (r k : Nat) (b : β) (h h' : Hp_) : Prop := Iv h' ∧ Gmm j h h' ∧ (∀ a, a ∈ [206, 208, 209, 210, 211, 212, 214, 215, 217, 218, 219, 248] → h_i h' a j = h_i h a j) ∧ (h_i h' 241 = rq (gM n) r (List.replicate k (2, cz)) (h_i h 241) ∧ h_i h' 242 = rq (gS n) r (List.replicate k (2, cz)) (h_i h 242) ∧ h_i h' 243 = rq gC r (List.replicate k (2, cz)) (h_i h 243)) ∧ PM b h'
theorem md_lp (P : PMok PM tB lM) (d : Nat) {x1 : Int32} (hx : 0 ≤ x1.toInt ∧ x1.toInt ≤ 11) (cz : Int32) : ∀ (k : Nat) {h : Hp_} {b : β} (r : Nat), Iv h → PM b h → h_i h 216 x1.toNatClampNeg = Int32.ofNat r → h_i h 217 x1.toNatClampNeg = Int32.ofNat (r + k) → r + k ≤ 400 → (∀ i, r ≤ i → i < r + k → h_i h 241 i = -1 ∧ h_i h 242 i = -1) → AW (m_X12_drop (d + 1) 0 0) 0 0 0 [(0, .ref 1), (1, .int x1), (2, .int cz)] [] h (kV (fun h' => Dpm PM x1.toNatClampNeg (h_i h 1 0) cz r k b h h'))
  | 0, h, b, r, I, B, e16, e17, l, op => by
    have v := v12 hx
    have Tt := t_X12_drop_0 d h I.1 x1 cz
    rw [e16, e17] at Tt
    refine Tt _ ⟨v, v, fun _ => ⟨v, im213 I _ _ (by decide), (Gmm.rf _ _).imj (by decide +kernel), fun a ha => ?_, ⟨?_, ?_, ?_⟩, P.1 _ _ _ _ _ (Or.inl (by decide)) B⟩, fun n => absurd (q_le.mpr (Int.le_refl _)) n⟩
    · refine im_ne ?_
      simp only [List.mem_cons, List.not_mem_nil, or_false] at ha
      omega
    · rw [im_oth (by decide)]
      rfl
    · rw [im_oth (by decide)]
      rfl
    · rw [im_oth (by decide)]
      rfl
  | k + 1, h, b, r, I, B, e16, e17, l, op => by
    have v := v12 hx
    have Tt := t_X12_drop_0 d h I.1 x1 cz
    rw [e16, e17, on_k (by omega)] at Tt
    have o := op r (Nat.le_refl _) (by omega)
    rw [o.1, o.2] at Tt
    have vr : vp_in (Int32.ofNat r) 400 := on_in (by omega) (by decide)
    have I2 := i24 (i24 I 242 r (h_i h 1 0) (Or.inr (Or.inl rfl))) 243 r cz (Or.inr (Or.inr rfl))
    refine Tt _ ⟨v, v, fun y => ?_, fun _ => ⟨v, vr, fun n => absurd rfl n, fun _ => ⟨v, vr, fun n => absurd rfl n, fun _ => ⟨v, ?_⟩⟩⟩⟩
    · have y := q_le.mp y
      rw [on_j (by omega), on_j (by omega)] at y
      omega
    · have Tm := t_X12_miss d h I.1 (Int32.ofNat r) cz
      rw [on_k (by omega)] at Tm
      refine Tm _ ⟨vr, vr, I2.1, v, v, ?_⟩
      have g16 : h_i (h_im (h_im h 242 r (h_i h 1 0)) 243 r cz) 216 x1.toNatClampNeg = Int32.ofNat r := by rw [im_ne (by decide), im_ne (by decide)]; exact e16
      rw [g16, on_s (by omega)]
      have I3 : Iv (h_im (h_im (h_im h 242 r (h_i h 1 0)) 243 r cz) 216 x1.toNatClampNeg (Int32.ofNat (r + 1))) := im216 I2 _ _ (by rw [on_j (by omega)]; omega)
      have G3 : Gmm x1.toNatClampNeg h (h_im (h_im (h_im h 242 r (h_i h 1 0)) 243 r cz) 216 x1.toNatClampNeg (Int32.ofNat (r + 1))) := (((Gmm.rf _ _).imo (by decide +kernel) (by decide)).imo (by decide +kernel) (by decide)).imj (by decide +kernel)
      have B3 : PM b (h_im (h_im (h_im h 242 r (h_i h 1 0)) 243 r cz) 216 x1.toNatClampNeg (Int32.ofNat (r + 1))) := P.1 _ _ _ _ _ (Or.inl (by decide)) (P.1 _ _ _ _ _ (Or.inr (Or.inl (by decide))) (P.1 _ _ _ _ _ (Or.inr (Or.inl (by decide))) B))
      have q41 : h_i (h_im (h_im (h_im h 242 r (h_i h 1 0)) 243 r cz) 216 x1.toNatClampNeg (Int32.ofNat (r + 1))) 241 = h_i h 241 := by rw [im_oth (by decide), im_oth (by decide), im_oth (by decide)]
      have q42 : h_i (h_im (h_im (h_im h 242 r (h_i h 1 0)) 243 r cz) 216 x1.toNatClampNeg (Int32.ofNat (r + 1))) 242 = up1 (h_i h 242) r (h_i h 1 0) := by rw [im_oth (by decide), im_oth (by decide), im_row]
      have q43 : h_i (h_im (h_im (h_im h 242 r (h_i h 1 0)) 243 r cz) 216 x1.toNatClampNeg (Int32.ofNat (r + 1))) 243 = up1 (h_i h 243) r cz := by rw [im_oth (by decide), im_row, im_oth (by decide)]
      have q16 : h_i (h_im (h_im (h_im h 242 r (h_i h 1 0)) 243 r cz) 216 x1.toNatClampNeg (Int32.ofNat (r + 1))) 216 x1.toNatClampNeg = Int32.ofNat (r + 1) := im_at
      have qo : ∀ a, a ∈ [206, 208, 209, 210, 211, 212, 214, 215, 217, 218, 219, 248] → h_i (h_im (h_im (h_im h 242 r (h_i h 1 0)) 243 r cz) 216 x1.toNatClampNeg (Int32.ofNat (r + 1))) a x1.toNatClampNeg = h_i h a x1.toNatClampNeg := fun a ha => by
        simp only [List.mem_cons, List.not_mem_nil, or_false] at ha
        rw [im_ne (by omega), im_ne (by omega), im_ne (by omega)]
      have q0 : h_i (h_im (h_im (h_im h 242 r (h_i h 1 0)) 243 r cz) 216 x1.toNatClampNeg (Int32.ofNat (r + 1))) 1 0 = h_i h 1 0 := G3.k.2.1
      generalize h_im (h_im (h_im h 242 r (h_i h 1 0)) 243 r cz) 216 x1.toNatClampNeg (Int32.ofNat (r + 1)) = g at *
      have ih := md_lp P d hx cz k (h := g) (b := b) (r + 1) I3 B3 q16 (by rw [qo 217 (by decide), e17, show r + 1 + k = r + (k + 1) by omega]) (by omega) (fun i a c => by
        have z := op i (by omega) (by omega)
        rw [q41, q42, up1_ne (by omega)]
        exact z)
      rw [q0] at ih
      refine AW.mono ih (fun w h' z => ⟨z.1, z.2.1, G3.tr z.2.2.1, fun a ha => (z.2.2.2.1 a ha).trans (qo a ha), ⟨?_, ?_, ?_⟩, z.2.2.2.2.2⟩)
      · rw [z.2.2.2.2.1.1, q41]
        rfl
      · rw [z.2.2.2.2.1.2.1, q42]
        rfl
      · rw [z.2.2.2.2.1.2.2, q43]
        rfl
theorem cv_drop {d : Nat} {x1 x2 : Int32} {h : Hp_} {K : Hp_ → Prop} (k : AW (m_X12_drop (d + 1) 0 0) 0 0 0 [(0, .ref 1), (1, .int x1), (2, .int x2)] [] h (kV K)) : Cv (m_X12_drop (d + 1) 0 0) [.ref 1, .int x1, .int x2] h K := by
  refine Ct.of (fun _ _ _ => trivial) pn_X12 (Nat.le_of_ble_eq_true rfl) ?_
  exact k
/-- a man whose beat may have been dropped: his state but for what he is about -/
noncomputable def Dpx (PM : β → Hp_ → Prop) (j : Nat) (n cz : Int32) (M : Nat → Int32) (b : β) (h h' : Hp_) : Prop := Iv h' ∧ Gmm j h h' ∧ (h_i h' 209 j = M 5 ∧ h_i h' 210 j = M 6 ∧ h_i h' 211 j = M 7 ∧ h_i h' 206 j = M 3) ∧ (h_i h' 241 = rq (gM n) (M 11).toNatClampNeg (fDp cz M).2 (h_i h 241) ∧ h_i h' 242 = rq (gS n) (M 11).toNatClampNeg (fDp cz M).2 (h_i h 242) ∧ h_i h' 243 = rq gC (M 11).toNatClampNeg (fDp cz M).2 (h_i h 243)) ∧ PM b h'
/-- he is on a beat: his rows that are left are open -/
noncomputable def Opn (h : Hp_) (M : Nat → Int32) : Prop := M 4 = 1 → 0 ≤ (M 11).toInt ∧ (M 11).toInt ≤ (M 12).toInt ∧ (M 12).toInt ≤ 400 ∧ ∀ i : Nat, (M 11).toInt ≤ (i : Int) → (i : Int) < (M 12).toInt → h_i h 241 i = -1 ∧ h_i h 242 i = -1
theorem m_dp (P : PMok PM tB lM) (d : Nat) {h : Hp_} (I : Iv h) {x1 : Int32} (hx : 0 ≤ x1.toInt ∧ x1.toInt ≤ 11) {M : Nat → Int32} (R : RMp x1.toNatClampNeg M h) {b : β} (B : PM b h) (e4 : M 4 = 1) (cz : Int32) (O : Opn h M) : Cv (m_X12_drop (d + 1) 0 0) [.ref 1, .int x1, .int cz] h (fun h' => Dpx PM x1.toNatClampNeg (h_i h 1 0) cz M b h h') := by
  obtain ⟨r0, r1, r2, op⟩ := O e4
  have q := R.2.1 e4
  have n1 := n_nat r0
  have n2 := n_nat (x := M 12) (by omega)
  have es : (M 12 - M 11).toInt = (M 12).toInt - (M 11).toInt := tx_sub (by omega) (by omega)
  have ns := n_nat (x := M 12 - M 11) (by omega)
  have z := md_lp P d hx cz (M 12 - M 11).toNatClampNeg (h := h) (b := b) (M 11).toNatClampNeg I B (by rw [q.2.2.2.1, of_nat32 r0]) (by rw [q.2.2.2.2, show (M 11).toNatClampNeg + (M 12 - M 11).toNatClampNeg = (M 12).toNatClampNeg by omega, of_nat32 (by omega)]) (by omega) (fun i a c => op i (by omega) (by omega))
  have f : (fDp cz M).2 = List.replicate (M 12 - M 11).toNatClampNeg (2, cz) := by
    unfold fDp
    rw [if_pos e4]
  refine cv_drop (AW.mono z (fun w h' k => ⟨k.1, k.2.1, k.2.2.1, ⟨by rw [k.2.2.2.1 209 (by decide)]; exact R.1.2.1, by rw [k.2.2.2.1 210 (by decide)]; exact R.1.2.2.1, by rw [k.2.2.2.1 211 (by decide)]; exact R.1.2.2.2, by rw [k.2.2.2.1 206 (by decide)]; exact R.2.2.2⟩, ?_, k.2.2.2.2.2⟩))
  rw [f]
  exact k.2.2.2.2.1
theorem dpx_no {h : Hp_} (I : Iv h) {j : Nat} {n cz : Int32} {M : Nat → Int32} (R : RMp j M h) {b : β} (B : PM b h) (n4 : ¬ M 4 = 1) : Dpx PM j n cz M b h h := by
  have f : (fDp cz M).2 = [] := by
    unfold fDp
    rw [if_neg n4]
  refine ⟨I, Gmm.rf _ _, ⟨R.1.2.1, R.1.2.2.1, R.1.2.2.2, R.2.2.2⟩, ?_, B⟩
  rw [f]
  exact ⟨rfl, rfl, rfl⟩
theorem Dpx.fr {j : Nat} {n cz : Int32} {M : Nat → Int32} {b : β} {h h1 h2 : Hp_} (P : PMok PM tB lM) (f : Fr [203999] h h1) (e : h_i h1 1 0 = h_i h 1 0) (D : Dpx PM j n cz M b h1 h2) : Dpx PM j n cz M b h h2 := by
  have g : Gmm j h h1 := (Gmm.rf _ _).fr f (by decide +kernel) (by decide +kernel)
  refine ⟨D.1, g.tr D.2.1, D.2.2.1, ⟨?_, ?_, ?_⟩, D.2.2.2.2⟩
  · rw [D.2.2.2.1.1, show h_i h1 241 = h_i h 241 from funext (fun k => fr_i f (by decide +kernel) k)]
  · rw [D.2.2.2.1.2.1, show h_i h1 242 = h_i h 242 from funext (fun k => fr_i f (by decide +kernel) k)]
  · rw [D.2.2.2.1.2.2, show h_i h1 243 = h_i h 243 from funext (fun k => fr_i f (by decide +kernel) k)]
noncomputable def isN (h : Hp_) (x1 : Int32) : Prop := 0 ≤ x1.toInt ∧ x1.toInt < (h_i h 1 7).toInt
theorem menM_in {h : Hp_} (I : Iv h) : 0 ≤ (h_i h 1 7).toInt ∧ (h_i h 1 7).toInt ≤ 12 := by
  have rg := I.2.1 1 7
  rw [show tf 1 7 = (0, 12) by decide +kernel] at rg
  exact ⟨rg.1, rg.2⟩
theorem isN_q {h : Hp_} (I : Iv h) {x1 : Int32} : (0 ≤ x1 ∧ x1 ≤ h_i h 1 7 - 1) ↔ isN h x1 := by
  have t0 : (0 : Int32).toInt = 0 := rfl
  have t1 : (1 : Int32).toInt = 1 := rfl
  have b := menM_in I
  have s1 : (h_i h 1 7 - 1).toInt = (h_i h 1 7).toInt - 1 := by rw [tx_sub (by rw [t1]; omega) (by rw [t1]; omega), t1]
  exact ⟨fun y => ⟨by have := q_le.mp y.1; omega, by have := q_le.mp y.2; omega⟩, fun y => ⟨q_le.mpr (by have := y.1; omega), q_le.mpr (by have := y.2; omega)⟩⟩
/-- drawn: behind the dropping -/
theorem dw_end (P : PMok PM tB lM) {h g : Hp_} {x1 x2 x3 y8 : Int32} {M : Nat → Int32} {b : β} (hx : 0 ≤ x1.toInt ∧ x1.toInt ≤ 11) (p2 : 0 ≤ x2.toInt ∧ x2.toInt ≤ 15) (b8 : y8 = 0 ∨ y8 = 1) (D : Dpx PM x1.toNatClampNeg (h_i h 1 0) 3 M b h g) : Mx PM x1.toNatClampNeg (h_i h 1 0) (up1 (up1 (up1 (fDp 3 M).1 4 3) 13 x2) 14 x3) (M 11).toNatClampNeg (fDp 3 M).2 b h (h_im (h_im (h_im (h_im (h_im g 213 x1.toNatClampNeg (-1)) 208 x1.toNatClampNeg 3) 218 x1.toNatClampNeg x2) 219 x1.toNatClampNeg x3) 248 x1.toNatClampNeg (vp_nar .boolean y8)) := by
  obtain ⟨Ig, Gg, ⟨d9, d10, d11, d6⟩, rr, Bg⟩ := D
  have fk : ∀ k, k ≠ 11 → k ≠ 15 → k ≠ 16 → (fDp 3 M).1 k = M k := fun k a b c => fDp_k a b c
  have I5 := im248 ((tr_ 219 (by decide +kernel) ((im208 (im213 Ig x1.toNatClampNeg (-1) (by decide)) x1.toNatClampNeg 3).im (a := 218) (k := x1.toNatClampNeg) (x := x2) (by rw [tfa_tf (show tfa 218 = some (0, 15) by decide +kernel)]; exact ⟨p2.1, p2.2⟩) (jw_jr (by decide) (by decide) _)) x1.toNatClampNeg x3 (by decide) (by decide))) x1.toNatClampNeg y8 b8
  refine ⟨I5, ((((Gg.imj (by decide +kernel)).imj (by decide +kernel)).imj (by decide +kernel)).imj (by decide +kernel)).imj (by decide +kernel), ⟨⟨?_, ?_, ?_, ?_⟩, fun e => ?_, fun _ => ⟨?_, ?_⟩, ?_⟩, ⟨?_, ?_, ?_⟩, P.1 _ _ _ _ _ (Or.inr (Or.inr (Or.inl rfl))) (P.1 _ _ _ _ _ (Or.inl (by decide)) (P.1 _ _ _ _ _ (Or.inl (by decide)) (P.1 _ _ _ _ _ (Or.inl (by decide)) (P.1 _ _ _ _ _ (Or.inl (by decide)) Bg))))⟩
  · rw [im_ne (by decide), im_ne (by decide), im_ne (by decide), im_at, up1_ne (by decide), up1_ne (by decide), up1_at]
  · rw [im_ne (by decide), im_ne (by decide), im_ne (by decide), im_ne (by decide), im_ne (by decide), up1_ne (by decide), up1_ne (by decide), up1_ne (by decide), fk 5 (by decide) (by decide) (by decide)]
    exact d9
  · rw [im_ne (by decide), im_ne (by decide), im_ne (by decide), im_ne (by decide), im_ne (by decide), up1_ne (by decide), up1_ne (by decide), up1_ne (by decide), fk 6 (by decide) (by decide) (by decide)]
    exact d10
  · rw [im_ne (by decide), im_ne (by decide), im_ne (by decide), im_ne (by decide), im_ne (by decide), up1_ne (by decide), up1_ne (by decide), up1_ne (by decide), fk 7 (by decide) (by decide) (by decide)]
    exact d11
  · rw [up1_ne (by decide), up1_ne (by decide), up1_at] at e
    exact absurd e (by decide)
  · rw [im_ne (by decide), im_ne (by decide), im_at, up1_ne (by decide), up1_at]
  · rw [im_ne (by decide), im_at, up1_at]
  · rw [im_ne (by decide), im_ne (by decide), im_ne (by decide), im_ne (by decide), im_ne (by decide), up1_ne (by decide), up1_ne (by decide), up1_ne (by decide), fk 3 (by decide) (by decide) (by decide)]
    exact d6
  · rw [im_oth (by decide), im_oth (by decide), im_oth (by decide), im_oth (by decide), im_oth (by decide)]
    exact rr.1
  · rw [im_oth (by decide), im_oth (by decide), im_oth (by decide), im_oth (by decide), im_oth (by decide)]
    exact rr.2.1
  · rw [im_oth (by decide), im_oth (by decide), im_oth (by decide), im_oth (by decide), im_oth (by decide)]
    exact rr.2.2
/-- what draw does from there -/
theorem dw_go (P : PMok PM tB lM) (d : Nat) {h g : Hp_} {x1 x2 x3 : Int32} {M : Nat → Int32} {b : β} (X : ExP h) (hx : 0 ≤ x1.toInt ∧ x1.toInt ≤ 11) (n0 : M 0 = x1) (p2 : 0 ≤ x2.toInt ∧ x2.toInt ≤ 15) (p5 : M 6 = -1 → 0 ≤ (M 5).toInt) (nz : M 6 = -1 → ¬ wI h (M 5) x2 = -1) (z0 : wI h (M 5) x2 = 0 → M 5 = x2) (D : Dpx PM x1.toNatClampNeg (h_i h 1 0) 3 M b h g) (K : Hp_ → Prop) (hK : ∀ h', Mx PM x1.toNatClampNeg (h_i h 1 0) (fDw (h_i h 1 0) (wI h) x2 x3 M).1 (M 11).toNatClampNeg (fDw (h_i h 1 0) (wI h) x2 x3 M).2 (fB tB (h_i h 1 0) (fDw (h_i h 1 0) (wI h) x2 x3 M).1 b) h h' → K h') : (¬ (h_i g 210 x1.toNatClampNeg) = (-1) → K (h_im (h_im (h_im (h_im (h_im g 213 x1.toNatClampNeg (-1)) 208 x1.toNatClampNeg 3) 218 x1.toNatClampNeg x2) 219 x1.toNatClampNeg x3) 248 x1.toNatClampNeg (vp_nar .boolean 0))) ∧ ((h_i g 210 x1.toNatClampNeg) = (-1) → Cv (m_X12_goDrawn (d + 4) 0 0) [.ref 1, .int x1] (h_im (h_im (h_im (h_im (h_im g 213 x1.toNatClampNeg (-1)) 208 x1.toNatClampNeg 3) 218 x1.toNatClampNeg x2) 219 x1.toNatClampNeg x3) 248 x1.toNatClampNeg (vp_nar .boolean 1)) (fun h30 => Wf h30 ∧ (K h30))) := by
  have fk : ∀ k, k ≠ 11 → k ≠ 15 → k ≠ 16 → (fDp 3 M).1 k = M k := fun k a b c => fDp_k a b c
  have g10 : h_i g 210 x1.toNatClampNeg = M 6 := D.2.2.1.2.1
  rw [g10]
  refine ⟨fun n6 => hK _ ?_, fun y6 => ?_⟩
  · have f : fDw (h_i h 1 0) (wI h) x2 x3 M = (up1 (up1 (up1 (fDp 3 M).1 4 3) 13 x2) 14 x3, (fDp 3 M).2) := by
      unfold fDw
      rw [if_neg (by rw [fk 6 (by decide) (by decide) (by decide)]; exact n6)]
    have fb : fB tB (h_i h 1 0) (up1 (up1 (up1 (fDp 3 M).1 4 3) 13 x2) 14 x3) b = b := by
      unfold fB
      rw [up1_ne (by decide), up1_ne (by decide), up1_at, if_neg (by decide)]
    rw [f]
    show Mx PM x1.toNatClampNeg (h_i h 1 0) (up1 (up1 (up1 (fDp 3 M).1 4 3) 13 x2) 14 x3) (M 11).toNatClampNeg (fDp 3 M).2 (fB tB (h_i h 1 0) (up1 (up1 (up1 (fDp 3 M).1 4 3) 13 x2) 14 x3) b) h _
    rw [fb]
    exact dw_end P hx p2 (Or.inl rfl) D
  · have s := dw_end (y8 := 1) (x3 := x3) P hx p2 (Or.inr rfl) D
    have kk := s.2.1.k
    have f : fDw (h_i h 1 0) (wI h) x2 x3 M = (fDr (h_i h 1 0) (wI h) (up1 (up1 (up1 (up1 (fDp 3 M).1 4 3) 13 x2) 14 x3) 7 (-1)), (fDp 3 M).2) := by
      unfold fDw
      rw [if_pos (by rw [fk 6 (by decide) (by decide) (by decide)]; exact y6)]
    have fd7 : fDr (h_i h 1 0) (wI h) (up1 (up1 (up1 (up1 (fDp 3 M).1 4 3) 13 x2) 14 x3) 7 (-1)) = fDr (h_i h 1 0) (wI h) (up1 (up1 (up1 (fDp 3 M).1 4 3) 13 x2) 14 x3) := fDr_7
    rw [f, fd7] at hK
    generalize h_im (h_im (h_im (h_im (h_im g 213 x1.toNatClampNeg (-1)) 208 x1.toNatClampNeg 3) 218 x1.toNatClampNeg x2) 219 x1.toNatClampNeg x3) 248 x1.toNatClampNeg (vp_nar .boolean 1) = g5 at *
    have u5 : up1 (up1 (up1 (fDp 3 M).1 4 3) 13 x2) 14 x3 5 = M 5 := by rw [up1_ne (by decide), up1_ne (by decide), up1_ne (by decide)]; exact fk 5 (by decide) (by decide) (by decide)
    have u6 : up1 (up1 (up1 (fDp 3 M).1 4 3) 13 x2) 14 x3 6 = -1 := by rw [up1_ne (by decide), up1_ne (by decide), up1_ne (by decide), fk 6 (by decide) (by decide) (by decide)]; exact y6
    have u13 : up1 (up1 (up1 (fDp 3 M).1 4 3) 13 x2) 14 x3 13 = x2 := by rw [up1_ne (by decide), up1_at]
    have u0 : up1 (up1 (up1 (fDp 3 M).1 4 3) 13 x2) 14 x3 0 = x1 := by rw [up1_ne (by decide), up1_ne (by decide), up1_ne (by decide), fk 0 (by decide) (by decide) (by decide)]; exact n0
    have u4 : up1 (up1 (up1 (fDp 3 M).1 4 3) 13 x2) 14 x3 4 = 3 := by rw [up1_ne (by decide), up1_ne (by decide), up1_at]
    have z := m_gd P d s.1 (kk.2.2.2.2.2 X) hx s.2.2.1 s.2.2.2.2 (by rw [u5]; exact p5 y6) u6 u0 u4 (by rw [u5, u13, kk.1]; exact nz y6) (by rw [u5, u13, kk.1]; exact z0) ((M 11).toNatClampNeg + (fDp 3 M).2.length)
    rw [kk.2.1, kk.1] at z
    refine Cv.mono z (fun h' k => ⟨k.1.1, hK h' ?_⟩)
    have q := s.tr k rfl
    rw [List.append_nil] at q
    exact q
noncomputable def DwP (PM : β → Hp_ → Prop) (tB : Int32 → Int32 → β → β) (x1 x2 x3 : Int32) (M : Nat → Int32) (b : β) (h : Hp_) (r : Int32) (h' : Hp_) : Prop := ((isN h x1 ∧ (0 ≤ x2 ∧ x2 ≤ 15) ∧ (h_i h 1 0 ≤ x3 ∧ x3 ≤ 30000) ∧ ¬ wI h (M 3) x2 = -1 ∧ ¬ M 4 = 3 ∧ ¬ M 4 = 4) → r = 1 ∧ Mx PM x1.toNatClampNeg (h_i h 1 0) (fDw (h_i h 1 0) (wI h) x2 x3 M).1 (M 11).toNatClampNeg (fDw (h_i h 1 0) (wI h) x2 x3 M).2 (fB tB (h_i h 1 0) (fDw (h_i h 1 0) (wI h) x2 x3 M).1 b) h h') ∧ (¬ (isN h x1 ∧ (0 ≤ x2 ∧ x2 ≤ 15) ∧ (h_i h 1 0 ≤ x3 ∧ x3 ≤ 30000) ∧ ¬ wI h (M 3) x2 = -1 ∧ ¬ M 4 = 3 ∧ ¬ M 4 = 4) → r = 0 ∧ Iv h' ∧ Fr [203999] h h')
theorem m_dw (P : PMok PM tB lM) (d : Nat) {h : Hp_} (I : Iv h) (X : ExP h) (x1 x2 x3 : Int32) {b : β} (B : PM b h) (M : Nat → Int32) (H : isN h x1 → RMp x1.toNatClampNeg M h ∧ M 0 = x1 ∧ (M 6 = -1 → 0 ≤ (M 5).toInt) ∧ Opn h M ∧ (∀ q, M 6 = -1 → ¬ wI h (M 3) q = -1 → ¬ wI h (M 5) q = -1)) : Ci (m_X12_draw (d + 5) 0 0) [.ref 1, .int x1, .int x2, .int x3] h (DwP PM tB x1 x2 x3 M b h) := by
  have t0 : (0 : Int32).toInt = 0 := rfl
  have t15 : (15 : Int32).toInt = 15 := rfl
  have bm := menM_in I
  refine t_X12_draw d h I.1 x1 x2 x3 _ ⟨fun n => ⟨fun y => absurd ((isN_q I).mpr y.1) n, fun _ => ⟨rfl, I, Fr.rf _ _⟩⟩, fun y1 => ⟨fun n => ⟨fun y => absurd y.2.1 n, fun _ => ⟨rfl, I, Fr.rf _ _⟩⟩, fun y2 => ⟨fun n => ⟨fun y => absurd y.2.2.1 n, fun _ => ⟨rfl, I, Fr.rf _ _⟩⟩, fun y3 => ?_⟩⟩⟩
  have ym := (isN_q I).mp y1
  obtain ⟨R, n0, p5, O, wt⟩ := H ym
  have hx : 0 ≤ x1.toInt ∧ x1.toInt ≤ 11 := ⟨ym.1, by have := ym.2; omega⟩
  have v := v12 hx
  have b6 := m206 I x1.toNatClampNeg
  have u1 := q_le.mp y2.1
  have u2 := q_le.mp y2.2
  have p2 : 0 ≤ x2.toInt ∧ x2.toInt ≤ 15 := ⟨by omega, by omega⟩
  rw [R.2.2.2] at b6
  have W := c_woI d I X (M 3) x2 ⟨b6.1, by omega⟩ ⟨p2.1, by omega⟩
  rw [R.2.2.2]
  refine ⟨v, Ci.mono W (fun r13 h11 k => ?_)⟩
  obtain ⟨I2, F2, er⟩ := k
  subst er
  have B2 : PM b h11 := P.2.1 b h h11 F2 B
  have f : ∀ a, off [203999] a = true → ∀ k, h_i h11 a k = h_i h a k := fun a o k => fr_i F2 o k
  have n2 : h_i h11 1 0 = h_i h 1 0 := (F2.2 1 0 (by decide +kernel)).1
  have R2 : RMp x1.toNatClampNeg M h11 := R.cg (fun a ha => by
    refine f a ?_ _
    simp only [mrL, List.mem_cons, List.not_mem_nil, or_false] at ha
    rcases ha with e | e | e | e | e | e | e | e | e | e | e | e | e | e <;> subst e <;> decide +kernel)
  have X2 : ExP h11 := X.fr F2 (by decide +kernel)
  have O2 : Opn h11 M := fun e => ⟨(O e).1, (O e).2.1, (O e).2.2.1, fun i a c => by
    rw [f 241 (by decide +kernel), f 242 (by decide +kernel)]
    exact (O e).2.2.2 i a c⟩
  have no : ∀ r : Int32, r = 0 → ¬ (isN h x1 ∧ (0 ≤ x2 ∧ x2 ≤ 15) ∧ (h_i h 1 0 ≤ x3 ∧ x3 ≤ 30000) ∧ ¬ wI h (M 3) x2 = -1 ∧ ¬ M 4 = 3 ∧ ¬ M 4 = 4) → (((isN h x1 ∧ (0 ≤ x2 ∧ x2 ≤ 15) ∧ (h_i h 1 0 ≤ x3 ∧ x3 ≤ 30000) ∧ ¬ wI h (M 3) x2 = -1 ∧ ¬ M 4 = 3 ∧ ¬ M 4 = 4) → r = 1 ∧ Mx PM x1.toNatClampNeg (h_i h 1 0) (fDw (h_i h 1 0) (wI h) x2 x3 M).1 (M 11).toNatClampNeg (fDw (h_i h 1 0) (wI h) x2 x3 M).2 (fB tB (h_i h 1 0) (fDw (h_i h 1 0) (wI h) x2 x3 M).1 b) h h11) ∧ (¬ (isN h x1 ∧ (0 ≤ x2 ∧ x2 ≤ 15) ∧ (h_i h 1 0 ≤ x3 ∧ x3 ≤ 30000) ∧ ¬ wI h (M 3) x2 = -1 ∧ ¬ M 4 = 3 ∧ ¬ M 4 = 4) → r = 0 ∧ Iv h11 ∧ Fr [203999] h h11)) := fun r e n => ⟨fun y => absurd y n, fun _ => ⟨e, I2, F2⟩⟩
  rw [R2.1.1]
  refine ⟨I2.1, fun e => no 0 rfl (fun y => y.2.2.2.1 e), fun n1 => ⟨v, fun e => no 0 rfl (fun y => y.2.2.2.2.1 e), fun n3 => ⟨v, fun n4 => ⟨v, fun n41 => ?_, fun y41 => ?_⟩, fun e => no 0 rfl (fun y => y.2.2.2.2.2 e)⟩⟩⟩
  · have ok : isN h x1 ∧ (0 ≤ x2 ∧ x2 ≤ 15) ∧ (h_i h 1 0 ≤ x3 ∧ x3 ≤ 30000) ∧ ¬ wI h (M 3) x2 = -1 ∧ ¬ M 4 = 3 ∧ ¬ M 4 = 4 := ⟨ym, y2, y3, n1, n3, n4⟩
    have D : Dpx PM x1.toNatClampNeg (h_i h 1 0) 3 M b h h11 := Dpx.fr P F2 n2 (dpx_no I2 R2 B2 n41)
    have G := fun K hK => dw_go P d (x3 := x3) X hx n0 p2 p5 (fun e => wt x2 e n1) (fun e => wI_z I X e) D K hK
    refine ⟨v, v, v, v, v, fun n6 => ⟨v, v, fun _ => (G (DwP PM tB x1 x2 x3 M b h 1) (fun h' k => ⟨fun _ => ⟨rfl, k⟩, fun y => absurd ok y⟩)).1 n6, fun e => absurd e n6⟩, fun y6 => ⟨v, v, fun n => absurd y6 n, fun _ => (G (DwP PM tB x1 x2 x3 M b h 1) (fun h' k => ⟨fun _ => ⟨rfl, k⟩, fun y => absurd ok y⟩)).2 y6⟩⟩
  · have ok : isN h x1 ∧ (0 ≤ x2 ∧ x2 ≤ 15) ∧ (h_i h 1 0 ≤ x3 ∧ x3 ≤ 30000) ∧ ¬ wI h (M 3) x2 = -1 ∧ ¬ M 4 = 3 ∧ ¬ M 4 = 4 := ⟨ym, y2, y3, n1, n3, n4⟩
    have z := m_dp P d I2 hx R2 B2 y41 3 O2
    rw [n2] at z
    refine Cv.mono z (fun h39 k => ?_)
    have D : Dpx PM x1.toNatClampNeg (h_i h 1 0) 3 M b h h39 := Dpx.fr P F2 n2 k
    have G := fun K hK => dw_go P d (x3 := x3) X hx n0 p2 p5 (fun e => wt x2 e n1) (fun e => wI_z I X e) D K hK
    refine ⟨k.1.1, v, v, v, v, v, fun n6 => ⟨v, v, fun _ => (G (DwP PM tB x1 x2 x3 M b h 1) (fun h' k => ⟨fun _ => ⟨rfl, k⟩, fun y => absurd ok y⟩)).1 n6, fun e => absurd e n6⟩, fun y6 => ⟨v, v, fun n => absurd y6 n, fun _ => (G (DwP PM tB x1 x2 x3 M b h 1) (fun h' k => ⟨fun _ => ⟨rfl, k⟩, fun y => absurd ok y⟩)).2 y6⟩⟩
theorem il_end (P : PMok PM tB lM) {h g : Hp_} {x1 : Int32} {M : Nat → Int32} {b : β} (D : Dpx PM x1.toNatClampNeg (h_i h 1 0) 4 M b h g) : Mx PM x1.toNatClampNeg (h_i h 1 0) (fIl M).1 (M 11).toNatClampNeg (fIl M).2 b h (h_im (h_im (h_im (h_im (h_im g 208 x1.toNatClampNeg 4) 209 x1.toNatClampNeg (h_i g 206 x1.toNatClampNeg)) 210 x1.toNatClampNeg (-1)) 211 x1.toNatClampNeg (-1)) 213 x1.toNatClampNeg (-1)) := by
  obtain ⟨Ig, Gg, ⟨d9, d10, d11, d6⟩, rr, Bg⟩ := D
  have b6 := m206 Ig x1.toNatClampNeg
  have I5 := im213 (im211 (im210 (im209 (im208 Ig x1.toNatClampNeg 4) x1.toNatClampNeg (h_i g 206 x1.toNatClampNeg) ⟨by omega, b6.2⟩) x1.toNatClampNeg (-1) (by decide)) x1.toNatClampNeg (-1)) x1.toNatClampNeg (-1) (by decide)
  have fe : (fIl M).2 = (fDp 4 M).2 := rfl
  have f4 : (fIl M).1 4 = 4 := by
    show up1 (up1 (up1 (up1 (fDp 4 M).1 4 4) 6 (-1)) 7 (-1)) 5 (M 3) 4 = 4
    rw [up1_ne (by decide), up1_ne (by decide), up1_ne (by decide), up1_at]
  have f5 : (fIl M).1 5 = M 3 := by
    show up1 (up1 (up1 (up1 (fDp 4 M).1 4 4) 6 (-1)) 7 (-1)) 5 (M 3) 5 = M 3
    rw [up1_at]
  have f6 : (fIl M).1 6 = -1 := by
    show up1 (up1 (up1 (up1 (fDp 4 M).1 4 4) 6 (-1)) 7 (-1)) 5 (M 3) 6 = -1
    rw [up1_ne (by decide), up1_ne (by decide), up1_at]
  have f7 : (fIl M).1 7 = -1 := by
    show up1 (up1 (up1 (up1 (fDp 4 M).1 4 4) 6 (-1)) 7 (-1)) 5 (M 3) 7 = -1
    rw [up1_ne (by decide), up1_at]
  have f3 : (fIl M).1 3 = M 3 := by
    show up1 (up1 (up1 (up1 (fDp 4 M).1 4 4) 6 (-1)) 7 (-1)) 5 (M 3) 3 = M 3
    rw [up1_ne (by decide), up1_ne (by decide), up1_ne (by decide), up1_ne (by decide), fDp_k (by decide) (by decide) (by decide)]
  refine ⟨I5, ((((Gg.imj (by decide +kernel)).imj (by decide +kernel)).imj (by decide +kernel)).imj (by decide +kernel)).imj (by decide +kernel), ⟨⟨?_, ?_, ?_, ?_⟩, fun e => ?_, fun e => ?_, ?_⟩, ⟨?_, ?_, ?_⟩, P.1 _ _ _ _ _ (Or.inl (by decide)) (P.1 _ _ _ _ _ (Or.inl (by decide)) (P.1 _ _ _ _ _ (Or.inl (by decide)) (P.1 _ _ _ _ _ (Or.inl (by decide)) (P.1 _ _ _ _ _ (Or.inl (by decide)) Bg))))⟩
  · rw [im_ne (by decide), im_ne (by decide), im_ne (by decide), im_ne (by decide), im_at, f4]
  · rw [im_ne (by decide), im_ne (by decide), im_ne (by decide), im_at, f5]
    exact d6
  · rw [im_ne (by decide), im_ne (by decide), im_at, f6]
  · rw [im_ne (by decide), im_at, f7]
  · rw [f4] at e
    exact absurd e (by decide)
  · rw [f4] at e
    exact absurd e (by decide)
  · rw [im_ne (by decide), im_ne (by decide), im_ne (by decide), im_ne (by decide), im_ne (by decide), f3]
    exact d6
  · rw [im_oth (by decide), im_oth (by decide), im_oth (by decide), im_oth (by decide), im_oth (by decide), fe]
    exact rr.1
  · rw [im_oth (by decide), im_oth (by decide), im_oth (by decide), im_oth (by decide), im_oth (by decide), fe]
    exact rr.2.1
  · rw [im_oth (by decide), im_oth (by decide), im_oth (by decide), im_oth (by decide), im_oth (by decide), fe]
    exact rr.2.2
theorem m_il (P : PMok PM tB lM) (d : Nat) {h : Hp_} (I : Iv h) (x1 x2 : Int32) (b2 : x2 = 0 ∨ x2 = 1) {b : β} (B : PM b h) (M : Nat → Int32) (H : isN h x1 → RMp x1.toNatClampNeg M h ∧ M 0 = x1 ∧ (M 4 = 4 → M 6 = -1 ∧ M 5 = M 3) ∧ Opn h M) : Ci (m_X12_ill (d + 2) 0 0) [.ref 1, .int x1, .int x2] h (fun r h' => ((isN h x1 ∧ ¬ M 4 = 4 ∧ x2 = 1) → r = 1 ∧ Mx PM x1.toNatClampNeg (h_i h 1 0) (fIl M).1 (M 11).toNatClampNeg (fIl M).2 b h h') ∧ ((isN h x1 ∧ M 4 = 4 ∧ x2 = 0) → r = 1 ∧ Mx PM x1.toNatClampNeg (h_i h 1 0) (fFree M) (M 11).toNatClampNeg [] (tB x1 (h_i h 1 0) b) h h') ∧ (¬ (isN h x1 ∧ ((¬ M 4 = 4 ∧ x2 = 1) ∨ (M 4 = 4 ∧ x2 = 0))) → r = 0 ∧ h' = h)) := by
  have bm := menM_in I
  have z10 : ∀ {x : Int32}, x = 1 → ¬ x = 0 := fun e => by rw [e]; decide
  refine t_X12_ill d h I.1 x1 x2 _ ⟨fun n => ⟨fun y => absurd ((isN_q I).mpr y.1) n, fun y => absurd ((isN_q I).mpr y.1) n, fun _ => ⟨rfl, rfl⟩⟩, fun y1 => ?_⟩
  have ym := (isN_q I).mp y1
  obtain ⟨R, n0, k4, O⟩ := H ym
  have hx : 0 ≤ x1.toInt ∧ x1.toInt ≤ 11 := ⟨ym.1, by have := ym.2; omega⟩
  have v := v12 hx
  rw [R.1.1]
  refine ⟨v, fun n4 => ⟨fun nz => ⟨fun _ => ⟨v, fun n41 => ⟨v, v, v, v, v, v, ?_⟩, fun y41 => ?_⟩, fun ez => absurd ez.symm nz⟩, fun ez => ⟨fun y => absurd ez.symm (z10 y.2.2), fun y => absurd y.2.1 n4, fun _ => ⟨rfl, rfl⟩⟩⟩, fun y4 => ⟨fun n1 => ⟨fun nz => absurd (b2.elim (fun e => absurd e nz) (fun e => e.symm)) n1, fun ez => ?_⟩, fun e1 => ⟨fun y => absurd y4 y.2.1, fun y => absurd y.2.2 (z10 e1.symm), fun _ => ⟨rfl, rfl⟩⟩⟩⟩
  · have e1 : x2 = 1 := b2.elim (fun e => absurd e.symm nz) id
    exact ⟨fun _ => ⟨rfl, il_end P (dpx_no I R B n41)⟩, fun y => absurd y.2.1 n4, fun y => absurd ⟨ym, Or.inl ⟨n4, e1⟩⟩ y⟩
  · have e1 : x2 = 1 := b2.elim (fun e => absurd e.symm nz) id
    exact Cv.mono (m_dp P d I hx R B y41 4 O) (fun h16 k => ⟨k.1.1, v, v, v, v, v, v, fun _ => ⟨rfl, il_end P k⟩, fun y => absurd y.2.1 n4, fun y => absurd ⟨ym, Or.inl ⟨n4, e1⟩⟩ y⟩)
  · have q := k4 y4
    have e206 := R.2.2.2
    have z := m_fr P d I hx B (M 11).toNatClampNeg (fFree M) (by unfold fFree; rw [up1_ne (by decide), up1_at]) (by rw [fFree_k (by decide) (by decide), e206]; exact q.2) (by rw [fFree_k (by decide) (by decide)]; exact q.1) (by unfold fFree; rw [up1_at]) (by rw [fFree_k (by decide) (by decide), e206])
    exact Cv.mono z (fun h47 k => ⟨k.1.1, fun y => absurd y4 y.2.1, fun _ => ⟨rfl, k⟩, fun y => absurd ⟨ym, Or.inr ⟨y4, ez⟩⟩ y⟩)
/-! begin -/
noncomputable def wwM : List Nat := [1063, 238999, 239999, 240999, 241999, 242999, 244999]
noncomputable def Wmx (PM : β → Hp_ → Prop) (m n : Int32) (r : Nat) (Q : List Ev2) (b : β) (h h' : Hp_) : Prop := Iv h' ∧ Fr wwM h h' ∧ (h_i h' 238 = rz (fun _ => m) r Q (h_i h 238) ∧ h_i h' 239 = rz Prod.fst r Q (h_i h 239) ∧ h_i h' 240 = rz (fun e => n + e.2) r Q (h_i h 240) ∧ h_i h' 241 = rz (fun _ => -1) r Q (h_i h 241) ∧ h_i h' 242 = rz (fun _ => -1) r Q (h_i h 242) ∧ h_i h' 244 = rz (fun _ => n) r Q (h_i h 244)) ∧ h_i h' 1 63 = Int32.ofNat (r + Q.length) ∧ PM b h'
theorem mb_lp (P : PMok PM tB lM) (d : Nat) {x1 x2 : Int32} (b2 : 0 ≤ x2.toInt ∧ x2.toInt ≤ 11) (K : Int32 → Hp_ → Prop) (hx : 0 ≤ x1.toInt ∧ x1.toInt ≤ 11) : ∀ (L : List Sp3) {h : Hp_} {b : β} (i : Nat), Iv h → PM b h → Stm h x2 i L → h_i h 227 x2.toNatClampNeg = Int32.ofNat (i + L.length) → (h_i h 1 63).toInt + (mts L : Int) ≤ 400 → (∀ h', Wmx PM x1 (h_i h 1 0) (h_i h 1 63).toNatClampNeg (ptL L) b h h' → Cv (m_X12_goOn (d + 3) 0 0) [.ref 1, .int x1] (h_im h' 217 x1.toNatClampNeg (h_i h' 1 63)) (fun h22 => Wf h22 ∧ (K 1 h22))) → AW (m_X12_begin (d + 4) 0 0) 0 0 106 [(0, .ref 1), (1, .int x1), (2, .int x2), (3, .int (150 * x2 + Int32.ofNat i))] [] h (kI K)
  | [], h, b, i, I, B, S, e227, R, O => by
    have v := v12 hx
    have r4 := rows_in I
    have v2 : vp_in x2 12 := dp_in (lo := 0) (hi := 11) ⟨b2.1, b2.2⟩ (by decide) (by decide)
    have Tt := t_X12_begin_106 d h I.1 x1 x2 (150 * x2 + Int32.ofNat i)
    rw [e227] at Tt
    exact Tt _ ⟨v2, fun _ => ⟨v, O h ⟨I, Fr.rf _ _, ⟨rfl, rfl, rfl, rfl, rfl, rfl⟩, (of_nat32 r4.1).symm, B⟩⟩, fun n => absurd (q_le.mpr (Int.le_refl _)) n⟩
  | x :: L, h, b, i, I, B, S, e227, R, O => by
    have v := v12 hx
    have rg := rows_in I
    have r4 : (h_i h 1 63).toInt ≤ 400 := rg.2
    have r0 : 0 ≤ (h_i h 1 63).toInt := rg.1
    have t150 : (150 : Int32).toInt = 150 := rfl
    have v2 : vp_in x2 12 := dp_in (lo := 0) (hi := 11) ⟨b2.1, b2.2⟩ (by decide) (by decide)
    have ll : i + (L.length + 1) ≤ 150 := S.2.1
    have l2 : (i + (x :: L).length : Nat) = i + (L.length + 1) := rfl
    have oi := on_j (n := i) (by omega)
    have ol := on_j (n := i + (L.length + 1)) (by omega)
    have n2 := n_nat b2.1
    have m1 : (150 * x2).toInt = 150 * x2.toInt := by rw [tx_mul (by rw [t150]; omega) (by rw [t150]; omega), t150]
    have m2 : (150 * x2 + Int32.ofNat i).toInt = 150 * x2.toInt + (i : Int) := by rw [tx_add (by omega) (by omega), m1, oi]
    have m3 : (150 * x2 + Int32.ofNat (i + (L.length + 1))).toInt = 150 * x2.toInt + ((i + (L.length + 1) : Nat) : Int) := by rw [tx_add (by omega) (by omega), m1, ol]
    have nm := n_nat (x := 150 * x2 + Int32.ofNat i) (by omega)
    have km : (150 * x2 + Int32.ofNat i).toNatClampNeg = 150 * x2.toNatClampNeg + i := by omega
    have vi : vp_in (150 * x2 + Int32.ofNat i) 1800 := dp_in (lo := 0) (hi := 1799) ⟨by show (0 : Int) ≤ _; omega, by show _ ≤ (1799 : Int); omega⟩ (by decide) (by decide)
    have nx : 150 * x2 + Int32.ofNat i + 1 = 150 * x2 + Int32.ofNat (i + 1) := by rw [Int32.add_assoc, on_s (by omega)]
    have sb := S.hd.1
    have a8 : h_i h 228 (150 * x2.toNatClampNeg + i) = x.1 := congrArg (fun z => z.1) sb
    have a9 : h_i h 229 (150 * x2.toNatClampNeg + i) = x.2.1 := congrArg (fun z => z.2.1) sb
    have a10 : h_i h 230 (150 * x2.toNatClampNeg + i) = x.2.2 := congrArg (fun z => z.2.2) sb
    have m : mts (x :: L) = (if x.1 = 2 then 1 else 0) + mts L := rfl
    rw [m] at R
    have Tt := t_X12_begin_106 d h I.1 x1 x2 (150 * x2 + Int32.ofNat i)
    rw [e227, km, a8, a9, a10, nx, l2] at Tt
    refine Tt _ ⟨v2, fun y => ?_, fun _ => ⟨vi, fun ny => ?_, fun y2 => ?_⟩⟩
    · have y := q_le.mp y
      omega
    · have f : ptL (x :: L) = ptL L := if_neg ny
      rw [f] at O
      rw [if_neg ny] at R
      exact mb_lp P d b2 K hx L (i + 1) I B S.tl (by rw [e227, l2, show i + 1 + L.length = i + (L.length + 1) by omega]) (by omega) O
    · have f : ptL (x :: L) = x.2 :: ptL L := if_pos y2
      rw [if_pos y2] at R
      have vr : vp_in (h_i h 1 63) 400 := dp_in (lo := 0) (hi := 399) ⟨r0, by show _ ≤ (399 : Int); omega⟩ (by decide) (by decide)
      have rn := row_n (x := h_i h 1 63) r0 (by omega)
      have I7 := (tr_ 244 (by decide +kernel) (tr_ 242 (by decide +kernel) (tr_ 241 (by decide +kernel) (tr_ 240 (by decide +kernel) (tr_ 239 (by decide +kernel) (tr_ 238 (by decide +kernel) I (h_i h 1 63).toNatClampNeg x1 (by decide) (by decide)) (h_i h 1 63).toNatClampNeg x.2.1 (by decide) (by decide)) (h_i h 1 63).toNatClampNeg (h_i h 1 0 + x.2.2) (by decide) (by decide)) (h_i h 1 63).toNatClampNeg (-1) (by decide) (by decide)) (h_i h 1 63).toNatClampNeg (-1) (by decide) (by decide)) (h_i h 1 63).toNatClampNeg (h_i h 1 0) (by decide) (by decide)).im (a := 1) (k := 63) (x := h_i h 1 63 + 1) (by rw [show tf 1 63 = (0, 400) by decide +kernel]; exact ⟨by show (0 : Int) ≤ _; omega, by show _ ≤ (400 : Int); omega⟩) (by decide)
      have F7 : Fr wwM h (h_im (h_im (h_im (h_im (h_im (h_im (h_im h 238 (h_i h 1 63).toNatClampNeg x1) 239 (h_i h 1 63).toNatClampNeg x.2.1) 240 (h_i h 1 63).toNatClampNeg (h_i h 1 0 + x.2.2)) 241 (h_i h 1 63).toNatClampNeg (-1)) 242 (h_i h 1 63).toNatClampNeg (-1)) 244 (h_i h 1 63).toNatClampNeg (h_i h 1 0)) 1 63 (h_i h 1 63 + 1)) := (((((((Fr.rf _ _).im (inw_row (by decide +kernel) _)).im (inw_row (by decide +kernel) _)).im (inw_row (by decide +kernel) _)).im (inw_row (by decide +kernel) _)).im (inw_row (by decide +kernel) _)).im (inw_row (by decide +kernel) _)).im (by decide +kernel)
      have B7 : PM b (h_im (h_im (h_im (h_im (h_im (h_im (h_im h 238 (h_i h 1 63).toNatClampNeg x1) 239 (h_i h 1 63).toNatClampNeg x.2.1) 240 (h_i h 1 63).toNatClampNeg (h_i h 1 0 + x.2.2)) 241 (h_i h 1 63).toNatClampNeg (-1)) 242 (h_i h 1 63).toNatClampNeg (-1)) 244 (h_i h 1 63).toNatClampNeg (h_i h 1 0)) 1 63 (h_i h 1 63 + 1)) := P.1 _ _ _ _ _ (Or.inr (Or.inr (Or.inr ⟨rfl, rfl⟩))) (P.1 _ _ _ _ _ (Or.inr (Or.inl (by decide))) (P.1 _ _ _ _ _ (Or.inr (Or.inl (by decide))) (P.1 _ _ _ _ _ (Or.inr (Or.inl (by decide))) (P.1 _ _ _ _ _ (Or.inr (Or.inl (by decide))) (P.1 _ _ _ _ _ (Or.inr (Or.inl (by decide))) (P.1 _ _ _ _ _ (Or.inr (Or.inl (by decide))) B))))))
      refine ⟨vr, vi, vr, vi, vr, vr, vr, vr, ?_⟩
      generalize hg : h_im (h_im (h_im (h_im (h_im (h_im (h_im h 238 (h_i h 1 63).toNatClampNeg x1) 239 (h_i h 1 63).toNatClampNeg x.2.1) 240 (h_i h 1 63).toNatClampNeg (h_i h 1 0 + x.2.2)) 241 (h_i h 1 63).toNatClampNeg (-1)) 242 (h_i h 1 63).toNatClampNeg (-1)) 244 (h_i h 1 63).toNatClampNeg (h_i h 1 0)) 1 63 (h_i h 1 63 + 1) = g at *
      have g8 : h_i g 238 = up1 (h_i h 238) (h_i h 1 63).toNatClampNeg x1 := by rw [← hg, im_oth (by decide), im_oth (by decide), im_oth (by decide), im_oth (by decide), im_oth (by decide), im_oth (by decide), im_row]
      have g9 : h_i g 239 = up1 (h_i h 239) (h_i h 1 63).toNatClampNeg x.2.1 := by rw [← hg, im_oth (by decide), im_oth (by decide), im_oth (by decide), im_oth (by decide), im_oth (by decide), im_row, im_oth (by decide)]
      have g10 : h_i g 240 = up1 (h_i h 240) (h_i h 1 63).toNatClampNeg (h_i h 1 0 + x.2.2) := by rw [← hg, im_oth (by decide), im_oth (by decide), im_oth (by decide), im_oth (by decide), im_row, im_oth (by decide), im_oth (by decide)]
      have g11 : h_i g 241 = up1 (h_i h 241) (h_i h 1 63).toNatClampNeg (-1) := by rw [← hg, im_oth (by decide), im_oth (by decide), im_oth (by decide), im_row, im_oth (by decide), im_oth (by decide), im_oth (by decide)]
      have g12 : h_i g 242 = up1 (h_i h 242) (h_i h 1 63).toNatClampNeg (-1) := by rw [← hg, im_oth (by decide), im_oth (by decide), im_row, im_oth (by decide), im_oth (by decide), im_oth (by decide), im_oth (by decide)]
      have g14 : h_i g 244 = up1 (h_i h 244) (h_i h 1 63).toNatClampNeg (h_i h 1 0) := by rw [← hg, im_oth (by decide), im_row, im_oth (by decide), im_oth (by decide), im_oth (by decide), im_oth (by decide), im_oth (by decide)]
      have g63 : h_i g 1 63 = h_i h 1 63 + 1 := by rw [← hg, im_at]
      have g0 : h_i g 1 0 = h_i h 1 0 := (F7.2 1 0 (by decide +kernel)).1
      have gs : ∀ k, sB g k = sB h k := fun k => by
        funext i
        unfold sB
        rw [fr_i F7 (by decide +kernel), fr_i F7 (by decide +kernel), fr_i F7 (by decide +kernel)]
      have g227 : ∀ k, h_i g 227 k = h_i h 227 k := fun k => fr_i F7 (by decide +kernel) k
      refine mb_lp P d b2 K hx L (h := g) (b := b) (i + 1) I7 B7 (S.tl.cg gs) (by rw [g227, e227, l2, show i + 1 + L.length = i + (L.length + 1) by omega]) (by rw [g63]; omega) (fun h' w => O h' ?_)
      obtain ⟨Iw, Fw, ⟨w8, w9, w10, w11, w12, w14⟩, w63, Bw⟩ := w
      rw [g63, rn.1] at w8 w9 w10 w11 w12 w14 w63
      rw [g0] at w10 w14
      rw [f]
      refine ⟨Iw, F7.tr Fw, ⟨?_, ?_, ?_, ?_, ?_, ?_⟩, ?_, Bw⟩
      · rw [w8, g8]
        rfl
      · rw [w9, g9]
        rfl
      · rw [w10, g10]
        rfl
      · rw [w11, g11]
        rfl
      · rw [w12, g12]
        rfl
      · rw [w14, g14]
        rfl
      · rw [w63]
        show Int32.ofNat ((h_i h 1 63).toNatClampNeg + 1 + (ptL L).length) = Int32.ofNat ((h_i h 1 63).toNatClampNeg + ((ptL L).length + 1))
        rw [show (h_i h 1 63).toNatClampNeg + 1 + (ptL L).length = (h_i h 1 63).toNatClampNeg + ((ptL L).length + 1) by omega]
end MEN
end
