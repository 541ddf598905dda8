section
/-! what class and reference keep alike; what the law's loop keeps -/
noncomputable def rlT : List ((Nat × Nat) × Nat) := [((11, 1), 32), ((12, 3), 42)]
theorem rlT_F : Rlf rlT HF := fun q hq => by
  have z : rlT.all (fun q => h_i HF q.1.1 q.1.2 == h_i HF 1 q.2) = true := by decide +kernel
  exact eq_of_beq (List.all_eq_true.mp z q hq)
/-- the tape, and how many acts and pays there are -/
noncomputable def ExT (h : Hp_) : Prop := (∀ k, k < xn h → h_i h 225 k = h_i h 31 k) ∧ h_i h 235 0 = h_i h 13 5 ∧ h_i h 235 1 = h_i h 14 5
noncomputable def exoT (ws : List Nat) : Bool := off ws 31 && off ws 225 && off ws 235 && !inw ws 11 1 && !inw ws 13 5 && !inw ws 14 5
theorem exT_F : ExT HF := by
  have z : xn HF = 0 := by
    show (h_i HF 11 1).toNatClampNeg = 0
    rw [show h_i HF 11 1 = 0 by decide +kernel]
    rfl
  exact ⟨fun k hk => absurd hk (by rw [z]; omega), by decide +kernel, by decide +kernel⟩
theorem ExT.cg {h h' : Hp_} (e : ExT h) (a : ∀ k, h_i h' 31 k = h_i h 31 k) (b : ∀ k, h_i h' 225 k = h_i h 225 k) (c : ∀ k, h_i h' 235 k = h_i h 235 k) (n : h_i h' 11 1 = h_i h 11 1) (p : h_i h' 13 5 = h_i h 13 5) (q : h_i h' 14 5 = h_i h 14 5) : ExT h' := by
  refine ⟨fun k hk => ?_, by rw [c, p]; exact e.2.1, by rw [c, q]; exact e.2.2⟩
  rw [a, b]
  refine e.1 k ?_
  have hk : k < (h_i h' 11 1).toNatClampNeg := hk
  rw [n] at hk
  exact hk
theorem ExT.fr {ws : List Nat} {h h' : Hp_} (e : ExT h) (f : Fr ws h h') (o : exoT ws = true) : ExT h' := by
  unfold exoT at o
  simp only [Bool.and_eq_true, Bool.not_eq_true'] at o
  exact e.cg (fun k => fr_i f o.1.1.1.1.1 k) (fun k => fr_i f o.1.1.1.1.2 k) (fun k => fr_i f o.1.1.1.2 k) (f.2 11 1 o.1.1.2).1 (f.2 13 5 o.1.2).1 (f.2 14 5 o.2).1
theorem ExT.mf {W : List Nat} {h h' : Hp_} (e : ExT h) (f : Mf W h h') (o : exoT W = true) : ExT h' := by
  unfold exoT at o
  simp only [Bool.and_eq_true, Bool.not_eq_true'] at o
  exact e.cg (fun k => (f.2.2.2 31 k (by decide) (off_inw o.1.1.1.1.1 k)).1) (fun k => f.2.1 225 (by decide) (by decide) k) (fun k => f.2.1 235 (by decide) (by decide) k) (f.2.2.2 11 1 (by decide) o.1.1.2).1 (f.2.2.2 13 5 (by decide) o.1.2).1 (f.2.2.2 14 5 (by decide) o.2).1
/-- of each beat how many steps, how many of them points -/
noncomputable def ExB (h : Hp_) : Prop := ∀ k, k < (h_i h 12 3).toNatClampNeg → h_i h 35 k = h_i h 227 k ∧ (h_i h 36 k).toInt = (mP (h_i h 228) k (h_i h 227 k).toNatClampNeg 0 : Int)
noncomputable def exoB (ws : List Nat) : Bool := off ws 35 && off ws 36 && off ws 227 && off ws 228 && !inw ws 12 3
theorem ExB.cg {h h' : Hp_} (e : ExB h) (a : ∀ k, h_i h' 35 k = h_i h 35 k) (b : ∀ k, h_i h' 36 k = h_i h 36 k) (c : ∀ k, h_i h' 227 k = h_i h 227 k) (d : ∀ k, h_i h' 228 k = h_i h 228 k) (n : h_i h' 12 3 = h_i h 12 3) : ExB h' := fun k hk => by
  rw [n] at hk
  rw [a, b, c, show h_i h' 228 = h_i h 228 from funext d]
  exact e k hk
theorem ExB.fr {ws : List Nat} {h h' : Hp_} (e : ExB h) (f : Fr ws h h') (o : exoB ws = true) : ExB h' := by
  unfold exoB at o
  simp only [Bool.and_eq_true, Bool.not_eq_true'] at o
  exact e.cg (fun k => fr_i f o.1.1.1.1 k) (fun k => fr_i f o.1.1.1.2 k) (fun k => fr_i f o.1.1.2 k) (fun k => fr_i f o.1.2 k) (f.2 12 3 o.2).1
theorem ExB.mf {W : List Nat} {h h' : Hp_} (e : ExB h) (f : Mf W h h') (o : exoB W = true) : ExB h' := by
  unfold exoB at o
  simp only [Bool.and_eq_true, Bool.not_eq_true'] at o
  exact e.cg (fun k => (f.2.2.2 35 k (by decide) (off_inw o.1.1.1.1 k)).1) (fun k => (f.2.2.2 36 k (by decide) (off_inw o.1.1.1.2 k)).1) (fun k => f.2.1 227 (by decide) (by decide) k) (fun k => f.2.1 228 (by decide) (by decide) k) (f.2.2.2 12 3 (by decide) o.2).1
noncomputable def ExTB (h : Hp_) : Prop := ExT h ∧ ExB h
noncomputable def exoTB (ws : List Nat) : Bool := exoT ws && exoB ws
theorem exTB_F : ExTB HF := ⟨exT_F, fun k hk => by
  rw [show h_i HF 12 3 = 0 by decide +kernel] at hk
  exact absurd hk (by show ¬ k < 0; omega)⟩
theorem ExTB.fr {ws : List Nat} {h h' : Hp_} (e : ExTB h) (f : Fr ws h h') (o : exoTB ws = true) : ExTB h' := by
  unfold exoTB at o
  rw [Bool.and_eq_true] at o
  exact ⟨e.1.fr f o.1, e.2.fr f o.2⟩
theorem ExTB.mf {W : List Nat} {h h' : Hp_} (e : ExTB h) (f : Mf W h h') (o : exoTB W = true) : ExTB h' := by
  unfold exoTB at o
  rw [Bool.and_eq_true] at o
  exact ⟨e.1.mf f o.1, e.2.mf f o.2⟩
/-- the men, and what this row wants besides -/
noncomputable def MefT (h : Hp_) : Prop := Mn h ∧ ExTB h
noncomputable def LiT (N : Nat) (h : Hp_) : Prop := Iv h ∧ J2 h ∧ h_sh h 2 = some (3, 1) ∧ (∃ c, h_r h 0 15 = some c ∧ h_sh h c = some (3, N)) ∧ Rlf rlT h ∧ MefT h
theorem LiT.z {N : Nat} {h : Hp_} (L : LiT N h) : Li0 N h := ⟨L.1, L.2.1, L.2.2.1, L.2.2.2.1⟩
theorem Li0.liT {N : Nat} {h : Hp_} (L : Li0 N h) (R : Rlf rlT h) (m : MefT h) : LiT N h := ⟨L.1, L.2.1, L.2.2.1, L.2.2.2, R, m⟩
theorem Mn.fr {ws : List Nat} {h h' : Hp_} (m : Mn h) (f : Fr ws h h') (o : (!inw ws 0 7 && off ws 15) = true) : Mn h' := fun k hk hm => by
  rw [Bool.and_eq_true, Bool.not_eq_true'] at o
  rw [(f.2 15 k (off_inw o.2 k)).2.2]
  exact m k hk (by rw [(f.2 0 7 o.1).1] at hm; exact hm)
theorem MefT.fr {ws : List Nat} {h h' : Hp_} (m : MefT h) (f : Fr ws h h') (o : (!inw ws 0 7 && off ws 15 && exoTB ws) = true) : MefT h' := by
  rw [Bool.and_eq_true] at o
  exact ⟨m.1.fr f o.1, m.2.fr f o.2⟩
theorem mn_F : Mn HF := fun k hk hm => by
  rw [show h_i HF 0 7 = 0 by decide +kernel] at hm
  have z : (0 : Int32).toInt = 0 := rfl
  omega
theorem liT_F : LiT 0 HF := li0_F.liT rlT_F ⟨mn_F, exTB_F⟩
theorem LiT.fr {N : Nat} {ws : List Nat} {h h' : Hp_} (L : LiT N h) (I : Iv h') (f : Fr ws h h') (o : ((jso ws && !inw ws 0 15) && rlT.all (fun q => !inw ws q.1.1 q.1.2 && !inw ws 1 q.2) && (!inw ws 0 7 && off ws 15 && exoTB ws)) = true) : LiT N h' := by
  rw [Bool.and_eq_true, Bool.and_eq_true (jso ws && !inw ws 0 15)] at o
  exact (L.z.fr I f o.1.1).liT (L.2.2.2.2.1.fr f o.1.2) (L.2.2.2.2.2.fr f o.2)
theorem LiT.sr {N : Nat} {h h' : Hp_} (L : LiT N h) (I : Iv h') (J : J2 h') (s : Sr h h') : LiT N h' := (L.z.sn I J s.sn).liT (L.2.2.2.2.1.fr s (by decide +kernel)) (L.2.2.2.2.2.fr s (by decide +kernel))
theorem Mn.mf {h h' : Hp_} (m : Mn h) (f : Mf wsX h h') : Mn h' := fun k hk hm => by
  rw [(f.2.2.2 15 k (by decide) (off_inw (by decide +kernel) k)).2]
  exact m k hk (by rw [(f.2.2.2 0 7 (by decide) (by decide +kernel)).1] at hm; exact hm)
theorem MefT.mf {h h' : Hp_} (m : MefT h) (f : Mf wsX h h') : MefT h' := ⟨m.1.mf f, m.2.mf f (by decide +kernel)⟩
theorem MefT.con {h h' : Hp_} {x1 x2 x3 r : Int32} (m : MefT h) (k : Cy x1 x2 x3 h r h') : MefT h' := ⟨k.2.2.1 m.1, m.2.mf k.1.2.1 (by decide +kernel)⟩
theorem LiT.con2 {N : Nat} {h h1 h2 : Hp_} {x1 x2 x3 r1 r2 : Int32} (L : LiT N h) (k1 : Cy x1 x2 x3 h r1 h1) (k2 : Iv h2 ∧ J2 h2 ∧ Sn h1 h2 ∧ ocm (h_i h1 1 7) x1 x2 x3 r2 (h_i h2 1 7) ∧ Cw (okm (h_i h1 1 7) x1 x2 x3) (h_i h1 1 7) x1 h1 h2) : LiT N h2 := ((L.z.con k1.1).sn k2.1 k2.2.1 k2.2.2.1).liT ((L.2.2.2.2.1.mf k1.1.2.1 (by decide +kernel)).fr k2.2.2.1 (by decide +kernel)) ((L.2.2.2.2.2.con k1).fr k2.2.2.1 (by decide +kernel))
theorem LiT.tick2 {N N' : Nat} {h h1 h2 : Hp_} {x r1 r2 : Int32} (L : LiT N h) (k1 : Iv h1 ∧ Mf wsX h h1 ∧ (∃ c', h_r h1 0 15 = some c' ∧ h_sh h1 c' = some (3, N')) ∧ otk (h_i h 0 0) x r1 (h_i h1 0 0)) (k2 : Iv h2 ∧ J2 h2 ∧ Fr wsT h1 h2 ∧ otk (h_i h1 1 0) x r2 (h_i h2 1 0)) : LiT N' h2 := ((L.z.tick k1).st k2.1 k2.2.1 k2.2.2.1).liT ((L.2.2.2.2.1.mf k1.2.1 (by decide +kernel)).fr k2.2.2.1 (by decide +kernel)) ((L.2.2.2.2.2.mf k1.2.1).fr k2.2.2.1 (by decide +kernel))
theorem LiT.sb {N : Nat} {ws : List Nat} {h h' : Hp_} (L : LiT N h) (I : Iv h') (J : J2 h') (f : Fr ws h h') (o : inw ws 0 15 = false) : Li0 N h' := by
  obtain ⟨c, a, b⟩ := L.2.2.2.1
  exact ⟨I, J, by rw [f.1]; exact L.2.2.1, c, by rw [(f.2 0 15 o).2.2]; exact a, by rw [f.1]; exact b⟩
theorem LiT.r1 {N : Nat} {h : Hp_} (L : LiT N h) : h_i h 11 1 = h_i h 1 32 := L.2.2.2.2.1 ((11, 1), 32) (by decide)
theorem LiT.r2 {N : Nat} {h : Hp_} (L : LiT N h) : h_i h 12 3 = h_i h 1 42 := L.2.2.2.2.1 ((12, 3), 42) (by decide)
theorem Rlf.mk {h : Hp_} (a : h_i h 11 1 = h_i h 1 32) (b : h_i h 12 3 = h_i h 1 42) : Rlf rlT h := fun q hq => by
  simp only [rlT, List.mem_cons, List.not_mem_nil, or_false] at hq
  rcases hq with u | u <;> subst u
  · exact a
  · exact b
/-- what the reference's readers want to know of the tape -/
noncomputable def Qt (b : Nat → Int32) (n : Nat) (h : Hp_) : Prop := Tp b n h ∧ (∀ k, k < n → ¬ b k = -1) ∧ J2 h
theorem LiT.q {N : Nat} {ws : List Nat} {h h1 : Hp_} (L : LiT N h) (f : Fr ws h h1) (o : (jso ws && off ws 225 && !inw ws 1 32) = true) : Qt (h_i h 31) (xn h) h1 := by
  simp only [Bool.and_eq_true, Bool.not_eq_true'] at o
  refine ⟨⟨fun k hk => ?_, ?_⟩, fun k _ e => ?_, J2_s (Js.fr f o.1.1) L.2.1⟩
  · rw [fr_i f o.1.2 k]
    exact L.2.2.2.2.2.2.1.1 k hk
  · show (h_i h1 1 32).toNatClampNeg = (h_i h 11 1).toNatClampNeg
    rw [(f.2 1 32 o.2).1, L.r1]
  · have q := (b31_in L.1 k).1
    rw [e] at q
    exact absurd q (by decide)
/-! beat, act, pay, feed, end: neither compared here, and what they do to the tape -/
theorem c_btX (d : Nat) {h : Hp_} (I : Iv h) : Ci (m_X11_beat (d + 105) 0 0) [.ref 0] h (fun r h' => Iv h' ∧ Fr wbx h h' ∧ Btx h r h') := c_btx2 d I
theorem c_btM (d : Nat) {b : Nat → Int32} {n : Nat} {h : Hp_} (I : Iv h) (q : Qt b n h) : Ci (m_X12_beat (d + 80 + 60) 0 0) [.ref 1] h (fun r h' => (Iv h' ∧ J2 h') ∧ Btm b n h r h') := c_beatf d q.2.1 I q.2.2 q.1
theorem LiT.bt {N : Nat} {h h1 h2 : Hp_} {r1 r2 : Int32} (L : LiT N h) (k1 : Iv h1 ∧ Fr wbx h h1 ∧ Btx h r1 h1) (k2 : (Iv h2 ∧ J2 h2) ∧ Btm (h_i h 31) (xn h) h1 r2 h2) : LiT N h2 ∧ r1 = r2 := by
  obtain ⟨I1, F1, kn, ky⟩ := k1
  obtain ⟨⟨I2, JJ⟩, F2, c8, mn, my⟩ := k2
  have a42 : h_i h1 1 42 = h_i h 12 3 := (F1.2 1 42 (by decide +kernel)).1.trans L.r2.symm
  have a32 : h_i h1 1 32 = h_i h 11 1 := (F1.2 1 32 (by decide +kernel)).1.trans L.r1.symm
  rw [a42] at mn my
  have b123 : h_i h2 12 3 = h_i h1 12 3 := (F2.2 12 3 (by decide +kernel)).1
  have b111 : h_i h2 11 1 = h_i h1 11 1 := (F2.2 11 1 (by decide +kernel)).1
  have F12 : Fr (wbx ++ wbt) h h2 := (F1.more (by decide +kernel)).tr (F2.more (by decide +kernel))
  have Z : Li0 N h2 := L.sb I2 JJ F12 (by decide +kernel)
  have mm : Mn h2 := L.2.2.2.2.2.1.fr F12 (by decide +kernel)
  have e31 : ∀ k, h_i h2 31 k = h_i h 31 k := fun k => fr_i F12 (by decide +kernel) k
  have e225 : ∀ k, h_i h2 225 k = h_i h 225 k := fun k => fr_i F12 (by decide +kernel) k
  have e235 : ∀ k, h_i h2 235 k = h_i h 235 k := fun k => fr_i F12 (by decide +kernel) k
  have e13 : h_i h2 13 5 = h_i h 13 5 := (F12.2 13 5 (by decide +kernel)).1
  have e14 : h_i h2 14 5 = h_i h 14 5 := (F12.2 14 5 (by decide +kernel)).1
  have X0 := L.2.2.2.2.2.2.1
  have B0 := L.2.2.2.2.2.2.2
  have f227 : ∀ k, h_i h1 227 k = h_i h 227 k := fun k => fr_i F1 (by decide +kernel) k
  have f228 : ∀ k, h_i h1 228 k = h_i h 228 k := fun k => fr_i F1 (by decide +kernel) k
  have g35 : ∀ k, h_i h2 35 k = h_i h1 35 k := fun k => fr_i F2 (by decide +kernel) k
  have g36 : ∀ k, h_i h2 36 k = h_i h1 36 k := fun k => fr_i F2 (by decide +kernel) k
  have bb1 : bB h1 = 150 * (h_i h 12 3).toNatClampNeg := by
    show 150 * (h_i h1 1 42).toNatClampNeg = _
    rw [a42]
  have b3 := x12_in L.1
  have n3 := n_nat b3.1
  have lw : ∀ k, k < (h_i h 12 3).toNatClampNeg → h_i h1 35 k = h_i h 35 k → h_i h1 36 k = h_i h 36 k → h_i h2 227 k = h_i h 227 k → h_i h2 35 k = h_i h2 227 k ∧ (h_i h2 36 k).toInt = (mP (h_i h2 228) k (h_i h2 227 k).toNatClampNeg 0 : Int) := fun k hk x y w => by
    have q := B0 k hk
    have rg := L.1.2.1 227 k
    rw [tfa_tf (show tfa 227 = some (0, 150) by decide +kernel)] at rg
    have r0 : 0 ≤ (h_i h 227 k).toInt := rg.1
    have r1' : (h_i h 227 k).toInt ≤ 150 := rg.2
    have rn := n_nat r0
    rw [g35, g36, x, y, w, mP_same (wh := h_i h 228) (fun z u v => by rw [(c8 z (by rw [bb1]; omega)).1, f228])]
    exact q
  by_cases o : okB (h_i h 31) (xn h) (h_i h 12 3)
  · have ky := ky o
    have my := my o
    have t1 : (1 : Int32).toInt = 1 := rfl
    have ex : (h_i h 12 3 + 1).toInt = (h_i h 12 3).toInt + 1 := tx_add (by rw [t1]; omega) (by rw [t1]; omega)
    have n4 := n_nat (x := h_i h 12 3 + 1) (by omega)
    have RB : ExB h2 := fun k hk => by
      rw [b123, ky.2.1] at hk
      have w : h_i h2 227 k = if k = (h_i h 12 3).toNatClampNeg then Int32.ofNat (beo (h_i h 31) (xn h)).length else h_i h 227 k := by rw [my.2.2.2.1 k, f227]
      have x35 := ky.2.2.2.1 k
      have x36 := ky.2.2.2.2.1 k
      rcases Nat.lt_or_ge k (h_i h 12 3).toNatClampNeg with u | u
      · have nk : ¬ k = (h_i h 12 3).toNatClampNeg := by omega
        rw [if_neg nk] at w x35 x36
        exact lw k u x35 x36 w
      · have ek : k = (h_i h 12 3).toNatClampNeg := by omega
        rw [if_pos ek] at w x35 x36
        have l150 := o.2.2
        have ml := mts_l (beo (h_i h 31) (xn h))
        refine ⟨by rw [g35, x35, w], ?_⟩
        rw [g36, x36, w, on_k (by omega), on_j (by omega), mP_mts _ 0 (fun j x e => ?_)]
        have q := (my.2.2.2.2.1 j x e).1
        rw [bb1, ← ek] at q
        rw [Nat.zero_add]
        exact q
    refine ⟨Z.liT (Rlf.mk ?_ ?_) ⟨mm, ⟨fun k hk => ?_, by rw [e235, e13]; exact X0.2.1, by rw [e235, e14]; exact X0.2.2⟩, RB⟩, ky.1.trans my.1.symm⟩
    · rw [b111, ky.2.2.1, my.2.2.1]
    · rw [b123, ky.2.1, my.2.1]
    · have hk : k < (h_i h2 11 1).toNatClampNeg := hk
      rw [b111, ky.2.2.1] at hk
      exact absurd hk (by show ¬ k < 0; omega)
  · have kn := kn o
    have mn := mn o
    have RB : ExB h2 := fun k hk => by
      rw [b123, kn.2.1] at hk
      exact lw k hk (kn.2.2.2.1 k) (kn.2.2.2.2.1 k) ((mn.2.2.2 k).trans (f227 k))
    refine ⟨Z.liT (Rlf.mk ?_ ?_) ⟨mm, X0.cg e31 e225 e235 (b111.trans kn.2.2.1) e13 e14, RB⟩, kn.1.trans mn.1.symm⟩
    · rw [b111, kn.2.2.1, mn.2.2.1, a32]
    · rw [b123, kn.2.1, mn.2.1]
theorem c_actX (d : Nat) {h : Hp_} (I : Iv h) (x1 : Int32) : Ci (m_X11_act (d + 141) 0 0) [.ref 0, .int x1] h (fun r h' => Iv h' ∧ Fr wrx_13 h h' ∧ Rlx_13 x1 h r h') := c_actx d I x1
theorem c_actM (d : Nat) {b : Nat → Int32} {n : Nat} {h : Hp_} (I : Iv h) (q : Qt b n h) (x1 : Int32) : Ci (m_X12_act (d + 80 + 61) 0 0) [.ref 1, .int x1] h (fun r h' => (Iv h' ∧ Fr wzt h h') ∧ Rlm b n 0 x1 h r h') := c_actf d q.2.1 I q.1 x1
theorem LiT.act {N : Nat} {h h1 h2 : Hp_} {x1 r1 r2 : Int32} (L : LiT N h) (k1 : Iv h1 ∧ Fr wrx_13 h h1 ∧ Rlx_13 x1 h r1 h1) (k2 : (Iv h2 ∧ Fr wzt h1 h2) ∧ Rlm (h_i h 31) (xn h) 0 x1 h1 r2 h2) : LiT N h2 ∧ r1 = r2 := by
  obtain ⟨I1, F1, kn, ky⟩ := k1
  obtain ⟨⟨I2, F2⟩, mn, my⟩ := k2
  have X0 := L.2.2.2.2.2.2.1
  have a5 : h_i h1 235 0 = h_i h 13 5 := (fr_i F1 (by decide +kernel) 0).trans X0.2.1
  have a32 : h_i h1 1 32 = h_i h 11 1 := (F1.2 1 32 (by decide +kernel)).1.trans L.r1.symm
  have a235 : ∀ k, h_i h1 235 k = h_i h 235 k := fun k => fr_i F1 (by decide +kernel) k
  rw [a5] at mn my
  have b111 : h_i h2 11 1 = h_i h1 11 1 := (F2.2 11 1 (by decide +kernel)).1
  have bc5 : h_i h2 13 5 = h_i h1 13 5 := (F2.2 13 5 (by decide +kernel)).1
  have F12 : Fr (wrx_13 ++ wzt) h h2 := (F1.more (by decide +kernel)).tr (F2.more (by decide +kernel))
  have Z : Li0 N h2 := L.z.fr I2 F12 (by decide +kernel)
  have mm : Mn h2 := L.2.2.2.2.2.1.fr F12 (by decide +kernel)
  have RB : ExB h2 := L.2.2.2.2.2.2.2.fr F12 (by decide +kernel)
  have e31 : ∀ k, h_i h2 31 k = h_i h 31 k := fun k => fr_i F12 (by decide +kernel) k
  have e225 : ∀ k, h_i h2 225 k = h_i h 225 k := fun k => fr_i F12 (by decide +kernel) k
  have eo : h_i h2 14 5 = h_i h 14 5 := (F12.2 14 5 (by decide +kernel)).1
  have r2' : h_i h2 12 3 = h_i h2 1 42 := by rw [(F12.2 12 3 (by decide +kernel)).1, (F12.2 1 42 (by decide +kernel)).1]; exact L.r2
  by_cases o : okR (h_i h 31) (xn h) 0 x1 (h_i h 13 5)
  · have ky := ky o
    have my := my o
    refine ⟨Z.liT (Rlf.mk ?_ r2') ⟨mm, ⟨fun k hk => ?_, ?_, ?_⟩, RB⟩, ky.1.trans my.1.symm⟩
    · rw [b111, ky.2.1, my.2.1]
    · have hk : k < (h_i h2 11 1).toNatClampNeg := hk
      rw [b111, ky.2.1] at hk
      exact absurd hk (by show ¬ k < 0; omega)
    · rw [my.2.2.1, if_pos rfl, bc5, ky.2.2.1]
    · rw [my.2.2.1, if_neg (by decide), a235, eo]; exact X0.2.2
  · have kn := kn o
    have mn := mn o
    refine ⟨Z.liT (Rlf.mk ?_ r2') ⟨mm, X0.cg e31 e225 (fun k => (mn.2.2.1 k).trans (a235 k)) (b111.trans kn.2.1) (bc5.trans kn.2.2.1) eo, RB⟩, kn.1.trans mn.1.symm⟩
    rw [b111, kn.2.1, mn.2.1, a32]
theorem c_payX (d : Nat) {h : Hp_} (I : Iv h) (x1 : Int32) : Ci (m_X11_pay (d + 141) 0 0) [.ref 0, .int x1] h (fun r h' => Iv h' ∧ Fr wrx_14 h h' ∧ Rlx_14 x1 h r h') := c_payx d I x1
theorem c_payM (d : Nat) {b : Nat → Int32} {n : Nat} {h : Hp_} (I : Iv h) (q : Qt b n h) (x1 : Int32) : Ci (m_X12_pay (d + 80 + 61) 0 0) [.ref 1, .int x1] h (fun r h' => (Iv h' ∧ Fr wzt h h') ∧ Rlm b n 1 x1 h r h') := c_payf d q.2.1 I q.1 x1
theorem LiT.pay {N : Nat} {h h1 h2 : Hp_} {x1 r1 r2 : Int32} (L : LiT N h) (k1 : Iv h1 ∧ Fr wrx_14 h h1 ∧ Rlx_14 x1 h r1 h1) (k2 : (Iv h2 ∧ Fr wzt h1 h2) ∧ Rlm (h_i h 31) (xn h) 1 x1 h1 r2 h2) : LiT N h2 ∧ r1 = r2 := by
  obtain ⟨I1, F1, kn, ky⟩ := k1
  obtain ⟨⟨I2, F2⟩, mn, my⟩ := k2
  have X0 := L.2.2.2.2.2.2.1
  have a5 : h_i h1 235 1 = h_i h 14 5 := (fr_i F1 (by decide +kernel) 1).trans X0.2.2
  have a32 : h_i h1 1 32 = h_i h 11 1 := (F1.2 1 32 (by decide +kernel)).1.trans L.r1.symm
  have a235 : ∀ k, h_i h1 235 k = h_i h 235 k := fun k => fr_i F1 (by decide +kernel) k
  rw [a5] at mn my
  have b111 : h_i h2 11 1 = h_i h1 11 1 := (F2.2 11 1 (by decide +kernel)).1
  have bc5 : h_i h2 14 5 = h_i h1 14 5 := (F2.2 14 5 (by decide +kernel)).1
  have F12 : Fr (wrx_14 ++ wzt) h h2 := (F1.more (by decide +kernel)).tr (F2.more (by decide +kernel))
  have Z : Li0 N h2 := L.z.fr I2 F12 (by decide +kernel)
  have mm : Mn h2 := L.2.2.2.2.2.1.fr F12 (by decide +kernel)
  have RB : ExB h2 := L.2.2.2.2.2.2.2.fr F12 (by decide +kernel)
  have e31 : ∀ k, h_i h2 31 k = h_i h 31 k := fun k => fr_i F12 (by decide +kernel) k
  have e225 : ∀ k, h_i h2 225 k = h_i h 225 k := fun k => fr_i F12 (by decide +kernel) k
  have eo : h_i h2 13 5 = h_i h 13 5 := (F12.2 13 5 (by decide +kernel)).1
  have r2' : h_i h2 12 3 = h_i h2 1 42 := by rw [(F12.2 12 3 (by decide +kernel)).1, (F12.2 1 42 (by decide +kernel)).1]; exact L.r2
  by_cases o : okR (h_i h 31) (xn h) 1 x1 (h_i h 14 5)
  · have ky := ky o
    have my := my o
    refine ⟨Z.liT (Rlf.mk ?_ r2') ⟨mm, ⟨fun k hk => ?_, ?_, ?_⟩, RB⟩, ky.1.trans my.1.symm⟩
    · rw [b111, ky.2.1, my.2.1]
    · have hk : k < (h_i h2 11 1).toNatClampNeg := hk
      rw [b111, ky.2.1] at hk
      exact absurd hk (by show ¬ k < 0; omega)
    · rw [my.2.2.1, if_neg (by decide), a235, eo]; exact X0.2.1
    · rw [my.2.2.1, if_pos rfl, bc5, ky.2.2.1]
  · have kn := kn o
    have mn := mn o
    refine ⟨Z.liT (Rlf.mk ?_ r2') ⟨mm, X0.cg e31 e225 (fun k => (mn.2.2.1 k).trans (a235 k)) (b111.trans kn.2.1) eo (bc5.trans kn.2.2.1), RB⟩, kn.1.trans mn.1.symm⟩
    rw [b111, kn.2.1, mn.2.1, a32]
theorem c_fdX (d : Nat) {h : Hp_} (I : Iv h) (x1 x2 x3 x4 x5 : Int32) : Ci (m_X11_feed (d + 2) 0 0) [.ref 0, .int x1, .int x2, .int x3, .int x4, .int x5] h (fun r h' => Iv h' ∧ Fr [11001, 31999] h h' ∧ Fdx (fdq x1 x2 x3 x4 x5) h r h') := c_fdx d I x1 x2 x3 x4 x5
noncomputable def Fdm (L : List Int32) (h : Hp_) (r : Int32) (h' : Hp_) : Prop := (tn h + L.length ≤ 160 → r = Int32.ofNat (tn h + L.length) ∧ tn h' = tn h + L.length ∧ Apd 225 (tn h) L h h') ∧ (¬ tn h + L.length ≤ 160 → r = -1 ∧ h' = h)
theorem c_fdM (d : Nat) {h : Hp_} (I : Iv h) (x1 x2 x3 x4 x5 : Int32) : Ci (m_X12_feed (d + 1) 0 0) [.ref 1, .int x1, .int x2, .int x3, .int x4, .int x5] h (fun r h' => Iv h' ∧ Fr [1032, 225999] h h' ∧ Fdm (fdq x1 x2 x3 x4 x5) h r h') := c_fdm d I x1 x2 x3 x4 x5
theorem LiT.fd {N : Nat} {h h1 h2 : Hp_} {r1 r2 : Int32} {L0 : List Int32} (L : LiT N h) (k1 : Iv h1 ∧ Fr [11001, 31999] h h1 ∧ Fdx L0 h r1 h1) (k2 : Iv h2 ∧ Fr [1032, 225999] h1 h2 ∧ Fdm L0 h1 r2 h2) : LiT N h2 ∧ r1 = r2 := by
  obtain ⟨I1, F1, ky, kn⟩ := k1
  obtain ⟨I2, F2, my, mn⟩ := k2
  have X0 := L.2.2.2.2.2.2.1
  have tt : tn h1 = xn h := by
    show (h_i h1 1 32).toNatClampNeg = (h_i h 11 1).toNatClampNeg
    rw [(F1.2 1 32 (by decide +kernel)).1, L.r1]
  rw [tt] at my mn
  have F12 : Fr [11001, 31999, 1032, 225999] h h2 := (F1.more (by decide +kernel)).tr (F2.more (by decide +kernel))
  have Z : Li0 N h2 := L.z.fr I2 F12 (by decide +kernel)
  have mm : Mn h2 := L.2.2.2.2.2.1.fr F12 (by decide +kernel)
  have RB : ExB h2 := L.2.2.2.2.2.2.2.fr F12 (by decide +kernel)
  have b111 : h_i h2 11 1 = h_i h1 11 1 := (F2.2 11 1 (by decide +kernel)).1
  have e31 : ∀ k, h_i h2 31 k = h_i h1 31 k := fun k => fr_i F2 (by decide +kernel) k
  have f225 : ∀ k, h_i h1 225 k = h_i h 225 k := fun k => fr_i F1 (by decide +kernel) k
  have e235 : ∀ k, h_i h2 235 k = h_i h 235 k := fun k => fr_i F12 (by decide +kernel) k
  have e13 : h_i h2 13 5 = h_i h 13 5 := (F12.2 13 5 (by decide +kernel)).1
  have e14 : h_i h2 14 5 = h_i h 14 5 := (F12.2 14 5 (by decide +kernel)).1
  have r2' : h_i h2 12 3 = h_i h2 1 42 := by rw [(F12.2 12 3 (by decide +kernel)).1, (F12.2 1 42 (by decide +kernel)).1]; exact L.r2
  by_cases o : xn h + L0.length ≤ 160
  · have ky := ky o
    have my := my o
    have n1 := xn_i I1
    have n2 : (tn h2 : Int) = (h_i h2 1 32).toInt := tn_i I2
    refine ⟨Z.liT (Rlf.mk ?_ r2') ⟨mm, ⟨fun k hk => ?_, by rw [e235, e13]; exact X0.2.1, by rw [e235, e14]; exact X0.2.2⟩, RB⟩, ky.1.trans my.1.symm⟩
    · rw [b111]
      refine Int32.toInt_inj.mp ?_
      have a := ky.2.1
      have b := my.2.1
      omega
    · have hk : k < (h_i h2 11 1).toNatClampNeg := hk
      rw [b111] at hk
      have hk : k < xn h1 := hk
      rw [ky.2.1] at hk
      rw [e31]
      rcases Nat.lt_or_ge k (xn h) with u | u
      · rw [my.2.2.1 k u, f225, ky.2.2.1 k u]
        exact X0.1 k u
      · have l : k - xn h < L0.length := by omega
        have g : L0[k - xn h]? = some (L0[k - xn h]'l) := List.getElem?_eq_getElem l
        have a := ky.2.2.2 _ _ g
        have b := my.2.2.2 _ _ g
        rw [show xn h + (k - xn h) = k by omega] at a b
        rw [a, b]
  · have kn := kn o
    have mn := mn o
    obtain ⟨ka, kb⟩ := kn
    obtain ⟨ma, mb⟩ := mn
    subst kb
    subst mb
    exact ⟨L, ka.trans ma.symm⟩
theorem c_enX (d : Nat) {h : Hp_} (I : Iv h) (x1 : Int32) : Ci (m_X11_end (d + 2) 0 0) [.ref 0, .int x1] h (fun r h' => Iv h' ∧ Fr [11001] h h' ∧ (((0 ≤ x1 ∧ x1 ≤ h_i h 11 1) ∧ r = 1 ∧ h' = h_im h 11 1 x1) ∨ (¬ (0 ≤ x1 ∧ x1 ≤ h_i h 11 1) ∧ r = 0 ∧ h' = h))) := c_endx d I x1
theorem c_enM (d : Nat) {h : Hp_} (I : Iv h) (x1 : Int32) : Ci (m_X12_end (d + 0) 0 0) [.ref 1, .int x1] h (fun r h' => Iv h' ∧ Fr [1032] h h' ∧ (((0 ≤ x1 ∧ x1 ≤ h_i h 1 32) ∧ r = 1 ∧ h' = h_im h 1 32 x1) ∨ (¬ (0 ≤ x1 ∧ x1 ≤ h_i h 1 32) ∧ r = 0 ∧ h' = h))) := by
  have t0 : (0 : Int32).toInt = 0 := rfl
  have z1 : (h_i h 1 32).toInt ≤ 160 := (pz_in I).2
  refine t_X12_end d h I.1 x1 _ ⟨fun z => ⟨I, Fr.rf _ _, Or.inr ⟨fun y => ?_, rfl, rfl⟩⟩, fun z => ⟨fun y => ?_, fun y => ⟨I, Fr.rf _ _, Or.inr ⟨fun u => y u.2, rfl, rfl⟩⟩⟩⟩
  · have z := q_lt.mp z
    have y := q_le.mp y.1
    omega
  · have z := q_nlt z
    have y' := q_le.mp y
    exact ⟨i32 I ⟨by show (0 : Int) ≤ _; omega, by show _ ≤ (160 : Int); omega⟩, (Fr.rf _ _).im (by decide +kernel), Or.inl ⟨⟨q_le.mpr (by omega), y⟩, rfl, rfl⟩⟩
theorem LiT.en {N : Nat} {h h1 h2 : Hp_} {x1 r1 r2 : Int32} (L : LiT N h) (k1 : Iv h1 ∧ Fr [11001] h h1 ∧ (((0 ≤ x1 ∧ x1 ≤ h_i h 11 1) ∧ r1 = 1 ∧ h1 = h_im h 11 1 x1) ∨ (¬ (0 ≤ x1 ∧ x1 ≤ h_i h 11 1) ∧ r1 = 0 ∧ h1 = h))) (k2 : Iv h2 ∧ Fr [1032] h1 h2 ∧ (((0 ≤ x1 ∧ x1 ≤ h_i h1 1 32) ∧ r2 = 1 ∧ h2 = h_im h1 1 32 x1) ∨ (¬ (0 ≤ x1 ∧ x1 ≤ h_i h1 1 32) ∧ r2 = 0 ∧ h2 = h1))) : LiT N h2 ∧ r1 = r2 := by
  obtain ⟨I1, F1, k1⟩ := k1
  obtain ⟨I2, F2, k2⟩ := k2
  have a32 : h_i h1 1 32 = h_i h 11 1 := (F1.2 1 32 (by decide +kernel)).1.trans L.r1.symm
  rw [a32] at k2
  have X0 := L.2.2.2.2.2.2.1
  rcases k1 with ⟨b, e1, e2⟩ | ⟨b, e1, e2⟩ <;> rcases k2 with ⟨c, e3, e4⟩ | ⟨c, e3, e4⟩
  · have F12 : Fr [11001, 1032] h h2 := (F1.more (by decide +kernel)).tr (F2.more (by decide +kernel))
    have Z : Li0 N h2 := L.z.fr I2 F12 (by decide +kernel)
    have mm : Mn h2 := L.2.2.2.2.2.1.fr F12 (by decide +kernel)
    have RB : ExB h2 := L.2.2.2.2.2.2.2.fr F12 (by decide +kernel)
    have r2' : h_i h2 12 3 = h_i h2 1 42 := by rw [(F12.2 12 3 (by decide +kernel)).1, (F12.2 1 42 (by decide +kernel)).1]; exact L.r2
    have b111 : h_i h2 11 1 = x1 := by rw [(F2.2 11 1 (by decide +kernel)).1, e2, im_at]
    have b132 : h_i h2 1 32 = x1 := by rw [e4, im_at]
    refine ⟨Z.liT (Rlf.mk (b111.trans b132.symm) r2') ⟨mm, ⟨fun k hk => ?_, ?_, ?_⟩, RB⟩, e1.trans e3.symm⟩
    · rw [fr_i F12 (by decide +kernel), fr_i F12 (by decide +kernel)]
      refine X0.1 k ?_
      have hk : k < (h_i h2 11 1).toNatClampNeg := hk
      rw [b111] at hk
      have b0 := q_le.mp b.1
      have b2 := q_le.mp b.2
      have t0 : (0 : Int32).toInt = 0 := rfl
      have n1 := n_nat (x := x1) (by omega)
      have n2 := xn_i L.1
      omega
    · rw [fr_i F12 (by decide +kernel), (F12.2 13 5 (by decide +kernel)).1]
      exact X0.2.1
    · rw [fr_i F12 (by decide +kernel), (F12.2 14 5 (by decide +kernel)).1]
      exact X0.2.2
  · exact absurd b c
  · exact absurd c b
  · subst e2
    subst e4
    exact ⟨L, e1.trans e3.symm⟩
/-! fault -/
noncomputable def wzq : List Nat := [11002, 11003, 11004, 11006, 11007, 11009, 32999, 33999]
noncomputable def flq (b : Nat → Int32) (n : Nat) (x : Int32) : Int32 := if x = 0 then enq b n (beq b n) else if x = 1 then enq b n (ruq b n (clq b n 1)) else if x = 2 then enq b n (ruq b n (clq b n 2)) else -2
theorem LiT.fl {N : Nat} {h h1 h2 : Hp_} {x1 r1 r2 : Int32} (L : LiT N h) (k1 : Iv h1 ∧ Fr wzq h h1 ∧ r1 = flq (h_i h 31) (xn h) x1) (k2 : Iv h2 ∧ Fr wzf h1 h2 ∧ r2 = flq (h_i h 31) (xn h) x1) : LiT N h2 ∧ r1 = r2 := ⟨(L.fr k1.1 k1.2.1 (by decide +kernel)).fr k2.1 k2.2.1 (by decide +kernel), k1.2.2.trans k2.2.2.symm⟩
/-! beaten -/
theorem c_has (d : Nat) {h : Hp_} (I : Iv h) (x1 : Int32) : Ci (m_X0_has (d + 0) 0 0) [.ref 12, .int x1] h (fun r h' => h' = h ∧ ((r = 1 ∧ (¬ x1 < 0 ∧ ¬ h_i h 12 3 ≤ x1)) ∨ (r = 0 ∧ ¬ (¬ x1 < 0 ∧ ¬ h_i h 12 3 ≤ x1)))) := t_X0_has d h I.1 x1 _ ⟨fun z => ⟨rfl, Or.inr ⟨rfl, fun y => y.1 z⟩⟩, fun z => ⟨fun y => ⟨rfl, Or.inr ⟨rfl, fun u => u.2 y⟩⟩, fun y => ⟨rfl, Or.inl ⟨rfl, z, y⟩⟩⟩⟩
noncomputable def bnX (h : Hp_) (x1 x2 : Int32) : Int32 := if ¬ x1 < 0 ∧ ¬ h_i h 12 3 ≤ x1 then (if x2 = 0 then h_i h 35 x1.toNatClampNeg else if x2 = 1 then h_i h 36 x1.toNatClampNeg else -1) else -1
theorem LiT.bn {N : Nat} {h h1 h2 : Hp_} {x1 x2 r1 r2 : Int32} (L : LiT N h) (k1 : Iv h1 ∧ h1 = h ∧ r1 = bnX h x1 x2) (k2 : Iv h2 ∧ h2 = h1 ∧ (((0 ≤ x1 ∧ x1 ≤ h_i h1 1 42 - 1) → (x2 = 0 → r2 = h_i h1 227 x1.toNatClampNeg) ∧ (x2 = 1 → r2.toInt = (mP (h_i h1 228) x1.toNatClampNeg (h_i h1 227 x1.toNatClampNeg).toNatClampNeg 0 : Int)) ∧ (¬ x2 = 0 → ¬ x2 = 1 → r2 = -1)) ∧ (¬ (0 ≤ x1 ∧ x1 ≤ h_i h1 1 42 - 1) → r2 = -1))) : LiT N h2 ∧ r1 = r2 := by
  obtain ⟨_, e1, k1⟩ := k1
  obtain ⟨_, e2, ky, kn⟩ := k2
  subst e1
  subst e2
  refine ⟨L, ?_⟩
  have b3 := x12_in L.1
  have t0 : (0 : Int32).toInt = 0 := rfl
  have t1 : (1 : Int32).toInt = 1 := rfl
  rw [← L.r2] at ky kn
  have em : (h_i h2 12 3 - 1).toInt = (h_i h2 12 3).toInt - 1 := by rw [tx_sub (by rw [t1]; omega) (by rw [t1]; omega), t1]
  rw [k1]
  unfold bnX
  by_cases c : ¬ x1 < 0 ∧ ¬ h_i h2 12 3 ≤ x1
  · have c0 := q_nlt c.1
    have c1 := q_nle c.2
    have y : 0 ≤ x1 ∧ x1 ≤ h_i h2 12 3 - 1 := ⟨q_le.mpr (by omega), q_le.mpr (by omega)⟩
    have n1 := n_nat (x := x1) (by omega)
    have n3 := n_nat b3.1
    have q := L.2.2.2.2.2.2.2 x1.toNatClampNeg (by omega)
    rw [if_pos c]
    by_cases z : x2 = 0
    · rw [if_pos z, (ky y).1 z]
      exact q.1
    · rw [if_neg z]
      by_cases w : x2 = 1
      · rw [if_pos w]
        exact Int32.toInt_inj.mp (q.2.trans ((ky y).2.1 w).symm)
      · rw [if_neg w, (ky y).2.2 z w]
  · rw [if_neg c]
    refine (kn (fun y => c ⟨fun z => ?_, fun z => ?_⟩)).symm
    · have z := q_lt.mp z
      have y := q_le.mp y.1
      omega
    · have z := q_le.mp z
      have y := q_le.mp y.2
      omega
/-! walks over paths: lengths, and the least of them -/
noncomputable def wkq (E : Nat → Nat × Nat × Int) (n u : Nat) : Nat → Nat → Int → Prop
  | 0, v, t => v = u ∧ t = 0
  | k + 1, v, t => ∃ i, i < n ∧ ((v = (E i).2.1 ∧ wkq E n u k (E i).1 (t - (E i).2.2)) ∨ (v = (E i).1 ∧ wkq E n u k (E i).2.1 (t - (E i).2.2)))
theorem wkq_mo {E E' : Nat → Nat × Nat × Int} {n n' u : Nat} (hn : n ≤ n') (hE : ∀ i, i < n → E' i = E i) : ∀ (k v : Nat) (t : Int), wkq E n u k v t → wkq E' n' u k v t
  | 0, _, _, h => h
  | k + 1, v, t, ⟨i, hi, h⟩ => ⟨i, by omega, by
    rw [hE i hi]
    exact h.elim (fun h => Or.inl ⟨h.1, wkq_mo hn hE k _ _ h.2⟩) (fun h => Or.inr ⟨h.1, wkq_mo hn hE k _ _ h.2⟩)⟩
theorem wkq_cc {E : Nat → Nat × Nat × Int} {n u w : Nat} {k : Nat} {s : Int} (h : wkq E n u k w s) : ∀ (j v : Nat) (t : Int), wkq E n w j v t → wkq E n u (k + j) v (s + t)
  | 0, v, t, ⟨a, b⟩ => by
    rw [a, b, Int.add_zero]
    exact h
  | j + 1, v, t, ⟨i, hi, g⟩ => ⟨i, hi, by
    have e : s + t - (E i).2.2 = s + (t - (E i).2.2) := by omega
    rw [e]
    exact g.elim (fun g => Or.inl ⟨g.1, wkq_cc h j _ _ g.2⟩) (fun g => Or.inr ⟨g.1, wkq_cc h j _ _ g.2⟩)⟩
/-- d is the least length from u, up to B -/
noncomputable def Exr (E : Nat → Nat × Nat × Int) (n : Nat) (B : Int) (u : Nat) (d : Nat → Int) : Prop := ∀ v, v < 16 → (0 ≤ d v ∧ d v ≤ B) ∧ (∀ k t, wkq E n u k v t → d v ≤ t) ∧ (d v < B → ∃ k, wkq E n u k v (d v))
noncomputable def Ev (E : Nat → Nat × Nat × Int) (n : Nat) : Prop := ∀ i, i < n → ((E i).1 < 16 ∧ (E i).2.1 < 16) ∧ 1 ≤ (E i).2.2 ∧ (E i).2.2 ≤ 60
noncomputable def Fe (E : Nat → Nat × Nat × Int) (n : Nat) (d : Nat → Int) : Prop := ∀ i, i < n → d (E i).2.1 ≤ d (E i).1 + (E i).2.2 ∧ d (E i).1 ≤ d (E i).2.1 + (E i).2.2
theorem fe_le {E : Nat → Nat × Nat × Int} {n u : Nat} {d : Nat → Int} (f : Fe E n d) (h0 : d u ≤ 0) : ∀ (k v : Nat) (t : Int), wkq E n u k v t → d v ≤ t
  | 0, v, t, ⟨a, b⟩ => by
    rw [a, b]
    exact h0
  | k + 1, v, t, ⟨i, hi, h⟩ => by
    have q := f i hi
    rcases h with ⟨a, b⟩ | ⟨a, b⟩
    · have ih := fe_le f h0 k _ _ b
      rw [a]
      omega
    · have ih := fe_le f h0 k _ _ b
      rw [a]
      omega
theorem Exr.fe {E : Nat → Nat × Nat × Int} {n u : Nat} {B : Int} {d : Nat → Int} (x : Exr E n B u d) (e : Ev E n) : Fe E n d := fun i hi => by
  have q := e i hi
  have xa := x _ q.1.1
  have xb := x _ q.1.2
  constructor
  · by_cases c : d (E i).1 < B
    · obtain ⟨k, h⟩ := xa.2.2 c
      refine xb.2.1 (k + 1) _ ⟨i, hi, Or.inl ⟨rfl, ?_⟩⟩
      rw [Int.add_sub_cancel]
      exact h
    · have := xb.1.2
      have := xa.1.2
      omega
  · by_cases c : d (E i).2.1 < B
    · obtain ⟨k, h⟩ := xb.2.2 c
      refine xa.2.1 (k + 1) _ ⟨i, hi, Or.inr ⟨rfl, ?_⟩⟩
      rw [Int.add_sub_cancel]
      exact h
    · have := xb.1.2
      have := xa.1.2
      omega
/-- how many are no farther than t -/
noncomputable def cnp (d : Nat → Int) (t : Int) : Nat → Nat
  | 0 => 0
  | j + 1 => cnp d t j + (if d j ≤ t then 1 else 0)
theorem cnp_le (d : Nat → Int) (t : Int) : ∀ j, cnp d t j ≤ j
  | 0 => Nat.le_refl _
  | j + 1 => by
    have ih := cnp_le d t j
    show cnp d t j + (if d j ≤ t then 1 else 0) ≤ j + 1
    by_cases c : d j ≤ t
    · rw [if_pos c]
      omega
    · rw [if_neg c]
      omega
theorem cnp_mo {d : Nat → Int} {s t : Int} (h : s ≤ t) : ∀ j, cnp d s j ≤ cnp d t j
  | 0 => Nat.le_refl _
  | j + 1 => by
    have ih := cnp_mo (d := d) h j
    show cnp d s j + (if d j ≤ s then 1 else 0) ≤ cnp d t j + (if d j ≤ t then 1 else 0)
    by_cases c : d j ≤ s
    · rw [if_pos c, if_pos (Int.le_trans c h)]
      omega
    · rw [if_neg c]
      omega
theorem cnp_lt {d : Nat → Int} {s t : Int} (h : s ≤ t) {v : Nat} (h1 : s < d v) (h2 : d v ≤ t) : ∀ j, v < j → cnp d s j + 1 ≤ cnp d t j
  | 0, l => absurd l (by omega)
  | j + 1, l => by
    show cnp d s j + (if d j ≤ s then 1 else 0) + 1 ≤ cnp d t j + (if d j ≤ t then 1 else 0)
    by_cases c : v = j
    · have m := cnp_mo (d := d) h j
      rw [← c, if_neg (by omega), if_pos h2]
      rw [← c] at m
      omega
    · have ih := cnp_lt h h1 h2 j (by omega)
      by_cases c : d j ≤ s
      · rw [if_pos c, if_pos (Int.le_trans c h)]
        omega
      · rw [if_neg c]
        omega
theorem Exr.b9 {E : Nat → Nat × Nat × Int} {n u : Nat} {B : Int} {d : Nat → Int} (x : Exr E n B u d) (e : Ev E n) : ∀ (N v : Nat), v < 16 → (d v).toNat < N → d v < B → d v + 60 ≤ 60 * (cnp d (d v) 16 : Int)
  | 0, _, _, l, _ => absurd l (by omega)
  | N + 1, v, hv, l, c => by
    obtain ⟨k, h⟩ := (x v hv).2.2 c
    have p := (x v hv).1.1
    cases k with
    | zero =>
      have h' : v = u ∧ d v = 0 := h
      have q := cnp_lt (d := d) (s := -1) (t := d v) (by omega) (v := v) (by omega) (Int.le_refl _) 16 hv
      omega
    | succ k =>
      obtain ⟨i, hi, g⟩ := h
      have ei := e i hi
      have fe := x.fe e i hi
      have st : ∀ a, a < 16 → wkq E n u k a (d v - (E i).2.2) → d v ≤ d a + (E i).2.2 → d v + 60 ≤ 60 * (cnp d (d v) 16 : Int) := fun a ha hw hf => by
        have xa := (x a ha).2.1 k _ hw
        have pa := (x a ha).1.1
        have ih := Exr.b9 x e N a ha (by omega) (by omega)
        have q := cnp_lt (d := d) (s := d a) (t := d v) (by omega) (v := v) (by omega) (Int.le_refl _) 16 hv
        omega
      rcases g with ⟨a, b⟩ | ⟨a, b⟩
      · exact st _ ei.1.1 b (by rw [a]; exact fe.1)
      · exact st _ ei.1.2 b (by rw [a]; exact fe.2)
theorem Exr.le {E : Nat → Nat × Nat × Int} {n u : Nat} {B : Int} {d : Nat → Int} (x : Exr E n B u d) (e : Ev E n) {v : Nat} (hv : v < 16) (c : d v < B) : d v ≤ 900 := by
  have k := x.b9 e ((d v).toNat + 1) v hv (by omega) c
  have l := cnp_le d (d v) 16
  omega
theorem Exr.eq {E : Nat → Nat × Nat × Int} {n u : Nat} {B B' : Int} {d d' : Nat → Int} (x : Exr E n B u d) (y : Exr E n B' u d') (e : Ev E n) (hB : 900 < B) (hB' : 900 < B') {v : Nat} (hv : v < 16) : (d v < B ∧ d' v < B' ∧ d v = d' v) ∨ (¬ d v < B ∧ ¬ d' v < B') := by
  by_cases c : d v < B
  · obtain ⟨k, h⟩ := (x v hv).2.2 c
    have l := (y v hv).2.1 k _ h
    have l9 := x.le e hv c
    obtain ⟨k', h'⟩ := (y v hv).2.2 (by omega)
    have l' := (x v hv).2.1 k' _ h'
    exact Or.inl ⟨c, by omega, by omega⟩
  · refine Or.inr ⟨c, fun c' => c ?_⟩
    obtain ⟨k', h'⟩ := (y v hv).2.2 c'
    have l' := (x v hv).2.1 k' _ h'
    have l9 := y.le e hv c'
    omega
noncomputable def Exd (E : Nat → Nat × Nat × Int) (n : Nat) (B : Int) (D : Nat → Nat → Int) : Prop := ∀ u, u < 16 → Exr E n B u (D u)
noncomputable def exE (E : Nat → Nat × Nat × Int) (n : Nat) (q : Nat × Nat × Int) : Nat → Nat × Nat × Int := fun i => if i = n then q else E i
/-- one path more: what the table must be -/
theorem Exd.add {E : Nat → Nat × Nat × Int} {n : Nat} {B : Int} {D V : Nat → Nat → Int} {a b : Nat} {m : Int} (x : Exd E n B D) (e : Ev E n) (ha : a < 16) (hb : b < 16) (hm : 1 ≤ m) (hV : ∀ u v, u < 16 → v < 16 → ((0 ≤ V u v ∧ V u v ≤ B) ∧ (V u v < B → ∃ k, wkq (exE E n (a, b, m)) (n + 1) u k v (V u v))) ∧ V u v ≤ D u v ∧ V u v ≤ D u a + m + D b v ∧ V u v ≤ D u b + m + D a v) : Exd (exE E n (a, b, m)) (n + 1) B V := fun u hu v hv => by
  have q := hV u v hu hv
  refine ⟨q.1.1, fun k t h => ?_, q.1.2⟩
  have z : ∀ w, w < 16 → D w w ≤ 0 := fun w hw => (x w hw w hw).2.1 0 0 ⟨rfl, rfl⟩
  have fu := (x u hu).fe e
  have fa := (x a ha).fe e
  have fb := (x b hb).fe e
  have f : Fe (exE E n (a, b, m)) (n + 1) (fun v => min (D u v) (min (D u a + m + D b v) (D u b + m + D a v))) := fun i hi => by
    by_cases c : i = n
    · have ee : exE E n (a, b, m) i = (a, b, m) := if_pos c
      rw [ee]
      have h1 := z a ha
      have h2 := z b hb
      have h3 := (x b hb a ha).1.1
      have h4 := (x a ha b hb).1.1
      have h5 := (x u hu a ha).1.1
      have h6 := (x u hu b hb).1.1
      show min (D u b) (min (D u a + m + D b b) (D u b + m + D a b)) ≤ min (D u a) (min (D u a + m + D b a) (D u b + m + D a a)) + m ∧ min (D u a) (min (D u a + m + D b a) (D u b + m + D a a)) ≤ min (D u b) (min (D u a + m + D b b) (D u b + m + D a b)) + m
      have h7 := (x a ha a ha).1.1
      have h8 := (x b hb b hb).1.1
      omega
    · have ee : exE E n (a, b, m) i = E i := if_neg c
      rw [ee]
      have k1 := fu i (by omega)
      have k2 := fa i (by omega)
      have k3 := fb i (by omega)
      show min (D u (E i).2.1) (min (D u a + m + D b (E i).2.1) (D u b + m + D a (E i).2.1)) ≤ min (D u (E i).1) (min (D u a + m + D b (E i).1) (D u b + m + D a (E i).1)) + (E i).2.2 ∧ min (D u (E i).1) (min (D u a + m + D b (E i).1) (D u b + m + D a (E i).1)) ≤ min (D u (E i).2.1) (min (D u a + m + D b (E i).2.1) (D u b + m + D a (E i).2.1)) + (E i).2.2
      omega
  have g := fe_le f (u := u) (by
    show min (D u u) (min (D u a + m + D b u) (D u b + m + D a u)) ≤ 0
    have := z u hu
    omega) k v t h
  have g' : min (D u v) (min (D u a + m + D b v) (D u b + m + D a v)) ≤ t := g
  omega
/-- the reference's paths, and the class's table -/
noncomputable def eE (h : Hp_) : Nat → Nat × Nat × Int := fun i => ((h_i h 200 i).toNatClampNeg, (h_i h 201 i).toNatClampNeg, (h_i h 202 i).toInt)
noncomputable def eN (h : Hp_) : Nat := (h_i h 1 6).toNatClampNeg
noncomputable def dX (h : Hp_) : Nat → Nat → Int := fun u v => (h_i h 30 (16 * u + v)).toInt
noncomputable def ExP (h : Hp_) : Prop := (∀ i, i < eN h → 1 ≤ (h_i h 202 i).toInt) ∧ Exd (eE h) (eN h) 1000000 (dX h)
noncomputable def exoP (ws : List Nat) : Bool := off ws 30 && off ws 200 && off ws 201 && off ws 202 && !inw ws 1 6
theorem exP_F : ExP HF := by
  have z : eN HF = 0 := by
    unfold eN
    rw [show h_i HF 1 6 = 0 by decide +kernel]
    decide
  refine ⟨fun i hi => absurd hi (by rw [z]; omega), ?_⟩
  rw [z]
  have t : (List.range 256).all (fun k => h_i HF 30 k == (if k / 16 = k % 16 then 0 else 1000000)) = true := by decide +kernel
  have t0 : (0 : Int32).toInt = 0 := rfl
  have tm : (1000000 : Int32).toInt = 1000000 := rfl
  have dv : ∀ u v, u < 16 → v < 16 → dX HF u v = if u = v then 0 else 1000000 := fun u v hu hv => by
    have y := eq_of_beq (List.all_eq_true.mp t (16 * u + v) (List.mem_range.mpr (by omega)))
    unfold dX
    rw [y]
    by_cases c : u = v
    · rw [if_pos c, if_pos (by omega), t0]
    · rw [if_neg c, if_neg (by omega), tm]
  intro u hu v hv
  show (0 ≤ dX HF u v ∧ dX HF u v ≤ 1000000) ∧ (∀ k t, wkq (eE HF) 0 u k v t → dX HF u v ≤ t) ∧ (dX HF u v < 1000000 → ∃ k, wkq (eE HF) 0 u k v (dX HF u v))
  rw [dv u v hu hv]
  by_cases c : u = v
  · rw [if_pos c]
    refine ⟨⟨by decide, by decide⟩, fun k t h => ?_, fun _ => ⟨0, c.symm, rfl⟩⟩
    cases k with
    | zero =>
      have h' : v = u ∧ t = 0 := h
      omega
    | succ k =>
      obtain ⟨i, hi, _⟩ := h
      omega
  · rw [if_neg c]
    refine ⟨⟨by decide, by decide⟩, fun k t h => ?_, fun y => absurd y (by decide)⟩
    cases k with
    | zero =>
      have h' : v = u ∧ t = 0 := h
      omega
    | succ k =>
      obtain ⟨i, hi, _⟩ := h
      omega
theorem ExP.cg {h h' : Hp_} (e : ExP h) (a : h_i h' 30 = h_i h 30) (b : h_i h' 200 = h_i h 200) (c : h_i h' 201 = h_i h 201) (d : h_i h' 202 = h_i h 202) (n : h_i h' 1 6 = h_i h 1 6) : ExP h' := by
  unfold ExP eE eN dX
  rw [a, b, c, d, n]
  exact e
theorem ExP.fr {ws : List Nat} {h h' : Hp_} (e : ExP h) (f : Fr ws h h') (o : exoP ws = true) : ExP h' := by
  unfold exoP at o
  simp only [Bool.and_eq_true, Bool.not_eq_true'] at o
  exact e.cg (funext (fun k => fr_i f o.1.1.1.1 k)) (funext (fun k => fr_i f o.1.1.1.2 k)) (funext (fun k => fr_i f o.1.1.2 k)) (funext (fun k => fr_i f o.1.2 k)) (f.2 1 6 o.2).1
theorem ExP.mf {W : List Nat} {h h' : Hp_} (e : ExP h) (f : Mf W h h') (o : exoP W = true) : ExP h' := by
  unfold exoP at o
  simp only [Bool.and_eq_true, Bool.not_eq_true'] at o
  exact e.cg (funext (fun k => (f.2.2.2 30 k (by decide) (off_inw o.1.1.1.1 k)).1)) (funext (fun k => f.2.1 200 (by decide) (by decide) k)) (funext (fun k => f.2.1 201 (by decide) (by decide) k)) (funext (fun k => f.2.1 202 (by decide) (by decide) k)) (f.1 6)
/-- the number of paths too -/
noncomputable def ExR (h : Hp_) : Prop := h_i h 10 1 = h_i h 1 6 ∧ ExP h
noncomputable def exoR (ws : List Nat) : Bool := !inw ws 10 1 && exoP ws
theorem exR_F : ExR HF := ⟨by decide +kernel, exP_F⟩
theorem ExR.fr {ws : List Nat} {h h' : Hp_} (e : ExR h) (f : Fr ws h h') (o : exoR ws = true) : ExR h' := by
  unfold exoR at o
  rw [Bool.and_eq_true, Bool.not_eq_true'] at o
  refine ⟨?_, e.2.fr f o.2⟩
  have o2 := o.2
  unfold exoP at o2
  simp only [Bool.and_eq_true, Bool.not_eq_true'] at o2
  rw [(f.2 10 1 o.1).1, (f.2 1 6 o2.2).1]
  exact e.1
theorem ExR.mf {W : List Nat} {h h' : Hp_} (e : ExR h) (f : Mf W h h') (o : exoR W = true) : ExR h' := by
  unfold exoR at o
  rw [Bool.and_eq_true, Bool.not_eq_true'] at o
  refine ⟨?_, e.2.mf f o.2⟩
  rw [(f.2.2.2 10 1 (by decide) o.1).1, f.1 6]
  exact e.1
noncomputable def oca (ok : Prop) (m r m' : Int32) : Prop := (ok ∧ r = m ∧ m' = m + 1) ∨ (¬ ok ∧ r = -1 ∧ m' = m)
theorem oca_eq {p q : Prop} {m r1 r2 m1 m2 : Int32} (e : p ↔ q) (a : oca p m r1 m1) (b : oca q m r2 m2) : r1 = r2 ∧ m1 = m2 := by
  rcases a with ⟨a, a1, a2⟩ | ⟨a, a1, a2⟩ <;> rcases b with ⟨b, b1, b2⟩ | ⟨b, b1, b2⟩
  · exact ⟨a1.trans b1.symm, a2.trans b2.symm⟩
  · exact absurd (e.mp a) b
  · exact absurd (e.mpr b) a
  · exact ⟨a1.trans b1.symm, a2.trans b2.symm⟩
theorem nz_lt {m n : Int32} (b : m.toInt ≤ n.toInt) : m < n ↔ ¬ m = n := ⟨fun l e => by rw [e] at l; exact absurd (q_lt.mp l) (Int.lt_irrefl _), fun ne => q_lt.mpr (by
  rcases Int.lt_or_le m.toInt n.toInt with u | u
  · exact u
  · exact absurd (Int32.toInt_inj.mp (Int.le_antisymm b u)) ne)⟩
theorem p15 {x : Int32} : (0 ≤ x ∧ x < 16) ↔ (0 ≤ x ∧ x ≤ 15) := by
  have t15 : (15 : Int32).toInt = 15 := rfl
  have t16 : (16 : Int32).toInt = 16 := rfl
  rw [q_lt, q_le (y := 15), t15, t16]
  exact ⟨fun z => ⟨z.1, by omega⟩, fun z => ⟨z.1, by omega⟩⟩

theorem f_le {h : Hp_} {c f : Nat} {n : Int} (I : Iv h) (e : tf c f = (0, n)) : 0 ≤ (h_i h c f).toInt ∧ (h_i h c f).toInt ≤ n := by
  have rg := I.2.1 c f
  rw [e] at rg
  exact ⟨rg.1, rg.2⟩
theorem i256 {i j : Nat} (hi : i < 16) (hj : j < 16) : ((Int32.ofNat i * 16) + Int32.ofNat j).toNatClampNeg = 16 * i + j ∧ vp_in ((Int32.ofNat i * 16) + Int32.ofNat j) 256 := by
  have t16 : (16 : Int32).toInt = 16 := rfl
  have ei := on_j (n := i) (by omega)
  have ej := on_j (n := j) (by omega)
  have a : (Int32.ofNat i * 16).toInt = (i : Int) * 16 := by rw [tx_mul (by rw [t16]; omega) (by rw [t16]; omega), t16, ei]
  have b : (Int32.ofNat i * 16 + Int32.ofNat j).toInt = (i : Int) * 16 + (j : Int) := by rw [tx_add (by omega) (by omega), a, ej]
  have n := n_nat (x := Int32.ofNat i * 16 + Int32.ofNat j) (by omega)
  exact ⟨by omega, dp_in (lo := 0) (hi := 255) ⟨by show (0 : Int) ≤ _; omega, by show _ ≤ (255 : Int); omega⟩ (by decide) (by decide)⟩
theorem mn_i (x y : Int32) : (if x < y then x else y).toInt = min x.toInt y.toInt := by
  by_cases c : x < y
  · rw [if_pos c]
    have := q_lt.mp c
    omega
  · rw [if_neg c]
    have := q_nlt c
    omega
/-- the table while a path is laid -/
noncomputable def Lv (E : Nat → Nat × Nat × Int) (n a b : Nat) (m : Int) (D : Nat → Nat → Int) (P : Nat → Nat → Prop) (h : Hp_) : Prop := ∀ u v, u < 16 → v < 16 → ((0 ≤ dX h u v ∧ dX h u v ≤ 1000000) ∧ (dX h u v < 1000000 → ∃ k, wkq (exE E n (a, b, m)) (n + 1) u k v (dX h u v))) ∧ dX h u v ≤ D u v ∧ (P u v → dX h u v ≤ D u a + m + D b v ∧ dX h u v ≤ D u b + m + D a v)
theorem Lv.cg {E : Nat → Nat × Nat × Int} {n a b : Nat} {m : Int} {D : Nat → Nat → Int} {P Q : Nat → Nat → Prop} {h : Hp_} (l : Lv E n a b m D P h) (pq : ∀ u v, u < 16 → v < 16 → Q u v → P u v) : Lv E n a b m D Q h := fun u v hu hv => ⟨(l u v hu hv).1, (l u v hu hv).2.1, fun q => (l u v hu hv).2.2 (pq u v hu hv q)⟩
theorem Lv.st {E : Nat → Nat × Nat × Int} {n a b : Nat} {m : Int} {D : Nat → Nat → Int} {P : Nat → Nat → Prop} {h : Hp_} (l : Lv E n a b m D P h) (ha : a < 16) (hb : b < 16) (hm : 1 ≤ m) {i j : Nat} (hi : i < 16) (hj : j < 16) {y : Int32} (ey : y.toInt = min (min (dX h i b + m + dX h a j) (dX h i a + m + dX h b j)) (dX h i j)) : Lv E n a b m D (fun u v => P u v ∨ (u = i ∧ v = j)) (h_im h 30 (16 * i + j) y) := fun u v hu hv => by
  have lij := l i j hi hj
  have lia := l i a hi ha
  have lib := l i b hi hb
  have laj := l a j ha hj
  have lbj := l b j hb hj
  by_cases c : u = i ∧ v = j
  · have e : dX (h_im h 30 (16 * i + j) y) u v = y.toInt := by
      unfold dX
      rw [c.1, c.2, im_at]
    rw [e, c.1, c.2]
    refine ⟨⟨⟨by omega, by omega⟩, fun yb => ?_⟩, by omega, fun _ => ⟨by omega, by omega⟩⟩
    have en : exE E n (a, b, m) n = (a, b, m) := if_pos rfl
    by_cases q1 : y.toInt = dX h i j
    · rw [q1] at yb ⊢
      exact lij.1.2 yb
    · by_cases q2 : y.toInt = dX h i a + m + dX h b j
      · obtain ⟨k1, w1⟩ := lia.1.2 (by omega)
        obtain ⟨k2, w2⟩ := lbj.1.2 (by omega)
        have w3 : wkq (exE E n (a, b, m)) (n + 1) i (k1 + 1) b (dX h i a + m) := ⟨n, by omega, Or.inl ⟨by rw [en], by rw [en]; show wkq _ _ _ _ a (dX h i a + m - m); rw [Int.add_sub_cancel]; exact w1⟩⟩
        rw [q2]
        exact ⟨_, wkq_cc w3 k2 _ _ w2⟩
      · have q3 : y.toInt = dX h i b + m + dX h a j := by omega
        obtain ⟨k1, w1⟩ := lib.1.2 (by omega)
        obtain ⟨k2, w2⟩ := laj.1.2 (by omega)
        have w3 : wkq (exE E n (a, b, m)) (n + 1) i (k1 + 1) a (dX h i b + m) := ⟨n, by omega, Or.inr ⟨by rw [en], by rw [en]; show wkq _ _ _ _ b (dX h i b + m - m); rw [Int.add_sub_cancel]; exact w1⟩⟩
        rw [q3]
        exact ⟨_, wkq_cc w3 k2 _ _ w2⟩
  · have e : dX (h_im h 30 (16 * i + j) y) u v = dX h u v := by
      unfold dX
      rw [h_i_im, if_neg (fun z => c (by have := z.2; omega))]
    rw [e]
    exact ⟨(l u v hu hv).1, (l u v hu hv).2.1, fun q => (l u v hu hv).2.2 (q.elim id (fun q => absurd q c))⟩
theorem ly_in (d : Nat) (h0 : Hp_) {E : Nat → Nat × Nat × Int} {n a b : Nat} {m : Int} {D : Nat → Nat → Int} (ha : a < 16) (hb : b < 16) (hm : 1 ≤ m ∧ m ≤ 60) (x3 : Int32) (e3 : x3.toInt = m) {i : Nat} (hi : i < 16) (K : Int32 → Hp_ → Prop) (O : ∀ h, Iv h → Fr [30999] h0 h → Lv E n a b m D (fun u _ => u < i + 1) h → AW (m_X9_lay (d + 1) 0 0) 0 0 14 [(0, .ref 10), (1, .int (Int32.ofNat a)), (2, .int (Int32.ofNat b)), (3, .int x3), (4, .int (Int32.ofNat i + 1))] [] h (kI K)) :
    ∀ (r j : Nat) (h : Hp_), j + r = 16 → Iv h → Fr [30999] h0 h → Lv E n a b m D (fun u v => u < i ∨ (u = i ∧ v < j)) h → AW (m_X9_lay (d + 1) 0 0) 0 0 24 [(0, .ref 10), (1, .int (Int32.ofNat a)), (2, .int (Int32.ofNat b)), (3, .int x3), (4, .int (Int32.ofNat i)), (5, .int (Int32.ofNat j))] [] h (kI K) := by
  have t16 : (16 : Int32).toInt = 16 := rfl
  intro r
  induction r with
  | zero =>
    intro j h ej I F l
    exact t_X9_lay_24 d h I.1 _ _ x3 _ _ K ⟨fun _ => O h I F (l.cg (fun u v hu hv q => by omega)), fun z => absurd (q_le.mpr (by rw [t16, on_j (by omega)]; omega)) z⟩
  | succ r ih =>
    intro j h ej I F l
    have hj : j < 16 := by omega
    have k1 := i256 hi ha
    have k2 := i256 hb hj
    have k3 := i256 hi hb
    have k4 := i256 ha hj
    have k5 := i256 hi hj
    have lij := (l i j hi hj).1.1
    have lia := (l i a hi ha).1.1
    have lib := (l i b hi hb).1.1
    have laj := (l a j ha hj).1.1
    have lbj := (l b j hb hj).1.1
    unfold dX at lij lia lib laj lbj
    refine t_X9_lay_24 d h I.1 _ _ x3 _ _ K ⟨fun z => by have := q_le.mp z; rw [t16, on_j (by omega)] at this; omega, fun _ => ⟨k1.2, k2.2, k3.2, k4.2, k5.2, k5.2, ?_⟩⟩
    rw [k1.1, k2.1, k3.1, k4.1, k5.1, on_s (by omega)]
    have s1 : (h_i h 30 (16 * i + b) + x3 + h_i h 30 (16 * a + j)).toInt = dX h i b + m + dX h a j := by
      unfold dX
      rw [tx_add (by rw [tx_add (by omega) (by omega)]; omega) (by rw [tx_add (by omega) (by omega)]; omega), tx_add (by omega) (by omega), e3]
    have s2 : (h_i h 30 (16 * i + a) + x3 + h_i h 30 (16 * b + j)).toInt = dX h i a + m + dX h b j := by
      unfold dX
      rw [tx_add (by rw [tx_add (by omega) (by omega)]; omega) (by rw [tx_add (by omega) (by omega)]; omega), tx_add (by omega) (by omega), e3]
    exact ih (j + 1) _ (by omega) (tr_ 30 (by decide +kernel) I _ _ (by decide) (by decide)) (F.im (inw_row (by decide +kernel) _)) ((l.st ha hb hm.1 hi hj (by rw [mn_i, mn_i, s1, s2]; rfl)).cg (fun u v hu hv q => by omega))
theorem ly_out (d : Nat) (h0 : Hp_) {E : Nat → Nat × Nat × Int} {n a b : Nat} {m : Int} {D : Nat → Nat → Int} (ha : a < 16) (hb : b < 16) (hm : 1 ≤ m ∧ m ≤ 60) (x3 : Int32) (e3 : x3.toInt = m) (K : Int32 → Hp_ → Prop) (O : ∀ h, Iv h → Fr [30999] h0 h → Lv E n a b m D (fun _ _ => True) h → K ((h_i h 10 1 + 1) - 1) (h_im h 10 1 (h_i h 10 1 + 1))) :
    ∀ (r i : Nat) (h : Hp_), i + r = 16 → Iv h → Fr [30999] h0 h → Lv E n a b m D (fun u _ => u < i) h → AW (m_X9_lay (d + 1) 0 0) 0 0 14 [(0, .ref 10), (1, .int (Int32.ofNat a)), (2, .int (Int32.ofNat b)), (3, .int x3), (4, .int (Int32.ofNat i))] [] h (kI K) := by
  have t16 : (16 : Int32).toInt = 16 := rfl
  intro r
  induction r with
  | zero =>
    intro i h ei I F l
    exact t_X9_lay_14 d h I.1 _ _ x3 _ K ⟨fun _ => O h I F (l.cg (fun u v hu hv q => by omega)), fun z => absurd (q_le.mpr (by rw [t16, on_j (by omega)]; omega)) z⟩
  | succ r ih =>
    intro i h ei I F l
    refine t_X9_lay_14 d h I.1 _ _ x3 _ K ⟨fun z => by have := q_le.mp z; rw [t16, on_j (by omega)] at this; omega, fun _ => ?_⟩
    refine ly_in d h0 ha hb hm x3 e3 (i := i) (by omega) K (fun h' I' F' l' => ?_) 16 0 h (by omega) I F (l.cg (fun u v hu hv q => by omega))
    rw [on_s (by omega)]
    exact ih (i + 1) h' (by omega) I' F' l'
noncomputable def okPx (m x1 x2 x3 : Int32) : Prop := (0 ≤ x1 ∧ x1 < 16) ∧ (0 ≤ x2 ∧ x2 < 16) ∧ ¬ x1 = x2 ∧ (1 ≤ x3 ∧ x3 ≤ 60) ∧ m < 40
noncomputable def okPn (m x1 x2 x3 : Int32) : Prop := (0 ≤ x1 ∧ x1 ≤ 15) ∧ (0 ≤ x2 ∧ x2 ≤ 15) ∧ ¬ x1 = x2 ∧ (1 ≤ x3 ∧ x3 ≤ 60) ∧ ¬ m = 40
theorem on_of {x : Int32} (b : 0 ≤ x.toInt ∧ x.toInt ≤ 1000000) : Int32.ofNat x.toNatClampNeg = x := by
  have n := n_nat (x := x) b.1
  exact Int32.toInt_inj.mp (by rw [on_j (by omega)]; exact n)
theorem ev_ {h : Hp_} (I : Iv h) (x : ∀ i, i < eN h → 1 ≤ (h_i h 202 i).toInt) : Ev (eE h) (eN h) := fun i hi => by
  have r0 := I.2.1 200 i
  have r1 := I.2.1 201 i
  have r2 := I.2.1 202 i
  rw [tfa_tf (show tfa 200 = some (0, 15) by decide +kernel)] at r0
  rw [tfa_tf (show tfa 201 = some (0, 15) by decide +kernel)] at r1
  rw [tfa_tf (show tfa 202 = some (0, 60) by decide +kernel)] at r2
  have a0 : 0 ≤ (h_i h 200 i).toInt := r0.1
  have a1 : (h_i h 200 i).toInt ≤ 15 := r0.2
  have b0 : 0 ≤ (h_i h 201 i).toInt := r1.1
  have b1 : (h_i h 201 i).toInt ≤ 15 := r1.2
  have n0 := n_nat (x := h_i h 200 i) a0
  have n1 := n_nat (x := h_i h 201 i) b0
  exact ⟨⟨by show (h_i h 200 i).toNatClampNeg < 16; omega, by show (h_i h 201 i).toNatClampNeg < 16; omega⟩, x i hi, r2.2⟩
theorem c_ptX (d : Nat) {h : Hp_} (I : Iv h) (x : ExP h) (x1 x2 x3 : Int32) : Ci (m_X11_path (d + 2) 0 0) [.ref 0, .int x1, .int x2, .int x3] h (fun r h' => Iv h' ∧ Fr [10001, 30999] h h' ∧ oca (okPx (h_i h 10 1) x1 x2 x3) (h_i h 10 1) r (h_i h' 10 1) ∧ (okPx (h_i h 10 1) x1 x2 x3 → Exd (exE (eE h) (eN h) (x1.toNatClampNeg, x2.toNatClampNeg, x3.toInt)) (eN h + 1) 1000000 (dX h')) ∧ (¬ okPx (h_i h 10 1) x1 x2 x3 → h' = h)) := by
  have t1 : (1 : Int32).toInt = 1 := rfl
  have t16 : (16 : Int32).toInt = 16 := rfl
  have t0 : (0 : Int32).toInt = 0 := rfl
  have t60 : (60 : Int32).toInt = 60 := rfl
  have tc : (40 : Int32).toInt = 40 := rfl
  have rg := I.2.1 10 1
  rw [show tf 10 1 = (0, 40) by decide +kernel] at rg
  have r0 : 0 ≤ (h_i h 10 1).toInt := rg.1
  have no : ¬ okPx (h_i h 10 1) x1 x2 x3 → Iv h ∧ Fr [10001, 30999] h h ∧ oca (okPx (h_i h 10 1) x1 x2 x3) (h_i h 10 1) (-1) (h_i h 10 1) ∧ (okPx (h_i h 10 1) x1 x2 x3 → Exd (exE (eE h) (eN h) (x1.toNatClampNeg, x2.toNatClampNeg, x3.toInt)) (eN h + 1) 1000000 (dX h)) ∧ (¬ okPx (h_i h 10 1) x1 x2 x3 → h = h) := fun n => ⟨I, Fr.rf _ _, Or.inr ⟨n, rfl, rfl⟩, fun o => absurd o n, fun _ => rfl⟩
  refine t_X11_path d h x1 x2 x3 _ (Ci.mono (s_X11_isPlace _ h x1) (fun r h1 q => ?_))
  obtain ⟨er, eh⟩ := q
  subst er eh
  refine ⟨I.1, fun z => no (fun o => bI_0.mp z o.1), fun z => Ci.mono (s_X11_isPlace _ _ x2) (fun r h2 q => ?_)⟩
  obtain ⟨er, eh⟩ := q
  subst er eh
  refine ⟨I.1, fun z2 => no (fun o => bI_0.mp z2 o.2.1), fun z2 => ⟨fun e => no (fun o => o.2.2.1 e), fun ne => ⟨fun a3 => ?_, fun n => no (fun o => n o.2.2.2.1)⟩⟩⟩
  have b1 : 0 ≤ x1 ∧ x1 < 16 := Decidable.byContradiction (fun n => z (bI_0.mpr n))
  have b2 : 0 ≤ x2 ∧ x2 < 16 := Decidable.byContradiction (fun n => z2 (bI_0.mpr n))
  have c1 := q_le.mp b1.1
  have c1' := q_lt.mp b1.2
  have c2 := q_le.mp b2.1
  have c2' := q_lt.mp b2.2
  have c3 := q_le.mp a3.1
  have c3' := q_le.mp a3.2
  rw [t0] at c1 c2
  rw [t16] at c1' c2'
  rw [t1] at c3
  rw [t60] at c3'
  have n1 := n_nat (x := x1) c1
  have n2 := n_nat (x := x2) c2
  refine t_X9_lay d h2 I.1 x1 x2 x3 _ ⟨fun l => ?_, fun n => ⟨I.1, no (fun o => n o.2.2.2.2)⟩⟩
  have l0 := q_lt.mp l
  have ex : (h_i h2 10 1 + 1).toInt = (h_i h2 10 1).toInt + 1 := tx_add (by rw [t1]; omega) (by rw [t1]; omega)
  have ev := ev_ I x.1
  have L0 : Lv (eE h2) (eN h2) x1.toNatClampNeg x2.toNatClampNeg x3.toInt (dX h2) (fun u _ => u < 0) h2 := fun u v hu hv => by
    have q := x.2 u hu v hv
    exact ⟨⟨q.1, fun c => by
      obtain ⟨k, w⟩ := q.2.2 c
      exact ⟨k, wkq_mo (Nat.le_succ _) (fun i hi => if_neg (by omega)) k v _ w⟩⟩, Int.le_refl _, fun c => absurd c (by omega)⟩
  have go := ly_out d h2 (E := eE h2) (n := eN h2) (D := dX h2) (a := x1.toNatClampNeg) (b := x2.toNatClampNeg) (m := x3.toInt) (by omega) (by omega) ⟨c3, c3'⟩ x3 rfl (fun r h' => Wf h' ∧ (Iv h' ∧ Fr [10001, 30999] h2 h' ∧ oca (okPx (h_i h2 10 1) x1 x2 x3) (h_i h2 10 1) r (h_i h' 10 1) ∧ (okPx (h_i h2 10 1) x1 x2 x3 → Exd (exE (eE h2) (eN h2) (x1.toNatClampNeg, x2.toNatClampNeg, x3.toInt)) (eN h2 + 1) 1000000 (dX h')) ∧ (¬ okPx (h_i h2 10 1) x1 x2 x3 → h' = h2))) (fun h9 I9 F9 V9 => ?_) 16 0 h2 (by omega) I (Fr.rf _ _) L0
  · rw [on_of ⟨c1, by omega⟩, on_of ⟨c2, by omega⟩] at go
    exact go
  · have e9 : h_i h9 10 1 = h_i h2 10 1 := (F9.2 10 1 (by decide +kernel)).1
    have I5 : Iv (h_im h9 10 1 (h_i h9 10 1 + 1)) := I9.im (by rw [show tf 10 1 = (0, 40) by decide +kernel, e9]; exact ⟨by show (0 : Int) ≤ _; omega, by show _ ≤ (40 : Int); omega⟩) (by decide)
    refine ⟨I5.1, I5, (F9.more (b := [10001, 30999]) (by decide +kernel)).im (by decide +kernel), Or.inl ⟨⟨b1, b2, ne, a3, l⟩, by rw [e9]; exact tx_back _, by rw [im_at, e9]⟩, fun _ => ?_, fun n => absurd ⟨b1, b2, ne, a3, l⟩ n⟩
    have dd : dX (h_im h9 10 1 (h_i h9 10 1 + 1)) = dX h9 := by
      unfold dX
      rw [show h_i (h_im h9 10 1 (h_i h9 10 1 + 1)) 30 = h_i h9 30 from funext (fun k => im_ne (by decide))]
    rw [dd]
    exact x.2.add ev (by omega) (by omega) c3 (fun u v hu hv => ⟨(V9 u v hu hv).1, (V9 u v hu hv).2.1, ((V9 u v hu hv).2.2 trivial).1, ((V9 u v hu hv).2.2 trivial).2⟩)
theorem c_ptM (d : Nat) {h : Hp_} (I : Iv h) (x1 x2 x3 : Int32) : Ci (m_X12_path (d + 2) 0 0) [.ref 1, .int x1, .int x2, .int x3] h (fun r h' => Iv h' ∧ Fr [1006, 200999, 201999, 202999] h h' ∧ oca (okPn (h_i h 1 6) x1 x2 x3) (h_i h 1 6) r (h_i h' 1 6) ∧ (okPn (h_i h 1 6) x1 x2 x3 → eE h' = exE (eE h) (eN h) (x1.toNatClampNeg, x2.toNatClampNeg, x3.toInt) ∧ eN h' = eN h + 1) ∧ (¬ okPn (h_i h 1 6) x1 x2 x3 → h' = h)) := by
  have t1 : (1 : Int32).toInt = 1 := rfl
  have tc : (40 : Int32).toInt = 40 := rfl
  have rg := I.2.1 1 6
  rw [show tf 1 6 = (0, 40) by decide +kernel] at rg
  have r0 : 0 ≤ (h_i h 1 6).toInt := rg.1
  have r1 : (h_i h 1 6).toInt ≤ 40 := rg.2
  have no : ¬ okPn (h_i h 1 6) x1 x2 x3 → Iv h ∧ Fr [1006, 200999, 201999, 202999] h h ∧ oca (okPn (h_i h 1 6) x1 x2 x3) (h_i h 1 6) (-1) (h_i h 1 6) ∧ (okPn (h_i h 1 6) x1 x2 x3 → eE h = exE (eE h) (eN h) (x1.toNatClampNeg, x2.toNatClampNeg, x3.toInt) ∧ eN h = eN h + 1) ∧ (¬ okPn (h_i h 1 6) x1 x2 x3 → h = h) := fun n => ⟨I, Fr.rf _ _, Or.inr ⟨n, rfl, rfl⟩, fun o => absurd o n, fun _ => rfl⟩
  refine t_X12_path d h I.1 x1 x2 x3 _ ⟨fun n => no (fun o => n o.1), fun a1 => ⟨fun n => no (fun o => n o.2.1), fun a2 => ⟨fun e => no (fun o => o.2.2.1 e), fun nx => ⟨fun n => no (fun o => n o.2.2.2.1), fun a3 => ⟨fun ne => ?_, fun e => no (fun o => o.2.2.2.2 e)⟩⟩⟩⟩⟩
  have l := q_lt.mp ((nz_lt (by rw [tc]; exact r1)).mpr ne)
  have ex : (h_i h 1 6 + 1).toInt = (h_i h 1 6).toInt + 1 := tx_add (by rw [t1]; omega) (by rw [t1]; omega)
  have v : vp_in (h_i h 1 6) 40 := dp_in (lo := 0) (hi := 39) ⟨r0, by show _ ≤ (39 : Int); omega⟩ (by decide) (by decide)
  have p3 : rin x3.toInt (0, 60) := ⟨by have := q_le.mp a3.1; show (0 : Int) ≤ _; omega, by have := q_le.mp a3.2; exact this⟩
  refine ⟨v, v, v, ((((I.im (a := 200) (by rw [tfa_tf (show tfa 200 = some (0, 15) by decide +kernel)]; exact ⟨by have := q_le.mp a1.1; exact this, by have := q_le.mp a1.2; exact this⟩) (jw_jr (by decide) (by decide) _)).im (a := 201) (by rw [tfa_tf (show tfa 201 = some (0, 15) by decide +kernel)]; exact ⟨by have := q_le.mp a2.1; exact this, by have := q_le.mp a2.2; exact this⟩) (jw_jr (by decide) (by decide) _)).im (a := 202) (by rw [tfa_tf (show tfa 202 = some (0, 60) by decide +kernel)]; exact p3) (jw_jr (by decide) (by decide) _)).im (a := 1) (k := 6) (by rw [show tf 1 6 = (0, 40) by decide +kernel]; exact ⟨by show (0 : Int) ≤ _; omega, by show _ ≤ (40 : Int); omega⟩) (by decide)), ((((Fr.rf _ _).im (inw_row (by decide +kernel) _)).im (inw_row (by decide +kernel) _)).im (inw_row (by decide +kernel) _)).im (by decide +kernel), Or.inl ⟨⟨a1, a2, nx, a3, ne⟩, tx_back _, im_at⟩, fun _ => ⟨funext (fun i => ?_), ?_⟩, fun n => absurd ⟨a1, a2, nx, a3, ne⟩ n⟩
  · unfold eE exE eN
    by_cases c : i = (h_i h 1 6).toNatClampNeg
    · rw [if_pos c]
      refine Prod.ext ?_ (Prod.ext ?_ ?_)
      · show (h_i _ 200 i).toNatClampNeg = x1.toNatClampNeg
        rw [im_ne (by decide), im_ne (by decide), im_ne (by decide), c, im_at]
      · show (h_i _ 201 i).toNatClampNeg = x2.toNatClampNeg
        rw [im_ne (by decide), im_ne (by decide), c, im_at]
      · show (h_i _ 202 i).toInt = x3.toInt
        rw [im_ne (by decide), c, im_at]
    · rw [if_neg c]
      refine Prod.ext ?_ (Prod.ext ?_ ?_)
      · show (h_i _ 200 i).toNatClampNeg = (h_i h 200 i).toNatClampNeg
        rw [im_ne (by decide), im_ne (by decide), im_ne (by decide), h_i_im, if_neg (fun y => c y.2)]
      · show (h_i _ 201 i).toNatClampNeg = (h_i h 201 i).toNatClampNeg
        rw [im_ne (by decide), im_ne (by decide), h_i_im, if_neg (fun y => c y.2), im_ne (by decide)]
      · show (h_i _ 202 i).toInt = (h_i h 202 i).toInt
        rw [im_ne (by decide), h_i_im, if_neg (fun y => c y.2), im_ne (by decide), im_ne (by decide)]
  · have n0 := n_nat (x := h_i h 1 6) r0
    have n1 := n_nat (x := h_i h 1 6 + 1) (by omega)
    show (h_i (h_im _ 1 6 (h_i h 1 6 + 1)) 1 6).toNatClampNeg = (h_i h 1 6).toNatClampNeg + 1
    rw [im_at]
    omega
theorem okP_eq {m x1 x2 x3 : Int32} (b : m.toInt ≤ 40) : okPx m x1 x2 x3 ↔ okPn m x1 x2 x3 := by
  unfold okPx okPn
  rw [p15, p15, nz_lt (n := 40) b]
noncomputable def PtX (x1 x2 x3 : Int32) (h : Hp_) (r1 : Int32) (h1 : Hp_) : Prop := Fr [10001, 30999] h h1 ∧ oca (okPx (h_i h 10 1) x1 x2 x3) (h_i h 10 1) r1 (h_i h1 10 1) ∧ (okPx (h_i h 10 1) x1 x2 x3 → Exd (exE (eE h) (eN h) (x1.toNatClampNeg, x2.toNatClampNeg, x3.toInt)) (eN h + 1) 1000000 (dX h1)) ∧ (¬ okPx (h_i h 10 1) x1 x2 x3 → h1 = h)
noncomputable def PtM (x1 x2 x3 : Int32) (h1 : Hp_) (r2 : Int32) (h2 : Hp_) : Prop := Fr [1006, 200999, 201999, 202999] h1 h2 ∧ oca (okPn (h_i h1 1 6) x1 x2 x3) (h_i h1 1 6) r2 (h_i h2 1 6) ∧ (okPn (h_i h1 1 6) x1 x2 x3 → eE h2 = exE (eE h1) (eN h1) (x1.toNatClampNeg, x2.toNatClampNeg, x3.toInt) ∧ eN h2 = eN h1 + 1) ∧ (¬ okPn (h_i h1 1 6) x1 x2 x3 → h2 = h1)
theorem ExR.pt {h h1 h2 : Hp_} {x1 x2 x3 r1 r2 : Int32} (I : Iv h) (L : ExR h) (k1 : PtX x1 x2 x3 h r1 h1) (k2 : PtM x1 x2 x3 h1 r2 h2) : ExR h2 ∧ r1 = r2 := by
  have e : h_i h 10 1 = h_i h 1 6 := L.1
  have e1 : h_i h1 1 6 = h_i h 1 6 := (k1.1.2 1 6 (by decide +kernel)).1
  obtain ⟨f1, kp, xp, np⟩ := k1
  obtain ⟨f2, kq, xq, nq⟩ := k2
  rw [e1] at kq xq nq
  rw [e] at kp xp np
  have rg := I.2.1 1 6
  rw [show tf 1 6 = (0, 40) by decide +kernel] at rg
  have oe := okP_eq (x1 := x1) (x2 := x2) (x3 := x3) rg.2
  have z := oca_eq oe kp kq
  have eE1 : eE h1 = eE h := by
    unfold eE
    rw [show h_i h1 200 = h_i h 200 from funext (fun k => fr_i f1 (by decide +kernel) k), show h_i h1 201 = h_i h 201 from funext (fun k => fr_i f1 (by decide +kernel) k), show h_i h1 202 = h_i h 202 from funext (fun k => fr_i f1 (by decide +kernel) k)]
  have eN1 : eN h1 = eN h := by
    unfold eN
    rw [e1]
  have dX2 : dX h2 = dX h1 := by
    unfold dX
    rw [show h_i h2 30 = h_i h1 30 from funext (fun k => fr_i f2 (by decide +kernel) k)]
  refine ⟨⟨?_, ?_⟩, z.1⟩
  · rw [(f2.2 10 1 (by decide +kernel)).1]
    exact z.2
  · by_cases o : okPx (h_i h 1 6) x1 x2 x3
    · have o' := oe.mp o
      have xx := xp o
      have yy := xq o'
      rw [eE1, eN1] at yy
      refine ⟨fun i hi => ?_, ?_⟩
      · have w : (eE h2 i).2.2 = (h_i h2 202 i).toInt := rfl
        rw [← w, yy.1]
        rw [yy.2] at hi
        unfold exE
        by_cases c : i = eN h
        · rw [if_pos c]
          exact q_le.mp o.2.2.2.1.1
        · rw [if_neg c]
          exact L.2.1 i (by omega)
      · rw [yy.1, yy.2, dX2]
        exact xx
    · rw [nq (fun y => o (oe.mpr y)), np o]
      exact L.2
/-- far while the reference searches -/
noncomputable def Fi (u : Nat) (h0 h : Hp_) : Prop := Iv h ∧ Fr [203999] h0 h ∧ (∀ v, v < 16 → (0 ≤ (h_i h 203 v).toInt ∧ (h_i h 203 v).toInt ≤ 100000) ∧ ((h_i h 203 v).toInt < 100000 → ∃ k, wkq (eE h0) (eN h0) u k v (h_i h 203 v).toInt)) ∧ (h_i h 203 u).toInt ≤ 0
theorem Fi.e {u : Nat} {h0 h : Hp_} (f : Fi u h0 h) : eE h = eE h0 ∧ eN h = eN h0 ∧ ∀ k, h_i h 200 k = h_i h0 200 k ∧ h_i h 201 k = h_i h0 201 k ∧ h_i h 202 k = h_i h0 202 k := by
  have a : h_i h 200 = h_i h0 200 := funext (fun k => fr_i f.2.1 (by decide +kernel) k)
  have b : h_i h 201 = h_i h0 201 := funext (fun k => fr_i f.2.1 (by decide +kernel) k)
  have c : h_i h 202 = h_i h0 202 := funext (fun k => fr_i f.2.1 (by decide +kernel) k)
  refine ⟨by unfold eE; rw [a, b, c], by unfold eN; rw [(f.2.1.2 1 6 (by decide +kernel)).1], fun k => ⟨by rw [a], by rw [b], by rw [c]⟩⟩
theorem Fi.st {u : Nat} {h0 h : Hp_} (f : Fi u h0 h) {p : Nat} (hp : p < 16) {y : Int32} (l : 0 ≤ y.toInt) (c : y.toInt < (h_i h 203 p).toInt) (w : y.toInt < 100000 → ∃ k, wkq (eE h0) (eN h0) u k p y.toInt) : Fi u h0 (h_im h 203 p y) ∧ fsn (h_im h 203 p y) 16 < fsn h 16 := by
  have b := (f.2.2.1 p hp).1
  have s := (fsn_le (h := h) (p := p) (x := y) (by omega) l 16).2 hp
  refine ⟨⟨tr_ 203 (by decide +kernel) f.1 _ _ (by decide) (by decide), f.2.1.im (inw_row (by decide +kernel) _), fun v hv => ?_, ?_⟩, by omega⟩
  · by_cases q : v = p
    · rw [q, im_at]
      exact ⟨⟨l, by omega⟩, w⟩
    · rw [h_i_im, if_neg (fun z => q z.2)]
      exact f.2.2.1 v hv
  · by_cases q : u = p
    · rw [q, im_at]
      have := f.2.2.2
      rw [q] at this
      omega
    · rw [h_i_im, if_neg (fun z => q z.2)]
      exact f.2.2.2
/-- the paths before k are no shorter ways -/
noncomputable def Fk (h0 h : Hp_) (j : Nat) : Prop := ∀ i, i < j → (h_i h 203 (eE h0 i).2.1).toInt ≤ (h_i h 203 (eE h0 i).1).toInt + (eE h0 i).2.2 ∧ (h_i h 203 (eE h0 i).1).toInt ≤ (h_i h 203 (eE h0 i).2.1).toInt + (eE h0 i).2.2
theorem wo_43 (d : Nat) (h0 : Hp_) (I0 : Iv h0) (x0 : ∀ i, i < eN h0 → 1 ≤ (h_i h0 202 i).toInt) (u : Nat) (x2 : Int32) (K : Int32 → Hp_ → Prop) (N : Nat) (k0 : ∀ h, Fi u h0 h → Fk h0 h (eN h0) → AW (m_X12_walkOf (d + 0) 0 0) 0 0 34 [(0, .ref 1), (2, .int x2), (3, .int 0)] [] h (kI K)) (k1 : ∀ h, Fi u h0 h → fsn h 16 < N → AW (m_X12_walkOf (d + 0) 0 0) 0 0 34 [(0, .ref 1), (2, .int x2), (3, .int 1)] [] h (kI K)) :
    ∀ (r j : Nat) (x3 : Int32) (h : Hp_), j + r = eN h0 → Fi u h0 h → ((x3 = 0 ∧ fsn h 16 ≤ N ∧ Fk h0 h j) ∨ (x3 = 1 ∧ fsn h 16 < N)) → AW (m_X12_walkOf (d + 0) 0 0) 0 0 43 [(0, .ref 1), (2, .int x2), (3, .int x3), (4, .int (Int32.ofNat j))] [] h (kI K) := by
  have ev := ev_ I0 x0
  have b6 := f_le (c := 1) (f := 6) (n := 40) I0 (by decide +kernel)
  have n6 := n_nat (x := h_i h0 1 6) b6.1
  have en : (eN h0 : Int) = (h_i h0 1 6).toInt := n6
  intro r
  induction r with
  | zero =>
    intro j x3 h ej f c
    have e6 : h_i h 1 6 = h_i h0 1 6 := (f.2.1.2 1 6 (by decide +kernel)).1
    have ejn : j = eN h0 := by omega
    refine t_X12_walkOf_43 d h f.1.1 x2 x3 _ K ⟨fun _ => ?_, fun z => absurd (q_le.mpr (by rw [e6, on_j (by omega)]; omega)) z⟩
    rcases c with ⟨c, _, c'⟩ | ⟨c, c'⟩
    · rw [c]
      exact k0 h f (ejn ▸ c')
    · rw [c]
      exact k1 h f c'
  | succ r ih =>
    intro j x3 h ej f c
    have hj : j < eN h0 := by omega
    have q := ev j hj
    have e6 : h_i h 1 6 = h_i h0 1 6 := (f.2.1.2 1 6 (by decide +kernel)).1
    have ee := f.e
    have kj : (Int32.ofNat j).toNatClampNeg = j := on_k (by omega)
    have vj : vp_in (Int32.ofNat j) 40 := on_in (by omega) (by decide)
    have r0 := I0.2.1 200 j
    have r1 := I0.2.1 201 j
    rw [tfa_tf (show tfa 200 = some (0, 15) by decide +kernel)] at r0
    rw [tfa_tf (show tfa 201 = some (0, 15) by decide +kernel)] at r1
    have va : vp_in (h_i h0 200 j) 16 := dp_in (lo := 0) (hi := 15) r0 (by decide) (by decide)
    have vb : vp_in (h_i h0 201 j) 16 := dp_in (lo := 0) (hi := 15) r1 (by decide) (by decide)
    have em : (h_i h0 202 j).toInt = (eE h0 j).2.2 := rfl
    have ea : (h_i h0 200 j).toNatClampNeg = (eE h0 j).1 := rfl
    have eb : (h_i h0 201 j).toNatClampNeg = (eE h0 j).2.1 := rfl
    have fa := f.2.2.1 _ q.1.1
    have fb := f.2.2.1 _ q.1.2
    have nx : ∀ (h' : Hp_) (y : Int32), Fi u h0 h' → ((y = 0 ∧ fsn h' 16 ≤ N ∧ Fk h0 h' (j + 1)) ∨ (y = 1 ∧ fsn h' 16 < N)) → AW (m_X12_walkOf (d + 0) 0 0) 0 0 43 [(0, .ref 1), (2, .int x2), (3, .int y), (4, .int (Int32.ofNat j + 1))] [] h' (kI K) := fun h' y f' c' => by
      rw [on_s (by omega)]
      exact ih (j + 1) y h' (by omega) f' c'
    have hN : fsn h 16 ≤ N := by rcases c with c | c <;> omega
    have wb : ∀ h', Fi u h0 h' → (h_i h' 203 (eE h0 j).1).toInt + (eE h0 j).2.2 < 100000 → ∃ k, wkq (eE h0) (eN h0) u k (eE h0 j).2.1 ((h_i h' 203 (eE h0 j).1).toInt + (eE h0 j).2.2) := fun h' f' l => by
      obtain ⟨k, w⟩ := (f'.2.2.1 _ q.1.1).2 (by omega)
      exact ⟨k + 1, j, hj, Or.inl ⟨rfl, by rw [Int.add_sub_cancel]; exact w⟩⟩
    have wa : ∀ h', Fi u h0 h' → (h_i h' 203 (eE h0 j).2.1).toInt + (eE h0 j).2.2 < 100000 → ∃ k, wkq (eE h0) (eN h0) u k (eE h0 j).1 ((h_i h' 203 (eE h0 j).2.1).toInt + (eE h0 j).2.2) := fun h' f' l => by
      obtain ⟨k, w⟩ := (f'.2.2.1 _ q.1.2).2 (by omega)
      exact ⟨k + 1, j, hj, Or.inr ⟨rfl, by rw [Int.add_sub_cancel]; exact w⟩⟩
    have sa : (h_i h 203 (eE h0 j).1 + h_i h0 202 j).toInt = (h_i h 203 (eE h0 j).1).toInt + (eE h0 j).2.2 := by
      rw [tx_add (by omega) (by omega), em]
    have sb : (h_i h 203 (eE h0 j).2.1 + h_i h0 202 j).toInt = (h_i h 203 (eE h0 j).2.1).toInt + (eE h0 j).2.2 := by
      rw [tx_add (by omega) (by omega), em]
    have T := t_X12_walkOf_43 d h f.1.1 x2 x3 (Int32.ofNat j) K
    rw [kj, (ee.2.2 j).1, (ee.2.2 j).2.1, (ee.2.2 j).2.2, ea, eb, e6] at T
    refine T ⟨fun z => by have := q_le.mp z; rw [on_j (by omega)] at this; omega, fun _ => ⟨vj, vj, va, vj, vb, fun e1 => ⟨vb, vj, va, fun e2 => nx h x3 f ?_, fun e2 => ⟨vb, vj, va, ?_⟩⟩, fun e1 => ⟨va, vj, vb, vb, vj, va, ?_⟩⟩⟩
    · have e1 := q_le.mp e1
      have e2 := q_le.mp e2
      rw [sa] at e1
      rw [sb] at e2
      rcases c with ⟨c, c1, c2⟩ | c
      · refine Or.inl ⟨c, c1, fun i hi => ?_⟩
        by_cases y : i = j
        · rw [y]
          exact ⟨e1, e2⟩
        · exact c2 i (by omega)
      · exact Or.inr c
    · have e2 := q_nle e2
      rw [sb] at e2
      have s := f.st q.1.1 (y := h_i h 203 (eE h0 j).2.1 + h_i h0 202 j) (by rw [sb]; omega) (by rw [sb]; exact e2) (by rw [sb]; exact wa h f)
      exact nx _ 1 s.1 (Or.inr ⟨rfl, by omega⟩)
    · have e1 := q_nle e1
      rw [sa] at e1
      have s := f.st q.1.2 (y := h_i h 203 (eE h0 j).1 + h_i h0 202 j) (by rw [sa]; omega) (by rw [sa]; exact e1) (by rw [sa]; exact wb h f)
      have at1 : (h_i (h_im h 203 (eE h0 j).2.1 (h_i h 203 (eE h0 j).1 + h_i h0 202 j)) 203 (eE h0 j).2.1) = h_i h 203 (eE h0 j).1 + h_i h0 202 j := im_at
      have s2 : (h_i h 203 (eE h0 j).1 + h_i h0 202 j + h_i h0 202 j).toInt = (h_i h 203 (eE h0 j).1).toInt + (eE h0 j).2.2 + (eE h0 j).2.2 := by
        rw [tx_add (by rw [sa]; omega) (by rw [sa]; omega), sa, em]
      refine ⟨fun _ => nx _ 1 s.1 (Or.inr ⟨rfl, by omega⟩), fun e2 => ⟨vb, vj, va, ?_⟩⟩
      have e2 := q_nle e2
      rw [s2] at e2
      have w2 := wa _ s.1
      rw [at1, sa] at w2
      have t := s.1.st q.1.1 (y := h_i h 203 (eE h0 j).1 + h_i h0 202 j + h_i h0 202 j) (by rw [s2]; omega) (by rw [s2]; exact e2) (by rw [s2]; exact w2)
      exact nx _ 1 t.1 (Or.inr ⟨rfl, by omega⟩)
theorem wo_34 (d : Nat) (h0 : Hp_) (I0 : Iv h0) (x0 : ∀ i, i < eN h0 → 1 ≤ (h_i h0 202 i).toInt) (u : Nat) (x2 : Int32) (K : Int32 → Hp_ → Prop) (k0 : ∀ h, Fi u h0 h → Fk h0 h (eN h0) → AW (m_X12_walkOf (d + 0) 0 0) 0 0 34 [(0, .ref 1), (2, .int x2), (3, .int 0)] [] h (kI K)) :
    ∀ (N : Nat) (h : Hp_), Fi u h0 h → fsn h 16 < N → AW (m_X12_walkOf (d + 0) 0 0) 0 0 34 [(0, .ref 1), (2, .int x2), (3, .int 1)] [] h (kI K)
  | 0, _, _, l => absurd l (by omega)
  | N + 1, h, f, l => t_X12_walkOf_34 d h f.1.1 x2 1 K ⟨fun z => absurd z (by decide), fun _ => wo_43 d h0 I0 x0 u x2 K (fsn h 16) k0 (fun h' f' l' => wo_34 d h0 I0 x0 u x2 K k0 N h' f' (by omega)) (eN h0) 0 0 h (by omega) f (Or.inl ⟨rfl, Nat.le_refl _, fun i hi => absurd hi (by omega)⟩)⟩
/-- what the reference's search answers -/
theorem c_woM (d : Nat) {h : Hp_} (I : Iv h) (x0 : ∀ i, i < eN h → 1 ≤ (h_i h 202 i).toInt) (x1 x2 : Int32) (p1 : 0 ≤ x1.toInt ∧ x1.toInt < 16) (p2 : 0 ≤ x2.toInt ∧ x2.toInt < 16) : Ci (m_X12_walkOf (d + 0) 0 0) [.ref 1, .int x1, .int x2] h (fun r h' => Iv h' ∧ Fr [203999] h h' ∧ ∃ e : Nat → Int, Exr (eE h) (eN h) 100000 x1.toNatClampNeg e ∧ ((e x2.toNatClampNeg < 100000 ∧ r.toInt = e x2.toNatClampNeg) ∨ (¬ e x2.toNatClampNeg < 100000 ∧ r = -1))) := by
  have t16 : (16 : Int32).toInt = 16 := rfl
  have t1 : (1 : Int32).toInt = 1 := rfl
  have t0 : (0 : Int32).toInt = 0 := rfl
  have tm : (100000 : Int32).toInt = 100000 := rfl
  have n1 := n_nat (x := x1) p1.1
  have n2 := n_nat (x := x2) p2.1
  have v2 : vp_in x2 16 := vin_ti p2.1 (by omega)
  have fin : ∀ h', Fi x1.toNatClampNeg h h' → Fk h h' (eN h) → AW (m_X12_walkOf (d + 0) 0 0) 0 0 34 [(0, .ref 1), (2, .int x2), (3, .int 0)] [] h' (kI (fun r h' => Iv h' ∧ Fr [203999] h h' ∧ ∃ e : Nat → Int, Exr (eE h) (eN h) 100000 x1.toNatClampNeg e ∧ ((e x2.toNatClampNeg < 100000 ∧ r.toInt = e x2.toNatClampNeg) ∨ (¬ e x2.toNatClampNeg < 100000 ∧ r = -1)))) := fun h' f g => by
    have X : Exr (eE h) (eN h) 100000 x1.toNatClampNeg (fun v => (h_i h' 203 v).toInt) := fun v hv => ⟨(f.2.2.1 v hv).1, fe_le (d := fun v => (h_i h' 203 v).toInt) g f.2.2.2 |> fun q k t w => q k v t w, (f.2.2.1 v hv).2⟩
    exact t_X12_walkOf_34 d h' f.1.1 x2 0 _ ⟨fun _ => ⟨v2, fun c => ⟨v2, f.1, f.2.1, _, X, Or.inl ⟨by have := q_lt.mp c; rw [tm] at this; exact this, rfl⟩⟩, fun c => ⟨f.1, f.2.1, _, X, Or.inr ⟨fun y => c (q_lt.mpr (by rw [tm]; exact y)), rfl⟩⟩⟩, fun z => absurd rfl z⟩
  have lp : ∀ (r j : Nat) (h' : Hp_), j + r = 16 → Iv h' → Fr [203999] h h' → (∀ v, v < j → h_i h' 203 v = if v = x1.toNatClampNeg then 0 else 100000) → AW (m_X12_walkOf (d + 0) 0 0) 0 0 2 [(0, .ref 1), (1, .int x1), (2, .int x2), (3, .int (Int32.ofNat j))] [] h' (kI (fun r h' => Iv h' ∧ Fr [203999] h h' ∧ ∃ e : Nat → Int, Exr (eE h) (eN h) 100000 x1.toNatClampNeg e ∧ ((e x2.toNatClampNeg < 100000 ∧ r.toInt = e x2.toNatClampNeg) ∨ (¬ e x2.toNatClampNeg < 100000 ∧ r = -1)))) := by
    intro r
    induction r with
    | zero =>
      intro j h' ej I' F' P
      refine t_X12_walkOf_2 d h' I'.1 x1 x2 _ _ ⟨fun _ => ?_, fun z => absurd (q_le.mpr (by rw [t16, on_j (by omega)]; omega)) z⟩
      refine wo_34 d h I x0 x1.toNatClampNeg x2 _ fin (fsn h' 16 + 1) h' ⟨I', F', fun v hv => ?_, ?_⟩ (by omega)
      · rw [P v (by omega)]
        by_cases c : v = x1.toNatClampNeg
        · rw [if_pos c, t0]
          exact ⟨⟨by decide, by decide⟩, fun _ => ⟨0, c, rfl⟩⟩
        · rw [if_neg c, tm]
          exact ⟨⟨by decide, by decide⟩, fun y => absurd y (by decide)⟩
      · rw [P _ (by omega), if_pos rfl, t0]
        exact Int.le_refl _
    | succ r ih =>
      intro j h' ej I' F' P
      have kj : (Int32.ofNat j).toNatClampNeg = j := on_k (by omega)
      have vj : vp_in (Int32.ofNat j) 16 := on_in (by omega) (by decide)
      have go : ∀ y, y = (if j = x1.toNatClampNeg then (0 : Int32) else 100000) → AW (m_X12_walkOf (d + 0) 0 0) 0 0 2 [(0, .ref 1), (1, .int x1), (2, .int x2), (3, .int (Int32.ofNat j + 1))] [] (h_im h' 203 (Int32.ofNat j).toNatClampNeg y) (kI (fun r h' => Iv h' ∧ Fr [203999] h h' ∧ ∃ e : Nat → Int, Exr (eE h) (eN h) 100000 x1.toNatClampNeg e ∧ ((e x2.toNatClampNeg < 100000 ∧ r.toInt = e x2.toNatClampNeg) ∨ (¬ e x2.toNatClampNeg < 100000 ∧ r = -1)))) := fun y ey => by
        rw [kj, on_s (by omega)]
        refine ih (j + 1) _ (by omega) (tr_ 203 (by decide +kernel) I' _ _ (by decide) (by decide)) (F'.im (inw_row (by decide +kernel) _)) (fun v hv => ?_)
        by_cases c : v = j
        · rw [c, im_at]
          exact ey
        · rw [h_i_im, if_neg (fun z => c z.2)]
          exact P v (by omega)
      refine t_X12_walkOf_2 d h' I'.1 x1 x2 _ _ ⟨fun z => by have := q_le.mp z; rw [t16, on_j (by omega)] at this; omega, fun _ => ⟨fun n => ⟨vj, go 100000 ?_⟩, fun e => ⟨vj, go 0 ?_⟩⟩⟩
      · rw [if_neg (fun c => n (Int32.toInt_inj.mp (by rw [on_j (by omega)]; omega)))]
      · rw [if_pos (by rw [← e, kj])]
  exact t_X12_walkOf d h x1 x2 _ (lp 16 0 h (by omega) I (Fr.rf _ _) (fun v hv => absurd hv (by omega)))
/-- the walks, as the class's table has them -/
noncomputable def wX (h : Hp_) (a b : Nat) : Option Int := if a < 16 ∧ b < 16 ∧ dX h a b < 1000000 then some (dX h a b) else none
theorem wX_le {h : Hp_} (I : Iv h) (x : ExP h) (a b : Nat) (k : Int) (e : wX h a b = some k) : 0 ≤ k ∧ k ≤ 900 := by
  unfold wX at e
  by_cases c : a < 16 ∧ b < 16 ∧ dX h a b < 1000000
  · rw [if_pos c] at e
    cases e
    have q := x.2 a c.1
    exact ⟨(q b c.2.1).1.1, q.le (ev_ I x.1) c.2.1 c.2.2⟩
  · rw [if_neg c] at e
    cases e
theorem wX_cg {h h' : Hp_} (e : ∀ k, h_i h' 30 k = h_i h 30 k) : wX h' = wX h := by
  unfold wX dX
  rw [show h_i h' 30 = h_i h 30 from funext e]
theorem c_mnX (d : Nat) {h : Hp_} (I : Iv h) (a b : Nat) (ha : a < 16) (hb : b < 16) : Ci (m_X9_minutes (d + 1) 0 0) [.ref 10, .int (Int32.ofNat a), .int (Int32.ofNat b)] h (fun r h' => h' = h ∧ ((∃ k, wX h a b = some k ∧ r.toInt = k) ∨ (wX h a b = none ∧ r = -1))) := by
  have t16 : (16 : Int32).toInt = 16 := rfl
  have t0 : (0 : Int32).toInt = 0 := rfl
  have tm : (1000000 : Int32).toInt = 1000000 := rfl
  have oa := on_j (n := a) (by omega)
  have ob := on_j (n := b) (by omega)
  have b1 : 0 ≤ Int32.ofNat a ∧ Int32.ofNat a < 16 := ⟨q_le.mpr (by omega), q_lt.mpr (by omega)⟩
  have b2 : 0 ≤ Int32.ofNat b ∧ Int32.ofNat b < 16 := ⟨q_le.mpr (by omega), q_lt.mpr (by omega)⟩
  have k := i256 (i := a) (j := b) ha hb
  refine t_X9_minutes d h _ _ _ (Ci.mono (s_X11_isPlace _ h (Int32.ofNat a)) (fun r h3 q => ?_))
  obtain ⟨er, eh⟩ := q
  subst er eh
  refine ⟨I.1, fun z => absurd b1 (bI_0.mp z), fun _ => Ci.mono (s_X11_isPlace _ _ (Int32.ofNat b)) (fun r h4 q => ?_)⟩
  obtain ⟨er, eh⟩ := q
  subst er eh
  refine ⟨I.1, fun _ => ⟨k.2, ?_⟩, fun z => absurd b2 (bI_0.mp z)⟩
  rw [k.1]
  refine ⟨fun c => ⟨rfl, Or.inl ⟨dX h4 a b, ?_, rfl⟩⟩, fun c => ⟨rfl, Or.inr ⟨?_, rfl⟩⟩⟩
  · have c := q_lt.mp c
    rw [tm] at c
    unfold wX
    rw [if_pos ⟨ha, hb, c⟩]
  · unfold wX
    rw [if_neg (fun y => c (q_lt.mpr (by rw [tm]; exact y.2.2)))]
theorem c_woR (d : Nat) {h : Hp_} (I : Iv h) (x : ExP h) (x1 x2 : Int32) (p1 : 0 ≤ x1.toInt ∧ x1.toInt < 16) (p2 : 0 ≤ x2.toInt ∧ x2.toInt < 16) : Ci (m_X12_walkOf (d + 0) 0 0) [.ref 1, .int x1, .int x2] h (fun r h' => Iv h' ∧ Fr [203999] h h' ∧ ((∃ k, wX h x1.toNatClampNeg x2.toNatClampNeg = some k ∧ r.toInt = k) ∨ (wX h x1.toNatClampNeg x2.toNatClampNeg = none ∧ r = -1))) := by
  have n1 := n_nat (x := x1) p1.1
  have n2 := n_nat (x := x2) p2.1
  refine Ci.mono (c_woM d I x.1 x1 x2 p1 p2) (fun r h' q => ⟨q.1, q.2.1, ?_⟩)
  obtain ⟨e, X, y⟩ := q.2.2
  have z := (x.2 x1.toNatClampNeg (by omega)).eq X (ev_ I x.1) (by decide) (by decide) (v := x2.toNatClampNeg) (by omega)
  unfold wX
  rcases z with ⟨z1, z2, z3⟩ | ⟨z1, z2⟩
  · rw [if_pos ⟨by omega, by omega, z1⟩]
    rcases y with ⟨_, y⟩ | ⟨y, _⟩
    · exact Or.inl ⟨_, rfl, by rw [y, z3]⟩
    · exact absurd z2 y
  · rw [if_neg (fun c => z1 c.2.2)]
    rcases y with ⟨y, _⟩ | ⟨_, y⟩
    · exact absurd y z2
    · exact Or.inr ⟨rfl, y⟩
/-- of each beat its steps -/
noncomputable def sB (h : Hp_) (k i : Nat) : Sp3 := (h_i h 228 (150 * k + i), h_i h 229 (150 * k + i), h_i h 230 (150 * k + i))
noncomputable def bL (h : Hp_) (k : Nat) : List Sp3 := (List.range (h_i h 227 k).toNatClampNeg).map (sB h k)
noncomputable def ExS (h : Hp_) : Prop := ∀ k, k < (h_i h 12 3).toNatClampNeg → ∀ i, i < (h_i h 227 k).toNatClampNeg → h_i h 34 (150 * k + i) = pkS (sB h k i) ∧ stR (sB h k i)
noncomputable def exoS (ws : List Nat) : Bool := off ws 34 && off ws 227 && off ws 228 && off ws 229 && off ws 230 && !inw ws 12 3
theorem exS_F : ExS HF := fun k hk => by
  rw [show h_i HF 12 3 = 0 by decide +kernel] at hk
  exact absurd hk (by show ¬ k < 0; omega)
theorem ExS.cg {h h' : Hp_} (e : ExS h) (a : ∀ k, h_i h' 34 k = h_i h 34 k) (b : ∀ k, h_i h' 227 k = h_i h 227 k) (c : ∀ k, h_i h' 228 k = h_i h 228 k) (d : ∀ k, h_i h' 229 k = h_i h 229 k) (f : ∀ k, h_i h' 230 k = h_i h 230 k) (n : h_i h' 12 3 = h_i h 12 3) : ExS h' := fun k hk i hi => by
  rw [n] at hk
  rw [b] at hi
  have q := e k hk i hi
  unfold sB at q ⊢
  rw [a, c, d, f]
  exact q
theorem ExS.fr {ws : List Nat} {h h' : Hp_} (e : ExS h) (f : Fr ws h h') (o : exoS ws = true) : ExS h' := by
  unfold exoS at o
  simp only [Bool.and_eq_true, Bool.not_eq_true'] at o
  exact e.cg (fun k => fr_i f o.1.1.1.1.1 k) (fun k => fr_i f o.1.1.1.1.2 k) (fun k => fr_i f o.1.1.1.2 k) (fun k => fr_i f o.1.1.2 k) (fun k => fr_i f o.1.2 k) (f.2 12 3 o.2).1
theorem ExS.mf {W : List Nat} {h h' : Hp_} (e : ExS h) (f : Mf W h h') (o : exoS W = true) : ExS h' := by
  unfold exoS at o
  simp only [Bool.and_eq_true, Bool.not_eq_true'] at o
  exact e.cg (fun k => (f.2.2.2 34 k (by decide) (off_inw o.1.1.1.1.1 k)).1) (fun k => f.2.1 227 (by decide) (by decide) k) (fun k => f.2.1 228 (by decide) (by decide) k) (fun k => f.2.1 229 (by decide) (by decide) k) (fun k => f.2.1 230 (by decide) (by decide) k) (f.2.2.2 12 3 (by decide) o.2).1
theorem z227 {h : Hp_} (I : Iv h) (k : Nat) : (h_i h 227 k).toNatClampNeg ≤ 150 ∧ (((h_i h 227 k).toNatClampNeg : Nat) : Int) = (h_i h 227 k).toInt := by
  have rg := I.2.1 227 k
  rw [tfa_tf (show tfa 227 = some (0, 150) by decide +kernel)] at rg
  have r0 : 0 ≤ (h_i h 227 k).toInt := rg.1
  have r1 : (h_i h 227 k).toInt ≤ 150 := rg.2
  have n := n_nat r0
  exact ⟨by omega, by omega⟩
theorem ExS.bt {N : Nat} {h h1 h2 : Hp_} {r1 r2 : Int32} (T : LiT N h) (L : ExS h) (k1 : Iv h1 ∧ Fr wbx h h1 ∧ Btx h r1 h1) (k2 : (Iv h2 ∧ J2 h2) ∧ Btm (h_i h 31) (xn h) h1 r2 h2) : ExS h2 := by
  obtain ⟨I1, F1, kn, ky⟩ := k1
  obtain ⟨⟨I2, JJ⟩, F2, c8, mn, my⟩ := k2
  have a42 : h_i h1 1 42 = h_i h 12 3 := (F1.2 1 42 (by decide +kernel)).1.trans T.r2.symm
  rw [a42] at mn my
  have b123 : h_i h2 12 3 = h_i h1 12 3 := (F2.2 12 3 (by decide +kernel)).1
  have f227 : ∀ k, h_i h1 227 k = h_i h 227 k := fun k => fr_i F1 (by decide +kernel) k
  have f228 : ∀ k, h_i h1 228 k = h_i h 228 k := fun k => fr_i F1 (by decide +kernel) k
  have f229 : ∀ k, h_i h1 229 k = h_i h 229 k := fun k => fr_i F1 (by decide +kernel) k
  have f230 : ∀ k, h_i h1 230 k = h_i h 230 k := fun k => fr_i F1 (by decide +kernel) k
  have g34 : ∀ k, h_i h2 34 k = h_i h1 34 k := fun k => fr_i F2 (by decide +kernel) k
  have bb1 : bB h1 = 150 * (h_i h 12 3).toNatClampNeg := by
    show 150 * (h_i h1 1 42).toNatClampNeg = _
    rw [a42]
  have b3 := x12_in T.1
  have n3 := n_nat b3.1
  have lw : ∀ k, k < (h_i h 12 3).toNatClampNeg → (∀ z, z < 150 * (h_i h 12 3).toNatClampNeg → h_i h1 34 z = h_i h 34 z) → h_i h2 227 k = h_i h 227 k → ∀ i, i < (h_i h2 227 k).toNatClampNeg → h_i h2 34 (150 * k + i) = pkS (sB h2 k i) ∧ stR (sB h2 k i) := fun k hk x w i hi => by
    rw [w] at hi
    have zk := (z227 T.1 k).1
    have q := L k hk i hi
    have cc := c8 (150 * k + i) (by rw [bb1]; omega)
    have es : sB h2 k i = sB h k i := by
      unfold sB
      rw [cc.1, cc.2.1, cc.2.2, f228, f229, f230]
    rw [g34, x _ (by omega), es]
    exact q
  by_cases o : okB (h_i h 31) (xn h) (h_i h 12 3)
  · have ky := ky o
    have my := my o
    have t1 : (1 : Int32).toInt = 1 := rfl
    have ex : (h_i h 12 3 + 1).toInt = (h_i h 12 3).toInt + 1 := tx_add (by rw [t1]; omega) (by rw [t1]; omega)
    have n4 := n_nat (x := h_i h 12 3 + 1) (by omega)
    intro k hk
    rw [b123, ky.2.1] at hk
    have w : h_i h2 227 k = if k = (h_i h 12 3).toNatClampNeg then Int32.ofNat (beo (h_i h 31) (xn h)).length else h_i h 227 k := by rw [my.2.2.2.1 k, f227]
    rcases Nat.lt_or_ge k (h_i h 12 3).toNatClampNeg with u | u
    · have nk : ¬ k = (h_i h 12 3).toNatClampNeg := by omega
      rw [if_neg nk] at w
      exact lw k u ky.2.2.2.2.2.2 w
    · have ek : k = (h_i h 12 3).toNatClampNeg := by omega
      rw [if_pos ek] at w
      intro i hi
      have l150 := o.2.2
      rw [w, on_k (by omega)] at hi
      have gi : (beo (h_i h 31) (xn h))[i]? = some ((beo (h_i h 31) (xn h))[i]'hi) := List.getElem?_eq_getElem hi
      have p := ky.2.2.2.2.2.1 i _ gi
      have m := my.2.2.2.2.1 i _ gi
      have s := my.2.2.2.2.2 _ (List.getElem_mem hi)
      rw [bb1, ← ek] at m
      rw [← ek] at p
      have es : sB h2 k i = (beo (h_i h 31) (xn h))[i]'hi := by
        unfold sB
        rw [m.1, m.2.1, m.2.2]
      rw [g34, p, es]
      exact ⟨rfl, s⟩
  · have kn := kn o
    have mn := mn o
    intro k hk
    rw [b123, kn.2.1] at hk
    exact lw k hk (fun z _ => kn.2.2.2.2.2 z) ((mn.2.2.2 k).trans (f227 k))
noncomputable abbrev okWx (m x1 x2 x3 : Int32) : Prop := (0 ≤ x1 ∧ x1 < 16) ∧ (0 ≤ x2 ∧ x2 ≤ 1440) ∧ (x2 ≤ x3 ∧ x3 ≤ 1440) ∧ m < 8
noncomputable abbrev okWn (m x1 x2 x3 : Int32) : Prop := (0 ≤ x1 ∧ x1 ≤ 15) ∧ (0 ≤ x2 ∧ x2 ≤ 1440) ∧ (x2 ≤ x3 ∧ x3 ≤ 1440) ∧ ¬ m = 8
theorem w3_ {h : Hp_} {a n k : Nat} {x : Int32} {ok : Prop} [Decidable ok] (o : ok) : h_i (h_im h a n x) a k = if ok ∧ k = n then x else h_i h a k := by
  rw [h_i_im]
  by_cases q : k = n
  · rw [if_pos ⟨rfl, q⟩, if_pos ⟨o, q⟩]
  · rw [if_neg (fun y => q y.2), if_neg (fun y => q y.2)]
theorem w3a {h : Hp_} {p a b c f n k : Nat} {x y z v : Int32} {ok : Prop} [Decidable ok] (o : ok) (e1 : a ≠ b) (e2 : a ≠ c) (e3 : a ≠ p) : h_i (h_im (h_im (h_im (h_im h a n x) b n y) c n z) p f v) a k = if ok ∧ k = n then x else h_i h a k := by
  rw [im_ne e3, im_ne e2, im_ne e1]
  exact w3_ o
theorem w3b {h : Hp_} {p a b c f n k : Nat} {x y z v : Int32} {ok : Prop} [Decidable ok] (o : ok) (e1 : b ≠ a) (e2 : b ≠ c) (e3 : b ≠ p) : h_i (h_im (h_im (h_im (h_im h a n x) b n y) c n z) p f v) b k = if ok ∧ k = n then y else h_i h b k := by
  rw [im_ne e3, im_ne e2, w3_ o, im_ne e1]
theorem w3c {h : Hp_} {p a b c f n k : Nat} {x y z v : Int32} {ok : Prop} [Decidable ok] (o : ok) (e1 : c ≠ a) (e2 : c ≠ b) (e3 : c ≠ p) : h_i (h_im (h_im (h_im (h_im h a n x) b n y) c n z) p f v) c k = if ok ∧ k = n then z else h_i h c k := by
  rw [im_ne e3, w3_ o, im_ne e2, im_ne e1]
theorem c_wtX (d : Nat) {h : Hp_} (I : Iv h) (x1 x2 x3 : Int32) : Ci (m_X11_watch (d + 1) 0 0) [.ref 0, .int x1, .int x2, .int x3] h (fun r h' => Iv h' ∧ Fr [20003, 92999, 93999, 94999] h h' ∧ oca (okWx (h_i h 20 3) x1 x2 x3) (h_i h 20 3) r (h_i h' 20 3) ∧ (∀ k, h_i h' 92 k = if okWx (h_i h 20 3) x1 x2 x3 ∧ k = (h_i h 20 3).toNatClampNeg then x1 else h_i h 92 k) ∧ (∀ k, h_i h' 93 k = if okWx (h_i h 20 3) x1 x2 x3 ∧ k = (h_i h 20 3).toNatClampNeg then x2 else h_i h 93 k) ∧ (∀ k, h_i h' 94 k = if okWx (h_i h 20 3) x1 x2 x3 ∧ k = (h_i h 20 3).toNatClampNeg then x3 else h_i h 94 k)) := by
  have t1 : (1 : Int32).toInt = 1 := rfl
  have tc : (8 : Int32).toInt = 8 := rfl
  have rg := I.2.1 20 3
  rw [show tf 20 3 = (0, 8) by decide +kernel] at rg
  have r0 : 0 ≤ (h_i h 20 3).toInt := rg.1
  have r1 : (h_i h 20 3).toInt ≤ 8 := rg.2
  have no : ¬ okWx (h_i h 20 3) x1 x2 x3 → Iv h ∧ Fr [20003, 92999, 93999, 94999] h h ∧ oca (okWx (h_i h 20 3) x1 x2 x3) (h_i h 20 3) (-1) (h_i h 20 3) ∧ (∀ k, h_i h 92 k = if okWx (h_i h 20 3) x1 x2 x3 ∧ k = (h_i h 20 3).toNatClampNeg then x1 else h_i h 92 k) ∧ (∀ k, h_i h 93 k = if okWx (h_i h 20 3) x1 x2 x3 ∧ k = (h_i h 20 3).toNatClampNeg then x2 else h_i h 93 k) ∧ (∀ k, h_i h 94 k = if okWx (h_i h 20 3) x1 x2 x3 ∧ k = (h_i h 20 3).toNatClampNeg then x3 else h_i h 94 k) := fun n => ⟨I, Fr.rf _ _, Or.inr ⟨n, rfl, rfl⟩, fun k => (if_neg (fun y => n y.1)).symm, fun k => (if_neg (fun y => n y.1)).symm, fun k => (if_neg (fun y => n y.1)).symm⟩
  have vin : h_i h 20 3 < 8 → vp_in (h_i h 20 3) 8 := fun l => dp_in (lo := 0) (hi := 7) ⟨r0, by have := q_lt.mp l; show _ ≤ (7 : Int); omega⟩ (by decide) (by decide)
  have ex : h_i h 20 3 < 8 → (h_i h 20 3 + 1).toInt = (h_i h 20 3).toInt + 1 ∧ (h_i h 20 3).toInt < 8 := fun l => by
    have l := q_lt.mp l
    exact ⟨tx_add (by rw [t1]; omega) (by rw [t1]; omega), by omega⟩
  refine t_X11_watch d h x1 x2 x3 _ (Ci.mono (s_X11_isPlace _ h x1) (fun r h1 q => ?_))
  obtain ⟨er, eh⟩ := q
  subst er eh
  refine ⟨I.1, fun z => no (fun o => bI_0.mp z o.1), fun z => ⟨fun n => no (fun o => n o.2.1), fun a2 => ⟨fun a3 => ?_, fun n => no (fun o => n o.2.2.1)⟩⟩⟩
  have a1 : 0 ≤ x1 ∧ x1 < 16 := Decidable.byContradiction (fun n => z (bI_0.mpr n))
  refine t_X6_addWatch d h1 I.1 x1 x2 x3 _ ⟨fun l => ?_, fun n => ⟨I.1, no (fun o => n o.2.2.2)⟩⟩
  obtain ⟨e1, e2⟩ := ex l
  have I5 := ((tr_ 94 (by decide +kernel) (tr_ 93 (by decide +kernel) (tr_ 92 (by decide +kernel) I (h_i h1 20 3).toNatClampNeg x1 (by decide) (by decide)) (h_i h1 20 3).toNatClampNeg x2 (by decide) (by decide)) (h_i h1 20 3).toNatClampNeg x3 (by decide) (by decide)).im (a := 20) (k := 3) (x := (h_i h1 20 3 + 1)) (by rw [show tf 20 3 = (0, 8) by decide +kernel]; exact ⟨by show (0 : Int) ≤ _; omega, by show _ ≤ (8 : Int); omega⟩) (by decide))
  exact ⟨vin l, vin l, vin l, I5.1, I5, ((((Fr.rf _ _).im (inw_row (by decide +kernel) _)).im (inw_row (by decide +kernel) _)).im (inw_row (by decide +kernel) _)).im (by decide +kernel), Or.inl ⟨⟨a1, a2, a3, l⟩, tx_back _, im_at⟩, fun k => w3a ⟨a1, a2, a3, l⟩ (by decide) (by decide) (by decide), fun k => w3b ⟨a1, a2, a3, l⟩ (by decide) (by decide) (by decide), fun k => w3c ⟨a1, a2, a3, l⟩ (by decide) (by decide) (by decide)⟩
theorem c_wtM (d : Nat) {h : Hp_} (I : Iv h) (x1 x2 x3 : Int32) : Ci (m_X12_watch (d + 2) 0 0) [.ref 1, .int x1, .int x2, .int x3] h (fun r h' => Iv h' ∧ Fr [1108, 281999, 282999, 283999] h h' ∧ oca (okWn (h_i h 1 108) x1 x2 x3) (h_i h 1 108) r (h_i h' 1 108) ∧ (∀ k, h_i h' 281 k = if okWn (h_i h 1 108) x1 x2 x3 ∧ k = (h_i h 1 108).toNatClampNeg then x1 else h_i h 281 k) ∧ (∀ k, h_i h' 282 k = if okWn (h_i h 1 108) x1 x2 x3 ∧ k = (h_i h 1 108).toNatClampNeg then x2 else h_i h 282 k) ∧ (∀ k, h_i h' 283 k = if okWn (h_i h 1 108) x1 x2 x3 ∧ k = (h_i h 1 108).toNatClampNeg then x3 else h_i h 283 k)) := by
  have t1 : (1 : Int32).toInt = 1 := rfl
  have tc : (8 : Int32).toInt = 8 := rfl
  have rg := I.2.1 1 108
  rw [show tf 1 108 = (0, 8) by decide +kernel] at rg
  have r0 : 0 ≤ (h_i h 1 108).toInt := rg.1
  have r1 : (h_i h 1 108).toInt ≤ 8 := rg.2
  have no : ¬ okWn (h_i h 1 108) x1 x2 x3 → Iv h ∧ Fr [1108, 281999, 282999, 283999] h h ∧ oca (okWn (h_i h 1 108) x1 x2 x3) (h_i h 1 108) (-1) (h_i h 1 108) ∧ (∀ k, h_i h 281 k = if okWn (h_i h 1 108) x1 x2 x3 ∧ k = (h_i h 1 108).toNatClampNeg then x1 else h_i h 281 k) ∧ (∀ k, h_i h 282 k = if okWn (h_i h 1 108) x1 x2 x3 ∧ k = (h_i h 1 108).toNatClampNeg then x2 else h_i h 282 k) ∧ (∀ k, h_i h 283 k = if okWn (h_i h 1 108) x1 x2 x3 ∧ k = (h_i h 1 108).toNatClampNeg then x3 else h_i h 283 k) := fun n => ⟨I, Fr.rf _ _, Or.inr ⟨n, rfl, rfl⟩, fun k => (if_neg (fun y => n y.1)).symm, fun k => (if_neg (fun y => n y.1)).symm, fun k => (if_neg (fun y => n y.1)).symm⟩
  have vin : h_i h 1 108 < 8 → vp_in (h_i h 1 108) 8 := fun l => dp_in (lo := 0) (hi := 7) ⟨r0, by have := q_lt.mp l; show _ ≤ (7 : Int); omega⟩ (by decide) (by decide)
  have ex : h_i h 1 108 < 8 → (h_i h 1 108 + 1).toInt = (h_i h 1 108).toInt + 1 ∧ (h_i h 1 108).toInt < 8 := fun l => by
    have l := q_lt.mp l
    exact ⟨tx_add (by rw [t1]; omega) (by rw [t1]; omega), by omega⟩
  refine t_X12_watch d h I.1 x1 x2 x3 _ ⟨fun n => no (fun o => n o.1), fun a1 => ⟨fun n => no (fun o => n o.2.1), fun a2 => ⟨fun n => no (fun o => n o.2.2.1), fun a3 => ⟨fun ne => ?_, fun e => no (fun o => o.2.2.2 e)⟩⟩⟩⟩
  have l : h_i h 1 108 < 8 := (nz_lt (by rw [tc]; exact r1)).mpr ne
  obtain ⟨e1, e2⟩ := ex l
  exact ⟨vin l, vin l, vin l, ((tr_ 283 (by decide +kernel) (tr_ 282 (by decide +kernel) (tr_ 281 (by decide +kernel) I (h_i h 1 108).toNatClampNeg x1 (by decide) (by decide)) (h_i h 1 108).toNatClampNeg x2 (by decide) (by decide)) (h_i h 1 108).toNatClampNeg x3 (by decide) (by decide)).im (a := 1) (k := 108) (x := (h_i h 1 108 + 1)) (by rw [show tf 1 108 = (0, 8) by decide +kernel]; exact ⟨by show (0 : Int) ≤ _; omega, by show _ ≤ (8 : Int); omega⟩) (by decide)), ((((Fr.rf _ _).im (inw_row (by decide +kernel) _)).im (inw_row (by decide +kernel) _)).im (inw_row (by decide +kernel) _)).im (by decide +kernel), Or.inl ⟨⟨a1, a2, a3, ne⟩, tx_back _, im_at⟩, fun k => w3a ⟨a1, a2, a3, ne⟩ (by decide) (by decide) (by decide), fun k => w3b ⟨a1, a2, a3, ne⟩ (by decide) (by decide) (by decide), fun k => w3c ⟨a1, a2, a3, ne⟩ (by decide) (by decide) (by decide)⟩
theorem okW_eq {m x1 x2 x3 : Int32} (b : m.toInt ≤ 8) : okWx m x1 x2 x3 ↔ okWn m x1 x2 x3 := by
  unfold okWx okWn
  rw [p15, nz_lt (n := 8) b]
/-- the watches -/
noncomputable def ExW (h : Hp_) : Prop := h_i h 20 3 = h_i h 1 108 ∧ ∀ k, k < (h_i h 20 3).toNatClampNeg → (h_i h 92 k = h_i h 281 k ∧ h_i h 93 k = h_i h 282 k ∧ h_i h 94 k = h_i h 283 k) ∧ (0 ≤ (h_i h 92 k).toInt ∧ (h_i h 92 k).toInt ≤ 15) ∧ (0 ≤ (h_i h 93 k).toInt ∧ (h_i h 94 k).toInt ≤ 1440)
noncomputable def exoW (ws : List Nat) : Bool := off ws 92 && off ws 93 && off ws 94 && off ws 281 && off ws 282 && off ws 283 && !inw ws 20 3 && !inw ws 1 108
theorem exW_F : ExW HF := ⟨by decide +kernel, fun k hk => by
  rw [show h_i HF 20 3 = 0 by decide +kernel] at hk
  exact absurd hk (by show ¬ k < 0; omega)⟩
theorem ExW.cg {h h' : Hp_} (e : ExW h) (a : ∀ k, h_i h' 92 k = h_i h 92 k) (b : ∀ k, h_i h' 93 k = h_i h 93 k) (c : ∀ k, h_i h' 94 k = h_i h 94 k) (d : ∀ k, h_i h' 281 k = h_i h 281 k) (f : ∀ k, h_i h' 282 k = h_i h 282 k) (g : ∀ k, h_i h' 283 k = h_i h 283 k) (n : h_i h' 20 3 = h_i h 20 3) (m : h_i h' 1 108 = h_i h 1 108) : ExW h' := by
  refine ⟨by rw [n, m]; exact e.1, fun k hk => ?_⟩
  rw [n] at hk
  rw [a, b, c, d, f, g]
  exact e.2 k hk
theorem ExW.fr {ws : List Nat} {h h' : Hp_} (e : ExW h) (f : Fr ws h h') (o : exoW ws = true) : ExW h' := by
  unfold exoW at o
  simp only [Bool.and_eq_true, Bool.not_eq_true'] at o
  exact e.cg (fun k => fr_i f o.1.1.1.1.1.1.1 k) (fun k => fr_i f o.1.1.1.1.1.1.2 k) (fun k => fr_i f o.1.1.1.1.1.2 k) (fun k => fr_i f o.1.1.1.1.2 k) (fun k => fr_i f o.1.1.1.2 k) (fun k => fr_i f o.1.1.2 k) (f.2 20 3 o.1.2).1 (f.2 1 108 o.2).1
theorem ExW.mf {W : List Nat} {h h' : Hp_} (e : ExW h) (f : Mf W h h') (o : exoW W = true) : ExW h' := by
  unfold exoW at o
  simp only [Bool.and_eq_true, Bool.not_eq_true'] at o
  exact e.cg (fun k => (f.2.2.2 92 k (by decide) (off_inw o.1.1.1.1.1.1.1 k)).1) (fun k => (f.2.2.2 93 k (by decide) (off_inw o.1.1.1.1.1.1.2 k)).1) (fun k => (f.2.2.2 94 k (by decide) (off_inw o.1.1.1.1.1.2 k)).1) (fun k => f.2.1 281 (by decide) (by decide) k) (fun k => f.2.1 282 (by decide) (by decide) k) (fun k => f.2.1 283 (by decide) (by decide) k) (f.2.2.2 20 3 (by decide) o.1.2).1 (f.1 108)
noncomputable def WtX (x1 x2 x3 : Int32) (h : Hp_) (r : Int32) (h' : Hp_) : Prop := Fr [20003, 92999, 93999, 94999] h h' ∧ oca (okWx (h_i h 20 3) x1 x2 x3) (h_i h 20 3) r (h_i h' 20 3) ∧ (∀ k, h_i h' 92 k = if okWx (h_i h 20 3) x1 x2 x3 ∧ k = (h_i h 20 3).toNatClampNeg then x1 else h_i h 92 k) ∧ (∀ k, h_i h' 93 k = if okWx (h_i h 20 3) x1 x2 x3 ∧ k = (h_i h 20 3).toNatClampNeg then x2 else h_i h 93 k) ∧ (∀ k, h_i h' 94 k = if okWx (h_i h 20 3) x1 x2 x3 ∧ k = (h_i h 20 3).toNatClampNeg then x3 else h_i h 94 k)
noncomputable def WtM (x1 x2 x3 : Int32) (h : Hp_) (r : Int32) (h' : Hp_) : Prop := Fr [1108, 281999, 282999, 283999] h h' ∧ oca (okWn (h_i h 1 108) x1 x2 x3) (h_i h 1 108) r (h_i h' 1 108) ∧ (∀ k, h_i h' 281 k = if okWn (h_i h 1 108) x1 x2 x3 ∧ k = (h_i h 1 108).toNatClampNeg then x1 else h_i h 281 k) ∧ (∀ k, h_i h' 282 k = if okWn (h_i h 1 108) x1 x2 x3 ∧ k = (h_i h 1 108).toNatClampNeg then x2 else h_i h 282 k) ∧ (∀ k, h_i h' 283 k = if okWn (h_i h 1 108) x1 x2 x3 ∧ k = (h_i h 1 108).toNatClampNeg then x3 else h_i h 283 k)
theorem ExW.wt {h h1 h2 : Hp_} {x1 x2 x3 r1 r2 : Int32} (I : Iv h) (L : ExW h) (k1 : WtX x1 x2 x3 h r1 h1) (k2 : WtM x1 x2 x3 h1 r2 h2) : ExW h2 ∧ r1 = r2 := by
  obtain ⟨f1, kp, a1, a2, a3⟩ := k1
  obtain ⟨f2, kq, b1, b2, b3⟩ := k2
  have e1 : h_i h1 1 108 = h_i h 20 3 := ((f1.2 1 108 (by decide +kernel)).1).trans L.1.symm
  rw [e1] at kq b1 b2 b3
  have rg := I.2.1 20 3
  rw [show tf 20 3 = (0, 8) by decide +kernel] at rg
  have r0 : 0 ≤ (h_i h 20 3).toInt := rg.1
  have r8 : (h_i h 20 3).toInt ≤ 8 := rg.2
  have oe := okW_eq (x1 := x1) (x2 := x2) (x3 := x3) (m := h_i h 20 3) r8
  have z := oca_eq oe kp kq
  have g1 : ∀ k, h_i h1 281 k = h_i h 281 k := fun k => fr_i f1 (by decide +kernel) k
  have g2 : ∀ k, h_i h1 282 k = h_i h 282 k := fun k => fr_i f1 (by decide +kernel) k
  have g3 : ∀ k, h_i h1 283 k = h_i h 283 k := fun k => fr_i f1 (by decide +kernel) k
  have c1 : ∀ k, h_i h2 92 k = h_i h1 92 k := fun k => fr_i f2 (by decide +kernel) k
  have c2 : ∀ k, h_i h2 93 k = h_i h1 93 k := fun k => fr_i f2 (by decide +kernel) k
  have c3 : ∀ k, h_i h2 94 k = h_i h1 94 k := fun k => fr_i f2 (by decide +kernel) k
  have e20 : h_i h2 20 3 = h_i h1 20 3 := (f2.2 20 3 (by decide +kernel)).1
  refine ⟨⟨e20.trans z.2, fun k hk => ?_⟩, z.1⟩
  rw [e20] at hk
  by_cases o : okWx (h_i h 20 3) x1 x2 x3
  · have o' := oe.mp o
    rcases kp with ⟨_, _, m⟩ | ⟨n, _⟩
    · have t1 : (1 : Int32).toInt = 1 := rfl
      have t0 : (0 : Int32).toInt = 0 := rfl
      have t16 : (16 : Int32).toInt = 16 := rfl
      have t14 : (1440 : Int32).toInt = 1440 := rfl
      have ex : (h_i h 20 3 + 1).toInt = (h_i h 20 3).toInt + 1 := tx_add (by rw [t1]; omega) (by rw [t1]; omega)
      have n0 := n_nat (x := h_i h 20 3) r0
      have n1 := n_nat (x := h_i h 20 3 + 1) (by omega)
      rw [m] at hk
      by_cases q : k = (h_i h 20 3).toNatClampNeg
      · rw [show h_i h2 92 k = x1 by rw [c1, a1, if_pos ⟨o, q⟩], show h_i h2 93 k = x2 by rw [c2, a2, if_pos ⟨o, q⟩], show h_i h2 94 k = x3 by rw [c3, a3, if_pos ⟨o, q⟩], show h_i h2 281 k = x1 by rw [b1, if_pos ⟨o', q⟩], show h_i h2 282 k = x2 by rw [b2, if_pos ⟨o', q⟩], show h_i h2 283 k = x3 by rw [b3, if_pos ⟨o', q⟩]]
        have u1 := q_le.mp o.1.1
        have u2 := q_lt.mp o.1.2
        have u3 := q_le.mp o.2.1.1
        have u4 := q_le.mp o.2.2.1.2
        exact ⟨⟨rfl, rfl, rfl⟩, ⟨by omega, by omega⟩, ⟨by omega, by omega⟩⟩
      · rw [show h_i h2 92 k = h_i h 92 k by rw [c1, a1, if_neg (fun y => q y.2)], show h_i h2 93 k = h_i h 93 k by rw [c2, a2, if_neg (fun y => q y.2)], show h_i h2 94 k = h_i h 94 k by rw [c3, a3, if_neg (fun y => q y.2)], show h_i h2 281 k = h_i h 281 k by rw [b1, if_neg (fun y => q y.2), g1], show h_i h2 282 k = h_i h 282 k by rw [b2, if_neg (fun y => q y.2), g2], show h_i h2 283 k = h_i h 283 k by rw [b3, if_neg (fun y => q y.2), g3]]
        exact L.2 k (by omega)
    · exact absurd o n
  · have o' : ¬ okWn (h_i h 20 3) x1 x2 x3 := fun y => o (oe.mpr y)
    rcases kp with ⟨y, _⟩ | ⟨_, _, m⟩
    · exact absurd y o
    · rw [m] at hk
      rw [show h_i h2 92 k = h_i h 92 k by rw [c1, a1, if_neg (fun y => o y.1)], show h_i h2 93 k = h_i h 93 k by rw [c2, a2, if_neg (fun y => o y.1)], show h_i h2 94 k = h_i h 94 k by rw [c3, a3, if_neg (fun y => o y.1)], show h_i h2 281 k = h_i h 281 k by rw [b1, if_neg (fun y => o' y.1), g1], show h_i h2 282 k = h_i h 282 k by rw [b2, if_neg (fun y => o' y.1), g2], show h_i h2 283 k = h_i h 283 k by rw [b3, if_neg (fun y => o' y.1), g3]]
      exact L.2 k hk
/-! what a beat sees -/
theorem bL_l (h : Hp_) (k : Nat) : (bL h k).length = (h_i h 227 k).toNatClampNeg := by
  unfold bL
  rw [List.length_map, List.length_range]
theorem bL_g {h : Hp_} {k i : Nat} (hi : i < (h_i h 227 k).toNatClampNeg) : (bL h k)[i]? = some (sB h k i) := by
  unfold bL
  rw [List.getElem?_map, List.getElem?_range hi]
  rfl
theorem bL_d {h : Hp_} {k i : Nat} (hi : i < (h_i h 227 k).toNatClampNeg) : (bL h k).drop i = sB h k i :: (bL h k).drop (i + 1) := by
  have l : i < (bL h k).length := by rw [bL_l]; exact hi
  rw [List.drop_eq_getElem_cons l]
  have g := bL_g hi
  rw [List.getElem?_eq_getElem l] at g
  rw [Option.some.inj g]
theorem bL_m {h : Hp_} {k : Nat} {x : Sp3} (hx : x ∈ bL h k) : ∃ i, i < (h_i h 227 k).toNatClampNeg ∧ x = sB h k i := by
  unfold bL at hx
  obtain ⟨i, hi, e⟩ := List.mem_map.mp hx
  exact ⟨i, List.mem_range.mp hi, e.symm⟩
theorem c_dsM (d : Nat) {h0 : Hp_} (I0 : Iv h0) (X : ExP h0) (x1 x2 : Int32) (b1 : 0 ≤ x1.toInt ∧ x1.toInt ≤ 11) (b2 : 0 ≤ x2.toInt ∧ x2.toInt ≤ 7) (S : ∀ i, i < (h_i h0 227 x1.toNatClampNeg).toNatClampNeg → stR (sB h0 x1.toNatClampNeg i)) (P : 0 ≤ (h_i h0 281 x2.toNatClampNeg).toInt ∧ (h_i h0 283 x2.toNatClampNeg).toInt ≤ 1440) : Ci (m_X12_doesSee (d + 1) 0 0) [.ref 1, .int x1, .int x2] h0 (fun r h' => Iv h' ∧ Fr [203999] h0 h' ∧ ((r = 1 ∧ wkS (wX h0) (h_i h0 281 x2.toNatClampNeg).toNatClampNeg (h_i h0 282 x2.toNatClampNeg).toInt (h_i h0 283 x2.toNatClampNeg).toInt (bL h0 x1.toNatClampNeg) 0 0 = true) ∨ (r = 0 ∧ wkS (wX h0) (h_i h0 281 x2.toNatClampNeg).toNatClampNeg (h_i h0 282 x2.toNatClampNeg).toInt (h_i h0 283 x2.toNatClampNeg).toInt (bL h0 x1.toNatClampNeg) 0 0 = false))) := by
  have t1 : (1 : Int32).toInt = 1 := rfl
  have t0 : (0 : Int32).toInt = 0 := rfl
  have t150 : (150 : Int32).toInt = 150 := rfl
  have t1440 : (1440 : Int32).toInt = 1440 := rfl
  have n1 := n_nat b1.1
  have n2 := n_nat b2.1
  have z := z227 I0 x1.toNatClampNeg
  have hw := wX_le I0 X
  have v1 : vp_in x1 12 := dp_in (lo := 0) (hi := 11) ⟨b1.1, b1.2⟩ (by decide) (by decide)
  have v2 : vp_in x2 8 := dp_in (lo := 0) (hi := 7) ⟨b2.1, b2.2⟩ (by decide) (by decide)
  have m1 : (150 * x1).toInt = 150 * x1.toInt := by rw [tx_mul (by rw [t150]; omega) (by rw [t150]; omega), t150]
  have pn := n_nat P.1
  generalize epl : (h_i h0 281 x2.toNatClampNeg).toNatClampNeg = pl at *
  have lp : ∀ (n i a : Nat) (x3 : Int32) (h : Hp_), i + n = (h_i h0 227 x1.toNatClampNeg).toNatClampNeg → a < 16 → 0 ≤ x3.toInt → x3.toInt ≤ 1440 + 900 * (i : Int) → Iv h → Fr [203999] h0 h → AW (m_X12_doesSee (d + 1) 0 0) 0 0 12 [(0, .ref 1), (1, .int x1), (2, .int x2), (3, .int x3), (4, .int (Int32.ofNat a)), (5, .int (150 * x1 + Int32.ofNat i))] [] h (kI (fun r h' => Iv h' ∧ Fr [203999] h0 h' ∧ ((r = 1 ∧ wkS (wX h0) pl (h_i h0 282 x2.toNatClampNeg).toInt (h_i h0 283 x2.toNatClampNeg).toInt ((bL h0 x1.toNatClampNeg).drop i) x3.toInt a = true) ∨ (r = 0 ∧ wkS (wX h0) pl (h_i h0 282 x2.toNatClampNeg).toInt (h_i h0 283 x2.toNatClampNeg).toInt ((bL h0 x1.toNatClampNeg).drop i) x3.toInt a = false)))) := by
    intro n
    induction n with
    | zero =>
      intro i a x3 h e ha l3 u3 I F
      have oi := on_j (n := i) (by omega)
      have e227 : h_i h 227 x1.toNatClampNeg = h_i h0 227 x1.toNatClampNeg := fr_i F (by decide +kernel) _
      have s1 : (150 * x1 + h_i h 227 x1.toNatClampNeg).toInt = 150 * x1.toInt + (h_i h0 227 x1.toNatClampNeg).toInt := by rw [e227, tx_add (by omega) (by omega), m1]
      have s2 : (150 * x1 + Int32.ofNat i).toInt = 150 * x1.toInt + (i : Int) := by rw [tx_add (by omega) (by omega), m1, oi]
      refine t_X12_doesSee_12 d h I.1 x1 x2 x3 _ _ _ ⟨v1, fun _ => ⟨I, F, Or.inr ⟨rfl, ?_⟩⟩, fun y => absurd (q_le.mpr (by omega)) y⟩
      rw [List.drop_eq_nil_of_le (by rw [bL_l]; omega)]
      rfl
    | succ n ih =>
      intro i a x3 h e ha l3 u3 I F
      have li : i < (h_i h0 227 x1.toNatClampNeg).toNatClampNeg := by omega
      have oi := on_j (n := i) (by omega)
      have oa := on_j (n := a) (by omega)
      have e227 : h_i h 227 x1.toNatClampNeg = h_i h0 227 x1.toNatClampNeg := fr_i F (by decide +kernel) _
      have s1 : (150 * x1 + h_i h 227 x1.toNatClampNeg).toInt = 150 * x1.toInt + (h_i h0 227 x1.toNatClampNeg).toInt := by rw [e227, tx_add (by omega) (by omega), m1]
      have s2 : (150 * x1 + Int32.ofNat i).toInt = 150 * x1.toInt + (i : Int) := by rw [tx_add (by omega) (by omega), m1, oi]
      have nm := n_nat (x := 150 * x1 + Int32.ofNat i) (by omega)
      have km : (150 * x1 + Int32.ofNat i).toNatClampNeg = 150 * x1.toNatClampNeg + i := by omega
      have v5 : vp_in (150 * x1 + Int32.ofNat i) 1800 := dp_in (lo := 0) (hi := 1799) ⟨by show (0 : Int) ≤ _; omega, by show _ ≤ (1799 : Int); omega⟩ (by decide) (by decide)
      have nx : 150 * x1 + Int32.ofNat i + 1 = 150 * x1 + Int32.ofNat (i + 1) := by rw [Int32.add_assoc, on_s (by omega)]
      have sr := S i li
      have a1 : h_i h 228 (150 * x1.toNatClampNeg + i) = (sB h0 x1.toNatClampNeg i).1 := fr_i F (by decide +kernel) _
      have a2 : ∀ h', Fr [203999] h0 h' → h_i h' 229 (150 * x1.toNatClampNeg + i) = (sB h0 x1.toNatClampNeg i).2.1 := fun h' F' => fr_i F' (by decide +kernel) _
      have a3 : ∀ h', Fr [203999] h0 h' → h_i h' 230 (150 * x1.toNatClampNeg + i) = (sB h0 x1.toNatClampNeg i).2.2 := fun h' F' => fr_i F' (by decide +kernel) _
      have a4 : h_i h 281 x2.toNatClampNeg = h_i h0 281 x2.toNatClampNeg := fr_i F (by decide +kernel) _
      have a5 : h_i h 282 x2.toNatClampNeg = h_i h0 282 x2.toNatClampNeg := fr_i F (by decide +kernel) _
      have a6 : h_i h 283 x2.toNatClampNeg = h_i h0 283 x2.toNatClampNeg := fr_i F (by decide +kernel) _
      have wh : wX h = wX h0 := wX_cg (fun k => fr_i F (by decide +kernel) k)
      have Xh : ExP h := X.fr F (by decide +kernel)
      rw [bL_d li]
      have T := t_X12_doesSee_12 d h I.1 x1 x2 x3 (Int32.ofNat a) (150 * x1 + Int32.ofNat i)
      rw [km, a1, a2 h F, a4, a5, a6, nx] at T
      generalize sB h0 x1.toNatClampNeg i = x at sr T a1 a2 a3
      have hs : ∀ y ∈ (bL h0 x1.toNatClampNeg).drop (i + 1), stR y := fun y hy => by
        obtain ⟨j, hj, ej⟩ := bL_m (List.mem_of_mem_drop hy)
        rw [ej]
        exact S j hj
      refine T _ ⟨v1, fun y => ?_, fun _ => ⟨fun y => ?_, fun y => ⟨v5, fun n1' => ⟨fun n3 => ⟨v5, ?_⟩, fun y3 => ⟨v2, fun np => ?_, fun yp => ⟨v2, v2, fun nw => ?_, fun yw => ?_⟩⟩⟩, fun y1 => ⟨v5, ?_⟩⟩⟩⟩
      · have y := q_le.mp y
        omega
      · have y := q_lt.mp y
        refine ⟨I, F, Or.inr ⟨rfl, ?_⟩⟩
        exact wkS_l (fun a b k e => (hw a b k e).1) _ _ _ (fun y hy => by
          rcases List.mem_cons.mp hy with u | u
          · rw [u]; exact sr
          · exact hs y u) (by omega)
      · have p0 : 0 ≤ x.2.1.toInt ∧ x.2.1.toInt ≤ 15 := by
          rcases sr with q | q | q | q
          · exact ⟨q.2.1, q.2.2.1⟩
          · exact absurd q.1 n1'
          · exact ⟨q.2.1, q.2.2.1⟩
          · exact absurd q.1 n3
        have np := n_nat p0.1
        have ep : x.2.1 = Int32.ofNat x.2.1.toNatClampNeg := (of_nat32 p0.1).symm
        have um : wkS (wX h0) pl (h_i h0 282 x2.toNatClampNeg).toInt (h_i h0 283 x2.toNatClampNeg).toInt (x :: (bL h0 x1.toNatClampNeg).drop (i + 1)) x3.toInt a = match wX h0 a x.2.1.toNatClampNeg with
            | none => wkS (wX h0) pl (h_i h0 282 x2.toNatClampNeg).toInt (h_i h0 283 x2.toNatClampNeg).toInt ((bL h0 x1.toNatClampNeg).drop (i + 1)) x3.toInt a
            | some k => wkS (wX h0) pl (h_i h0 282 x2.toNatClampNeg).toInt (h_i h0 283 x2.toNatClampNeg).toInt ((bL h0 x1.toNatClampNeg).drop (i + 1)) (if x.1 = 2 then (if x3.toInt + k < x.2.2.toInt then x.2.2.toInt else x3.toInt + k) else x3.toInt + k) x.2.1.toNatClampNeg := by
          show (if x.1 = 3 then _ else if x.1 = 1 then _ else _) = _
          rw [if_neg n3, if_neg n1']
          first | done | (cases wX h0 a x.2.1.toNatClampNeg <;> rfl)
        have ka : (Int32.ofNat a).toNatClampNeg = a := on_k (by omega)
        refine Ci.mono (c_woR d I Xh (Int32.ofNat a) x.2.1 (by omega) (by omega)) (fun r h8 q => ?_)
        obtain ⟨I8, F8, q⟩ := q
        rw [wh, ka] at q
        have G8 : Fr [203999] h0 h8 := F.tr F8
        refine ⟨I8.1, fun nr => ?_, fun er => ?_⟩
        · obtain ⟨k, q1, q2⟩ : ∃ k, wX h0 a x.2.1.toNatClampNeg = some k ∧ r.toInt = k := by
            rcases q with q | q
            · exact q
            · exact absurd q.2 nr
          have k9 := hw _ _ _ q1
          have sm : (x3 + r).toInt = x3.toInt + k := by rw [tx_add (by omega) (by omega), q2]
          rw [um, q1, a2 h8 G8, a3 h8 G8]
          refine ⟨v5, fun n2' => ?_, fun y2 => ⟨v5, ?_⟩⟩
          · have g := ih (i + 1) x.2.1.toNatClampNeg (x3 + r) h8 (by omega) (by omega) (by omega) (by omega) I8 G8
            rw [← ep, sm] at g
            show AW _ _ _ _ _ _ _ (kI (fun r h' => Iv h' ∧ Fr [203999] h0 h' ∧ ((r = 1 ∧ wkS (wX h0) pl (h_i h0 282 x2.toNatClampNeg).toInt (h_i h0 283 x2.toNatClampNeg).toInt ((bL h0 x1.toNatClampNeg).drop (i + 1)) (if x.1 = 2 then (if x3.toInt + k < x.2.2.toInt then x.2.2.toInt else x3.toInt + k) else x3.toInt + k) x.2.1.toNatClampNeg = true) ∨ (r = 0 ∧ wkS (wX h0) pl (h_i h0 282 x2.toNatClampNeg).toInt (h_i h0 283 x2.toNatClampNeg).toInt ((bL h0 x1.toNatClampNeg).drop (i + 1)) (if x.1 = 2 then (if x3.toInt + k < x.2.2.toInt then x.2.2.toInt else x3.toInt + k) else x3.toInt + k) x.2.1.toNatClampNeg = false))))
            rw [if_neg n2']
            exact g
          · have a9 : 0 ≤ x.2.2.toInt ∧ x.2.2.toInt ≤ 1440 := by
              rcases sr with q | q | q | q
              · exact absurd (q.1.symm.trans y2) (by decide)
              · exact absurd q.1 n1'
              · exact ⟨q.2.2.2.1, q.2.2.2.2⟩
              · exact absurd q.1 n3
            have gm : (if (x3 + r) < x.2.2 then x.2.2 else (x3 + r)).toInt = if x3.toInt + k < x.2.2.toInt then x.2.2.toInt else x3.toInt + k := by
              by_cases c : x3 + r < x.2.2
              · have c' := q_lt.mp c
                rw [if_pos c, if_pos (by omega)]
              · have c' := q_nlt c
                rw [if_neg c, if_neg (by omega), sm]
            have lo : 0 ≤ (if (x3 + r) < x.2.2 then x.2.2 else (x3 + r)).toInt ∧ (if (x3 + r) < x.2.2 then x.2.2 else (x3 + r)).toInt ≤ 1440 + 900 * ((i + 1 : Nat) : Int) := by
              rw [gm]
              split <;> omega
            have g := ih (i + 1) x.2.1.toNatClampNeg (if (x3 + r) < x.2.2 then x.2.2 else (x3 + r)) h8 (by omega) (by omega) lo.1 lo.2 I8 G8
            rw [← ep, gm] at g
            show AW _ _ _ _ _ _ _ (kI (fun r h' => Iv h' ∧ Fr [203999] h0 h' ∧ ((r = 1 ∧ wkS (wX h0) pl (h_i h0 282 x2.toNatClampNeg).toInt (h_i h0 283 x2.toNatClampNeg).toInt ((bL h0 x1.toNatClampNeg).drop (i + 1)) (if x.1 = 2 then (if x3.toInt + k < x.2.2.toInt then x.2.2.toInt else x3.toInt + k) else x3.toInt + k) x.2.1.toNatClampNeg = true) ∨ (r = 0 ∧ wkS (wX h0) pl (h_i h0 282 x2.toNatClampNeg).toInt (h_i h0 283 x2.toNatClampNeg).toInt ((bL h0 x1.toNatClampNeg).drop (i + 1)) (if x.1 = 2 then (if x3.toInt + k < x.2.2.toInt then x.2.2.toInt else x3.toInt + k) else x3.toInt + k) x.2.1.toNatClampNeg = false))))
            rw [if_pos y2]
            exact g
        · have wn : wX h0 a x.2.1.toNatClampNeg = none := by
            rcases q with ⟨k, q1, q2⟩ | q
            · have := (hw _ _ _ q1).1
              rw [er] at q2
              have o : (-1 : Int32).toInt = -1 := rfl
              omega
            · exact q.1
          rw [um, wn]
          exact ih (i + 1) a x3 h8 (by omega) ha l3 (by omega) I8 G8
      · have sm : (x3 + 1).toInt = x3.toInt + 1 := tx_add (by rw [t1]; omega) (by rw [t1]; omega)
        have g := ih (i + 1) a (x3 + 1) h (by omega) ha (by omega) (by omega) I F
        rw [sm] at g
        have um : wkS (wX h0) pl (h_i h0 282 x2.toNatClampNeg).toInt (h_i h0 283 x2.toNatClampNeg).toInt (x :: (bL h0 x1.toNatClampNeg).drop (i + 1)) x3.toInt a = if a = pl ∧ (h_i h0 282 x2.toNatClampNeg).toInt ≤ x3.toInt + 1 ∧ x3.toInt + 1 ≤ (h_i h0 283 x2.toNatClampNeg).toInt then true else wkS (wX h0) pl (h_i h0 282 x2.toNatClampNeg).toInt (h_i h0 283 x2.toNatClampNeg).toInt ((bL h0 x1.toNatClampNeg).drop (i + 1)) (x3.toInt + 1) a := by
          show (if x.1 = 3 then _ else if x.1 = 1 then _ else _) = _
          rw [if_pos y3]
        rw [um, if_neg (fun y => np (Int32.toInt_inj.mp (by have := y.1; omega)))]
        exact g
      · have sm : (x3 + 1).toInt = x3.toInt + 1 := tx_add (by rw [t1]; omega) (by rw [t1]; omega)
        have g := ih (i + 1) a (x3 + 1) h (by omega) ha (by omega) (by omega) I F
        rw [sm] at g
        have um : wkS (wX h0) pl (h_i h0 282 x2.toNatClampNeg).toInt (h_i h0 283 x2.toNatClampNeg).toInt (x :: (bL h0 x1.toNatClampNeg).drop (i + 1)) x3.toInt a = if a = pl ∧ (h_i h0 282 x2.toNatClampNeg).toInt ≤ x3.toInt + 1 ∧ x3.toInt + 1 ≤ (h_i h0 283 x2.toNatClampNeg).toInt then true else wkS (wX h0) pl (h_i h0 282 x2.toNatClampNeg).toInt (h_i h0 283 x2.toNatClampNeg).toInt ((bL h0 x1.toNatClampNeg).drop (i + 1)) (x3.toInt + 1) a := by
          show (if x.1 = 3 then _ else if x.1 = 1 then _ else _) = _
          rw [if_pos y3]
        rw [um, if_neg (fun y => nw ⟨q_le.mpr (by have := y.2.1; omega), q_le.mpr (by have := y.2.2; omega)⟩)]
        exact g
      · have sm : (x3 + 1).toInt = x3.toInt + 1 := tx_add (by rw [t1]; omega) (by rw [t1]; omega)
        have um : wkS (wX h0) pl (h_i h0 282 x2.toNatClampNeg).toInt (h_i h0 283 x2.toNatClampNeg).toInt (x :: (bL h0 x1.toNatClampNeg).drop (i + 1)) x3.toInt a = if a = pl ∧ (h_i h0 282 x2.toNatClampNeg).toInt ≤ x3.toInt + 1 ∧ x3.toInt + 1 ≤ (h_i h0 283 x2.toNatClampNeg).toInt then true else wkS (wX h0) pl (h_i h0 282 x2.toNatClampNeg).toInt (h_i h0 283 x2.toNatClampNeg).toInt ((bL h0 x1.toNatClampNeg).drop (i + 1)) (x3.toInt + 1) a := by
          show (if x.1 = 3 then _ else if x.1 = 1 then _ else _) = _
          rw [if_pos y3]
        have y0 := congrArg Int32.toInt yp
        have w1 := q_le.mp yw.1
        have w2 := q_le.mp yw.2
        refine ⟨I, F, Or.inl ⟨rfl, ?_⟩⟩
        rw [um, if_pos ⟨by omega, by omega, by omega⟩]
      · have a2' : 1 ≤ x.2.1.toInt ∧ x.2.1.toInt ≤ 240 := by
          rcases sr with q | q | q | q
          · exact absurd (q.1.symm.trans y1) (by decide)
          · exact ⟨q.2.1, q.2.2.1⟩
          · exact absurd (q.1.symm.trans y1) (by decide)
          · exact absurd (q.1.symm.trans y1) (by decide)
        have sm : (x3 + x.2.1).toInt = x3.toInt + x.2.1.toInt := tx_add (by omega) (by omega)
        have n3 : ¬ x.1 = 3 := by rw [y1]; decide
        have g := ih (i + 1) a (x3 + x.2.1) h (by omega) ha (by omega) (by omega) I F
        rw [sm] at g
        have um : wkS (wX h0) pl (h_i h0 282 x2.toNatClampNeg).toInt (h_i h0 283 x2.toNatClampNeg).toInt (x :: (bL h0 x1.toNatClampNeg).drop (i + 1)) x3.toInt a = wkS (wX h0) pl (h_i h0 282 x2.toNatClampNeg).toInt (h_i h0 283 x2.toNatClampNeg).toInt ((bL h0 x1.toNatClampNeg).drop (i + 1)) (x3.toInt + x.2.1.toInt) a := by
          show (if x.1 = 3 then _ else if x.1 = 1 then _ else _) = _
          rw [if_neg n3, if_pos y1]
        rw [um]
        exact g
  have g := lp (h_i h0 227 x1.toNatClampNeg).toNatClampNeg 0 0 0 h0 (by omega) (by omega) (by decide) (by decide) I0 (Fr.rf _ _)
  refine t_X12_doesSee d h0 x1 x2 _ ?_
  have e0 : 150 * x1 + Int32.ofNat 0 = 150 * x1 := Int32.toInt_inj.mp (by rw [tx_add (by rw [show (Int32.ofNat 0).toInt = 0 from rfl]; omega) (by rw [show (Int32.ofNat 0).toInt = 0 from rfl]; omega), show (Int32.ofNat 0).toInt = 0 from rfl]; omega)
  rw [e0] at g
  exact g
end
section
/-! from men_a -/
noncomputable def up1 (M : Nat → Int32) (k : Nat) (x : Int32) : Nat → Int32 := fun j => if j = k then x else M j
theorem up1_at {M : Nat → Int32} {k : Nat} {x : Int32} : up1 M k x k = x := if_pos rfl
theorem up1_ne {M : Nat → Int32} {k j : Nat} {x : Int32} (n : j ≠ k) : up1 M k x j = M j := if_neg n
theorem im_row (h : Hp_) (a k : Nat) (x : Int32) : h_i (h_im h a k x) a = up1 (h_i h a) k x := funext (fun j => by
  rw [h_i_im]
  unfold up1
  by_cases c : j = k
  · rw [if_pos ⟨rfl, c⟩, if_pos c]
  · rw [if_neg (fun z => c z.2), if_neg c])
theorem im_oth {h : Hp_} {a k b : Nat} {x : Int32} (n : b ≠ a) : h_i (h_im h a k x) b = h_i h b := funext (fun _ => im_ne n)
/-! SHARES: what both sides search through -/
noncomputable def upN (P : Nat → Nat) (k v : Nat) : Nat → Nat := fun i => if i = k then v else P i
theorem upN_at {P : Nat → Nat} {k v : Nat} : upN P k v k = v := if_pos rfl
theorem upN_ne {P : Nat → Nat} {k v i : Nat} (n : i ≠ k) : upN P k v i = P i := if_neg n
/-- how many twelfths see a watch -/
noncomputable def sAt (see : Nat → Nat → Bool) (P : Nat → Nat) (w : Nat) : Nat → Nat
  | 0 => 0
  | S + 1 => sAt see P w S + (if see S w = true then P S else 0)
noncomputable def mnW (f : Nat → Nat) : Nat → Nat
  | 0 => 12
  | W + 1 => if f W < mnW f W then f W else mnW f W
noncomputable def smW (f : Nat → Nat) : Nat → Nat
  | 0 => 0
  | W + 1 => smW f W + f W
/-- all that is dealt -/
noncomputable def tot (P : Nat → Nat) : Nat → Nat
  | 0 => 0
  | k + 1 => tot P k + P k
noncomputable abbrev Sbt : Type := Int × Int × (Nat → Nat)
noncomputable def jdg (W S : Nat) (see : Nat → Nat → Bool) (P : Nat → Nat) (b : Sbt) : Sbt := if b.1 < (mnW (fun w => sAt see P w S) W : Int) ∨ ((mnW (fun w => sAt see P w S) W : Int) = b.1 ∧ b.2.1 < (smW (fun w => sAt see P w S) W : Int)) then ((mnW (fun w => sAt see P w S) W : Int), (smW (fun w => sAt see P w S) W : Int), P) else b
noncomputable def dwn (f : Nat → Sbt → Sbt) : Nat → Sbt → Sbt
  | 0, s => f 0 s
  | n + 1, s => dwn f n (f (n + 1) s)
noncomputable def dlS (J : (Nat → Nat) → Sbt → Sbt) : Nat → Nat → Nat → (Nat → Nat) → Sbt → Sbt
  | 0, k, left, P, b => J (upN P k left) b
  | r + 1, k, left, P, b => dwn (fun n s => dlS J r (k + 1) (left - n) (upN P k n) s) left b
theorem sAt_c {see : Nat → Nat → Bool} {P Q : Nat → Nat} {w : Nat} : ∀ S, (∀ k, k < S → P k = Q k) → sAt see P w S = sAt see Q w S
  | 0, _ => rfl
  | S + 1, e => by
    show sAt see P w S + (if see S w = true then P S else 0) = sAt see Q w S + (if see S w = true then Q S else 0)
    rw [sAt_c S (fun k hk => e k (by omega)), e S (by omega)]
theorem tot_c {P Q : Nat → Nat} : ∀ S, (∀ k, k < S → P k = Q k) → tot P S = tot Q S
  | 0, _ => rfl
  | S + 1, e => by
    show tot P S + P S = tot Q S + Q S
    rw [tot_c S (fun k hk => e k (by omega)), e S (by omega)]
theorem sAt_t {see : Nat → Nat → Bool} {P : Nat → Nat} {w : Nat} : ∀ S, sAt see P w S ≤ tot P S
  | 0 => Nat.le_refl _
  | S + 1 => by
    have a := sAt_t (see := see) (P := P) (w := w) S
    show sAt see P w S + (if see S w = true then P S else 0) ≤ tot P S + P S
    split <;> omega
theorem sAt_u {see : Nat → Nat → Bool} {P : Nat → Nat} {w k v : Nat} : sAt see (upN P k v) w (k + 1) = sAt see P w k + (if see k w = true then v else 0) := by
  show sAt see (upN P k v) w k + (if see k w = true then upN P k v k else 0) = _
  rw [sAt_c k (fun i hi => upN_ne (by omega)), upN_at]
theorem tot_u {P : Nat → Nat} {k v : Nat} : tot (upN P k v) (k + 1) = tot P k + v := by
  show tot (upN P k v) k + upN P k v k = _
  rw [tot_c k (fun i hi => upN_ne (by omega)), upN_at]
theorem mnW_le (f : Nat → Nat) : ∀ W, mnW f W ≤ 12
  | 0 => Nat.le_refl _
  | W + 1 => by
    have a := mnW_le f W
    show (if f W < mnW f W then f W else mnW f W) ≤ 12
    split <;> omega
theorem smW_le {f : Nat → Nat} : ∀ W, (∀ w, w < W → f w ≤ 12) → smW f W ≤ 12 * W
  | 0, _ => Nat.le_refl _
  | W + 1, e => by
    have a := smW_le W (fun w hw => e w (by omega))
    have b := e W (by omega)
    show smW f W + f W ≤ 12 * (W + 1)
    omega
/-! sums packed, four bits a watch -/
noncomputable def nib (f : Nat → Nat) : Nat → Nat
  | 0 => 0
  | W + 1 => nib f W + f W * 16 ^ W
theorem nib_c {f g : Nat → Nat} : ∀ W, (∀ w, w < W → f w = g w) → nib f W = nib g W
  | 0, _ => rfl
  | W + 1, e => by
    show nib f W + f W * 16 ^ W = nib g W + g W * 16 ^ W
    rw [nib_c W (fun k hk => e k (by omega)), e W (by omega)]
theorem nib_lt {f : Nat → Nat} : ∀ W, (∀ w, w < W → f w < 16) → nib f W < 16 ^ W
  | 0, _ => Nat.one_pos
  | W + 1, e => by
    have a := nib_lt W (fun w hw => e w (by omega))
    have b := e W (by omega)
    show nib f W + f W * 16 ^ W < 16 ^ (W + 1)
    rw [Nat.pow_succ]
    have c : f W * 16 ^ W ≤ 15 * 16 ^ W := Nat.mul_le_mul_right _ (by omega)
    omega
theorem nib_am {f g : Nat → Nat} {m : Nat} : ∀ W, nib f W + m * nib g W = nib (fun w => f w + m * g w) W
  | 0 => rfl
  | W + 1 => by
    show nib f W + f W * 16 ^ W + m * (nib g W + g W * 16 ^ W) = nib (fun w => f w + m * g w) W + (f W + m * g W) * 16 ^ W
    rw [← nib_am W, Nat.mul_add, Nat.add_mul, Nat.mul_assoc]
    omega
theorem nib_get {f : Nat → Nat} : ∀ W w, (∀ w, w < W → f w < 16) → w < W → nib f W / 16 ^ w % 16 = f w
  | 0, w, _, h => absurd h (by omega)
  | W + 1, w, e, h => by
    show (nib f W + f W * 16 ^ W) / 16 ^ w % 16 = f w
    have lt := nib_lt W (fun w hw => e w (by omega))
    have p : 0 < 16 ^ w := Nat.pow_pos (by decide)
    by_cases c : w = W
    · subst c
      rw [Nat.add_mul_div_right _ _ p, Nat.div_eq_of_lt lt, Nat.zero_add, Nat.mod_eq_of_lt (e _ (by omega))]
    · have ih := nib_get W w (fun w hw => e w (by omega)) (by omega)
      have q : f W * 16 ^ W = (f W * 16 ^ (W - w - 1) * 16) * 16 ^ w := by
        rw [Nat.mul_assoc, Nat.mul_assoc, ← Nat.pow_succ', ← Nat.pow_add, show W - w - 1 + w.succ = W by omega]
      rw [q, Nat.add_mul_div_right _ _ p, Nat.add_mul_mod_self_right, ih]
/-- the four bits at w of a packed sum -/
noncomputable def nbl (x : Int64) (w : Int32) : Int32 := ((x >>> ((4 * w : Int32).toInt64 &&& 63)).toInt32) &&& 15
theorem sh4 {j : Nat} (hj : j < 8) : ((((4 * Int32.ofNat j).toInt64 &&& 63)).toBitVec.smod 64).toNat = 4 * j := (by decide +kernel : ∀ j, j < 8 → ((((4 * Int32.ofNat j).toInt64 &&& 63)).toBitVec.smod 64).toNat = 4 * j) j hj
theorem b15n {i : Nat} (hi : i < 32) : (15 : Int32).toBitVec.getLsbD i = decide (i < 4) := (by decide +kernel : ∀ i, i < 32 → (15 : Int32).toBitVec.getLsbD i = decide (i < 4)) i hi
theorem nbl_b {x : Int64} {j i : Nat} (hj : j < 8) (hi : i < 32) : (nbl x (Int32.ofNat j)).toBitVec.getLsbD i = (decide (i < 4) && x.toBitVec.getLsbD (4 * j + i)) := by
  unfold nbl
  rw [Int32.toBitVec_and, BitVec.getLsbD_and, b15n hi, Int64.toBitVec_toInt32, BitVec.getLsbD_signExtend, Int64.toBitVec_shiftRight, BitVec.sshiftRight_eq', BitVec.getLsbD_sshiftRight, sh4 hj]
  by_cases c : i < 4
  · rw [if_pos (show i < 64 by omega), if_pos (show 4 * j + i < 64 by omega), decide_eq_true c, decide_eq_true hi, decide_eq_false (show ¬ 64 ≤ i by omega)]
    simp
  · rw [decide_eq_false c]
    simp
theorem b16 {c i : Nat} (hc : c < 16) (hi : i < 32) : (Int32.ofNat c).toBitVec.getLsbD i = (decide (i < 4) && c.testBit i) := (by decide +kernel : ∀ c, c < 16 → ∀ i, i < 32 → (Int32.ofNat c).toBitVec.getLsbD i = (decide (i < 4) && c.testBit i)) c hc i hi
theorem nbl_n {n j : Nat} (hj : j < 8) : nbl (Int64.ofNat n) (Int32.ofNat j) = Int32.ofNat (n / 16 ^ j % 16) := by
  apply Int32.toBitVec_inj.mp
  apply BitVec.eq_of_getLsbD_eq
  intro i hi
  rw [nbl_b hj hi, b16 (Nat.mod_lt _ (by decide)) hi]
  by_cases c : i < 4
  · have e : (Int64.ofNat n).toBitVec.getLsbD (4 * j + i) = n.testBit (4 * j + i) := by
      show (BitVec.ofNat 64 n).getLsbD (4 * j + i) = _
      rw [BitVec.getLsbD_ofNat, decide_eq_true (show 4 * j + i < 64 by omega), Bool.true_and]
    have f : (n / 16 ^ j % 16).testBit i = n.testBit (4 * j + i) := by
      rw [show (16 : Nat) = 2 ^ 4 by decide, ← Nat.pow_mul, Nat.testBit_mod_two_pow, Nat.testBit_div_two_pow, decide_eq_true c, Bool.true_and, Nat.add_comm]
    rw [e, f]
  · rw [decide_eq_false c]
    simp
theorem i64_m {m : Nat} (h : m < 13) : (Int32.ofNat m).toInt64 = Int64.ofNat m := (by decide +kernel : ∀ m, m < 13 → (Int32.ofNat m).toInt64 = Int64.ofNat m) m h
theorem i64_am {a b m : Nat} (h : m < 13) : Int64.ofNat a + (Int32.ofNat m).toInt64 * Int64.ofNat b = Int64.ofNat (a + m * b) := by
  rw [i64_m h, ← Int64.ofNat_mul, ← Int64.ofNat_add]
theorem on_mi {n : Nat} (h : n < 1000000) : Int32.ofNat (n + 1) + (-1) = Int32.ofNat n := by
  apply Int32.toInt_inj.mp
  have t : (-1 : Int32).toInt = -1 := rfl
  rw [tx_add (by rw [on_j (by omega), t]; omega) (by rw [on_j (by omega), t]; omega), on_j (by omega), on_j (by omega), t]
  omega
/-! the class: judge and deal -/
noncomputable def SbX (S : Nat) (b : Sbt) (h : Hp_) : Prop := (h_i h 20 8).toInt = b.1 ∧ (h_i h 20 9).toInt = b.2.1 ∧ (0 ≤ b.1 → ∀ k, k < S → h_i h 97 k = Int32.ofNat (b.2.2 k))
noncomputable def wJg : List Nat := [20008, 20009, 97999]
noncomputable def wDl : List Nat := [20008, 20009, 96999, 97999]
theorem jg_im {h : Hp_} (I : Iv h) (k : Nat) (x : Int32) (hk : k = 8 ∨ k = 9) : Iv (h_im h 20 k x) := by
  rcases hk with e | e <;> subst e
  · exact I.im (by rw [show tf 20 8 = rtop by decide +kernel]; exact rtop_in _) (jw_jr (by decide) (by decide) _)
  · exact I.im (by rw [show tf 20 9 = rtop by decide +kernel]; exact rtop_in _) (jw_jr (by decide) (by decide) _)
theorem c_jg (d : Nat) {h : Hp_} (I : Iv h) {W S : Nat} {see : Nat → Nat → Bool} {P : Nat → Nat} {b : Sbt} (eW : h_i h 20 3 = Int32.ofNat W) (lW : W ≤ 8) (hS : S ≤ 5) (le : tot P S ≤ 12) (eT : ∀ k, k < S → h_i h 96 k = Int32.ofNat (P k)) (B : SbX S b h) (x1 : Int64) (ex : x1 = Int64.ofNat (nib (fun w => sAt see P w S) W)) : Cv (m_X6_judge (d + 1) 0 0) [.ref 20, .long x1] h (fun h' => Iv h' ∧ Fr wJg h h' ∧ SbX S (jdg W S see P b) h') := by
  have le12 : ∀ w, sAt see P w S ≤ 12 := fun w => Nat.le_trans (sAt_t S) le
  have fin1 : (b.1 < (mnW (fun w => sAt see P w S) W : Int) ∨ ((mnW (fun w => sAt see P w S) W : Int) = b.1 ∧ b.2.1 < (smW (fun w => sAt see P w S) W : Int))) → ∀ f : Nat → Int32, (∀ k, k < 5 → f k = h_i h 96 k) → Iv (h_iw (h_im (h_im h 20 8 (Int32.ofNat (mnW (fun w => sAt see P w S) W))) 20 9 (Int32.ofNat (smW (fun w => sAt see P w S) W))) 97 f) ∧ Fr wJg h (h_iw (h_im (h_im h 20 8 (Int32.ofNat (mnW (fun w => sAt see P w S) W))) 20 9 (Int32.ofNat (smW (fun w => sAt see P w S) W))) 97 f) ∧ SbX S (jdg W S see P b) (h_iw (h_im (h_im h 20 8 (Int32.ofNat (mnW (fun w => sAt see P w S) W))) 20 9 (Int32.ofNat (smW (fun w => sAt see P w S) W))) 97 f) := fun c f ef => by
    have m12 := mnW_le (fun w => sAt see P w S) W
    have s12 := smW_le (f := fun w => sAt see P w S) W (fun w _ => le12 w)
    refine ⟨(jg_im (jg_im I 8 _ (Or.inl rfl)) 9 _ (Or.inr rfl)).iw (fun k => by rw [tfa_tf (show tfa 97 = some rtop by decide +kernel)]; exact rtop_in _) (by decide) (by decide), (((Fr.rf _ _).im (by decide +kernel)).im (by decide +kernel)).iw (by decide +kernel), ?_⟩
    unfold jdg SbX
    rw [if_pos c, h_i_iw, h_i_iw, if_neg (show ¬ (20 : Nat) = 97 by decide), if_pos rfl, h_i_im, if_neg (by decide), im_at, im_at, on_j (by omega), on_j (by omega)]
    exact ⟨rfl, rfl, fun _ k hk => by rw [ef k (by omega), eT k hk]⟩
  have fin2 : ¬ (b.1 < (mnW (fun w => sAt see P w S) W : Int) ∨ ((mnW (fun w => sAt see P w S) W : Int) = b.1 ∧ b.2.1 < (smW (fun w => sAt see P w S) W : Int))) → Iv h ∧ Fr wJg h h ∧ SbX S (jdg W S see P b) h := fun c => ⟨I, Fr.rf _ _, by unfold jdg; rw [if_neg c]; exact B⟩
  have cp : ∀ (h3 : Hp_) (g : Nat → Int32), h_i h3 96 = h_i h 96 → ∀ k, k < 5 → va_cpy (h_i h3 96) g (0 : Int32).toNatClampNeg (0 : Int32).toNatClampNeg (5 : Int32).toNatClampNeg k = h_i h 96 k := fun h3 g e k hk => by
    rw [e, show (0 : Int32).toNatClampNeg = 0 from rfl, show (5 : Int32).toNatClampNeg = 5 from rfl]
    exact (pk_cpy_in (Nat.zero_le _) (by omega)).trans (by rw [Nat.zero_add, Nat.sub_zero])
  have lp : ∀ (t i : Nat), i + t = W → AW (m_X6_judge (d + 1) 0 0) 0 0 9 [(0, .ref 20), (1, .long x1), (3, .int (Int32.ofNat (mnW (fun w => sAt see P w S) i))), (4, .int (Int32.ofNat (smW (fun w => sAt see P w S) i))), (5, .int (Int32.ofNat i))] [] h (kV (fun h' => Iv h' ∧ Fr wJg h h' ∧ SbX S (jdg W S see P b) h')) := by
    intro t
    induction t with
    | zero =>
      intro i e
      have ei : i = W := by omega
      subst ei
      have m12 := mnW_le (fun w => sAt see P w S) i
      have s12 := smW_le (f := fun w => sAt see P w S) i (fun w _ => le12 w)
      have om := on_j (n := mnW (fun w => sAt see P w S) i) (by omega)
      have os := on_j (n := smW (fun w => sAt see P w S) i) (by omega)
      have cy : (¬ (0 : Int32) < 0 ∧ ¬ (0 : Int32) < 0 ∧ ¬ (5 : Int32) < 0 ∧ (0 : Int32).toNatClampNeg + (5 : Int32).toNatClampNeg ≤ 5 ∧ (0 : Int32).toNatClampNeg + (5 : Int32).toNatClampNeg ≤ 5) := by decide
      refine t_X6_judge_9 d h I.1 _ _ _ _ _ ⟨fun _ => ⟨fun c => ⟨cy, fin1 (Or.inl ?_) _ (cp _ _ ?_)⟩, fun n1 => ⟨fun n2 => fin2 ?_, fun e2 => ⟨fun n3 => fin2 ?_, fun c => ⟨cy, fin1 (Or.inr ?_) _ (cp _ _ ?_)⟩⟩⟩⟩, fun z => ?_⟩
      · have c := q_lt.mp c
        rw [om, B.1] at c
        exact c
      · rw [im_oth (by decide), im_oth (by decide)]
      · have n1 := q_nlt n1
        rw [om, B.1] at n1
        rintro (y | y)
        · omega
        · exact n2 (Int32.toInt_inj.mp (by rw [om, B.1]; exact y.1))
      · have e2 := congrArg Int32.toInt e2
        rw [om, B.1] at e2
        have n3 := q_le.mp n3
        rw [os, B.2.1] at n3
        rintro (y | y)
        · omega
        · have := y.2
          omega
      · have e2 := congrArg Int32.toInt e2
        rw [om, B.1] at e2
        have c := q_nle c
        rw [os, B.2.1] at c
        exact ⟨e2, c⟩
      · rw [im_oth (by decide), im_oth (by decide)]
      · have z := q_nle z
        rw [eW, on_j (by omega)] at z
        omega
    | succ t ih =>
      intro i e
      have m12 := mnW_le (fun w => sAt see P w S) i
      have s12 := smW_le (f := fun w => sAt see P w S) i (fun w _ => le12 w)
      have li := le12 i
      have nb : (((x1 >>> (((4 * Int32.ofNat i) : Int32).toInt64 &&& 63)) : Int64).toInt32) &&& 15 = Int32.ofNat (sAt see P i S) := by
        have z := nbl_n (n := nib (fun w => sAt see P w S) W) (j := i) (by omega)
        rw [nib_get W i (fun w _ => by have := le12 w; show sAt see P w S < 16; omega) (by omega)] at z
        rw [ex]
        exact z
      have y := ih (i + 1) (by omega)
      rw [show mnW (fun w => sAt see P w S) (i + 1) = (if sAt see P i S < mnW (fun w => sAt see P w S) i then sAt see P i S else mnW (fun w => sAt see P w S) i) from rfl, show smW (fun w => sAt see P w S) (i + 1) = smW (fun w => sAt see P w S) i + sAt see P i S from rfl, ← on_s (n := i) (by omega), Int32.ofNat_add] at y
      have em : Int32.ofNat (if sAt see P i S < mnW (fun w => sAt see P w S) i then sAt see P i S else mnW (fun w => sAt see P w S) i) = (if Int32.ofNat (sAt see P i S) < Int32.ofNat (mnW (fun w => sAt see P w S) i) then Int32.ofNat (sAt see P i S) else Int32.ofNat (mnW (fun w => sAt see P w S) i)) := by
        have q : Int32.ofNat (sAt see P i S) < Int32.ofNat (mnW (fun w => sAt see P w S) i) ↔ sAt see P i S < mnW (fun w => sAt see P w S) i := by
          rw [q_lt, on_j (by omega), on_j (by omega)]
          omega
        by_cases c : sAt see P i S < mnW (fun w => sAt see P w S) i
        · rw [if_pos c, if_pos (q.mpr c)]
        · rw [if_neg c, if_neg (fun z => c (q.mp z))]
      rw [em] at y
      refine t_X6_judge_9 d h I.1 _ _ _ _ _ ⟨fun z => ?_, fun _ => ?_⟩
      · have z := q_le.mp z
        rw [eW, on_j (by omega), on_j (by omega)] at z
        omega
      · rw [nb]
        exact y
  exact t_X6_judge d h x1 _ (lp W 0 (by omega))
/-- what deal wants of the heap -/
noncomputable def DlX (W S : Nat) (see : Nat → Nat → Bool) (h : Hp_) : Prop := h_i h 20 3 = Int32.ofNat W ∧ h_i h 20 7 = Int32.ofNat S ∧ ∀ k, k < S → h_l h 95 k = Int64.ofNat (nib (fun w => if see k w = true then 1 else 0) W)
theorem DlX.fr {W S : Nat} {see : Nat → Nat → Bool} {h h' : Hp_} (D : DlX W S see h) (f : Fr wDl h h') : DlX W S see h' := ⟨by rw [(f.2 20 3 (by decide +kernel)).1]; exact D.1, by rw [(f.2 20 7 (by decide +kernel)).1]; exact D.2.1, fun k hk => by rw [(f.2 95 k (off_inw (by decide +kernel) k)).2.1]; exact D.2.2 k hk⟩
theorem SbX.im {S : Nat} {b : Sbt} {h : Hp_} {k : Nat} {x : Int32} (B : SbX S b h) : SbX S b (h_im h 96 k x) := ⟨by rw [im_ne (by decide)]; exact B.1, by rw [im_ne (by decide)]; exact B.2.1, fun z j hj => by rw [im_ne (by decide)]; exact B.2.2 z j hj⟩
theorem nib_d {see : Nat → Nat → Bool} {P : Nat → Nat} {k v W : Nat} (hv : v < 13) : Int64.ofNat (nib (fun w => sAt see P w k) W) + (Int32.ofNat v).toInt64 * Int64.ofNat (nib (fun w => if see k w = true then 1 else 0) W) = Int64.ofNat (nib (fun w => sAt see (upN P k v) w (k + 1)) W) := by
  rw [i64_am hv, nib_am]
  refine congrArg Int64.ofNat (nib_c W (fun w _ => ?_))
  rw [sAt_u]
  split
  · rw [Nat.mul_one]
  · rw [Nat.mul_zero]
theorem c_dl {W S : Nat} {see : Nat → Nat → Bool} (lW : W ≤ 8) (hS : S ≤ 5) : ∀ (r d : Nat) {h : Hp_} {k left : Nat} {P : Nat → Nat} {b : Sbt}, Iv h → DlX W S see h → k + r + 1 = S → tot P k + left = 12 → (∀ i, i < k → h_i h 96 i = Int32.ofNat (P i)) → SbX S b h → Cv (m_X6_deal (d + r + 3) 0 0) [.ref 20, .int (Int32.ofNat k), .int (Int32.ofNat left), .long (Int64.ofNat (nib (fun w => sAt see P w k) W))] h (fun h' => Iv h' ∧ Fr wDl h h' ∧ (∀ i, i < k → h_i h' 96 i = Int32.ofNat (P i)) ∧ SbX S (dlS (jdg W S see) r k left P b) h') := by
  intro r
  induction r with
  | zero =>
    intro d h k left P b I D ek et eT B
    have s1 : Int32.ofNat S - 1 = Int32.ofNat k := by
      rw [← ek]
      exact on_p (by omega)
    have lS : ¬ Int32.ofNat S ≤ Int32.ofNat k := fun z => by
      have z := q_le.mp z
      rw [on_j (by omega), on_j (by omega)] at z
      omega
    have l5 : Int32.ofNat k < 5 := q_lt.mpr (by rw [on_j (by omega)]; show (k : Int) < 5; omega)
    have v := on_in (n := k) (N := 5) (by omega) (by decide)
    refine t_X6_deal (d + 0) h I.1 _ _ _ _ ⟨fun z => ?_, fun _ => ⟨fun _ => ⟨fun z => ?_, fun _ => ⟨v, v, ?_⟩⟩, fun z => absurd l5 z⟩⟩
    · rw [D.2.1] at z
      exact absurd z lS
    · rw [D.2.1, s1] at z
      exact absurd rfl z
    · rw [on_k (n := k) (by omega), D.2.2 k (by omega), nib_d (by omega)]
      have I1 : Iv (h_im h 96 k (Int32.ofNat left)) := tr_ 96 (by decide +kernel) I _ _ (by decide) (by decide)
      have F1 : Fr wDl h (h_im h 96 k (Int32.ofNat left)) := (Fr.rf _ _).im (inw_row (by decide +kernel) _)
      refine Cv.mono (c_jg (d + 0) I1 (W := W) (S := S) (see := see) (P := upN P k left) (b := b) (by rw [im_ne (by decide)]; exact D.1) lW hS (by rw [← ek, tot_u]; omega) (fun i hi => ?_) B.im _ (by rw [← ek])) (fun h' q => ⟨q.1.1, q.1, F1.tr (q.2.1.more (by decide +kernel)), fun i hi => ?_, q.2.2⟩)
      · rw [im_row]
        by_cases c : i = k
        · subst c
          rw [up1_at, upN_at]
        · rw [up1_ne c, upN_ne c]
          exact eT i (by omega)
      · rw [fr_i q.2.1 (by decide +kernel) i, im_row, up1_ne (by omega)]
        exact eT i hi
  | succ r ih =>
    intro d h k left P b I D ek et eT B
    have lS : ¬ Int32.ofNat S ≤ Int32.ofNat k := fun z => by
      have z := q_le.mp z
      rw [on_j (by omega), on_j (by omega)] at z
      omega
    have nS : ¬ Int32.ofNat k = Int32.ofNat S - 1 := fun z => by
      rw [← ek, show k + (r + 1) + 1 = (k + r + 1) + 1 by omega, on_p (by omega)] at z
      have := congrArg Int32.toInt z
      rw [on_j (by omega), on_j (by omega)] at this
      omega
    have l5 : Int32.ofNat k < 5 := q_lt.mpr (by rw [on_j (by omega)]; show (k : Int) < 5; omega)
    have v := on_in (n := k) (N := 5) (by omega) (by decide)
    have lp : ∀ (n : Nat) {h1 : Hp_} {b1 : Sbt}, n ≤ left → Iv h1 → Fr wDl h h1 → (∀ i, i < k → h_i h1 96 i = Int32.ofNat (P i)) → SbX S b1 h1 → AW (m_X6_deal (d + (r + 1) + 3) 0 0) 0 0 50 [(0, .ref 20), (1, .int (Int32.ofNat k)), (2, .int (Int32.ofNat left)), (3, .long (Int64.ofNat (nib (fun w => sAt see P w k) W))), (5, .int (Int32.ofNat n))] [] h1 (kV (fun h' => Iv h' ∧ Fr wDl h h' ∧ (∀ i, i < k → h_i h' 96 i = Int32.ofNat (P i)) ∧ SbX S (dwn (fun n s => dlS (jdg W S see) r (k + 1) (left - n) (upN P k n) s) n b1) h')) := by
      intro n
      induction n with
      | zero =>
        intro h1 b1 ln I1 F1 e1 B1
        have D1 := D.fr F1
        have J1 : Iv (h_im h1 96 k (Int32.ofNat 0)) := tr_ 96 (by decide +kernel) I1 _ _ (by decide) (by decide)
        have G1 : Fr wDl h (h_im h1 96 k (Int32.ofNat 0)) := F1.im (inw_row (by decide +kernel) _)
        have y := ih d (h := h_im h1 96 k (Int32.ofNat 0)) (k := k + 1) (left := left - 0) (P := upN P k 0) (b := b1) J1 (D.fr G1) (by omega) (by rw [tot_u]; omega) (fun i hi => by
          rw [im_row]
          by_cases c : i = k
          · subst c
            rw [up1_at, upN_at]
          · rw [up1_ne c, upN_ne c]
            exact e1 i (by omega)) B1.im
        refine t_X6_deal_50 (d + (r + 1)) h1 I1.1 _ _ _ _ _ ⟨fun z => absurd z (by decide), fun _ => ⟨v, v, ?_⟩⟩
        rw [on_k (n := k) (by omega), D1.2.2 k (by omega), nib_d (by omega), on_s (n := k) (by omega), show Int32.ofNat left - Int32.ofNat 0 = Int32.ofNat (left - 0) by rw [Nat.sub_zero]; exact Int32.sub_zero _]
        refine Cv.mono y (fun h2 q => ⟨q.1.1, ?_⟩)
        exact t_X6_deal_50 (d + (r + 1)) h2 q.1.1 _ _ _ _ _ ⟨fun _ => ⟨q.1, G1.tr q.2.1, fun i hi => (q.2.2.1 i (by omega)).trans (by rw [upN_ne (by omega)]), q.2.2.2⟩, fun z => absurd (show Int32.ofNat 0 + (-1) < 0 by decide) z⟩
      | succ n ihn =>
        intro h1 b1 ln I1 F1 e1 B1
        have D1 := D.fr F1
        have J1 : Iv (h_im h1 96 k (Int32.ofNat (n + 1))) := tr_ 96 (by decide +kernel) I1 _ _ (by decide) (by decide)
        have G1 : Fr wDl h (h_im h1 96 k (Int32.ofNat (n + 1))) := F1.im (inw_row (by decide +kernel) _)
        have y := ih d (h := h_im h1 96 k (Int32.ofNat (n + 1))) (k := k + 1) (left := left - (n + 1)) (P := upN P k (n + 1)) (b := b1) J1 (D.fr G1) (by omega) (by rw [tot_u]; omega) (fun i hi => by
          rw [im_row]
          by_cases c : i = k
          · subst c
            rw [up1_at, upN_at]
          · rw [up1_ne c, upN_ne c]
            exact e1 i (by omega)) B1.im
        have sb : Int32.ofNat left - Int32.ofNat (n + 1) = Int32.ofNat (left - (n + 1)) := by
          apply Int32.toInt_inj.mp
          rw [tx_sub (by rw [on_j (by omega), on_j (by omega)]; omega) (by rw [on_j (by omega), on_j (by omega)]; omega), on_j (by omega), on_j (by omega), on_j (by omega)]
          omega
        have dn : Int32.ofNat (n + 1) + (-1) = Int32.ofNat n := on_mi (n := n) (by omega)
        refine t_X6_deal_50 (d + (r + 1)) h1 I1.1 _ _ _ _ _ ⟨fun z => ?_, fun _ => ⟨v, v, ?_⟩⟩
        · have z := q_lt.mp z
          rw [on_j (by omega), show (0 : Int32).toInt = 0 from rfl] at z
          omega
        · rw [on_k (n := k) (by omega), D1.2.2 k (by omega), nib_d (by omega), on_s (n := k) (by omega), sb]
          refine Cv.mono y (fun h2 q => ⟨q.1.1, ?_⟩)
          rw [dn]
          exact ihn (by omega) q.1 (G1.tr q.2.1) (fun i hi => (q.2.2.1 i (by omega)).trans (by rw [upN_ne (by omega)])) q.2.2.2
    refine t_X6_deal (d + (r + 1)) h I.1 _ _ _ _ ⟨fun z => ?_, fun _ => ⟨fun _ => ⟨fun _ => lp left (Nat.le_refl _) I (Fr.rf _ _) eT B, fun z => ?_⟩, fun z => absurd l5 z⟩⟩
    · rw [D.2.1] at z
      exact absurd z lS
    · rw [D.2.1] at z
      exact absurd z nS
/-! what is found is worth something -/
theorem jdg_nn (W S : Nat) (see : Nat → Nat → Bool) (P : Nat → Nat) (b : Sbt) : 0 ≤ (jdg W S see P b).1 := by
  unfold jdg
  split
  · show (0 : Int) ≤ (mnW (fun w => sAt see P w S) W : Int)
    omega
  · rename_i n
    have : ¬ b.1 < (mnW (fun w => sAt see P w S) W : Int) := fun z => n (Or.inl z)
    omega
theorem dwn_nn {f : Nat → Sbt → Sbt} (hf : ∀ n s, 0 ≤ (f n s).1) : ∀ n s, 0 ≤ (dwn f n s).1
  | 0, s => hf 0 s
  | n + 1, s => dwn_nn hf n _
theorem dlS_nn {J : (Nat → Nat) → Sbt → Sbt} (hJ : ∀ P b, 0 ≤ (J P b).1) : ∀ r k left P b, 0 ≤ (dlS J r k left P b).1
  | 0, _, _, _, _ => hJ _ _
  | r + 1, k, left, P, b => dwn_nn (fun n s => dlS_nn hJ r (k + 1) (left - n) (upN P k n) s) left b
theorem sAt_se {see see' : Nat → Nat → Bool} {P : Nat → Nat} {w : Nat} : ∀ S, (∀ k, k < S → see k w = see' k w) → sAt see P w S = sAt see' P w S
  | 0, _ => rfl
  | S + 1, e => by
    show sAt see P w S + (if see S w = true then P S else 0) = sAt see' P w S + (if see' S w = true then P S else 0)
    rw [sAt_se S (fun k hk => e k (by omega)), e S (by omega)]
theorem mnW_c {f g : Nat → Nat} : ∀ W, (∀ w, w < W → f w = g w) → mnW f W = mnW g W
  | 0, _ => rfl
  | W + 1, e => by
    show (if f W < mnW f W then f W else mnW f W) = (if g W < mnW g W then g W else mnW g W)
    rw [mnW_c W (fun k hk => e k (by omega)), e W (by omega)]
theorem smW_c {f g : Nat → Nat} : ∀ W, (∀ w, w < W → f w = g w) → smW f W = smW g W
  | 0, _ => rfl
  | W + 1, e => by
    show smW f W + f W = smW g W + g W
    rw [smW_c W (fun k hk => e k (by omega)), e W (by omega)]
theorem jdg_c {W S : Nat} {see see' : Nat → Nat → Bool} (e : ∀ k, k < S → ∀ w, w < W → see k w = see' k w) : jdg W S see = jdg W S see' := by
  funext P b
  unfold jdg
  rw [mnW_c W (f := fun w => sAt see P w S) (g := fun w => sAt see' P w S) (fun w hw => sAt_se S (fun k hk => e k hk w hw)), smW_c W (f := fun w => sAt see P w S) (g := fun w => sAt see' P w S) (fun w hw => sAt_se S (fun k hk => e k hk w hw))]
/-- the best shares -/
noncomputable def bSh (W S : Nat) (see : Nat → Nat → Bool) : Sbt := dlS (jdg W S see) (S - 1) 0 12 (fun _ => 0) (-1, -1, fun _ => 0)
theorem bSh_nn (W S : Nat) (see : Nat → Nat → Bool) : 0 ≤ (bSh W S see).1 := dlS_nn (fun P b => jdg_nn W S see P b) _ _ _ _ _
theorem bSh_c {W S : Nat} {see see' : Nat → Nat → Bool} (e : ∀ k, k < S → ∀ w, w < W → see k w = see' k w) : bSh W S see = bSh W S see' := by
  unfold bSh
  rw [jdg_c e]
theorem nib_0 {see : Nat → Nat → Bool} {P : Nat → Nat} : ∀ W, nib (fun w => sAt see P w 0) W = 0
  | 0 => rfl
  | W + 1 => by
    show nib (fun w => sAt see P w 0) W + 0 * 16 ^ W = 0
    rw [nib_0 W, Nat.zero_mul]
/-! which beats share: the places of the bits of a set -/
noncomputable def chF (s : Nat) : Nat → Nat → Nat
  | 0 => fun _ => 0
  | b + 1 => if s / 2 ^ b % 2 = 1 then upN (chF s b) (cnt s b) b else chF s b
theorem chF_k {s b : Nat} : ∀ t, ∀ k, k < cnt s b → chF s (b + t) k = chF s b k
  | 0, _, _ => rfl
  | t + 1, k, hk => by
    have ih := chF_k (s := s) (b := b) t k hk
    have m := cnt_mono s (b := b) (c := b + t) (by omega)
    show (if s / 2 ^ (b + t) % 2 = 1 then upN (chF s (b + t)) (cnt s (b + t)) (b + t) else chF s (b + t)) k = _
    split
    · rw [upN_ne (by omega)]
      exact ih
    · exact ih
theorem cnt_s {s b : Nat} : cnt s (b + 1) = cnt s b + s / 2 ^ b % 2 := rfl
/-- what is chosen is a bit of the set, below b; and where it stands -/
theorem chF_in {s : Nat} : ∀ b k, k < cnt s b → chF s b k < b ∧ s / 2 ^ (chF s b k) % 2 = 1 ∧ cnt s (chF s b k) = k
  | 0, k, h => absurd h (by show ¬ k < 0; omega)
  | b + 1, k, h => by
    have ih := chF_in (s := s) b
    rw [cnt_s] at h
    show (if s / 2 ^ b % 2 = 1 then upN (chF s b) (cnt s b) b else chF s b) k < b + 1 ∧ s / 2 ^ ((if s / 2 ^ b % 2 = 1 then upN (chF s b) (cnt s b) b else chF s b) k) % 2 = 1 ∧ cnt s ((if s / 2 ^ b % 2 = 1 then upN (chF s b) (cnt s b) b else chF s b) k) = k
    by_cases c : s / 2 ^ b % 2 = 1
    · rw [if_pos c]
      by_cases e : k = cnt s b
      · subst e
        rw [upN_at]
        exact ⟨by omega, c, rfl⟩
      · rw [upN_ne e]
        have z := ih k (by omega)
        exact ⟨by omega, z.2⟩
    · rw [if_neg c]
      have z := ih k (by omega)
      exact ⟨by omega, z.2⟩
theorem chF_b {s b c : Nat} (h : s / 2 ^ c % 2 = 1) (hc : c < b) : cnt s c < cnt s b ∧ chF s b (cnt s c) = c := by
  have e1 : cnt s (c + 1) = cnt s c + 1 := by rw [cnt_s, h]
  have m := cnt_mono s (b := c + 1) (c := b) (by omega)
  refine ⟨by omega, ?_⟩
  have z := chF_k (s := s) (b := c + 1) (b - (c + 1)) (cnt s c) (by omega)
  rw [show c + 1 + (b - (c + 1)) = b by omega] at z
  rw [z]
  show (if s / 2 ^ c % 2 = 1 then upN (chF s c) (cnt s c) c else chF s c) (cnt s c) = c
  rw [if_pos h, upN_at]
/-! SHARES, the reference: weigh and share1 -/
noncomputable def SbM (S : Nat) (b : Sbt) (h : Hp_) : Prop := (h_i h 1 114).toInt = b.1 ∧ (h_i h 1 115).toInt = b.2.1 ∧ (0 ≤ b.1 → ∀ k, k < S → h_i h 286 k = Int32.ofNat (b.2.2 k))
noncomputable def DlM (W S : Nat) (see : Nat → Nat → Bool) (h : Hp_) : Prop := h_i h 1 108 = Int32.ofNat W ∧ h_i h 1 113 = Int32.ofNat S ∧ ∀ k, k < S → ∀ w, w < W → ((((h_i h 287 k) >>> (Int32.ofNat w &&& 31)) &&& 1 = 1) ↔ see k w = true)
noncomputable def wWg : List Nat := [1114, 1115, 286999]
noncomputable def wS1 : List Nat := [1114, 1115, 285999, 286999]
theorem DlM.fr {W S : Nat} {see : Nat → Nat → Bool} {h h' : Hp_} (D : DlM W S see h) (f : Fr wS1 h h') : DlM W S see h' := ⟨by rw [(f.2 1 108 (by decide +kernel)).1]; exact D.1, by rw [(f.2 1 113 (by decide +kernel)).1]; exact D.2.1, fun k hk w hw => by rw [fr_i f (by decide +kernel) k]; exact D.2.2 k hk w hw⟩
theorem SbM.im {S : Nat} {b : Sbt} {h : Hp_} {k : Nat} {x : Int32} (B : SbM S b h) : SbM S b (h_im h 285 k x) := ⟨by rw [im_ne (by decide)]; exact B.1, by rw [im_ne (by decide)]; exact B.2.1, fun z j hj => by rw [im_ne (by decide)]; exact B.2.2 z j hj⟩
theorem wg_im {h : Hp_} (I : Iv h) (k : Nat) (x : Int32) (hk : k = 114 ∨ k = 115) : Iv (h_im h 1 k x) := by
  rcases hk with e | e <;> subst e
  · exact I.im (by rw [show tf 1 114 = rtop by decide +kernel]; exact rtop_in _) (by decide)
  · exact I.im (by rw [show tf 1 115 = rtop by decide +kernel]; exact rtop_in _) (by decide)
theorem c_wgM (d : Nat) {h : Hp_} (I : Iv h) {W S : Nat} {see : Nat → Nat → Bool} {P : Nat → Nat} {b : Sbt} (D : DlM W S see h) (lW : W ≤ 8) (hS : S ≤ 5) (le : tot P S ≤ 12) (eT : ∀ k, k < S → h_i h 285 k = Int32.ofNat (P k)) (B : SbM S b h) : Cv (m_X12_weigh (d + 1) 0 0) [.ref 1] h (fun h' => Iv h' ∧ Fr wWg h h' ∧ SbM S (jdg W S see P b) h') := by
  have le12 : ∀ w, sAt see P w S ≤ 12 := fun w => Nat.le_trans (sAt_t S) le
  have fin2 : ¬ (b.1 < (mnW (fun w => sAt see P w S) W : Int) ∨ ((mnW (fun w => sAt see P w S) W : Int) = b.1 ∧ b.2.1 < (smW (fun w => sAt see P w S) W : Int))) → Iv h ∧ Fr wWg h h ∧ SbM S (jdg W S see P b) h := fun c => ⟨I, Fr.rf _ _, by unfold jdg; rw [if_neg c]; exact B⟩
  -- the copy
  have cp : (b.1 < (mnW (fun w => sAt see P w S) W : Int) ∨ ((mnW (fun w => sAt see P w S) W : Int) = b.1 ∧ b.2.1 < (smW (fun w => sAt see P w S) W : Int))) → ∀ (t i : Nat) (h3 : Hp_), i + t = S → Iv h3 → Fr wWg h h3 → h_i h3 1 114 = Int32.ofNat (mnW (fun w => sAt see P w S) W) → h_i h3 1 115 = Int32.ofNat (smW (fun w => sAt see P w S) W) → (∀ k, k < i → h_i h3 286 k = Int32.ofNat (P k)) → AW (m_X12_weigh (d + 1) 0 0) 0 0 121 [(0, .ref 1), (3, .int (Int32.ofNat i))] [] h3 (kV (fun h' => Iv h' ∧ Fr wWg h h' ∧ SbM S (jdg W S see P b) h')) := by
    intro c t
    have m12 := mnW_le (fun w => sAt see P w S) W
    have s12 := smW_le (f := fun w => sAt see P w S) W (fun w _ => le12 w)
    induction t with
    | zero =>
      intro i h3 e I3 F3 e1 e2 e3
      have ei : i = S := by omega
      subst ei
      have n13 : h_i h3 1 113 = Int32.ofNat i := by rw [(F3.2 1 113 (by decide +kernel)).1]; exact D.2.1
      refine t_X12_weigh_121 d h3 I3.1 _ _ ⟨fun _ => ⟨I3, F3, ?_⟩, fun z => ?_⟩
      · unfold jdg SbM
        rw [if_pos c, e1, e2, on_j (by omega), on_j (by omega)]
        exact ⟨rfl, rfl, fun _ => e3⟩
      · rw [n13] at z
        exact absurd (q_le.mpr (Int.le_refl _)) z
    | succ t ih =>
      intro i h3 e I3 F3 e1 e2 e3
      have n13 : h_i h3 1 113 = Int32.ofNat S := by rw [(F3.2 1 113 (by decide +kernel)).1]; exact D.2.1
      have v := on_in (n := i) (N := 5) (by omega) (by decide)
      refine t_X12_weigh_121 d h3 I3.1 _ _ ⟨fun z => ?_, fun _ => ⟨v, v, ?_⟩⟩
      · rw [n13] at z
        have z := q_le.mp z
        rw [on_j (by omega), on_j (by omega)] at z
        omega
      · rw [on_k (n := i) (by omega), on_s (n := i) (by omega)]
        refine ih (i + 1) _ (by omega) (tr_ 286 (by decide +kernel) I3 _ _ (by decide) (by decide)) (F3.im (inw_row (by decide +kernel) _)) (by rw [im_ne (by decide)]; exact e1) (by rw [im_ne (by decide)]; exact e2) (fun k hk => ?_)
        rw [im_row]
        by_cases ck : k = i
        · subst ck
          rw [up1_at, fr_i F3 (by decide +kernel) k]
          exact eT k (by omega)
        · rw [up1_ne ck]
          exact e3 k (by omega)
  have st : ∀ (h3 : Hp_), h3 = h_im (h_im h 1 114 (Int32.ofNat (mnW (fun w => sAt see P w S) W))) 1 115 (Int32.ofNat (smW (fun w => sAt see P w S) W)) → (b.1 < (mnW (fun w => sAt see P w S) W : Int) ∨ ((mnW (fun w => sAt see P w S) W : Int) = b.1 ∧ b.2.1 < (smW (fun w => sAt see P w S) W : Int))) → AW (m_X12_weigh (d + 1) 0 0) 0 0 121 [(0, .ref 1), (3, .int 0)] [] h3 (kV (fun h' => Iv h' ∧ Fr wWg h h' ∧ SbM S (jdg W S see P b) h')) := fun h3 e c => by
    subst e
    exact cp c S 0 _ (by omega) (wg_im (wg_im I 114 _ (Or.inl rfl)) 115 _ (Or.inr rfl)) (((Fr.rf _ _).im (by decide +kernel)).im (by decide +kernel)) (by rw [h_i_im, if_neg (by decide), im_at]) im_at (fun k hk => absurd hk (by omega))
  have out : ∀ (t i : Nat), i + t = W → AW (m_X12_weigh (d + 1) 0 0) 0 0 7 [(0, .ref 1), (1, .int (Int32.ofNat (mnW (fun w => sAt see P w S) i))), (2, .int (Int32.ofNat (smW (fun w => sAt see P w S) i))), (3, .int (Int32.ofNat i))] [] h (kV (fun h' => Iv h' ∧ Fr wWg h h' ∧ SbM S (jdg W S see P b) h')) := by
    intro t
    induction t with
    | zero =>
      intro i e
      have ei : i = W := by omega
      subst ei
      have m12 := mnW_le (fun w => sAt see P w S) i
      have s12 := smW_le (f := fun w => sAt see P w S) i (fun w _ => le12 w)
      have om := on_j (n := mnW (fun w => sAt see P w S) i) (by omega)
      have os := on_j (n := smW (fun w => sAt see P w S) i) (by omega)
      refine t_X12_weigh_7 d h I.1 _ _ _ _ ⟨fun _ => ⟨fun c => st _ rfl (Or.inl ?_), fun n1 => ⟨fun n2 => fin2 ?_, fun e2 => ⟨fun n3 => fin2 ?_, fun c => st _ rfl (Or.inr ?_)⟩⟩⟩, fun z => ?_⟩
      · have c := q_lt.mp c
        rw [om, B.1] at c
        exact c
      · have n1 := q_nlt n1
        rw [om, B.1] at n1
        rintro (y | y)
        · omega
        · exact n2 (Int32.toInt_inj.mp (by rw [om, B.1]; exact y.1))
      · have e2 := congrArg Int32.toInt e2
        rw [om, B.1] at e2
        have n3 := q_le.mp n3
        rw [os, B.2.1] at n3
        rintro (y | y)
        · omega
        · have := y.2
          omega
      · have e2 := congrArg Int32.toInt e2
        rw [om, B.1] at e2
        have c := q_nle c
        rw [os, B.2.1] at c
        exact ⟨e2, c⟩
      · rw [D.1] at z
        exact absurd (q_le.mpr (Int.le_refl _)) z
    | succ t ih =>
      intro i e
      have m12 := mnW_le (fun w => sAt see P w S) i
      have s12 := smW_le (f := fun w => sAt see P w S) i (fun w _ => le12 w)
      have y := ih (i + 1) (by omega)
      rw [show mnW (fun w => sAt see P w S) (i + 1) = (if sAt see P i S < mnW (fun w => sAt see P w S) i then sAt see P i S else mnW (fun w => sAt see P w S) i) from rfl, show smW (fun w => sAt see P w S) (i + 1) = smW (fun w => sAt see P w S) i + sAt see P i S from rfl, ← on_s (n := i) (by omega), Int32.ofNat_add] at y
      have li := le12 i
      have em : Int32.ofNat (if sAt see P i S < mnW (fun w => sAt see P w S) i then sAt see P i S else mnW (fun w => sAt see P w S) i) = (if Int32.ofNat (sAt see P i S) < Int32.ofNat (mnW (fun w => sAt see P w S) i) then Int32.ofNat (sAt see P i S) else Int32.ofNat (mnW (fun w => sAt see P w S) i)) := by
        have q : Int32.ofNat (sAt see P i S) < Int32.ofNat (mnW (fun w => sAt see P w S) i) ↔ sAt see P i S < mnW (fun w => sAt see P w S) i := by
          rw [q_lt, on_j (by omega), on_j (by omega)]
          omega
        by_cases c : sAt see P i S < mnW (fun w => sAt see P w S) i
        · rw [if_pos c, if_pos (q.mpr c)]
        · rw [if_neg c, if_neg (fun z => c (q.mp z))]
      rw [em] at y
      have inn : ∀ (u j : Nat), j + u = S → AW (m_X12_weigh (d + 1) 0 0) 0 0 21 [(0, .ref 1), (1, .int (Int32.ofNat (mnW (fun w => sAt see P w S) i))), (2, .int (Int32.ofNat (smW (fun w => sAt see P w S) i))), (3, .int (Int32.ofNat i)), (4, .int (Int32.ofNat (sAt see P i j))), (5, .int (Int32.ofNat j))] [] h (kV (fun h' => Iv h' ∧ Fr wWg h h' ∧ SbM S (jdg W S see P b) h')) := by
        intro u
        induction u with
        | zero =>
          intro j ej
          have e2 : j = S := by omega
          subst e2
          refine t_X12_weigh_21 d h I.1 _ _ _ _ _ _ ⟨fun _ => y, fun z => ?_⟩
          rw [D.2.1] at z
          exact absurd (q_le.mpr (Int.le_refl _)) z
        | succ u ihu =>
          intro j ej
          have v := on_in (n := j) (N := 5) (by omega) (by decide)
          have q := ihu (j + 1) (by omega)
          have bt := D.2.2 j (by omega) i (by omega)
          rw [show sAt see P i (j + 1) = sAt see P i j + (if see j i = true then P j else 0) from rfl, ← on_s (n := j) (by omega), Int32.ofNat_add] at q
          refine t_X12_weigh_21 d h I.1 _ _ _ _ _ _ ⟨fun z => ?_, fun _ => ⟨v, fun n => ?_, fun c => ⟨v, ?_⟩⟩⟩
          · rw [D.2.1] at z
            have z := q_le.mp z
            rw [on_j (by omega), on_j (by omega)] at z
            omega
          · rw [on_k (n := j) (by omega)] at n
            rw [if_neg (fun z => n (bt.mpr z))] at q
            exact q
          · rw [on_k (n := j) (by omega)] at c ⊢
            rw [if_pos (bt.mp c)] at q
            rw [eT j (by omega)]
            exact q
      refine t_X12_weigh_7 d h I.1 _ _ _ _ ⟨fun z => ?_, fun _ => inn S 0 (by omega)⟩
      rw [D.1] at z
      have z := q_le.mp z
      rw [on_j (by omega), on_j (by omega)] at z
      omega
  exact t_X12_weigh d h _ (out W 0 (by omega))
theorem c_s1 {W S : Nat} {see : Nat → Nat → Bool} (lW : W ≤ 8) (hS : S ≤ 5) : ∀ (r d : Nat) {h : Hp_} {k left : Nat} {P : Nat → Nat} {b : Sbt}, Iv h → DlM W S see h → k + r + 1 = S → tot P k + left = 12 → (∀ i, i < k → h_i h 285 i = Int32.ofNat (P i)) → SbM S b h → Cv (m_X12_share1 (d + r + 3) 0 0) [.ref 1, .int (Int32.ofNat k), .int (Int32.ofNat left)] h (fun h' => Iv h' ∧ Fr wS1 h h' ∧ (∀ i, i < k → h_i h' 285 i = Int32.ofNat (P i)) ∧ SbM S (dlS (jdg W S see) r k left P b) h') := by
  intro r
  induction r with
  | zero =>
    intro d h k left P b I D ek et eT B
    have s1 : Int32.ofNat S - 1 = Int32.ofNat k := by
      rw [← ek]
      exact on_p (by omega)
    have v := on_in (n := k) (N := 5) (by omega) (by decide)
    refine t_X12_share1 (d + 0) h I.1 _ _ _ ⟨fun z => ?_, fun _ => ⟨v, ?_⟩⟩
    · rw [D.2.1, s1] at z
      exact absurd rfl z
    · rw [on_k (n := k) (by omega)]
      have I1 : Iv (h_im h 285 k (Int32.ofNat left)) := tr_ 285 (by decide +kernel) I _ _ (by decide) (by decide)
      have F1 : Fr wS1 h (h_im h 285 k (Int32.ofNat left)) := (Fr.rf _ _).im (inw_row (by decide +kernel) _)
      refine Cv.mono (c_wgM (d + 0) I1 (W := W) (S := S) (see := see) (P := upN P k left) (b := b) (D.fr F1) lW hS (by rw [← ek, tot_u]; omega) (fun i hi => ?_) B.im) (fun h' q => ⟨q.1.1, q.1, F1.tr (q.2.1.more (by decide +kernel)), fun i hi => ?_, q.2.2⟩)
      · rw [im_row]
        by_cases c : i = k
        · subst c
          rw [up1_at, upN_at]
        · rw [up1_ne c, upN_ne c]
          exact eT i (by omega)
      · rw [fr_i q.2.1 (by decide +kernel) i, im_row, up1_ne (by omega)]
        exact eT i hi
  | succ r ih =>
    intro d h k left P b I D ek et eT B
    have nS : ¬ Int32.ofNat k = Int32.ofNat S - 1 := fun z => by
      rw [← ek, show k + (r + 1) + 1 = (k + r + 1) + 1 by omega, on_p (by omega)] at z
      have := congrArg Int32.toInt z
      rw [on_j (by omega), on_j (by omega)] at this
      omega
    have v := on_in (n := k) (N := 5) (by omega) (by decide)
    have lp : ∀ (n : Nat) {h1 : Hp_} {b1 : Sbt}, n ≤ left → Iv h1 → Fr wS1 h h1 → (∀ i, i < k → h_i h1 285 i = Int32.ofNat (P i)) → SbM S b1 h1 → AW (m_X12_share1 (d + (r + 1) + 3) 0 0) 0 0 24 [(0, .ref 1), (1, .int (Int32.ofNat k)), (2, .int (Int32.ofNat left)), (3, .int (Int32.ofNat n))] [] h1 (kV (fun h' => Iv h' ∧ Fr wS1 h h' ∧ (∀ i, i < k → h_i h' 285 i = Int32.ofNat (P i)) ∧ SbM S (dwn (fun n s => dlS (jdg W S see) r (k + 1) (left - n) (upN P k n) s) n b1) h')) := by
      intro n
      induction n with
      | zero =>
        intro h1 b1 ln I1 F1 e1 B1
        have J1 : Iv (h_im h1 285 k (Int32.ofNat 0)) := tr_ 285 (by decide +kernel) I1 _ _ (by decide) (by decide)
        have G1 : Fr wS1 h (h_im h1 285 k (Int32.ofNat 0)) := F1.im (inw_row (by decide +kernel) _)
        have y := ih d (h := h_im h1 285 k (Int32.ofNat 0)) (k := k + 1) (left := left - 0) (P := upN P k 0) (b := b1) J1 (D.fr G1) (by omega) (by rw [tot_u]; omega) (fun i hi => by
          rw [im_row]
          by_cases c : i = k
          · subst c
            rw [up1_at, upN_at]
          · rw [up1_ne c, upN_ne c]
            exact e1 i (by omega)) B1.im
        refine t_X12_share1_24 (d + (r + 1)) h1 I1.1 _ _ _ _ ⟨fun z => absurd z (by decide), fun _ => ⟨v, ?_⟩⟩
        rw [on_k (n := k) (by omega), on_s (n := k) (by omega), show Int32.ofNat left - Int32.ofNat 0 = Int32.ofNat (left - 0) by rw [Nat.sub_zero]; exact Int32.sub_zero _]
        refine Cv.mono y (fun h2 q => ⟨q.1.1, ?_⟩)
        exact t_X12_share1_24 (d + (r + 1)) h2 q.1.1 _ _ _ _ ⟨fun _ => ⟨q.1, G1.tr q.2.1, fun i hi => (q.2.2.1 i (by omega)).trans (by rw [upN_ne (by omega)]), q.2.2.2⟩, fun z => absurd (show Int32.ofNat 0 + (-1) < 0 by decide) z⟩
      | succ n ihn =>
        intro h1 b1 ln I1 F1 e1 B1
        have J1 : Iv (h_im h1 285 k (Int32.ofNat (n + 1))) := tr_ 285 (by decide +kernel) I1 _ _ (by decide) (by decide)
        have G1 : Fr wS1 h (h_im h1 285 k (Int32.ofNat (n + 1))) := F1.im (inw_row (by decide +kernel) _)
        have y := ih d (h := h_im h1 285 k (Int32.ofNat (n + 1))) (k := k + 1) (left := left - (n + 1)) (P := upN P k (n + 1)) (b := b1) J1 (D.fr G1) (by omega) (by rw [tot_u]; omega) (fun i hi => by
          rw [im_row]
          by_cases c : i = k
          · subst c
            rw [up1_at, upN_at]
          · rw [up1_ne c, upN_ne c]
            exact e1 i (by omega)) B1.im
        have sb : Int32.ofNat left - Int32.ofNat (n + 1) = Int32.ofNat (left - (n + 1)) := by
          apply Int32.toInt_inj.mp
          rw [tx_sub (by rw [on_j (by omega), on_j (by omega)]; omega) (by rw [on_j (by omega), on_j (by omega)]; omega), on_j (by omega), on_j (by omega), on_j (by omega)]
          omega
        have dn : Int32.ofNat (n + 1) + (-1) = Int32.ofNat n := on_mi (n := n) (by omega)
        refine t_X12_share1_24 (d + (r + 1)) h1 I1.1 _ _ _ _ ⟨fun z => ?_, fun _ => ⟨v, ?_⟩⟩
        · have z := q_lt.mp z
          rw [on_j (by omega), show (0 : Int32).toInt = 0 from rfl] at z
          omega
        · rw [on_k (n := k) (by omega), on_s (n := k) (by omega), sb]
          refine Cv.mono y (fun h2 q => ⟨q.1.1, ?_⟩)
          rw [dn]
          exact ihn (by omega) q.1 (G1.tr q.2.1) (fun i hi => (q.2.2.1 i (by omega)).trans (by rw [upN_ne (by omega)])) q.2.2.2
    refine t_X12_share1 (d + (r + 1)) h I.1 _ _ _ ⟨fun _ => lp left (Nat.le_refl _) I (Fr.rf _ _) eT B, fun z => ?_⟩
    rw [D.2.1] at z
    exact absurd z nS
/-! sees -/
noncomputable def seeV (h : Hp_) (x1 x2 : Int32) : Bool := wkS (wX h) (h_i h 281 x2.toNatClampNeg).toNatClampNeg (h_i h 282 x2.toNatClampNeg).toInt (h_i h 283 x2.toNatClampNeg).toInt (bL h x1.toNatClampNeg) 0 0
theorem w_in {h : Hp_} (I : Iv h) : 0 ≤ (h_i h 20 3).toInt ∧ (h_i h 20 3).toInt ≤ 8 := by
  have rg := I.2.1 20 3
  rw [show tf 20 3 = (0, 8) by decide +kernel] at rg
  exact ⟨rg.1, rg.2⟩
/-- the class: whether a beat looks at a watch -/
theorem c_isX {N : Nat} (d : Nat) {h : Hp_} (I : Iv h) (L : LiT N h) (R : ExP h) (S : ExS h) (W : ExW h) (x1 x2 : Int32) (b1 : 0 ≤ x1.toInt ∧ x1.toInt < (h_i h 12 3).toInt) (b2 : 0 ≤ x2.toInt ∧ x2.toInt < (h_i h 20 3).toInt) : Ci (m_X6_isSeen (d + 3) 0 0) [.ref 20, .int x2, .int x1, .ref 12, .ref 10] h (fun r h' => h' = h ∧ r = if seeV h x1 x2 = true then 1 else 0) := by
  have t0 : (0 : Int32).toInt = 0 := rfl
  have b3 := x12_in I
  have b8 := w_in I
  have n1 := n_nat b1.1
  have n2 := n_nat b2.1
  have n12 := n_nat b3.1
  have n20 := n_nat b8.1
  have v2 : vp_in x2 8 := dp_in (lo := 0) (hi := 7) ⟨b2.1, by show _ ≤ (7 : Int); omega⟩ (by decide) (by decide)
  have B := L.2.2.2.2.2.2.2 x1.toNatClampNeg (by omega)
  have z := z227 I x1.toNatClampNeg
  have q := W.2 x2.toNatClampNeg (by omega)
  have sS := S x1.toNatClampNeg (by omega)
  refine t_X6_isSeen d h I.1 x2 x1 _ (t_X6_hasWatch d h I.1 x2 _ ⟨fun y => ?_, fun _ => ⟨fun y => ?_, fun _ => ⟨I.1, fun y => absurd y (by decide), fun _ => ⟨v2, v2, v2, ?_⟩⟩⟩⟩)
  · have y := q_lt.mp y
    omega
  · have y := q_le.mp y
    omega
  · rw [q.1.1, q.1.2.1, q.1.2.2]
    have p := q.2.1
    rw [q.1.1] at p
    refine Ci.mono (c_lkX d I (wX h) (wX_le I R) (fun a b ha hb => c_mnX d I a b ha hb) x1 _ _ _ ⟨fun y => ?_, fun y => ?_⟩ p (bL h x1.toNatClampNeg) (by rw [bL_l]; exact z.1) ?_ (fun k x e => ?_) (fun x hx => ?_)) (fun r h' k => ?_)
    · have y := q_lt.mp y
      omega
    · have y := q_le.mp y
      omega
    · rw [B.1, bL_l]
      exact (of_nat32 (by omega)).symm
    · have lk : k < (h_i h x1.toNatClampNeg.succ 0).toNatClampNeg ∨ True := Or.inr trivial
      have l : k < (bL h x1.toNatClampNeg).length := (List.getElem?_eq_some_iff.mp e).1
      rw [bL_l] at l
      rw [bL_g l] at e
      rw [← Option.some.inj e]
      exact (sS k l).1
    · obtain ⟨i, hi, e⟩ := bL_m hx
      rw [e]
      exact (sS i hi).2
    · obtain ⟨e, k⟩ := k
      subst e
      unfold seeV
      refine ⟨I.1, fun e0 => ⟨rfl, ?_⟩, fun n0 => ⟨rfl, ?_⟩⟩
      · rcases k with k | k
        · rw [k.1] at e0
          exact absurd e0 (by decide)
        · rw [if_neg (by rw [k.2]; decide)]
      · rcases k with k | k
        · rw [if_pos k.2]
        · exact absurd k.1 n0
theorem c_isM {N : Nat} (d : Nat) {h : Hp_} (I : Iv h) (R : ExP h) (S : ExS h) (W : ExW h) (x1 x2 : Int32) (b1 : 0 ≤ x1.toInt ∧ x1.toInt < (h_i h 12 3).toInt) (b2 : 0 ≤ x2.toInt ∧ x2.toInt < (h_i h 20 3).toInt) : Ci (m_X12_doesSee (d + 1) 0 0) [.ref 1, .int x1, .int x2] h (fun r h' => Iv h' ∧ Fr [203999] h h' ∧ r = if seeV h x1 x2 = true then 1 else 0) := by
  have b3 := x12_in I
  have b8 := w_in I
  have n1 := n_nat b1.1
  have n2 := n_nat b2.1
  have n12 := n_nat b3.1
  have n20 := n_nat b8.1
  have q := W.2 x2.toNatClampNeg (by omega)
  rw [q.1.1, q.1.2.1, q.1.2.2] at q
  refine Ci.mono (c_dsM d I R x1 x2 ⟨b1.1, by omega⟩ ⟨b2.1, by omega⟩ (fun i hi => (S x1.toNatClampNeg (by omega) i hi).2) ⟨q.2.1.1, q.2.2.2⟩) (fun r h' k => ⟨k.1, k.2.1, ?_⟩)
  unfold seeV
  rcases k.2.2 with k | k
  · rw [if_pos k.2]
    exact k.1
  · rw [if_neg (by rw [k.2]; decide)]
    exact k.1
/-! SHARES: what each beat sees, packed; findShares of both -/
theorem i64_or (n m : Nat) : Int64.ofNat n ||| Int64.ofNat m = Int64.ofNat (n ||| m) := by
  apply Int64.toBitVec_inj.mp
  apply BitVec.eq_of_getLsbD_eq
  intro j hj
  rw [Int64.toBitVec_or, BitVec.getLsbD_or]
  show ((BitVec.ofNat 64 n).getLsbD j || (BitVec.ofNat 64 m).getLsbD j) = (BitVec.ofNat 64 (n ||| m)).getLsbD j
  rw [BitVec.getLsbD_ofNat, BitVec.getLsbD_ofNat, BitVec.getLsbD_ofNat, Nat.testBit_or, decide_eq_true hj, Bool.true_and, Bool.true_and, Bool.true_and]
theorem sh16 {i : Nat} (hi : i < 8) : (1 : Int64) <<< (((4 * Int32.ofNat i) : Int32).toInt64 &&& 63) = Int64.ofNat (16 ^ i) := (by decide +kernel : ∀ i, i < 8 → (1 : Int64) <<< (((4 * Int32.ofNat i) : Int32).toInt64 &&& 63) = Int64.ofNat (16 ^ i)) i hi
theorem or_n {n i : Nat} (hi : i < 8) (hn : n < 16 ^ i) : Int64.ofNat n ||| ((1 : Int64) <<< (((4 * Int32.ofNat i) : Int32).toInt64 &&& 63)) = Int64.ofNat (n + 16 ^ i) := by
  have p : (16 : Nat) ^ i = 2 ^ (4 * i) := by rw [Nat.pow_mul]
  have z := Nat.two_pow_add_eq_or_of_lt (i := 4 * i) (b := n) (by rw [← p]; exact hn) 1
  rw [Nat.mul_one] at z
  rw [sh16 hi, i64_or, p, Nat.or_comm, ← z, Nat.add_comm]
theorem Cl_.mn {M : Mc_} {vs : List Value} {h : Hp_} {K K' : Int64 → Hp_ → Prop} (hC : Cl_ M vs h K) (hK : ∀ r h', K r h' → K' r h') : Cl_ M vs h K' := Ct.mono hC (fun _ _ ⟨r, e, k⟩ => ⟨r, e, hK _ _ k⟩)
theorem c_si {N : Nat} (d : Nat) {h : Hp_} (I : Iv h) (L : LiT N h) (R : ExP h) (S : ExS h) (W : ExW h) (x1 : Int32) (b1 : 0 ≤ x1.toInt ∧ x1.toInt < (h_i h 12 3).toInt) : Cl_ (m_X6_sightOf (d + 4) 0 0) [.ref 20, .int x1, .ref 12, .ref 10] h (fun r h' => h' = h ∧ r = Int64.ofNat (nib (fun w => if seeV h x1 (Int32.ofNat w) = true then 1 else 0) (h_i h 20 3).toNatClampNeg)) := by
  have b8 := w_in I
  have n8 := n_nat b8.1
  have lp : ∀ (t i : Nat), i + t = (h_i h 20 3).toNatClampNeg → AW (m_X6_sightOf (d + 4) 0 0) 0 0 6 [(0, .ref 20), (1, .int x1), (2, .ref 12), (3, .ref 10), (4, .long (Int64.ofNat (nib (fun w => if seeV h x1 (Int32.ofNat w) = true then 1 else 0) i))), (6, .int (Int32.ofNat i))] [] h (kL (fun r h' => h' = h ∧ r = Int64.ofNat (nib (fun w => if seeV h x1 (Int32.ofNat w) = true then 1 else 0) (h_i h 20 3).toNatClampNeg))) := by
    intro t
    induction t with
    | zero =>
      intro i e
      have ei : i = (h_i h 20 3).toNatClampNeg := by omega
      subst ei
      refine t_X6_sightOf_6 d h I.1 _ _ _ _ ⟨fun _ => ⟨rfl, rfl⟩, fun z => ?_⟩
      have z := q_nle z
      rw [on_j (by omega)] at z
      omega
    | succ t ih =>
      intro i e
      have oi := on_j (n := i) (by omega)
      refine t_X6_sightOf_6 d h I.1 _ _ _ _ ⟨fun z => ?_, fun _ => Ci.mono (c_isX d I L R S W x1 (Int32.ofNat i) b1 ⟨by rw [oi]; omega, by rw [oi]; omega⟩) (fun r h2 k => ?_)⟩
      · have z := q_le.mp z
        rw [oi] at z
        omega
      · obtain ⟨eh, er⟩ := k
        rw [eh]
        have y := ih (i + 1) (by omega)
        rw [show nib (fun w => if seeV h x1 (Int32.ofNat w) = true then 1 else 0) (i + 1) = nib (fun w => if seeV h x1 (Int32.ofNat w) = true then 1 else 0) i + (if seeV h x1 (Int32.ofNat i) = true then 1 else 0) * 16 ^ i from rfl, ← on_s (n := i) (by omega)] at y
        refine ⟨I.1, fun e0 => ?_, fun n0 => ?_⟩
        · have ns : ¬ seeV h x1 (Int32.ofNat i) = true := fun c => by
            rw [if_pos c] at er
            rw [er] at e0
            exact absurd e0 (by decide)
          rw [if_neg ns, Nat.zero_mul, Nat.add_zero] at y
          exact y
        · have c : seeV h x1 (Int32.ofNat i) = true := Decidable.byContradiction (fun n => by
            rw [if_neg n] at er
            exact n0 er)
          rw [if_pos c, Nat.one_mul, ← or_n (by omega) (nib_lt i (fun w _ => by split <;> omega))] at y
          exact y
  exact t_X6_sightOf d h x1 _ (lp _ 0 (Nat.zero_add _))
theorem bit_s {s b : Nat} (hs : s < 4096) (hb : b < 12) : (((Int32.ofNat s >>> (Int32.ofNat b &&& 31)) &&& 1) = 1) ↔ s / 2 ^ b % 2 = 1 := by
  have ob := on_j (n := b) (by omega)
  have os := on_j (n := s) (by omega)
  have nb : nv (Int32.ofNat b) = b := by have := nv_of (x := Int32.ofNat b) (by omega); omega
  have ns : nv (Int32.ofNat s) = s := by have := nv_of (x := Int32.ofNat s) (by omega); omega
  have bit : nv (Int32.ofNat s >>> (Int32.ofNat b &&& 31) &&& 1) = s / 2 ^ b % 2 := by
    rw [nv_and, nv_shr (by omega) (by omega) (by omega), nb, ns, show nv 1 = 1 by decide, Nat.and_one_is_mod]
  constructor
  · intro y
    rw [← bit, y]
    rfl
  · intro q
    refine Int32.toInt_inj.mp ?_
    rw [nv_pos (by omega), bit, q]
    rfl
theorem bc_all : (List.range 4096).all (fun s => decide (bcv (Int32.ofNat s) = Int32.ofNat (cnt s 12))) = true := by decide +kernel
theorem bc_eq {s : Nat} (h : s < 4096) : bcv (Int32.ofNat s) = Int32.ofNat (cnt s 12) := of_decide_eq_true (List.all_eq_true.mp bc_all s (List.mem_range.mpr h))
theorem cnt_le (s : Nat) : ∀ b, cnt s b ≤ b
  | 0 => Nat.le_refl _
  | b + 1 => by
    have := cnt_le s b
    show cnt s b + s / 2 ^ b % 2 ≤ b + 1
    omega
theorem cnt_1 {s : Nat} (h : 0 < s) (l : s < 4096) : 1 ≤ cnt s 12 := by
  have ca := List.all_eq_true.mp cnt_all s (List.mem_range.mpr l)
  rw [Bool.and_eq_true, Bool.or_eq_true, Nat.ble_eq, Nat.ble_eq] at ca
  rcases ca.1 with u | u
  · omega
  · exact u
/-- what hangs on roads, watches and steps alone -/
theorem bL_cs {h h' : Hp_} (a : ∀ k, h_i h' 227 k = h_i h 227 k) (b : ∀ k, h_i h' 228 k = h_i h 228 k) (c : ∀ k, h_i h' 229 k = h_i h 229 k) (d : ∀ k, h_i h' 230 k = h_i h 230 k) : bL h' = bL h := by
  funext k
  unfold bL sB
  rw [show h_i h' 227 = h_i h 227 from funext a, show h_i h' 228 = h_i h 228 from funext b, show h_i h' 229 = h_i h 229 from funext c, show h_i h' 230 = h_i h 230 from funext d]
noncomputable def seL : List Nat := [30, 281, 282, 283, 227, 228, 229, 230]
theorem seeV_cs {h h' : Hp_} (e : ∀ a ∈ seL, ∀ k, h_i h' a k = h_i h a k) : seeV h' = seeV h := by
  funext x1 x2
  unfold seeV
  rw [wX_cg (e 30 (by decide)), e 281 (by decide), e 282 (by decide), e 283 (by decide), bL_cs (e 227 (by decide)) (e 228 (by decide)) (e 229 (by decide)) (e 230 (by decide))]
noncomputable def exoV (ws : List Nat) : Bool := seL.all (fun a => off ws a)
theorem seeV_fr {ws : List Nat} {h h' : Hp_} (f : Fr ws h h') (o : exoV ws = true) : seeV h' = seeV h := seeV_cs (fun a ha k => fr_i f (List.all_eq_true.mp o a ha) k)
noncomputable def seeS (h : Hp_) (s k w : Nat) : Bool := seeV h (Int32.ofNat (chF s 12 k)) (Int32.ofNat w)
noncomputable def shS (h : Hp_) (s : Nat) : Sbt := bSh (h_i h 20 3).toNatClampNeg (cnt s 12) (seeS h s)
noncomputable def okSh (h : Hp_) (s : Nat) : Prop := (0 < s ∧ s < 2 ^ (h_i h 12 3).toNatClampNeg) ∧ cnt s 12 ≤ 5
/-- the best shares of s are at hand -/
noncomputable def ShG (s : Nat) (h : Hp_) : Prop := okSh h s ∧ h_i h 20 7 = Int32.ofNat (cnt s 12) ∧ SbX (cnt s 12) (shS h s) h
noncomputable def ExSh (h : Hp_) : Prop := (h_i h 20 11).toInt ≤ (h_i h 10 1).toInt ∧ (h_i h 20 12).toInt ≤ (h_i h 20 3).toInt ∧ ∀ s : Nat, 0 < s → s < 4096 → h_i h 20 10 = Int32.ofNat s → h_i h 20 11 = h_i h 10 1 → h_i h 20 12 = h_i h 20 3 → ShG s h
noncomputable def wFs : List Nat := [20007, 20008, 20009, 20010, 20011, 20012, 95999, 96999, 97999]
theorem p12_lt {s b : Nat} (h : s < 2 ^ b) (hb : b ≤ 12) : s < 4096 := Nat.lt_of_lt_of_le h (Nat.pow_le_pow_right (by decide) hb)
theorem ShG.cg {s : Nat} {h h' : Hp_} (g : ShG s h) (v : seeV h' = seeV h) (w : h_i h' 20 3 = h_i h 20 3) (b : h_i h' 12 3 = h_i h 12 3) (c7 : h_i h' 20 7 = h_i h 20 7) (c8 : h_i h' 20 8 = h_i h 20 8) (c9 : h_i h' 20 9 = h_i h 20 9) (r : ∀ k, h_i h' 97 k = h_i h 97 k) : ShG s h' := by
  have es : shS h' s = shS h s := by
    unfold shS seeS
    rw [v, w]
  refine ⟨by unfold okSh; rw [b]; exact g.1, c7.trans g.2.1, ?_⟩
  rw [es]
  exact ⟨by rw [c8]; exact g.2.2.1, by rw [c9]; exact g.2.2.2.1, fun z k hk => by rw [r]; exact g.2.2.2.2 z k hk⟩
theorem c_fiX {N : Nat} (d : Nat) {h : Hp_} (I : Iv h) (L : LiT N h) (R : ExP h) (S : ExS h) (W : ExW h) (E : ExSh h) {s : Nat} (ok : okSh h s) : Cv (m_X6_findShares (d + 8) 0 0) [.ref 20, .int (Int32.ofNat s), .ref 12, .ref 10] h (fun h' => Iv h' ∧ Fr wFs h h' ∧ ExSh h' ∧ ShG s h') := by
  have b8 := w_in I
  have n8 := n_nat b8.1
  have b3 := x12_in I
  have n3 := n_nat b3.1
  have s4 : s < 4096 := p12_lt ok.1.2 (by omega)
  have ct : cnt s 12 = cnt s (h_i h 12 3).toNatClampNeg := cnt_top ok.1.2 (by omega)
  have c1 := cnt_1 ok.1.1 s4
  have eW : h_i h 20 3 = Int32.ofNat (h_i h 20 3).toNatClampNeg := (of_nat32 b8.1).symm
  have lp : ∀ (t i : Nat) (h1 : Hp_), i + t = (h_i h 12 3).toNatClampNeg → Iv h1 → Fr wFs h h1 → h_i h1 20 10 = Int32.ofNat s → h_i h1 20 11 = h_i h 10 1 → h_i h1 20 12 = h_i h 20 3 → h_i h1 20 7 = Int32.ofNat (cnt s i) → (∀ k, k < cnt s i → h_l h1 95 k = Int64.ofNat (nib (fun w => if seeV h (Int32.ofNat (chF s i k)) (Int32.ofNat w) = true then 1 else 0) (h_i h 20 3).toNatClampNeg)) → AW (m_X6_findShares (d + 8) 0 0) 0 0 60 [(0, .ref 20), (1, .int (Int32.ofNat s)), (2, .ref 12), (3, .ref 10), (4, .int (Int32.ofNat i))] [] h1 (kV (fun h' => Iv h' ∧ Fr wFs h h' ∧ ExSh h' ∧ ShG s h')) := by
    intro t
    induction t with
    | zero =>
      intro i h1 e I1 F1 e10 e11 e12 e7 eS
      have ei : i = (h_i h 12 3).toNatClampNeg := by omega
      have e123 : h_i h1 12 3 = h_i h 12 3 := (F1.2 12 3 (by decide +kernel)).1
      have e203 : h_i h1 20 3 = h_i h 20 3 := (F1.2 20 3 (by decide +kernel)).1
      have ci : cnt s i = cnt s 12 := by rw [ei]; exact ct.symm
      rw [ci] at e7 eS
      refine t_X6_findShares_60 d h1 I1.1 _ _ _ ⟨fun _ => ?_, fun z => ?_⟩
      · have I3 : Iv (h_im (h_im h1 20 8 (-1)) 20 9 (-1)) := jg_im (jg_im I1 8 _ (Or.inl rfl)) 9 _ (Or.inr rfl)
        have F3 : Fr wFs h (h_im (h_im h1 20 8 (-1)) 20 9 (-1)) := (F1.im (by decide +kernel)).im (by decide +kernel)
        have o8 : ∀ k, k ≠ 8 → k ≠ 9 → h_i (h_im (h_im h1 20 8 (-1)) 20 9 (-1)) 20 k = h_i h1 20 k := fun k n1 n2 => by rw [h_i_im, if_neg (fun y => n2 y.2), h_i_im, if_neg (fun y => n1 y.2)]
        have D3 : DlX (h_i h 20 3).toNatClampNeg (cnt s 12) (seeS h s) (h_im (h_im h1 20 8 (-1)) 20 9 (-1)) := ⟨by rw [o8 3 (by decide) (by decide), e203]; exact eW, by rw [o8 7 (by decide) (by decide)]; exact e7, fun k hk => by
          refine (eS k hk).trans ?_
          have q := chF_k (s := s) (b := i) (12 - i) k (by rw [ci]; exact hk)
          rw [show i + (12 - i) = 12 by omega] at q
          show _ = Int64.ofNat (nib (fun w => if seeV h (Int32.ofNat (chF s 12 k)) (Int32.ofNat w) = true then 1 else 0) _)
          rw [q]⟩
        have z := c_dl (W := (h_i h 20 3).toNatClampNeg) (S := cnt s 12) (see := seeS h s) (by omega) ok.2 (cnt s 12 - 1) (d + (4 - (cnt s 12 - 1))) (k := 0) (left := 12) (P := fun _ => 0) (b := (-1, -1, fun _ => 0)) I3 D3 (by omega) rfl (fun i hi => absurd hi (by omega)) ⟨by rw [h_i_im, if_neg (by decide), im_at]; rfl, by rw [im_at]; rfl, fun y => absurd y (by decide)⟩
        rw [nib_0, show d + (4 - (cnt s 12 - 1)) + (cnt s 12 - 1) + 3 = d + 7 by have := ok.2; omega] at z
        refine Cv.mono z (fun h' q => ⟨q.1.1, q.1, F3.tr (q.2.1.more (by decide +kernel)), ?_⟩)
        have F4 : Fr wFs h h' := F3.tr (q.2.1.more (by decide +kernel))
        have g : ∀ k, k ≠ 8 → k ≠ 9 → inw wDl 20 k = false → h_i h' 20 k = h_i h1 20 k := fun k n1 n2 o => ((q.2.1.2 20 k o).1).trans (o8 k n1 n2)
        have g3 : h_i h' 20 3 = h_i h 20 3 := (g 3 (by decide) (by decide) (by decide +kernel)).trans e203
        have ev : seeV h' = seeV h := seeV_fr F4 (by decide +kernel)
        have es : shS h' s = shS h s := by
          unfold shS seeS
          rw [ev, g3]
        have G : ShG s h' := ⟨by unfold okSh; rw [(F4.2 12 3 (by decide +kernel)).1]; exact ok, (g 7 (by decide) (by decide) (by decide +kernel)).trans e7, by rw [es]; exact q.2.2.2⟩
        refine ⟨⟨?_, ?_, fun s' p l x _ _ => ?_⟩, G⟩
        · rw [g 11 (by decide) (by decide) (by decide +kernel), e11, (F4.2 10 1 (by decide +kernel)).1]
          exact Int.le_refl _
        · rw [g 12 (by decide) (by decide) (by decide +kernel), e12, g3]
          exact Int.le_refl _
        · rw [g 10 (by decide) (by decide) (by decide +kernel), e10] at x
          have x := congrArg Int32.toNatClampNeg x
          rw [on_k (by omega), on_k (by omega)] at x
          rw [← x]
          exact G
      · have z := q_nle z
        rw [e123, on_j (by omega)] at z
        omega
    | succ t ih =>
      intro i h1 e I1 F1 e10 e11 e12 e7 eS
      have e123 : h_i h1 12 3 = h_i h 12 3 := (F1.2 12 3 (by decide +kernel)).1
      have e203 : h_i h1 20 3 = h_i h 20 3 := (F1.2 20 3 (by decide +kernel)).1
      have oi := on_j (n := i) (by omega)
      have mo := cnt_mono s (b := i + 1) (c := 12) (by omega)
      have o5 := ok.2
      have bt := bit_s (s := s) (b := i) s4 (by omega)
      refine t_X6_findShares_60 d h1 I1.1 _ _ _ ⟨fun z => ?_, fun _ => ⟨fun n => ?_, fun y => ⟨fun z => ?_, fun _ => ?_⟩⟩⟩
      · have z := q_le.mp z
        rw [e123, oi] at z
        omega
      · have n0 : ¬ s / 2 ^ i % 2 = 1 := fun z => n (bt.mpr z)
        have cs : cnt s (i + 1) = cnt s i := by rw [cnt_s]; omega
        have ch : chF s (i + 1) = chF s i := by
          show (if s / 2 ^ i % 2 = 1 then upN (chF s i) (cnt s i) i else chF s i) = _
          rw [if_neg n0]
        rw [on_s (n := i) (by omega)]
        exact ih (i + 1) h1 (by omega) I1 F1 e10 e11 e12 (by rw [cs]; exact e7) (by rw [cs, ch]; exact eS)
      · have y1 := bt.mp y
        have cs : cnt s (i + 1) = cnt s i + 1 := by rw [cnt_s, y1]
        have z := q_le.mp z
        rw [e7, on_j (by omega), show (5 : Int32).toInt = 5 from rfl] at z
        omega
      · have y1 := bt.mp y
        have cs : cnt s (i + 1) = cnt s i + 1 := by rw [cnt_s, y1]
        have ch : chF s (i + 1) = upN (chF s i) (cnt s i) i := by
          show (if s / 2 ^ i % 2 = 1 then upN (chF s i) (cnt s i) i else chF s i) = _
          rw [if_pos y1]
        have v : vp_in (h_i h1 20 7) 5 := by rw [e7]; exact on_in (by omega) (by decide)
        have ev : seeV h1 = seeV h := seeV_fr F1 (by decide +kernel)
        refine Cl_.mn (c_si d I1 (L.fr I1 F1 (by decide +kernel)) (R.fr F1 (by decide +kernel)) (S.fr F1 (by decide +kernel)) (W.fr F1 (by decide +kernel)) (Int32.ofNat i) ⟨by rw [oi]; omega, by rw [oi, e123]; omega⟩) (fun r h2 k => ?_)
        obtain ⟨eh, er⟩ := k
        rw [ev, e203] at er
        rw [eh, er]
        refine ⟨I1.1, v, ?_⟩
        rw [e7, on_k (n := cnt s i) (by omega), on_s (n := cnt s i) (by omega), on_s (n := i) (by omega)]
        refine ih (i + 1) _ (by omega) (I1.lm.im (by rw [show tf 20 7 = (0, 5) by decide +kernel, on_j (by omega)]; exact ⟨by show (0 : Int) ≤ _; omega, by show _ ≤ (5 : Int); omega⟩) (jw_jr (by decide) (by decide) _)) ((F1.lm (inw_row (by decide +kernel) _)).im (by decide +kernel)) ?_ ?_ ?_ (by rw [im_at, cs]) (fun k hk => ?_)
        · rw [h_i_im, if_neg (by decide)]
          exact e10
        · rw [h_i_im, if_neg (by decide)]
          exact e11
        · rw [h_i_im, if_neg (by decide)]
          exact e12
        · show h_l (h_lm h1 95 (cnt s i) _) 95 k = _
          by_cases c : k = cnt s i
          · subst c
            rw [h_l_lm, if_pos ⟨rfl, rfl⟩, ch, upN_at]
          · rw [h_l_lm, if_neg (fun y => c y.2), ch, upN_ne c]
            exact eS k (by omega)
  have go : AW (m_X6_findShares (d + 8) 0 0) 0 0 60 [(0, .ref 20), (1, .int (Int32.ofNat s)), (2, .ref 12), (3, .ref 10), (4, .int 0)] [] (h_im (h_im (h_im (h_im h 20 10 (Int32.ofNat s)) 20 11 (h_i h 10 1)) 20 12 (h_i h 20 3)) 20 7 0) (kV (fun h' => Iv h' ∧ Fr wFs h h' ∧ ExSh h' ∧ ShG s h')) := by
    refine lp _ 0 _ (Nat.zero_add _) ?_ ((((((Fr.rf _ _).im (by decide +kernel)).im (by decide +kernel)).im (by decide +kernel)).im (by decide +kernel))) ?_ ?_ ?_ im_at (fun k hk => absurd hk (by show ¬ k < 0; omega))
    · exact (((I.im (by rw [show tf 20 10 = rtop by decide +kernel]; exact rtop_in _) (jw_jr (by decide) (by decide) _)).im (by rw [show tf 20 11 = rtop by decide +kernel]; exact rtop_in _) (jw_jr (by decide) (by decide) _)).im (by rw [show tf 20 12 = rtop by decide +kernel]; exact rtop_in _) (jw_jr (by decide) (by decide) _)).im (by rw [show tf 20 7 = (0, 5) by decide +kernel]; exact ⟨by decide, by decide⟩) (jw_jr (by decide) (by decide) _)
    · rw [h_i_im, if_neg (by decide), h_i_im, if_neg (by decide), h_i_im, if_neg (by decide), im_at]
    · rw [h_i_im, if_neg (by decide), h_i_im, if_neg (by decide), im_at]
    · rw [h_i_im, if_neg (by decide), im_at]
  exact t_X6_findShares d h I.1 _ _ ⟨fun _ => go, fun e1 => ⟨fun _ => go, fun e2 => ⟨fun _ => go, fun e3 => ⟨I, Fr.rf _ _, E, E.2.2 s ok.1.1 s4 e1.symm e2.symm e3.symm⟩⟩⟩⟩
/-- a bit more of a small number -/
theorem sb_all : (List.range 8).all (fun j => (List.range 256).all (fun n => !(decide (n < 2 ^ j)) || (decide ((Int32.ofNat n ||| 0).toInt = n ∧ (Int32.ofNat n ||| ((1 : Int32) <<< (Int32.ofNat j &&& 31))).toInt = n + 2 ^ j) && (List.range (j + 1)).all (fun w => decide ((((Int32.ofNat n ||| 0) >>> (Int32.ofNat w &&& 31)) &&& 1 = 1) ↔ (((Int32.ofNat n) >>> (Int32.ofNat w &&& 31)) &&& 1 = 1) ∧ w < j) && decide ((((Int32.ofNat n ||| ((1 : Int32) <<< (Int32.ofNat j &&& 31))) >>> (Int32.ofNat w &&& 31)) &&& 1 = 1) ↔ (((Int32.ofNat n) >>> (Int32.ofNat w &&& 31)) &&& 1 = 1) ∨ w = j))))) = true := by decide +kernel
theorem sb_n {j n : Nat} (hj : j < 8) (hn : n < 2 ^ j) : ((Int32.ofNat n ||| 0).toInt = n ∧ (Int32.ofNat n ||| ((1 : Int32) <<< (Int32.ofNat j &&& 31))).toInt = n + 2 ^ j) ∧ ∀ w, w < j + 1 → ((((Int32.ofNat n ||| 0) >>> (Int32.ofNat w &&& 31)) &&& 1 = 1) ↔ (((Int32.ofNat n) >>> (Int32.ofNat w &&& 31)) &&& 1 = 1) ∧ w < j) ∧ ((((Int32.ofNat n ||| ((1 : Int32) <<< (Int32.ofNat j &&& 31))) >>> (Int32.ofNat w &&& 31)) &&& 1 = 1) ↔ (((Int32.ofNat n) >>> (Int32.ofNat w &&& 31)) &&& 1 = 1) ∨ w = j) := by
  have p : 2 ^ j ≤ 2 ^ 8 := Nat.pow_le_pow_right (by decide) (by omega)
  have p8 : 2 ^ 8 = 256 := by decide
  have z := List.all_eq_true.mp (List.all_eq_true.mp sb_all j (List.mem_range.mpr hj)) n (List.mem_range.mpr (by omega))
  rw [Bool.or_eq_true, Bool.not_eq_true', decide_eq_false_iff_not, Bool.and_eq_true] at z
  rcases z with z | z
  · exact absurd hn z
  · refine ⟨of_decide_eq_true z.1, fun w hw => ?_⟩
    have u := List.all_eq_true.mp z.2 w (List.mem_range.mpr hw)
    rw [Bool.and_eq_true] at u
    exact ⟨of_decide_eq_true u.1, of_decide_eq_true u.2⟩
theorem sb_0 {x : Int32} {j : Nat} (hj : j < 8) (r : 0 ≤ x.toInt ∧ x.toInt < 2 ^ j) : (0 ≤ (x ||| 0).toInt ∧ (x ||| 0).toInt < 2 ^ (j + 1)) ∧ ∀ w, w < j + 1 → ((((x ||| 0) >>> (Int32.ofNat w &&& 31)) &&& 1 = 1) ↔ ((x >>> (Int32.ofNat w &&& 31)) &&& 1 = 1) ∧ w < j) := by
  have nx := n_nat r.1
  have hn : x.toNatClampNeg < 2 ^ j := by
    have := r.2
    have c : ((2 ^ j : Nat) : Int) = 2 ^ j := Int.natCast_pow 2 j
    omega
  have z := sb_n hj hn
  rw [of_nat32 r.1] at z
  have c : ((2 ^ j : Nat) : Int) = 2 ^ j := Int.natCast_pow 2 j
  refine ⟨⟨by rw [z.1.1]; omega, ?_⟩, fun w hw => (z.2 w hw).1⟩
  rw [z.1.1, Int.pow_succ]
  omega
theorem sb_1 {x : Int32} {j : Nat} (hj : j < 8) (r : 0 ≤ x.toInt ∧ x.toInt < 2 ^ j) : (0 ≤ (x ||| ((1 : Int32) <<< (Int32.ofNat j &&& 31))).toInt ∧ (x ||| ((1 : Int32) <<< (Int32.ofNat j &&& 31))).toInt < 2 ^ (j + 1)) ∧ ∀ w, w < j + 1 → ((((x ||| ((1 : Int32) <<< (Int32.ofNat j &&& 31))) >>> (Int32.ofNat w &&& 31)) &&& 1 = 1) ↔ ((x >>> (Int32.ofNat w &&& 31)) &&& 1 = 1) ∨ w = j) := by
  have nx := n_nat r.1
  have c : ((2 ^ j : Nat) : Int) = 2 ^ j := Int.natCast_pow 2 j
  have hn : x.toNatClampNeg < 2 ^ j := by
    have := r.2
    omega
  have z := sb_n hj hn
  rw [of_nat32 r.1] at z
  refine ⟨⟨by rw [z.1.2]; omega, ?_⟩, fun w hw => (z.2 w hw).2⟩
  rw [z.1.2, Int.pow_succ]
  omega
/-! the reference: findShares -/
noncomputable def wFm : List Nat := wz_X12_findShares
theorem pw_s {b : Int32} (h0 : 0 ≤ b.toInt) (h1 : b.toInt ≤ 12) : ((1 : Int32) <<< (b &&& 31)).toInt = (2 ^ b.toNatClampNeg : Nat) ∧ (2 ^ b.toNatClampNeg : Nat) ≤ 4096 := by
  have sh := nv_shl (x := 1) (y := b) h0 (by omega)
  have nb := nv_of h0
  have nn := n_nat h0
  rw [show nv 1 = 1 by decide, Nat.one_mul, show nv b = b.toNatClampNeg by omega] at sh
  have pw : 2 ^ b.toNatClampNeg ≤ 2 ^ 12 := Nat.pow_le_pow_right (by omega) (by omega)
  have p12 : 2 ^ 12 = 4096 := by decide
  rw [Nat.mod_eq_of_lt (by omega)] at sh
  have si := nv_pos (x := (1 : Int32) <<< (b &&& 31)) (by omega)
  exact ⟨by rw [si, sh], by omega⟩
theorem c_fiM {N : Nat} (d : Nat) {h : Hp_} (I : Iv h) (R : ExP h) (S : ExS h) (W : ExW h) (e42 : h_i h 1 42 = h_i h 12 3) (x1 : Int32) : Ci (m_X12_findShares (d + 8) 0 0) [.ref 1, .int x1] h (fun r h' => Iv h' ∧ Fr wFm h h' ∧ ((∃ s, x1 = Int32.ofNat s ∧ okSh h s ∧ r = 1 ∧ h_i h' 1 113 = Int32.ofNat (cnt s 12) ∧ (∀ k, k < cnt s 12 → h_i h' 284 k = Int32.ofNat (chF s 12 k)) ∧ SbM (cnt s 12) (shS h s) h') ∨ ((∀ s, s < 4096 → x1 = Int32.ofNat s → ¬ okSh h s) ∧ r = 0))) := by
  have b8 := w_in I
  have n8 := n_nat b8.1
  have b3 := x12_in I
  have n3 := n_nat b3.1
  have t1 : (1 : Int32).toInt = 1 := rfl
  have t5 : (5 : Int32).toInt = 5 := rfl
  have eW : h_i h 20 3 = Int32.ofNat (h_i h 20 3).toNatClampNeg := (of_nat32 b8.1).symm
  have pw := pw_s (b := h_i h 12 3) b3.1 (by omega)
  have main : ∀ s, x1 = Int32.ofNat s → okSh h s → AW (m_X12_findShares (d + 8) 0 0) 0 0 43 [(0, .ref 1), (1, .int x1), (3, .int 0)] [] (h_im h 1 113 0) (kI (fun r h' => Iv h' ∧ Fr wFm h h' ∧ ((∃ s, x1 = Int32.ofNat s ∧ okSh h s ∧ r = 1 ∧ h_i h' 1 113 = Int32.ofNat (cnt s 12) ∧ (∀ k, k < cnt s 12 → h_i h' 284 k = Int32.ofNat (chF s 12 k)) ∧ SbM (cnt s 12) (shS h s) h') ∨ ((∀ s, s < 4096 → x1 = Int32.ofNat s → ¬ okSh h s) ∧ r = 0)))) := by
    intro s ex ok
    have s4 : s < 4096 := p12_lt ok.1.2 (by omega)
    have ct : cnt s 12 = cnt s (h_i h 12 3).toNatClampNeg := cnt_top ok.1.2 (by omega)
    have c1 := cnt_1 ok.1.1 s4
    have o5 := ok.2
    have lp : ∀ (t i : Nat) (h1 : Hp_), i + t = (h_i h 12 3).toNatClampNeg → Iv h1 → Fr wFm h h1 → h_i h1 1 113 = Int32.ofNat (cnt s i) → (∀ k, k < cnt s i → h_i h1 284 k = Int32.ofNat (chF s i k)) → (∀ k, k < cnt s i → ∀ w, w < (h_i h 20 3).toNatClampNeg → ((((h_i h1 287 k) >>> (Int32.ofNat w &&& 31)) &&& 1 = 1) ↔ seeV h (Int32.ofNat (chF s i k)) (Int32.ofNat w) = true)) → AW (m_X12_findShares (d + 8) 0 0) 0 0 43 [(0, .ref 1), (1, .int x1), (3, .int (Int32.ofNat i))] [] h1 (kI (fun r h' => Iv h' ∧ Fr wFm h h' ∧ ((∃ s, x1 = Int32.ofNat s ∧ okSh h s ∧ r = 1 ∧ h_i h' 1 113 = Int32.ofNat (cnt s 12) ∧ (∀ k, k < cnt s 12 → h_i h' 284 k = Int32.ofNat (chF s 12 k)) ∧ SbM (cnt s 12) (shS h s) h') ∨ ((∀ s, s < 4096 → x1 = Int32.ofNat s → ¬ okSh h s) ∧ r = 0)))) := by
      intro t
      induction t with
      | zero =>
        intro i h1 e I1 F1 e113 eC eB
        have ei : i = (h_i h 12 3).toNatClampNeg := by omega
        have f42 : h_i h1 1 42 = h_i h 12 3 := ((F1.2 1 42 (by decide +kernel)).1).trans e42
        have f108 : h_i h1 1 108 = h_i h 20 3 := ((F1.2 1 108 (by decide +kernel)).1).trans W.1.symm
        have ci : cnt s i = cnt s 12 := by rw [ei]; exact ct.symm
        have ck : ∀ k, k < cnt s 12 → chF s 12 k = chF s i k := fun k hk => by
          have q := chF_k (s := s) (b := i) (12 - i) k (by rw [ci]; exact hk)
          rw [show i + (12 - i) = 12 by omega] at q
          exact q
        rw [ci] at e113 eC eB
        refine t8_X12_findShares_43 d h1 I1.1 _ _ _ ⟨fun _ => ?_, fun z => ?_⟩
        · have I3 : Iv (h_im (h_im h1 1 114 (-1)) 1 115 (-1)) := wg_im (wg_im I1 114 _ (Or.inl rfl)) 115 _ (Or.inr rfl)
          have F3 : Fr wFm h (h_im (h_im h1 1 114 (-1)) 1 115 (-1)) := (F1.im (by decide +kernel)).im (by decide +kernel)
          have o8 : ∀ k, k ≠ 114 → k ≠ 115 → h_i (h_im (h_im h1 1 114 (-1)) 1 115 (-1)) 1 k = h_i h1 1 k := fun k n1 n2 => by rw [h_i_im, if_neg (fun y => n2 y.2), h_i_im, if_neg (fun y => n1 y.2)]
          have D3 : DlM (h_i h 20 3).toNatClampNeg (cnt s 12) (seeS h s) (h_im (h_im h1 1 114 (-1)) 1 115 (-1)) := ⟨by rw [o8 108 (by decide) (by decide), f108]; exact eW, by rw [o8 113 (by decide) (by decide)]; exact e113, fun k hk w hw => by
            rw [im_ne (by decide), im_ne (by decide)]
            show _ ↔ seeV h (Int32.ofNat (chF s 12 k)) (Int32.ofNat w) = true
            rw [ck k hk]
            exact eB k hk w hw⟩
          have z := c_s1 (W := (h_i h 20 3).toNatClampNeg) (S := cnt s 12) (see := seeS h s) (by omega) o5 (cnt s 12 - 1) (d + (4 - (cnt s 12 - 1))) (k := 0) (left := 12) (P := fun _ => 0) (b := (-1, -1, fun _ => 0)) I3 D3 (by omega) rfl (fun i hi => absurd hi (by omega)) ⟨by rw [h_i_im, if_neg (by decide), im_at]; rfl, by rw [im_at]; rfl, fun y => absurd y (by decide)⟩
          rw [show d + (4 - (cnt s 12 - 1)) + (cnt s 12 - 1) + 3 = d + 7 by omega] at z
          refine Cv.mono z (fun h' q => ⟨q.1.1, q.1, F3.tr (q.2.1.more (by decide +kernel)), Or.inl ⟨s, ex, ok, rfl, ?_, fun k hk => ?_, q.2.2.2⟩⟩)
          · rw [(q.2.1.2 1 113 (by decide +kernel)).1, o8 113 (by decide) (by decide)]
            exact e113
          · rw [fr_i q.2.1 (by decide +kernel) k, im_ne (by decide), im_ne (by decide), eC k hk, ck k hk]
        · have z := q_nle z
          rw [f42, on_j (by omega)] at z
          omega
      | succ t ih =>
        intro i h1 e I1 F1 e113 eC eB
        have f42 : h_i h1 1 42 = h_i h 12 3 := ((F1.2 1 42 (by decide +kernel)).1).trans e42
        have oi := on_j (n := i) (by omega)
        have mo := cnt_mono s (b := i + 1) (c := 12) (by omega)
        have bt := bit_s (s := s) (b := i) s4 (by omega)
        rw [← ex] at bt
        refine t8_X12_findShares_43 d h1 I1.1 _ _ _ ⟨fun z => ?_, fun _ => ⟨fun n => ?_, fun y => ?_⟩⟩
        · have z := q_le.mp z
          rw [f42, oi] at z
          omega
        · have n0 : ¬ s / 2 ^ i % 2 = 1 := fun z => n (bt.mpr z)
          have cs : cnt s (i + 1) = cnt s i := by rw [cnt_s]; omega
          have ch : chF s (i + 1) = chF s i := by
            show (if s / 2 ^ i % 2 = 1 then upN (chF s i) (cnt s i) i else chF s i) = _
            rw [if_neg n0]
          rw [on_s (n := i) (by omega)]
          exact ih (i + 1) h1 (by omega) I1 F1 (by rw [cs]; exact e113) (by rw [cs, ch]; exact eC) (by rw [cs, ch]; exact eB)
        · have y1 := bt.mp y
          have cs : cnt s (i + 1) = cnt s i + 1 := by rw [cnt_s, y1]
          have ch : chF s (i + 1) = upN (chF s i) (cnt s i) i := by
            show (if s / 2 ^ i % 2 = 1 then upN (chF s i) (cnt s i) i else chF s i) = _
            rw [if_pos y1]
          have v : vp_in (h_i h1 1 113) 5 := by rw [e113]; exact on_in (by omega) (by decide)
          refine ⟨v, v, ?_⟩
          rw [e113, on_k (n := cnt s i) (by omega)]
          -- the watches
          have inn : ∀ (u j : Nat) (h2 : Hp_), j + u = (h_i h 20 3).toNatClampNeg → Iv h2 → Fr wFm h h2 → h_i h2 1 113 = Int32.ofNat (cnt s i) → (∀ k, k < cnt s i + 1 → h_i h2 284 k = Int32.ofNat (chF s (i + 1) k)) → (∀ k, k < cnt s i → h_i h2 287 k = h_i h1 287 k) → (0 ≤ (h_i h2 287 (cnt s i)).toInt ∧ (h_i h2 287 (cnt s i)).toInt < 2 ^ j) → (∀ w, w < j → ((((h_i h2 287 (cnt s i)) >>> (Int32.ofNat w &&& 31)) &&& 1 = 1) ↔ seeV h (Int32.ofNat i) (Int32.ofNat w) = true)) → AW (m_X12_findShares (d + 8) 0 0) 0 0 83 [(0, .ref 1), (1, .int x1), (3, .int (Int32.ofNat i)), (4, .int (Int32.ofNat j))] [] h2 (kI (fun r h' => Iv h' ∧ Fr wFm h h' ∧ ((∃ s, x1 = Int32.ofNat s ∧ okSh h s ∧ r = 1 ∧ h_i h' 1 113 = Int32.ofNat (cnt s 12) ∧ (∀ k, k < cnt s 12 → h_i h' 284 k = Int32.ofNat (chF s 12 k)) ∧ SbM (cnt s 12) (shS h s) h') ∨ ((∀ s, s < 4096 → x1 = Int32.ofNat s → ¬ okSh h s) ∧ r = 0)))) := by
            intro u
            induction u with
            | zero =>
              intro j h2 ej I2 F2 g113 gC gk gr gB
              have e2 : j = (h_i h 20 3).toNatClampNeg := by omega
              have f108 : h_i h2 1 108 = h_i h 20 3 := ((F2.2 1 108 (by decide +kernel)).1).trans W.1.symm
              refine t8_X12_findShares_83 d h2 I2.1 _ _ _ _ ⟨fun _ => ?_, fun z => ?_⟩
              · rw [g113, on_s (n := cnt s i) (by omega), on_s (n := i) (by omega)]
                refine ih (i + 1) _ (by omega) (I2.im (by rw [show tf 1 113 = (0, 5) by decide +kernel, on_j (by omega)]; exact ⟨by show (0 : Int) ≤ _; omega, by show _ ≤ (5 : Int); omega⟩) (by decide)) (F2.im (by decide +kernel)) (by rw [im_at, cs]) (fun k hk => ?_) (fun k hk w hw => ?_)
                · rw [im_ne (by decide)]
                  exact gC k (by omega)
                · rw [im_ne (by decide)]
                  by_cases c : k = cnt s i
                  · subst c
                    rw [ch, upN_at]
                    exact gB w (by omega)
                  · rw [gk k (by omega), ch, upN_ne c]
                    exact eB k (by omega) w hw
              · have z := q_nle z
                rw [f108, on_j (by omega)] at z
                omega
            | succ u ihu =>
              intro j h2 ej I2 F2 g113 gC gk gr gB
              have f108 : h_i h2 1 108 = h_i h 20 3 := ((F2.2 1 108 (by decide +kernel)).1).trans W.1.symm
              have oj := on_j (n := j) (by omega)
              have v2 : vp_in (h_i h2 1 113) 5 := by rw [g113]; exact on_in (by omega) (by decide)
              have ev : seeV h2 = seeV h := seeV_fr F2 (by decide +kernel)
              refine t8_X12_findShares_83 d h2 I2.1 _ _ _ _ ⟨fun z => ?_, fun _ => ⟨v2, Ci.mono (c_isM (N := N) d I2 (R.fr F2 (by decide +kernel)) (S.fr F2 (by decide +kernel)) (W.fr F2 (by decide +kernel)) (Int32.ofNat i) (Int32.ofNat j) ⟨by rw [oi]; omega, by rw [oi, (F2.2 12 3 (by decide +kernel)).1]; omega⟩ ⟨by rw [oj]; omega, by rw [oj, (F2.2 20 3 (by decide +kernel)).1]; omega⟩) (fun r3 h3 k3 => ?_)⟩⟩
              · have z := q_le.mp z
                rw [f108, oj] at z
                omega
              · obtain ⟨I3, F3, er⟩ := k3
                rw [ev] at er
                rw [g113, on_k (n := cnt s i) (by omega), on_s (n := j) (by omega)]
                have F23 : Fr wFm h h3 := F2.tr (F3.more (by decide +kernel))
                have st : ∀ x : Int32, (0 ≤ x.toInt ∧ x.toInt < 2 ^ (j + 1)) → (∀ w, w < j + 1 → (((x >>> (Int32.ofNat w &&& 31)) &&& 1 = 1) ↔ seeV h (Int32.ofNat i) (Int32.ofNat w) = true)) → AW (m_X12_findShares (d + 8) 0 0) 0 0 83 [(0, .ref 1), (1, .int x1), (3, .int (Int32.ofNat i)), (4, .int (Int32.ofNat (j + 1)))] [] (h_im h3 287 (cnt s i) x) (kI (fun r h' => Iv h' ∧ Fr wFm h h' ∧ ((∃ s, x1 = Int32.ofNat s ∧ okSh h s ∧ r = 1 ∧ h_i h' 1 113 = Int32.ofNat (cnt s 12) ∧ (∀ k, k < cnt s 12 → h_i h' 284 k = Int32.ofNat (chF s 12 k)) ∧ SbM (cnt s 12) (shS h s) h') ∨ ((∀ s, s < 4096 → x1 = Int32.ofNat s → ¬ okSh h s) ∧ r = 0)))) := fun x rx bx => by
                  refine ihu (j + 1) _ (by omega) (tr_ 287 (by decide +kernel) I3 _ _ (by decide) (by decide)) (F23.im (inw_row (by decide +kernel) _)) (by rw [im_ne (by decide), (F3.2 1 113 (by decide +kernel)).1]; exact g113) (fun k hk => by rw [im_ne (by decide), fr_i F3 (by decide +kernel) k]; exact gC k hk) (fun k hk => ?_) (by rw [im_at]; exact rx) (fun w hw => by rw [im_at]; exact bx w hw)
                  rw [im_row, up1_ne (by omega), fr_i F3 (by decide +kernel) k]
                  exact gk k hk
                have j8 : j < 8 := by omega
                have v3 : vp_in (Int32.ofNat (cnt s i)) 5 := on_in (by omega) (by decide)
                refine ⟨I3.1, fun e0 => ⟨v3, ?_⟩, fun n0 => ⟨v3, ?_⟩⟩
                · have ns : ¬ seeV h (Int32.ofNat i) (Int32.ofNat j) = true := fun c => by
                    rw [if_pos c] at er
                    rw [er] at e0
                    exact absurd e0 (by decide)
                  have z := sb_0 (x := h_i h2 287 (cnt s i)) j8 gr
                  exact st _ z.1 (fun w hw => by
                    rw [z.2 w hw]
                    by_cases c : w = j
                    · subst c
                      exact ⟨fun y => absurd y.2 (by omega), fun y => absurd y ns⟩
                    · exact ⟨fun y => (gB w (by omega)).mp y.1, fun y => ⟨(gB w (by omega)).mpr y, by omega⟩⟩)
                · have c : seeV h (Int32.ofNat i) (Int32.ofNat j) = true := Decidable.byContradiction (fun n => by
                    rw [if_neg n] at er
                    exact n0 er)
                  have z := sb_1 (x := h_i h2 287 (cnt s i)) j8 gr
                  exact st _ z.1 (fun w hw => by
                    rw [z.2 w hw]
                    by_cases c2 : w = j
                    · subst c2
                      exact ⟨fun _ => c, fun _ => Or.inr rfl⟩
                    · exact ⟨fun y => (gB w (by omega)).mp (y.resolve_right c2), fun y => Or.inl ((gB w (by omega)).mpr y)⟩)
          refine inn _ 0 _ (Nat.zero_add _) (tr_ 287 (by decide +kernel) (I1.im (by rw [tfa_tf t284, oi]; exact ⟨by show (0 : Int) ≤ _; omega, by show _ ≤ (11 : Int); omega⟩) (jw_jr (by decide) (by decide) _)) _ _ (by decide) (by decide)) ((F1.im (inw_row (by decide +kernel) _)).im (inw_row (by decide +kernel) _)) (by rw [im_ne (by decide), im_ne (by decide)]; exact e113) (fun k hk => ?_) (fun k hk => ?_) ?_ (fun w hw => absurd hw (by omega))
          · rw [im_ne (by decide), im_row]
            by_cases c : k = cnt s i
            · subst c
              rw [up1_at, ch, upN_at]
            · rw [up1_ne c, ch, upN_ne c]
              exact eC k (by omega)
          · rw [im_row, up1_ne (by omega), im_ne (by decide)]
          · rw [im_at]
            exact ⟨by decide, by decide⟩
    exact lp _ 0 _ (Nat.zero_add _) (I.im (by rw [show tf 1 113 = (0, 5) by decide +kernel]; exact ⟨by decide, by decide⟩) (by decide)) ((Fr.rf _ _).im (by decide +kernel)) im_at (fun k hk => absurd hk (by show ¬ k < 0; omega)) (fun k hk => absurd hk (by show ¬ k < 0; omega))
  have T := t8_X12_findShares d h I.1 x1
  rw [e42] at T
  have pp := Nat.two_pow_pos (h_i h 12 3).toNatClampNeg
  have sm : ((1 : Int32) <<< (h_i h 12 3 &&& 31) - 1).toInt = ((1 : Int32) <<< (h_i h 12 3 &&& 31)).toInt - 1 := by rw [tx_sub (by rw [t1]; omega) (by rw [t1]; omega), t1]
  refine T _ ⟨fun n => ⟨fun z => absurd z.1 (by decide), fun _ => ⟨I, Fr.rf _ _, Or.inr ⟨fun s l ex ok => n ⟨?_, ?_⟩, rfl⟩⟩⟩, fun y => ?_⟩
  · have := ok.1.1
    exact q_le.mpr (by rw [ex, on_j (by omega), t1]; omega)
  · have := ok.1.2
    exact q_le.mpr (by rw [ex, on_j (by omega), sm, pw.1]; omega)
  · have y1 := q_le.mp y.1
    have y2 := q_le.mp y.2
    rw [t1] at y1
    rw [sm, pw.1] at y2
    have nx := n_nat (x := x1) (by omega)
    have ex : x1 = Int32.ofNat x1.toNatClampNeg := (of_nat32 (by omega)).symm
    refine Ci.mono (c_bitCount d h x1) (fun r9 h9 q => ?_)
    obtain ⟨q1, q2⟩ := q
    rw [q2]
    rw [ex, bc_eq (by omega)] at q1
    have cl := cnt_le x1.toNatClampNeg 12
    have c1 := cnt_1 (s := x1.toNatClampNeg) (by omega) (by omega)
    refine ⟨I.1, fun z => main _ ex ⟨⟨by omega, by omega⟩, ?_⟩, fun z => ⟨I, Fr.rf _ _, Or.inr ⟨fun s l e ok => z ⟨?_, ?_⟩, rfl⟩⟩⟩
    · have z2 := q_le.mp z.2
      rw [q1, on_j (by omega), t5] at z2
      omega
    · exact q_le.mpr (by rw [q1, on_j (by omega), t1]; omega)
    · have es : s = x1.toNatClampNeg := by rw [e, on_k (by omega)]
      have o5 := ok.2
      rw [es] at o5
      exact q_le.mpr (by rw [q1, on_j (by omega), t5]; omega)
/-! SHARES: what is at hand stays right -/
noncomputable def shQ : List (Nat × Nat) := [(20, 3), (20, 7), (20, 8), (20, 9), (20, 10), (20, 11), (20, 12), (10, 1), (12, 3)]
theorem ExSh.cg {h h' : Hp_} (e : ExSh h) (v : seeV h' = seeV h) (n : ∀ q ∈ shQ, h_i h' q.1 q.2 = h_i h q.1 q.2) (r : ∀ k, h_i h' 97 k = h_i h 97 k) : ExSh h' := by
  have n3 : h_i h' 20 3 = h_i h 20 3 := n (20, 3) (by decide)
  have n10 : h_i h' 20 10 = h_i h 20 10 := n (20, 10) (by decide)
  have n11 : h_i h' 20 11 = h_i h 20 11 := n (20, 11) (by decide)
  have n12 : h_i h' 20 12 = h_i h 20 12 := n (20, 12) (by decide)
  have np : h_i h' 10 1 = h_i h 10 1 := n (10, 1) (by decide)
  refine ⟨by rw [n11, np]; exact e.1, by rw [n12, n3]; exact e.2.1, fun s p l x y z => ?_⟩
  rw [n10] at x
  rw [n11, np] at y
  rw [n12, n3] at z
  exact (e.2.2 s p l x y z).cg v n3 (n (12, 3) (by decide)) (n (20, 7) (by decide)) (n (20, 8) (by decide)) (n (20, 9) (by decide)) r
noncomputable def exoSh (ws : List Nat) : Bool := exoV ws && off ws 97 && shQ.all (fun q => !inw ws q.1 q.2)
theorem ExSh.fr {ws : List Nat} {h h' : Hp_} (e : ExSh h) (f : Fr ws h h') (o : exoSh ws = true) : ExSh h' := by
  unfold exoSh at o
  simp only [Bool.and_eq_true] at o
  refine e.cg (seeV_fr f o.1.1) (fun q hq => ?_) (fun k => fr_i f o.1.2 k)
  have z := List.all_eq_true.mp o.2 q hq
  rw [Bool.not_eq_true'] at z
  exact (f.2 q.1 q.2 z).1
theorem ExSh.mf {W : List Nat} {h h' : Hp_} (e : ExSh h) (f : Mf W h h') (o : exoSh W = true) : ExSh h' := by
  unfold exoSh at o
  simp only [Bool.and_eq_true] at o
  refine e.cg (seeV_cs (fun a ha k => ?_)) (fun q hq => ?_) (fun k => (f.2.2.2 97 k (by decide) (off_inw o.1.2 k)).1)
  · have z := List.all_eq_true.mp o.1.1 a ha
    rcases (by decide : ∀ a ∈ seL, (200 ≤ a ∧ a < 300) ∨ a < 200) a ha with u | u
    · exact f.2.1 a u.1 u.2 k
    · exact (f.2.2.2 a k (Or.inl u) (off_inw z k)).1
  · have z := List.all_eq_true.mp o.2 q hq
    rw [Bool.not_eq_true'] at z
    exact (f.2.2.2 q.1 q.2 (Or.inl ((by decide : ∀ q ∈ shQ, q.1 < 200) q hq)) z).1
theorem exSh_F : ExSh HF := by
  refine ⟨by decide +kernel, by decide +kernel, fun s p l x _ _ => ?_⟩
  rw [show h_i HF 20 10 = 0 by decide +kernel] at x
  have x := congrArg Int32.toNatClampNeg x
  rw [on_k (by omega)] at x
  exact absurd x.symm (by show ¬ s = 0; omega)
theorem ExSh.pt {h h1 h2 : Hp_} {x1 x2 x3 r1 r2 : Int32} (e : ExSh h) (I : Iv h) (k1 : PtX x1 x2 x3 h r1 h1) (k2 : PtM x1 x2 x3 h1 r2 h2) : ExSh h2 := by
  obtain ⟨f1, a, _, n⟩ := k1
  have rg := I.2.1 10 1
  rw [show tf 10 1 = (0, 40) by decide +kernel] at rg
  have r0 : 0 ≤ (h_i h 10 1).toInt := rg.1
  have r1' : (h_i h 10 1).toInt ≤ 40 := rg.2
  have t1 : (1 : Int32).toInt = 1 := rfl
  by_cases c : okPx (h_i h 10 1) x1 x2 x3
  · rcases a with a | a
    · have p1 : (h_i h2 10 1).toInt = (h_i h 10 1).toInt + 1 := by rw [(k2.1.2 10 1 (by decide +kernel)).1, a.2.2, tx_add (by rw [t1]; omega) (by rw [t1]; omega), t1]
      have p2 : h_i h2 20 11 = h_i h 20 11 := ((k2.1.2 20 11 (by decide +kernel)).1).trans (f1.2 20 11 (by decide +kernel)).1
      have e1 := e.1
      refine ⟨by rw [p2, p1]; omega, ?_, fun s _ _ _ y _ => ?_⟩
      · rw [(k2.1.2 20 12 (by decide +kernel)).1, (f1.2 20 12 (by decide +kernel)).1, (k2.1.2 20 3 (by decide +kernel)).1, (f1.2 20 3 (by decide +kernel)).1]
        exact e.2.1
      · have y := congrArg Int32.toInt y
        rw [p2, p1] at y
        omega
    · exact absurd c a.1
  · have z := n c
    rw [z] at k2
    exact e.fr k2.1 (by decide +kernel)
theorem ExSh.wt {h h1 h2 : Hp_} {x1 x2 x3 r1 r2 : Int32} (e : ExSh h) (I : Iv h) (W : ExW h) (k1 : WtX x1 x2 x3 h r1 h1) (k2 : WtM x1 x2 x3 h1 r2 h2) : ExSh h2 := by
  obtain ⟨f1, a, _, _, _⟩ := k1
  obtain ⟨f2, b, b1, b2, b3⟩ := k2
  have r8 := w_in I
  have t1 : (1 : Int32).toInt = 1 := rfl
  have e108 : h_i h1 1 108 = h_i h 20 3 := ((f1.2 1 108 (by decide +kernel)).1).trans W.1.symm
  have g3 : h_i h2 20 3 = h_i h1 20 3 := (f2.2 20 3 (by decide +kernel)).1
  have q := okW_eq (x1 := x1) (x2 := x2) (x3 := x3) (m := h_i h 20 3) r8.2
  rw [e108] at b1 b2 b3
  rcases a with a | a
  · have p1 : (h_i h2 20 3).toInt = (h_i h 20 3).toInt + 1 := by rw [g3, a.2.2, tx_add (by rw [t1]; omega) (by rw [t1]; omega), t1]
    have p2 : h_i h2 20 12 = h_i h 20 12 := ((f2.2 20 12 (by decide +kernel)).1).trans (f1.2 20 12 (by decide +kernel)).1
    have e1 := e.2.1
    refine ⟨?_, by rw [p2, p1]; omega, fun s _ _ _ _ y => ?_⟩
    · rw [(f2.2 20 11 (by decide +kernel)).1, (f1.2 20 11 (by decide +kernel)).1, (f2.2 10 1 (by decide +kernel)).1, (f1.2 10 1 (by decide +kernel)).1]
      exact e.1
    · have y := congrArg Int32.toInt y
      rw [p2, p1] at y
      omega
  · have no : ¬ okWn (h_i h 20 3) x1 x2 x3 := fun z => a.1 (q.mpr z)
    have F1 : ∀ c k, inw [20003, 92999, 93999, 94999] c k = false → inw [1108, 281999, 282999, 283999] c k = false → h_i h2 c k = h_i h c k := fun c k o1 o2 => ((f2.2 c k o2).1).trans (f1.2 c k o1).1
    have r281 : ∀ k, h_i h2 281 k = h_i h 281 k := fun k => by rw [b1 k, if_neg (fun y => no y.1), fr_i f1 (by decide +kernel) k]
    have r282 : ∀ k, h_i h2 282 k = h_i h 282 k := fun k => by rw [b2 k, if_neg (fun y => no y.1), fr_i f1 (by decide +kernel) k]
    have r283 : ∀ k, h_i h2 283 k = h_i h 283 k := fun k => by rw [b3 k, if_neg (fun y => no y.1), fr_i f1 (by decide +kernel) k]
    refine e.cg (seeV_cs (fun x hx k => ?_)) (fun x hx => ?_) (fun k => F1 97 k (off_inw (by decide +kernel) k) (off_inw (by decide +kernel) k))
    · by_cases c1 : x = 281
      · subst c1
        exact r281 k
      · by_cases c2 : x = 282
        · subst c2
          exact r282 k
        · by_cases c3 : x = 283
          · subst c3
            exact r283 k
          · have m : x ∈ [30, 227, 228, 229, 230] := (by decide : ∀ x ∈ seL, ¬ x = 281 → ¬ x = 282 → ¬ x = 283 → x ∈ [30, 227, 228, 229, 230]) x hx c1 c2 c3
            exact F1 x k (off_inw ((by decide +kernel : ∀ x ∈ [30, 227, 228, 229, 230], off [20003, 92999, 93999, 94999] x = true) x m) k) (off_inw ((by decide +kernel : ∀ x ∈ [30, 227, 228, 229, 230], off [1108, 281999, 282999, 283999] x = true) x m) k)
    · by_cases c1 : x = (20, 3)
      · subst c1
        show h_i h2 20 3 = h_i h 20 3
        rw [g3]
        exact a.2.2
      · exact F1 x.1 x.2 ((by decide +kernel : ∀ x ∈ shQ, ¬ x = (20, 3) → inw [20003, 92999, 93999, 94999] x.1 x.2 = false) x hx c1) ((by decide +kernel : ∀ x ∈ shQ, inw [1108, 281999, 282999, 283999] x.1 x.2 = false) x hx)
/-- the steps of the beats that were stay -/
theorem bL_bt {N : Nat} {h h1 h2 : Hp_} {r1 r2 : Int32} (T : LiT N h) (k1 : Iv h1 ∧ Fr wbx h h1 ∧ Btx h r1 h1) (k2 : (Iv h2 ∧ J2 h2) ∧ Btm (h_i h 31) (xn h) h1 r2 h2) : (∀ k, k < (h_i h 12 3).toNatClampNeg → bL h2 k = bL h k) ∧ (h_i h 12 3).toNatClampNeg ≤ (h_i h2 12 3).toNatClampNeg := by
  obtain ⟨I1, F1, kn, ky⟩ := k1
  obtain ⟨⟨I2, JJ⟩, F2, c8, mn, my⟩ := k2
  have a42 : h_i h1 1 42 = h_i h 12 3 := (F1.2 1 42 (by decide +kernel)).1.trans T.r2.symm
  rw [a42] at mn my
  have b123 : h_i h2 12 3 = h_i h1 12 3 := (F2.2 12 3 (by decide +kernel)).1
  have f227 : ∀ k, h_i h1 227 k = h_i h 227 k := fun k => fr_i F1 (by decide +kernel) k
  have f228 : ∀ k, h_i h1 228 k = h_i h 228 k := fun k => fr_i F1 (by decide +kernel) k
  have f229 : ∀ k, h_i h1 229 k = h_i h 229 k := fun k => fr_i F1 (by decide +kernel) k
  have f230 : ∀ k, h_i h1 230 k = h_i h 230 k := fun k => fr_i F1 (by decide +kernel) k
  have bb1 : bB h1 = 150 * (h_i h 12 3).toNatClampNeg := by
    show 150 * (h_i h1 1 42).toNatClampNeg = _
    rw [a42]
  have b3 := x12_in T.1
  have n3 := n_nat b3.1
  have t1 : (1 : Int32).toInt = 1 := rfl
  have w227 : ∀ k, k < (h_i h 12 3).toNatClampNeg → h_i h2 227 k = h_i h 227 k := fun k hk => by
    by_cases o : okB (h_i h 31) (xn h) (h_i h 12 3)
    · rw [(my o).2.2.2.1 k, if_neg (by omega), f227]
    · rw [(mn o).2.2.2 k, f227]
  refine ⟨fun k hk => ?_, ?_⟩
  · unfold bL
    rw [w227 k hk]
    refine List.map_congr_left (fun i hi => ?_)
    have hi := List.mem_range.mp hi
    have zk := (z227 T.1 k).1
    have cc := c8 (150 * k + i) (by rw [bb1]; omega)
    unfold sB
    rw [cc.1, cc.2.1, cc.2.2, f228, f229, f230]
  · rw [b123]
    by_cases o : okB (h_i h 31) (xn h) (h_i h 12 3)
    · have ex : (h_i h 12 3 + 1).toInt = (h_i h 12 3).toInt + 1 := tx_add (by rw [t1]; omega) (by rw [t1]; omega)
      have n4 := n_nat (x := h_i h 12 3 + 1) (by omega)
      rw [(ky o).2.1]
      omega
    · rw [(kn o).2.1]
      exact Nat.le_refl _
theorem bit_lt {s b c : Nat} (h : s < 2 ^ b) (y : s / 2 ^ c % 2 = 1) : c < b := by
  rcases Nat.lt_or_ge c b with u | u
  · exact u
  · have p : 2 ^ b ≤ 2 ^ c := Nat.pow_le_pow_right (by decide) u
    rw [Nat.div_eq_of_lt (by omega)] at y
    exact absurd y (by decide)
theorem ExSh.bt {N : Nat} {h h1 h2 : Hp_} {r1 r2 : Int32} (e : ExSh h) (T : LiT N h) (k1 : Iv h1 ∧ Fr wbx h h1 ∧ Btx h r1 h1) (k2 : (Iv h2 ∧ J2 h2) ∧ Btm (h_i h 31) (xn h) h1 r2 h2) : ExSh h2 := by
  have B := bL_bt T k1 k2
  have b3 := x12_in T.1
  have n3' := n_nat b3.1
  have F1 := k1.2.1
  have F2 := k2.2.1
  have g : ∀ c k, inw wbx c k = false → inw wbt c k = false → h_i h2 c k = h_i h c k := fun c k o1 o2 => ((F2.2 c k o2).1).trans (F1.2 c k o1).1
  have n3 : h_i h2 20 3 = h_i h 20 3 := g 20 3 (by decide +kernel) (by decide +kernel)
  have n10 : h_i h2 20 10 = h_i h 20 10 := g 20 10 (by decide +kernel) (by decide +kernel)
  have n11 : h_i h2 20 11 = h_i h 20 11 := g 20 11 (by decide +kernel) (by decide +kernel)
  have n12 : h_i h2 20 12 = h_i h 20 12 := g 20 12 (by decide +kernel) (by decide +kernel)
  have np : h_i h2 10 1 = h_i h 10 1 := g 10 1 (by decide +kernel) (by decide +kernel)
  have ew : wX h2 = wX h := wX_cg (fun k => g 30 k (off_inw (by decide +kernel) k) (off_inw (by decide +kernel) k))
  have r81 : ∀ k, h_i h2 281 k = h_i h 281 k := fun k => g 281 k (off_inw (by decide +kernel) k) (off_inw (by decide +kernel) k)
  have r82 : ∀ k, h_i h2 282 k = h_i h 282 k := fun k => g 282 k (off_inw (by decide +kernel) k) (off_inw (by decide +kernel) k)
  have r83 : ∀ k, h_i h2 283 k = h_i h 283 k := fun k => g 283 k (off_inw (by decide +kernel) k) (off_inw (by decide +kernel) k)
  refine ⟨by rw [n11, np]; exact e.1, by rw [n12, n3]; exact e.2.1, fun s p l x y z => ?_⟩
  rw [n10] at x
  rw [n11, np] at y
  rw [n12, n3] at z
  have G := e.2.2 s p l x y z
  have es : shS h2 s = shS h s := by
    unfold shS
    rw [n3]
    refine bSh_c (fun k hk w _ => ?_)
    have c := chF_in (s := s) 12 k hk
    have lt := bit_lt G.1.1.2 c.2.1
    unfold seeS seeV
    rw [ew, r81, r82, r83, on_k (n := chF s 12 k) (by omega), B.1 _ lt]
  refine ⟨⟨⟨p, Nat.lt_of_lt_of_le G.1.1.2 (Nat.pow_le_pow_right (by decide) B.2)⟩, G.1.2⟩, (g 20 7 (by decide +kernel) (by decide +kernel)).trans G.2.1, ?_⟩
  rw [es]
  exact ⟨by rw [g 20 8 (by decide +kernel) (by decide +kernel)]; exact G.2.2.1, by rw [g 20 9 (by decide +kernel) (by decide +kernel)]; exact G.2.2.2.1, fun zz k hk => by rw [g 97 k (off_inw (by decide +kernel) k) (off_inw (by decide +kernel) k)]; exact G.2.2.2.2 zz k hk⟩
/-! the class: safe and share -/
theorem c_cnX (d : Nat) {h : Hp_} (I : Iv h) (x1 : Int32) : Ci (m_X11_canShare (d + 1) 0 0) [.ref 0, .int x1] h (fun r h' => h' = h ∧ ((∃ s, x1 = Int32.ofNat s ∧ okSh h s ∧ r = 1) ∨ ((∀ s, s < 4096 → x1 = Int32.ofNat s → ¬ okSh h s) ∧ r = 0))) := by
  have b3 := x12_in I
  have n3 := n_nat b3.1
  have t0 : (0 : Int32).toInt = 0 := rfl
  have t5 : (5 : Int32).toInt = 5 := rfl
  have pw := pw_s (b := h_i h 12 3) b3.1 (by omega)
  refine t_X11_canShare d h I.1 x1 _ ⟨fun z => ⟨rfl, Or.inr ⟨fun s l ex ok => ?_, rfl⟩⟩, fun n => ⟨fun z => ⟨rfl, Or.inr ⟨fun s l ex ok => ?_, rfl⟩⟩, fun n2 => Ci.mono (c_bitCount d h x1) (fun r9 h9 q => ?_)⟩⟩
  · have z := q_le.mp z
    have := ok.1.1
    rw [ex, on_j (by omega), t0] at z
    omega
  · have z := q_le.mp z
    have := ok.1.2
    rw [ex, on_j (by omega), pw.1] at z
    omega
  · obtain ⟨q1, q2⟩ := q
    rw [q2]
    have n := q_nle n
    have n2 := q_nle n2
    rw [t0] at n
    rw [pw.1] at n2
    have nx := n_nat (x := x1) (by omega)
    have ex : x1 = Int32.ofNat x1.toNatClampNeg := (of_nat32 (by omega)).symm
    rw [ex, bc_eq (by omega)] at q1
    have cl := cnt_le x1.toNatClampNeg 12
    refine ⟨I.1, fun z => ⟨rfl, Or.inr ⟨fun s l e ok => ?_, rfl⟩⟩, fun z => ⟨rfl, Or.inl ⟨_, ex, ⟨⟨by omega, by omega⟩, ?_⟩, rfl⟩⟩⟩
    · have z := q_lt.mp z
      have es : s = x1.toNatClampNeg := by rw [e, on_k (by omega)]
      have o5 := ok.2
      rw [es] at o5
      rw [q1, on_j (by omega), t5] at z
      omega
    · have z := q_nlt z
      rw [q1, on_j (by omega), t5] at z
      omega
/-- what safe answers -/
noncomputable def SfA (h : Hp_) (x1 r : Int32) : Prop := (∃ s, x1 = Int32.ofNat s ∧ okSh h s ∧ r.toInt = (shS h s).1) ∨ ((∀ s, s < 4096 → x1 = Int32.ofNat s → ¬ okSh h s) ∧ r = -1)
theorem c_sfX {N : Nat} (d : Nat) {h : Hp_} (I : Iv h) (L : LiT N h) (R : ExP h) (S : ExS h) (W : ExW h) (E : ExSh h) (x1 : Int32) : Ci (m_X11_safe (d + 10) 0 0) [.ref 0, .int x1] h (fun r h' => Iv h' ∧ Fr wFs h h' ∧ ExSh h' ∧ SfA h x1 r) := by
  refine t_X11_safe d h I.1 x1 _ (Ci.mono (c_cnX d I x1) (fun r h1 k => ?_))
  obtain ⟨eh, k⟩ := k
  rw [eh]
  rcases k with ⟨s, ex, ok, er⟩ | ⟨no, er⟩
  · refine ⟨I.1, fun z => absurd (er.symm.trans z) (by decide), fun _ => ?_⟩
    rw [ex]
    refine t_X6_safety d h I.1 _ _ (Cv.mono (c_fiX d I L R S W E ok) (fun h2 q => ⟨q.1.1, q.1.1, q.1, q.2.1, q.2.2.1, Or.inl ⟨s, rfl, ok, ?_⟩⟩))
    have F := q.2.1
    have es : shS h2 s = shS h s := by
      unfold shS seeS
      rw [seeV_fr F (by decide +kernel), (F.2 20 3 (by decide +kernel)).1]
    rw [← es]
    exact q.2.2.2.2.2.1
  · refine ⟨I.1, fun _ => ⟨I, Fr.rf _ _, E, Or.inr ⟨no, rfl⟩⟩, fun z => absurd er z⟩
theorem okSh_cg {h h' : Hp_} {s : Nat} (e : h_i h' 12 3 = h_i h 12 3) : okSh h' s ↔ okSh h s := by
  unfold okSh
  rw [e]
/-! SHARES: share -/
theorem cnt_md {s b : Nat} (_hs : s < 4096) (hb : b < 12) : cnt (s % 2 ^ b) 12 = cnt s b := by
  have tp := cnt_top (s := s % 2 ^ b) (b := b) (Nat.mod_lt _ (Nat.two_pow_pos b)) (c := 12) (by omega)
  rw [tp]
  have H : ∀ c, c ≤ b → cnt (s % 2 ^ b) c = cnt s c := by
    intro c
    induction c with
    | zero => intro _; rfl
    | succ c ih =>
      intro hc
      have e1 : s % 2 ^ b / 2 ^ c % 2 = s / 2 ^ c % 2 := by
        obtain ⟨t, et⟩ : ∃ t, b = c + (t + 1) := ⟨b - c - 1, by omega⟩
        have dv : (2 : Nat) ∣ 2 ^ (t + 1) := ⟨2 ^ t, by rw [Nat.pow_succ, Nat.mul_comm]⟩
        rw [et, Nat.pow_add, Nat.mod_mul_right_div_self, Nat.mod_mod_of_dvd _ dv]
      rw [cnt_s, cnt_s, ih (by omega), e1]
  exact H b (Nat.le_refl _)
theorem and_md {s b : Nat} (hs : s < 4096) (hb : b < 12) : Int32.ofNat s &&& (((1 : Int32) <<< (Int32.ofNat b &&& 31)) - 1) = Int32.ofNat (s % 2 ^ b) := by
  have ob := on_j (n := b) (by omega)
  have os := on_j (n := s) (by omega)
  have t1 : (1 : Int32).toInt = 1 := rfl
  have ns : nv (Int32.ofNat s) = s := by have := nv_of (x := Int32.ofNat s) (by omega); omega
  have pw := pw_s (b := Int32.ofNat b) (by omega) (by omega)
  rw [on_k (n := b) (by omega)] at pw
  have pp : 0 < 2 ^ b := Nat.two_pow_pos _
  have md := Nat.mod_lt s pp
  have sm : (((1 : Int32) <<< (Int32.ofNat b &&& 31)) - 1).toInt = (2 ^ b : Nat) - 1 := by rw [tx_sub (by rw [t1, pw.1]; omega) (by rw [t1, pw.1]; omega), t1, pw.1]
  have n1 : nv (((1 : Int32) <<< (Int32.ofNat b &&& 31)) - 1) = 2 ^ b - 1 := by have := nv_of (x := ((1 : Int32) <<< (Int32.ofNat b &&& 31)) - 1) (by omega); omega
  have z : nv (Int32.ofNat s &&& (((1 : Int32) <<< (Int32.ofNat b &&& 31)) - 1)) = s % 2 ^ b := by rw [nv_and, ns, n1, Nat.and_two_pow_sub_one_eq_mod]
  refine Int32.toInt_inj.mp ?_
  rw [nv_pos (by omega), z, on_j (by omega)]
/-- what share answers -/
noncomputable def ShA (h : Hp_) (x1 x2 r : Int32) : Prop := (∃ s b, x1 = Int32.ofNat s ∧ okSh h s ∧ x2 = Int32.ofNat b ∧ b < 12 ∧ s / 2 ^ b % 2 = 1 ∧ r = Int32.ofNat ((shS h s).2.2 (cnt s b))) ∨ ((∀ s b, s < 4096 → x1 = Int32.ofNat s → okSh h s → x2 = Int32.ofNat b → b < 12 → ¬ s / 2 ^ b % 2 = 1) ∧ r = -1)
theorem c_shX {N : Nat} (d : Nat) {h : Hp_} (I : Iv h) (L : LiT N h) (R : ExP h) (S : ExS h) (W : ExW h) (E : ExSh h) (x1 x2 : Int32) : Ci (m_X11_share (d + 10) 0 0) [.ref 0, .int x1, .int x2] h (fun r h' => Iv h' ∧ Fr wFs h h' ∧ ExSh h' ∧ ShA h x1 x2 r) := by
  have b3 := x12_in I
  have n3 := n_nat b3.1
  have t0 : (0 : Int32).toInt = 0 := rfl
  have t1 : (1 : Int32).toInt = 1 := rfl
  refine t_X11_share d h I.1 x1 x2 _ (Ci.mono (c_cnX d I x1) (fun r h1 k => ?_))
  obtain ⟨eh, k⟩ := k
  rw [eh]
  rcases k with ⟨s, ex, ok, er⟩ | ⟨no, er⟩
  · have s4 := p12_lt ok.1.2 (by omega)
    refine ⟨I.1, fun z => absurd (er.symm.trans z) (by decide), fun _ => Ci.mono (c_has d I x2) (fun r2 h2 k2 => ?_)⟩
    obtain ⟨eh2, k2⟩ := k2
    rw [eh2]
    rcases k2 with ⟨e2, y⟩ | ⟨e2, y⟩
    · have y1 := q_nlt y.1
      have y2 := q_nle y.2
      rw [t0] at y1
      have nx := n_nat (x := x2) y1
      have ex2 : x2 = Int32.ofNat x2.toNatClampNeg := (of_nat32 y1).symm
      have bt := bit_s (s := s) (b := x2.toNatClampNeg) s4 (by omega)
      rw [← ex2, ← ex] at bt
      refine ⟨I.1, fun z => absurd (e2.symm.trans z) (by decide), fun _ => ⟨fun n0 => ?_, fun z => ⟨I, Fr.rf _ _, E, Or.inr ⟨fun s' b' l e1 ok' eb lb y' => ?_, rfl⟩⟩⟩⟩
      · have y9 : s / 2 ^ x2.toNatClampNeg % 2 = 1 := by
          rcases Nat.mod_two_eq_zero_or_one (s / 2 ^ x2.toNatClampNeg) with q | q
          · exfalso
            apply n0
            have m1 : nv (x1 >>> (x2 &&& 31) &&& 1) = s / 2 ^ x2.toNatClampNeg % 2 := by
              have os := on_j (n := s) (by omega)
              have nb : nv x2 = x2.toNatClampNeg := by have := nv_of (x := x2) y1; omega
              have ns : nv (Int32.ofNat s) = s := by have := nv_of (x := Int32.ofNat s) (by omega); omega
              rw [ex, nv_and, nv_shr (by omega) (by omega) (by omega), nb, ns, show nv 1 = 1 by decide, Nat.and_one_is_mod]
            refine Int32.toInt_inj.mp ?_
            rw [nv_pos (by omega), m1, q]
            rfl
          · exact q
        rw [ex]
        refine t_X6_sharesOf d h I.1 _ x2 _ (Cv.mono (c_fiX d I L R S W E ok) (fun h3 q => ⟨q.1.1, Ci.mono (c_bitCount d h3 _) (fun r6 h4 k6 => ?_)⟩))
        obtain ⟨e6, e7⟩ := k6
        rw [e7]
        have F := q.2.1
        have lt := chF_b (s := s) (b := 12) y9 (by omega)
        have o5 := ok.2
        rw [ex2, and_md s4 (by omega), bc_eq (Nat.lt_of_le_of_lt (Nat.mod_le _ _) s4), cnt_md s4 (by omega)] at e6
        have e207 : h_i h3 20 7 = Int32.ofNat (cnt s 12) := q.2.2.2.2.1
        have s1 : (Int32.ofNat (cnt s 12) - 1).toInt = (cnt s 12 : Int) - 1 := by rw [tx_sub (by rw [on_j (by omega), t1]; omega) (by rw [on_j (by omega), t1]; omega), on_j (by omega), t1]
        have es : shS h3 s = shS h s := by
          unfold shS seeS
          rw [seeV_fr F (by decide +kernel), (F.2 20 3 (by decide +kernel)).1]
        refine ⟨q.1.1, fun z => ?_, fun _ => ?_⟩
        · exfalso
          apply z
          rw [e6, e207]
          exact ⟨q_le.mpr (by rw [t0, on_j (by omega)]; omega), q_le.mpr (by rw [s1, on_j (by omega)]; omega)⟩
        · rw [e6]
          refine ⟨on_in (by omega) (by decide), q.1.1, q.1, q.2.1, q.2.2.1, Or.inl ⟨s, x2.toNatClampNeg, rfl, ok, ex2, by omega, y9, ?_⟩⟩
          rw [on_k (by omega), ← es]
          exact q.2.2.2.2.2.2.2 (bSh_nn _ _ _) _ lt.1
      · have es : s' = s := by
          have x := congrArg Int32.toNatClampNeg (e1.symm.trans ex)
          rw [on_k (by omega), on_k (by omega)] at x
          exact x
        have eb2 : b' = x2.toNatClampNeg := by rw [eb, on_k (by omega)]
        rw [es, eb2] at y'
        have := bt.mpr y'
        rw [z] at this
        exact absurd this (by decide)
    · refine ⟨I.1, fun _ => ⟨I, Fr.rf _ _, E, Or.inr ⟨fun s' b' l e1 ok' eb lb y' => ?_, rfl⟩⟩, fun z => absurd e2 z⟩
      have lt := bit_lt ok'.1.2 y'
      refine y ⟨fun z => ?_, fun z => ?_⟩
      · have z := q_lt.mp z
        rw [eb, on_j (by omega), t0] at z
        omega
      · have z := q_le.mp z
        rw [eb, on_j (by omega)] at z
        omega
  · exact ⟨I.1, fun _ => ⟨I, Fr.rf _ _, E, Or.inr ⟨fun s b l e1 ok => absurd ok (no s l e1), rfl⟩⟩, fun z => absurd er z⟩
theorem c_shM {N : Nat} (d : Nat) {h : Hp_} (I : Iv h) (R : ExP h) (S : ExS h) (W : ExW h) (e42 : h_i h 1 42 = h_i h 12 3) (x1 x2 : Int32) : Ci (m_X12_share (d + 9) 0 0) [.ref 1, .int x1, .int x2] h (fun r h' => Iv h' ∧ Fr wFm h h' ∧ ShA h x1 x2 r) := by
  have b3 := x12_in I
  have n3 := n_nat b3.1
  refine t_X12_share d h I.1 x1 x2 _ (Ci.mono (c_fiM (N := N) d I R S W e42 x1) (fun r h1 k => ?_))
  obtain ⟨I1, F1, k⟩ := k
  rcases k with ⟨s, ex, ok, er, e113, eC, B⟩ | ⟨no, er⟩
  · have s4 := p12_lt ok.1.2 (by omega)
    have o5 := ok.2
    have lp : ∀ (t i : Nat), i + t = cnt s 12 → (∀ k, k < i → ¬ h_i h1 284 k = x2) → AW (m_X12_share (d + 9) 0 0) 0 0 12 [(0, .ref 1), (2, .int x2), (3, .int (Int32.ofNat i))] [] h1 (kI (fun r h' => Iv h' ∧ Fr wFm h h' ∧ ShA h x1 x2 r)) := by
      intro t
      induction t with
      | zero =>
        intro i e nn
        have ei : i = cnt s 12 := by omega
        refine t_X12_share_12 d h1 I1.1 _ _ _ ⟨fun _ => ⟨I1, F1, Or.inr ⟨fun s' b l e1 ok' eb lb y => ?_, rfl⟩⟩, fun z => ?_⟩
        · have es : s' = s := by
            have x := congrArg Int32.toNatClampNeg (e1.symm.trans ex)
            rw [on_k (by omega), on_k (by omega)] at x
            exact x
          subst es
          have c := chF_b (s := s') (b := 12) y lb
          exact nn (cnt s' b) (by omega) (by rw [eC _ c.1, c.2]; exact eb.symm)
        · have z := q_nle z
          rw [e113, on_j (by omega), on_j (by omega)] at z
          omega
      | succ t ih =>
        intro i e nn
        have v := on_in (n := i) (N := 5) (by omega) (by decide)
        have ki := on_k (n := i) (by omega)
        refine t_X12_share_12 d h1 I1.1 _ _ _ ⟨fun z => ?_, fun _ => ⟨v, fun n => ?_, fun y => ⟨v, ?_⟩⟩⟩
        · have z := q_le.mp z
          rw [e113, on_j (by omega), on_j (by omega)] at z
          omega
        · rw [on_s (n := i) (by omega)]
          refine ih (i + 1) (by omega) (fun k hk => ?_)
          by_cases c : k = i
          · subst c
            rw [ki] at n
            exact n
          · exact nn k (by omega)
        · rw [ki] at y ⊢
          have c := chF_in (s := s) 12 i (by omega)
          rw [eC i (by omega)] at y
          refine ⟨I1, F1, Or.inl ⟨s, chF s 12 i, ex, ok, y.symm, c.1, c.2.1, ?_⟩⟩
          rw [c.2.2]
          exact B.2.2 (bSh_nn _ _ _) i (by omega)
    exact ⟨I1.1, fun _ => lp _ 0 (Nat.zero_add _) (fun k hk => absurd hk (by omega)), fun z => absurd (er.symm.trans z) (by decide)⟩
  · exact ⟨I1.1, fun z => absurd er z, fun _ => ⟨I1, F1, Or.inr ⟨fun s b l e1 ok => absurd ok (no s l e1), rfl⟩⟩⟩
theorem shA_eq {h h' : Hp_} {x1 x2 r1 r2 : Int32} (es : ∀ s, shS h' s = shS h s) (eo : h_i h' 12 3 = h_i h 12 3) (I : Iv h) (a : ShA h x1 x2 r1) (b : ShA h' x1 x2 r2) : r1 = r2 := by
  have b3 := x12_in I
  have n3 := n_nat b3.1
  rcases a with ⟨s, c, ex, ok, e2, l, y, er⟩ | ⟨no, er⟩ <;> rcases b with ⟨s', c', ex', ok', e2', l', y', er'⟩ | ⟨no', er'⟩
  · have s4 := p12_lt ok.1.2 (by omega)
    have s4' := p12_lt ((okSh_cg eo).mp ok').1.2 (by omega)
    have x := congrArg Int32.toNatClampNeg (ex.symm.trans ex')
    rw [on_k (by omega), on_k (by omega)] at x
    have z := congrArg Int32.toNatClampNeg (e2.symm.trans e2')
    rw [on_k (by omega), on_k (by omega)] at z
    subst x z
    rw [er, er', es]
  · exact absurd y (no' s c (p12_lt ok.1.2 (by omega)) ex ((okSh_cg eo).mpr ok) e2 l)
  · exact absurd y' (no s' c' (p12_lt ((okSh_cg eo).mp ok').1.2 (by omega)) ex' ((okSh_cg eo).mp ok') e2' l')
  · exact er.trans er'.symm
end
