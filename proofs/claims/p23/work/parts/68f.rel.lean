/-! what class and reference keep alike; what the law's loop keeps -/
def rlT : List ((Nat × Nat) × Nat) := [((11, 1), 32), ((12, 3), 42)]
theorem rlT_F : Rlf rlT HF := fun q hq => by
  have z : rlT.all (fun q => h_i HF q.1.1 q.1.2 == h_i HF 1 q.2) = true := by decide +kernel
  exact eq_of_beq (List.all_eq_true.mp z q hq)
/-- the tape, and how many acts and pays there are -/
def ExT (h : Hp_) : Prop := (∀ k, k < xn h → h_i h 225 k = h_i h 31 k) ∧ h_i h 235 0 = h_i h 13 5 ∧ h_i h 235 1 = h_i h 14 5
def exoT (ws : List Nat) : Bool := off ws 31 && off ws 225 && off ws 235 && !inw ws 11 1 && !inw ws 13 5 && !inw ws 14 5
theorem exT_F : ExT HF := by
  have z : xn HF = 0 := by
    show (h_i HF 11 1).toNatClampNeg = 0
    rw [show h_i HF 11 1 = 0 by decide +kernel]
    rfl
  exact ⟨fun k hk => absurd hk (by rw [z]; omega), by decide +kernel, by decide +kernel⟩
theorem ExT.cg {h h' : Hp_} (e : ExT h) (a : ∀ k, h_i h' 31 k = h_i h 31 k) (b : ∀ k, h_i h' 225 k = h_i h 225 k) (c : ∀ k, h_i h' 235 k = h_i h 235 k) (n : h_i h' 11 1 = h_i h 11 1) (p : h_i h' 13 5 = h_i h 13 5) (q : h_i h' 14 5 = h_i h 14 5) : ExT h' := by
  refine ⟨fun k hk => ?_, by rw [c, p]; exact e.2.1, by rw [c, q]; exact e.2.2⟩
  rw [a, b]
  refine e.1 k ?_
  have hk : k < (h_i h' 11 1).toNatClampNeg := hk
  rw [n] at hk
  exact hk
theorem ExT.fr {ws : List Nat} {h h' : Hp_} (e : ExT h) (f : Fr ws h h') (o : exoT ws = true) : ExT h' := by
  unfold exoT at o
  simp only [Bool.and_eq_true, Bool.not_eq_true'] at o
  exact e.cg (fun k => fr_i f o.1.1.1.1.1 k) (fun k => fr_i f o.1.1.1.1.2 k) (fun k => fr_i f o.1.1.1.2 k) (f.2 11 1 o.1.1.2).1 (f.2 13 5 o.1.2).1 (f.2 14 5 o.2).1
theorem ExT.mf {W : List Nat} {h h' : Hp_} (e : ExT h) (f : Mf W h h') (o : exoT W = true) : ExT h' := by
  unfold exoT at o
  simp only [Bool.and_eq_true, Bool.not_eq_true'] at o
  exact e.cg (fun k => (f.2.2.2 31 k (by decide) (off_inw o.1.1.1.1.1 k)).1) (fun k => f.2.1 225 (by decide) (by decide) k) (fun k => f.2.1 235 (by decide) (by decide) k) (f.2.2.2 11 1 (by decide) o.1.1.2).1 (f.2.2.2 13 5 (by decide) o.1.2).1 (f.2.2.2 14 5 (by decide) o.2).1
/-- of each beat how many steps, how many of them points -/
def ExB (h : Hp_) : Prop := ∀ k, k < (h_i h 12 3).toNatClampNeg → h_i h 35 k = h_i h 227 k ∧ (h_i h 36 k).toInt = (mP (h_i h 228) k (h_i h 227 k).toNatClampNeg 0 : Int)
def exoB (ws : List Nat) : Bool := off ws 35 && off ws 36 && off ws 227 && off ws 228 && !inw ws 12 3
theorem ExB.cg {h h' : Hp_} (e : ExB h) (a : ∀ k, h_i h' 35 k = h_i h 35 k) (b : ∀ k, h_i h' 36 k = h_i h 36 k) (c : ∀ k, h_i h' 227 k = h_i h 227 k) (d : ∀ k, h_i h' 228 k = h_i h 228 k) (n : h_i h' 12 3 = h_i h 12 3) : ExB h' := fun k hk => by
  rw [n] at hk
  rw [a, b, c, show h_i h' 228 = h_i h 228 from funext d]
  exact e k hk
theorem ExB.fr {ws : List Nat} {h h' : Hp_} (e : ExB h) (f : Fr ws h h') (o : exoB ws = true) : ExB h' := by
  unfold exoB at o
  simp only [Bool.and_eq_true, Bool.not_eq_true'] at o
  exact e.cg (fun k => fr_i f o.1.1.1.1 k) (fun k => fr_i f o.1.1.1.2 k) (fun k => fr_i f o.1.1.2 k) (fun k => fr_i f o.1.2 k) (f.2 12 3 o.2).1
theorem ExB.mf {W : List Nat} {h h' : Hp_} (e : ExB h) (f : Mf W h h') (o : exoB W = true) : ExB h' := by
  unfold exoB at o
  simp only [Bool.and_eq_true, Bool.not_eq_true'] at o
  exact e.cg (fun k => (f.2.2.2 35 k (by decide) (off_inw o.1.1.1.1 k)).1) (fun k => (f.2.2.2 36 k (by decide) (off_inw o.1.1.1.2 k)).1) (fun k => f.2.1 227 (by decide) (by decide) k) (fun k => f.2.1 228 (by decide) (by decide) k) (f.2.2.2 12 3 (by decide) o.2).1
def ExTB (h : Hp_) : Prop := ExT h ∧ ExB h
def exoTB (ws : List Nat) : Bool := exoT ws && exoB ws
theorem exTB_F : ExTB HF := ⟨exT_F, fun k hk => by
  rw [show h_i HF 12 3 = 0 by decide +kernel] at hk
  exact absurd hk (by show ¬ k < 0; omega)⟩
theorem ExTB.fr {ws : List Nat} {h h' : Hp_} (e : ExTB h) (f : Fr ws h h') (o : exoTB ws = true) : ExTB h' := by
  unfold exoTB at o
  rw [Bool.and_eq_true] at o
  exact ⟨e.1.fr f o.1, e.2.fr f o.2⟩
theorem ExTB.mf {W : List Nat} {h h' : Hp_} (e : ExTB h) (f : Mf W h h') (o : exoTB W = true) : ExTB h' := by
  unfold exoTB at o
  rw [Bool.and_eq_true] at o
  exact ⟨e.1.mf f o.1, e.2.mf f o.2⟩
/-- the men, and what this row wants besides -/
def MefT (h : Hp_) : Prop := Mn h ∧ ExTB h
def LiT (N : Nat) (h : Hp_) : Prop := Iv h ∧ J2 h ∧ h_sh h 2 = some (3, 1) ∧ (∃ c, h_r h 0 15 = some c ∧ h_sh h c = some (3, N)) ∧ Rlf rlT h ∧ MefT h
theorem LiT.z {N : Nat} {h : Hp_} (L : LiT N h) : Li0 N h := ⟨L.1, L.2.1, L.2.2.1, L.2.2.2.1⟩
theorem Li0.liT {N : Nat} {h : Hp_} (L : Li0 N h) (R : Rlf rlT h) (m : MefT h) : LiT N h := ⟨L.1, L.2.1, L.2.2.1, L.2.2.2, R, m⟩
theorem Mn.fr {ws : List Nat} {h h' : Hp_} (m : Mn h) (f : Fr ws h h') (o : (!inw ws 0 7 && off ws 15) = true) : Mn h' := fun k hk hm => by
  rw [Bool.and_eq_true, Bool.not_eq_true'] at o
  rw [(f.2 15 k (off_inw o.2 k)).2.2]
  exact m k hk (by rw [(f.2 0 7 o.1).1] at hm; exact hm)
theorem MefT.fr {ws : List Nat} {h h' : Hp_} (m : MefT h) (f : Fr ws h h') (o : (!inw ws 0 7 && off ws 15 && exoTB ws) = true) : MefT h' := by
  rw [Bool.and_eq_true] at o
  exact ⟨m.1.fr f o.1, m.2.fr f o.2⟩
theorem mn_F : Mn HF := fun k hk hm => by
  rw [show h_i HF 0 7 = 0 by decide +kernel] at hm
  have z : (0 : Int32).toInt = 0 := rfl
  omega
theorem liT_F : LiT 0 HF := li0_F.liT rlT_F ⟨mn_F, exTB_F⟩
theorem LiT.fr {N : Nat} {ws : List Nat} {h h' : Hp_} (L : LiT N h) (I : Iv h') (f : Fr ws h h') (o : ((jso ws && !inw ws 0 15) && rlT.all (fun q => !inw ws q.1.1 q.1.2 && !inw ws 1 q.2) && (!inw ws 0 7 && off ws 15 && exoTB ws)) = true) : LiT N h' := by
  rw [Bool.and_eq_true, Bool.and_eq_true (jso ws && !inw ws 0 15)] at o
  exact (L.z.fr I f o.1.1).liT (L.2.2.2.2.1.fr f o.1.2) (L.2.2.2.2.2.fr f o.2)
theorem LiT.sr {N : Nat} {h h' : Hp_} (L : LiT N h) (I : Iv h') (J : J2 h') (s : Sr h h') : LiT N h' := (L.z.sn I J s.sn).liT (L.2.2.2.2.1.fr s (by decide +kernel)) (L.2.2.2.2.2.fr s (by decide +kernel))
theorem Mn.mf {h h' : Hp_} (m : Mn h) (f : Mf wsX h h') : Mn h' := fun k hk hm => by
  rw [(f.2.2.2 15 k (by decide) (off_inw (by decide +kernel) k)).2]
  exact m k hk (by rw [(f.2.2.2 0 7 (by decide) (by decide +kernel)).1] at hm; exact hm)
theorem MefT.mf {h h' : Hp_} (m : MefT h) (f : Mf wsX h h') : MefT h' := ⟨m.1.mf f, m.2.mf f (by decide +kernel)⟩
theorem MefT.con {h h' : Hp_} {x1 x2 x3 r : Int32} (m : MefT h) (k : Cy x1 x2 x3 h r h') : MefT h' := ⟨k.2.2.1 m.1, m.2.mf k.1.2.1 (by decide +kernel)⟩
theorem LiT.con2 {N : Nat} {h h1 h2 : Hp_} {x1 x2 x3 r1 r2 : Int32} (L : LiT N h) (k1 : Cy x1 x2 x3 h r1 h1) (k2 : Iv h2 ∧ J2 h2 ∧ Sn h1 h2 ∧ ocm (h_i h1 1 7) x1 x2 x3 r2 (h_i h2 1 7) ∧ Cw (okm (h_i h1 1 7) x1 x2 x3) (h_i h1 1 7) x1 h1 h2) : LiT N h2 := ((L.z.con k1.1).sn k2.1 k2.2.1 k2.2.2.1).liT ((L.2.2.2.2.1.mf k1.1.2.1 (by decide +kernel)).fr k2.2.2.1 (by decide +kernel)) ((L.2.2.2.2.2.con k1).fr k2.2.2.1 (by decide +kernel))
theorem LiT.tick2 {N N' : Nat} {h h1 h2 : Hp_} {x r1 r2 : Int32} (L : LiT N h) (k1 : Iv h1 ∧ Mf wsX h h1 ∧ (∃ c', h_r h1 0 15 = some c' ∧ h_sh h1 c' = some (3, N')) ∧ otk (h_i h 0 0) x r1 (h_i h1 0 0)) (k2 : Iv h2 ∧ J2 h2 ∧ Fr wsT h1 h2 ∧ otk (h_i h1 1 0) x r2 (h_i h2 1 0)) : LiT N' h2 := ((L.z.tick k1).st k2.1 k2.2.1 k2.2.2.1).liT ((L.2.2.2.2.1.mf k1.2.1 (by decide +kernel)).fr k2.2.2.1 (by decide +kernel)) ((L.2.2.2.2.2.mf k1.2.1).fr k2.2.2.1 (by decide +kernel))
theorem LiT.sb {N : Nat} {ws : List Nat} {h h' : Hp_} (L : LiT N h) (I : Iv h') (J : J2 h') (f : Fr ws h h') (o : inw ws 0 15 = false) : Li0 N h' := by
  obtain ⟨c, a, b⟩ := L.2.2.2.1
  exact ⟨I, J, by rw [f.1]; exact L.2.2.1, c, by rw [(f.2 0 15 o).2.2]; exact a, by rw [f.1]; exact b⟩
theorem LiT.r1 {N : Nat} {h : Hp_} (L : LiT N h) : h_i h 11 1 = h_i h 1 32 := L.2.2.2.2.1 ((11, 1), 32) (by decide)
theorem LiT.r2 {N : Nat} {h : Hp_} (L : LiT N h) : h_i h 12 3 = h_i h 1 42 := L.2.2.2.2.1 ((12, 3), 42) (by decide)
theorem Rlf.mk {h : Hp_} (a : h_i h 11 1 = h_i h 1 32) (b : h_i h 12 3 = h_i h 1 42) : Rlf rlT h := fun q hq => by
  simp only [rlT, List.mem_cons, List.not_mem_nil, or_false] at hq
  rcases hq with u | u <;> subst u
  · exact a
  · exact b
/-- what the reference's readers want to know of the tape -/
def Qt (b : Nat → Int32) (n : Nat) (h : Hp_) : Prop := Tp b n h ∧ (∀ k, k < n → ¬ b k = -1) ∧ J2 h
theorem LiT.q {N : Nat} {ws : List Nat} {h h1 : Hp_} (L : LiT N h) (f : Fr ws h h1) (o : (jso ws && off ws 225 && !inw ws 1 32) = true) : Qt (h_i h 31) (xn h) h1 := by
  simp only [Bool.and_eq_true, Bool.not_eq_true'] at o
  refine ⟨⟨fun k hk => ?_, ?_⟩, fun k _ e => ?_, J2_s (Js.fr f o.1.1) L.2.1⟩
  · rw [fr_i f o.1.2 k]
    exact L.2.2.2.2.2.2.1.1 k hk
  · show (h_i h1 1 32).toNatClampNeg = (h_i h 11 1).toNatClampNeg
    rw [(f.2 1 32 o.2).1, L.r1]
  · have q := (b31_in L.1 k).1
    rw [e] at q
    exact absurd q (by decide)
/-! beat, act, pay, feed, end: neither compared here, and what they do to the tape -/
theorem c_btX (d : Nat) {h : Hp_} (I : Iv h) : Ci (m_X11_beat (d + 105) 0 0) [.ref 0] h (fun r h' => Iv h' ∧ Fr wbx h h' ∧ Btx h r h') := c_btx2 d I
theorem c_btM (d : Nat) {b : Nat → Int32} {n : Nat} {h : Hp_} (I : Iv h) (q : Qt b n h) : Ci (m_X12_beat (d + 80 + 60) 0 0) [.ref 1] h (fun r h' => (Iv h' ∧ J2 h') ∧ Btm b n h r h') := c_beatf d q.2.1 I q.2.2 q.1
theorem LiT.bt {N : Nat} {h h1 h2 : Hp_} {r1 r2 : Int32} (L : LiT N h) (k1 : Iv h1 ∧ Fr wbx h h1 ∧ Btx h r1 h1) (k2 : (Iv h2 ∧ J2 h2) ∧ Btm (h_i h 31) (xn h) h1 r2 h2) : LiT N h2 ∧ r1 = r2 := by
  obtain ⟨I1, F1, kn, ky⟩ := k1
  obtain ⟨⟨I2, JJ⟩, F2, c8, mn, my⟩ := k2
  have a42 : h_i h1 1 42 = h_i h 12 3 := (F1.2 1 42 (by decide +kernel)).1.trans L.r2.symm
  have a32 : h_i h1 1 32 = h_i h 11 1 := (F1.2 1 32 (by decide +kernel)).1.trans L.r1.symm
  rw [a42] at mn my
  have b123 : h_i h2 12 3 = h_i h1 12 3 := (F2.2 12 3 (by decide +kernel)).1
  have b111 : h_i h2 11 1 = h_i h1 11 1 := (F2.2 11 1 (by decide +kernel)).1
  have F12 : Fr (wbx ++ wbt) h h2 := (F1.more (by decide +kernel)).tr (F2.more (by decide +kernel))
  have Z : Li0 N h2 := L.sb I2 JJ F12 (by decide +kernel)
  have mm : Mn h2 := L.2.2.2.2.2.1.fr F12 (by decide +kernel)
  have e31 : ∀ k, h_i h2 31 k = h_i h 31 k := fun k => fr_i F12 (by decide +kernel) k
  have e225 : ∀ k, h_i h2 225 k = h_i h 225 k := fun k => fr_i F12 (by decide +kernel) k
  have e235 : ∀ k, h_i h2 235 k = h_i h 235 k := fun k => fr_i F12 (by decide +kernel) k
  have e13 : h_i h2 13 5 = h_i h 13 5 := (F12.2 13 5 (by decide +kernel)).1
  have e14 : h_i h2 14 5 = h_i h 14 5 := (F12.2 14 5 (by decide +kernel)).1
  have X0 := L.2.2.2.2.2.2.1
  have B0 := L.2.2.2.2.2.2.2
  have f227 : ∀ k, h_i h1 227 k = h_i h 227 k := fun k => fr_i F1 (by decide +kernel) k
  have f228 : ∀ k, h_i h1 228 k = h_i h 228 k := fun k => fr_i F1 (by decide +kernel) k
  have g35 : ∀ k, h_i h2 35 k = h_i h1 35 k := fun k => fr_i F2 (by decide +kernel) k
  have g36 : ∀ k, h_i h2 36 k = h_i h1 36 k := fun k => fr_i F2 (by decide +kernel) k
  have bb1 : bB h1 = 150 * (h_i h 12 3).toNatClampNeg := by
    show 150 * (h_i h1 1 42).toNatClampNeg = _
    rw [a42]
  have b3 := x12_in L.1
  have n3 := n_nat b3.1
  have lw : ∀ k, k < (h_i h 12 3).toNatClampNeg → h_i h1 35 k = h_i h 35 k → h_i h1 36 k = h_i h 36 k → h_i h2 227 k = h_i h 227 k → h_i h2 35 k = h_i h2 227 k ∧ (h_i h2 36 k).toInt = (mP (h_i h2 228) k (h_i h2 227 k).toNatClampNeg 0 : Int) := fun k hk x y w => by
    have q := B0 k hk
    have rg := L.1.2.1 227 k
    rw [tfa_tf (show tfa 227 = some (0, 150) by decide +kernel)] at rg
    have r0 : 0 ≤ (h_i h 227 k).toInt := rg.1
    have r1' : (h_i h 227 k).toInt ≤ 150 := rg.2
    have rn := n_nat r0
    rw [g35, g36, x, y, w, mP_same (wh := h_i h 228) (fun z u v => by rw [(c8 z (by rw [bb1]; omega)).1, f228])]
    exact q
  by_cases o : okB (h_i h 31) (xn h) (h_i h 12 3)
  · have ky := ky o
    have my := my o
    have t1 : (1 : Int32).toInt = 1 := rfl
    have ex : (h_i h 12 3 + 1).toInt = (h_i h 12 3).toInt + 1 := tx_add (by rw [t1]; omega) (by rw [t1]; omega)
    have n4 := n_nat (x := h_i h 12 3 + 1) (by omega)
    have RB : ExB h2 := fun k hk => by
      rw [b123, ky.2.1] at hk
      have w : h_i h2 227 k = if k = (h_i h 12 3).toNatClampNeg then Int32.ofNat (beo (h_i h 31) (xn h)).length else h_i h 227 k := by rw [my.2.2.2.1 k, f227]
      have x35 := ky.2.2.2.1 k
      have x36 := ky.2.2.2.2.1 k
      rcases Nat.lt_or_ge k (h_i h 12 3).toNatClampNeg with u | u
      · have nk : ¬ k = (h_i h 12 3).toNatClampNeg := by omega
        rw [if_neg nk] at w x35 x36
        exact lw k u x35 x36 w
      · have ek : k = (h_i h 12 3).toNatClampNeg := by omega
        rw [if_pos ek] at w x35 x36
        have l150 := o.2.2
        have ml := mts_l (beo (h_i h 31) (xn h))
        refine ⟨by rw [g35, x35, w], ?_⟩
        rw [g36, x36, w, on_k (by omega), on_j (by omega), mP_mts _ 0 (fun j x e => ?_)]
        have q := (my.2.2.2.2.1 j x e).1
        rw [bb1, ← ek] at q
        rw [Nat.zero_add]
        exact q
    refine ⟨Z.liT (Rlf.mk ?_ ?_) ⟨mm, ⟨fun k hk => ?_, by rw [e235, e13]; exact X0.2.1, by rw [e235, e14]; exact X0.2.2⟩, RB⟩, ky.1.trans my.1.symm⟩
    · rw [b111, ky.2.2.1, my.2.2.1]
    · rw [b123, ky.2.1, my.2.1]
    · have hk : k < (h_i h2 11 1).toNatClampNeg := hk
      rw [b111, ky.2.2.1] at hk
      exact absurd hk (by show ¬ k < 0; omega)
  · have kn := kn o
    have mn := mn o
    have RB : ExB h2 := fun k hk => by
      rw [b123, kn.2.1] at hk
      exact lw k hk (kn.2.2.2.1 k) (kn.2.2.2.2.1 k) ((mn.2.2.2 k).trans (f227 k))
    refine ⟨Z.liT (Rlf.mk ?_ ?_) ⟨mm, X0.cg e31 e225 e235 (b111.trans kn.2.2.1) e13 e14, RB⟩, kn.1.trans mn.1.symm⟩
    · rw [b111, kn.2.2.1, mn.2.2.1, a32]
    · rw [b123, kn.2.1, mn.2.1]
theorem c_actX (d : Nat) {h : Hp_} (I : Iv h) (x1 : Int32) : Ci (m_X11_act (d + 141) 0 0) [.ref 0, .int x1] h (fun r h' => Iv h' ∧ Fr wrx_13 h h' ∧ Rlx_13 x1 h r h') := c_actx d I x1
theorem c_actM (d : Nat) {b : Nat → Int32} {n : Nat} {h : Hp_} (I : Iv h) (q : Qt b n h) (x1 : Int32) : Ci (m_X12_act (d + 80 + 61) 0 0) [.ref 1, .int x1] h (fun r h' => (Iv h' ∧ Fr wzt h h') ∧ Rlm b n 0 x1 h r h') := c_actf d q.2.1 I q.1 x1
theorem LiT.act {N : Nat} {h h1 h2 : Hp_} {x1 r1 r2 : Int32} (L : LiT N h) (k1 : Iv h1 ∧ Fr wrx_13 h h1 ∧ Rlx_13 x1 h r1 h1) (k2 : (Iv h2 ∧ Fr wzt h1 h2) ∧ Rlm (h_i h 31) (xn h) 0 x1 h1 r2 h2) : LiT N h2 ∧ r1 = r2 := by
  obtain ⟨I1, F1, kn, ky⟩ := k1
  obtain ⟨⟨I2, F2⟩, mn, my⟩ := k2
  have X0 := L.2.2.2.2.2.2.1
  have a5 : h_i h1 235 0 = h_i h 13 5 := (fr_i F1 (by decide +kernel) 0).trans X0.2.1
  have a32 : h_i h1 1 32 = h_i h 11 1 := (F1.2 1 32 (by decide +kernel)).1.trans L.r1.symm
  have a235 : ∀ k, h_i h1 235 k = h_i h 235 k := fun k => fr_i F1 (by decide +kernel) k
  rw [a5] at mn my
  have b111 : h_i h2 11 1 = h_i h1 11 1 := (F2.2 11 1 (by decide +kernel)).1
  have bc5 : h_i h2 13 5 = h_i h1 13 5 := (F2.2 13 5 (by decide +kernel)).1
  have F12 : Fr (wrx_13 ++ wzt) h h2 := (F1.more (by decide +kernel)).tr (F2.more (by decide +kernel))
  have Z : Li0 N h2 := L.z.fr I2 F12 (by decide +kernel)
  have mm : Mn h2 := L.2.2.2.2.2.1.fr F12 (by decide +kernel)
  have RB : ExB h2 := L.2.2.2.2.2.2.2.fr F12 (by decide +kernel)
  have e31 : ∀ k, h_i h2 31 k = h_i h 31 k := fun k => fr_i F12 (by decide +kernel) k
  have e225 : ∀ k, h_i h2 225 k = h_i h 225 k := fun k => fr_i F12 (by decide +kernel) k
  have eo : h_i h2 14 5 = h_i h 14 5 := (F12.2 14 5 (by decide +kernel)).1
  have r2' : h_i h2 12 3 = h_i h2 1 42 := by rw [(F12.2 12 3 (by decide +kernel)).1, (F12.2 1 42 (by decide +kernel)).1]; exact L.r2
  by_cases o : okR (h_i h 31) (xn h) 0 x1 (h_i h 13 5)
  · have ky := ky o
    have my := my o
    refine ⟨Z.liT (Rlf.mk ?_ r2') ⟨mm, ⟨fun k hk => ?_, ?_, ?_⟩, RB⟩, ky.1.trans my.1.symm⟩
    · rw [b111, ky.2.1, my.2.1]
    · have hk : k < (h_i h2 11 1).toNatClampNeg := hk
      rw [b111, ky.2.1] at hk
      exact absurd hk (by show ¬ k < 0; omega)
    · rw [my.2.2.1, if_pos rfl, bc5, ky.2.2.1]
    · rw [my.2.2.1, if_neg (by decide), a235, eo]; exact X0.2.2
  · have kn := kn o
    have mn := mn o
    refine ⟨Z.liT (Rlf.mk ?_ r2') ⟨mm, X0.cg e31 e225 (fun k => (mn.2.2.1 k).trans (a235 k)) (b111.trans kn.2.1) (bc5.trans kn.2.2.1) eo, RB⟩, kn.1.trans mn.1.symm⟩
    rw [b111, kn.2.1, mn.2.1, a32]
theorem c_payX (d : Nat) {h : Hp_} (I : Iv h) (x1 : Int32) : Ci (m_X11_pay (d + 141) 0 0) [.ref 0, .int x1] h (fun r h' => Iv h' ∧ Fr wrx_14 h h' ∧ Rlx_14 x1 h r h') := c_payx d I x1
theorem c_payM (d : Nat) {b : Nat → Int32} {n : Nat} {h : Hp_} (I : Iv h) (q : Qt b n h) (x1 : Int32) : Ci (m_X12_pay (d + 80 + 61) 0 0) [.ref 1, .int x1] h (fun r h' => (Iv h' ∧ Fr wzt h h') ∧ Rlm b n 1 x1 h r h') := c_payf d q.2.1 I q.1 x1
theorem LiT.pay {N : Nat} {h h1 h2 : Hp_} {x1 r1 r2 : Int32} (L : LiT N h) (k1 : Iv h1 ∧ Fr wrx_14 h h1 ∧ Rlx_14 x1 h r1 h1) (k2 : (Iv h2 ∧ Fr wzt h1 h2) ∧ Rlm (h_i h 31) (xn h) 1 x1 h1 r2 h2) : LiT N h2 ∧ r1 = r2 := by
  obtain ⟨I1, F1, kn, ky⟩ := k1
  obtain ⟨⟨I2, F2⟩, mn, my⟩ := k2
  have X0 := L.2.2.2.2.2.2.1
  have a5 : h_i h1 235 1 = h_i h 14 5 := (fr_i F1 (by decide +kernel) 1).trans X0.2.2
  have a32 : h_i h1 1 32 = h_i h 11 1 := (F1.2 1 32 (by decide +kernel)).1.trans L.r1.symm
  have a235 : ∀ k, h_i h1 235 k = h_i h 235 k := fun k => fr_i F1 (by decide +kernel) k
  rw [a5] at mn my
  have b111 : h_i h2 11 1 = h_i h1 11 1 := (F2.2 11 1 (by decide +kernel)).1
  have bc5 : h_i h2 14 5 = h_i h1 14 5 := (F2.2 14 5 (by decide +kernel)).1
  have F12 : Fr (wrx_14 ++ wzt) h h2 := (F1.more (by decide +kernel)).tr (F2.more (by decide +kernel))
  have Z : Li0 N h2 := L.z.fr I2 F12 (by decide +kernel)
  have mm : Mn h2 := L.2.2.2.2.2.1.fr F12 (by decide +kernel)
  have RB : ExB h2 := L.2.2.2.2.2.2.2.fr F12 (by decide +kernel)
  have e31 : ∀ k, h_i h2 31 k = h_i h 31 k := fun k => fr_i F12 (by decide +kernel) k
  have e225 : ∀ k, h_i h2 225 k = h_i h 225 k := fun k => fr_i F12 (by decide +kernel) k
  have eo : h_i h2 13 5 = h_i h 13 5 := (F12.2 13 5 (by decide +kernel)).1
  have r2' : h_i h2 12 3 = h_i h2 1 42 := by rw [(F12.2 12 3 (by decide +kernel)).1, (F12.2 1 42 (by decide +kernel)).1]; exact L.r2
  by_cases o : okR (h_i h 31) (xn h) 1 x1 (h_i h 14 5)
  · have ky := ky o
    have my := my o
    refine ⟨Z.liT (Rlf.mk ?_ r2') ⟨mm, ⟨fun k hk => ?_, ?_, ?_⟩, RB⟩, ky.1.trans my.1.symm⟩
    · rw [b111, ky.2.1, my.2.1]
    · have hk : k < (h_i h2 11 1).toNatClampNeg := hk
      rw [b111, ky.2.1] at hk
      exact absurd hk (by show ¬ k < 0; omega)
    · rw [my.2.2.1, if_neg (by decide), a235, eo]; exact X0.2.1
    · rw [my.2.2.1, if_pos rfl, bc5, ky.2.2.1]
  · have kn := kn o
    have mn := mn o
    refine ⟨Z.liT (Rlf.mk ?_ r2') ⟨mm, X0.cg e31 e225 (fun k => (mn.2.2.1 k).trans (a235 k)) (b111.trans kn.2.1) eo (bc5.trans kn.2.2.1), RB⟩, kn.1.trans mn.1.symm⟩
    rw [b111, kn.2.1, mn.2.1, a32]
theorem c_fdX (d : Nat) {h : Hp_} (I : Iv h) (x1 x2 x3 x4 x5 : Int32) : Ci (m_X11_feed (d + 2) 0 0) [.ref 0, .int x1, .int x2, .int x3, .int x4, .int x5] h (fun r h' => Iv h' ∧ Fr [11001, 31999] h h' ∧ Fdx (fdq x1 x2 x3 x4 x5) h r h') := c_fdx d I x1 x2 x3 x4 x5
def Fdm (L : List Int32) (h : Hp_) (r : Int32) (h' : Hp_) : Prop := (tn h + L.length ≤ 160 → r = Int32.ofNat (tn h + L.length) ∧ tn h' = tn h + L.length ∧ Apd 225 (tn h) L h h') ∧ (¬ tn h + L.length ≤ 160 → r = -1 ∧ h' = h)
theorem c_fdM (d : Nat) {h : Hp_} (I : Iv h) (x1 x2 x3 x4 x5 : Int32) : Ci (m_X12_feed (d + 1) 0 0) [.ref 1, .int x1, .int x2, .int x3, .int x4, .int x5] h (fun r h' => Iv h' ∧ Fr [1032, 225999] h h' ∧ Fdm (fdq x1 x2 x3 x4 x5) h r h') := c_fdm d I x1 x2 x3 x4 x5
theorem LiT.fd {N : Nat} {h h1 h2 : Hp_} {r1 r2 : Int32} {L0 : List Int32} (L : LiT N h) (k1 : Iv h1 ∧ Fr [11001, 31999] h h1 ∧ Fdx L0 h r1 h1) (k2 : Iv h2 ∧ Fr [1032, 225999] h1 h2 ∧ Fdm L0 h1 r2 h2) : LiT N h2 ∧ r1 = r2 := by
  obtain ⟨I1, F1, ky, kn⟩ := k1
  obtain ⟨I2, F2, my, mn⟩ := k2
  have X0 := L.2.2.2.2.2.2.1
  have tt : tn h1 = xn h := by
    show (h_i h1 1 32).toNatClampNeg = (h_i h 11 1).toNatClampNeg
    rw [(F1.2 1 32 (by decide +kernel)).1, L.r1]
  rw [tt] at my mn
  have F12 : Fr [11001, 31999, 1032, 225999] h h2 := (F1.more (by decide +kernel)).tr (F2.more (by decide +kernel))
  have Z : Li0 N h2 := L.z.fr I2 F12 (by decide +kernel)
  have mm : Mn h2 := L.2.2.2.2.2.1.fr F12 (by decide +kernel)
  have RB : ExB h2 := L.2.2.2.2.2.2.2.fr F12 (by decide +kernel)
  have b111 : h_i h2 11 1 = h_i h1 11 1 := (F2.2 11 1 (by decide +kernel)).1
  have e31 : ∀ k, h_i h2 31 k = h_i h1 31 k := fun k => fr_i F2 (by decide +kernel) k
  have f225 : ∀ k, h_i h1 225 k = h_i h 225 k := fun k => fr_i F1 (by decide +kernel) k
  have e235 : ∀ k, h_i h2 235 k = h_i h 235 k := fun k => fr_i F12 (by decide +kernel) k
  have e13 : h_i h2 13 5 = h_i h 13 5 := (F12.2 13 5 (by decide +kernel)).1
  have e14 : h_i h2 14 5 = h_i h 14 5 := (F12.2 14 5 (by decide +kernel)).1
  have r2' : h_i h2 12 3 = h_i h2 1 42 := by rw [(F12.2 12 3 (by decide +kernel)).1, (F12.2 1 42 (by decide +kernel)).1]; exact L.r2
  by_cases o : xn h + L0.length ≤ 160
  · have ky := ky o
    have my := my o
    have n1 := xn_i I1
    have n2 : (tn h2 : Int) = (h_i h2 1 32).toInt := tn_i I2
    refine ⟨Z.liT (Rlf.mk ?_ r2') ⟨mm, ⟨fun k hk => ?_, by rw [e235, e13]; exact X0.2.1, by rw [e235, e14]; exact X0.2.2⟩, RB⟩, ky.1.trans my.1.symm⟩
    · rw [b111]
      refine Int32.toInt_inj.mp ?_
      have a := ky.2.1
      have b := my.2.1
      omega
    · have hk : k < (h_i h2 11 1).toNatClampNeg := hk
      rw [b111] at hk
      have hk : k < xn h1 := hk
      rw [ky.2.1] at hk
      rw [e31]
      rcases Nat.lt_or_ge k (xn h) with u | u
      · rw [my.2.2.1 k u, f225, ky.2.2.1 k u]
        exact X0.1 k u
      · have l : k - xn h < L0.length := by omega
        have g : L0[k - xn h]? = some (L0[k - xn h]'l) := List.getElem?_eq_getElem l
        have a := ky.2.2.2 _ _ g
        have b := my.2.2.2 _ _ g
        rw [show xn h + (k - xn h) = k by omega] at a b
        rw [a, b]
  · have kn := kn o
    have mn := mn o
    obtain ⟨ka, kb⟩ := kn
    obtain ⟨ma, mb⟩ := mn
    subst kb
    subst mb
    exact ⟨L, ka.trans ma.symm⟩
theorem c_enX (d : Nat) {h : Hp_} (I : Iv h) (x1 : Int32) : Ci (m_X11_end (d + 2) 0 0) [.ref 0, .int x1] h (fun r h' => Iv h' ∧ Fr [11001] h h' ∧ (((0 ≤ x1 ∧ x1 ≤ h_i h 11 1) ∧ r = 1 ∧ h' = h_im h 11 1 x1) ∨ (¬ (0 ≤ x1 ∧ x1 ≤ h_i h 11 1) ∧ r = 0 ∧ h' = h))) := c_endx d I x1
theorem c_enM (d : Nat) {h : Hp_} (I : Iv h) (x1 : Int32) : Ci (m_X12_end (d + 0) 0 0) [.ref 1, .int x1] h (fun r h' => Iv h' ∧ Fr [1032] h h' ∧ (((0 ≤ x1 ∧ x1 ≤ h_i h 1 32) ∧ r = 1 ∧ h' = h_im h 1 32 x1) ∨ (¬ (0 ≤ x1 ∧ x1 ≤ h_i h 1 32) ∧ r = 0 ∧ h' = h))) := by
  have t0 : (0 : Int32).toInt = 0 := rfl
  have z1 : (h_i h 1 32).toInt ≤ 160 := (pz_in I).2
  refine t_X12_end d h I.1 x1 _ ⟨fun z => ⟨I, Fr.rf _ _, Or.inr ⟨fun y => ?_, rfl, rfl⟩⟩, fun z => ⟨fun y => ?_, fun y => ⟨I, Fr.rf _ _, Or.inr ⟨fun u => y u.2, rfl, rfl⟩⟩⟩⟩
  · have z := q_lt.mp z
    have y := q_le.mp y.1
    omega
  · have z := q_nlt z
    have y' := q_le.mp y
    exact ⟨i32 I ⟨by show (0 : Int) ≤ _; omega, by show _ ≤ (160 : Int); omega⟩, (Fr.rf _ _).im (by decide +kernel), Or.inl ⟨⟨q_le.mpr (by omega), y⟩, rfl, rfl⟩⟩
theorem LiT.en {N : Nat} {h h1 h2 : Hp_} {x1 r1 r2 : Int32} (L : LiT N h) (k1 : Iv h1 ∧ Fr [11001] h h1 ∧ (((0 ≤ x1 ∧ x1 ≤ h_i h 11 1) ∧ r1 = 1 ∧ h1 = h_im h 11 1 x1) ∨ (¬ (0 ≤ x1 ∧ x1 ≤ h_i h 11 1) ∧ r1 = 0 ∧ h1 = h))) (k2 : Iv h2 ∧ Fr [1032] h1 h2 ∧ (((0 ≤ x1 ∧ x1 ≤ h_i h1 1 32) ∧ r2 = 1 ∧ h2 = h_im h1 1 32 x1) ∨ (¬ (0 ≤ x1 ∧ x1 ≤ h_i h1 1 32) ∧ r2 = 0 ∧ h2 = h1))) : LiT N h2 ∧ r1 = r2 := by
  obtain ⟨I1, F1, k1⟩ := k1
  obtain ⟨I2, F2, k2⟩ := k2
  have a32 : h_i h1 1 32 = h_i h 11 1 := (F1.2 1 32 (by decide +kernel)).1.trans L.r1.symm
  rw [a32] at k2
  have X0 := L.2.2.2.2.2.2.1
  rcases k1 with ⟨b, e1, e2⟩ | ⟨b, e1, e2⟩ <;> rcases k2 with ⟨c, e3, e4⟩ | ⟨c, e3, e4⟩
  · have F12 : Fr [11001, 1032] h h2 := (F1.more (by decide +kernel)).tr (F2.more (by decide +kernel))
    have Z : Li0 N h2 := L.z.fr I2 F12 (by decide +kernel)
    have mm : Mn h2 := L.2.2.2.2.2.1.fr F12 (by decide +kernel)
    have RB : ExB h2 := L.2.2.2.2.2.2.2.fr F12 (by decide +kernel)
    have r2' : h_i h2 12 3 = h_i h2 1 42 := by rw [(F12.2 12 3 (by decide +kernel)).1, (F12.2 1 42 (by decide +kernel)).1]; exact L.r2
    have b111 : h_i h2 11 1 = x1 := by rw [(F2.2 11 1 (by decide +kernel)).1, e2, im_at]
    have b132 : h_i h2 1 32 = x1 := by rw [e4, im_at]
    refine ⟨Z.liT (Rlf.mk (b111.trans b132.symm) r2') ⟨mm, ⟨fun k hk => ?_, ?_, ?_⟩, RB⟩, e1.trans e3.symm⟩
    · rw [fr_i F12 (by decide +kernel), fr_i F12 (by decide +kernel)]
      refine X0.1 k ?_
      have hk : k < (h_i h2 11 1).toNatClampNeg := hk
      rw [b111] at hk
      have b0 := q_le.mp b.1
      have b2 := q_le.mp b.2
      have t0 : (0 : Int32).toInt = 0 := rfl
      have n1 := n_nat (x := x1) (by omega)
      have n2 := xn_i L.1
      omega
    · rw [fr_i F12 (by decide +kernel), (F12.2 13 5 (by decide +kernel)).1]
      exact X0.2.1
    · rw [fr_i F12 (by decide +kernel), (F12.2 14 5 (by decide +kernel)).1]
      exact X0.2.2
  · exact absurd b c
  · exact absurd c b
  · subst e2
    subst e4
    exact ⟨L, e1.trans e3.symm⟩
/-! fault -/
def wzq : List Nat := [11002, 11003, 11004, 11006, 11007, 11009, 32999, 33999]
def flq (b : Nat → Int32) (n : Nat) (x : Int32) : Int32 := if x = 0 then enq b n (beq b n) else if x = 1 then enq b n (ruq b n (clq b n 1)) else if x = 2 then enq b n (ruq b n (clq b n 2)) else -2
theorem c_flX (d : Nat) {h : Hp_} (I : Iv h) (x1 : Int32) : Ci (m_X11_fault (d + 141) 0 0) [.ref 0, .int x1] h (fun r h' => Iv h' ∧ Fr wzq h h' ∧ r = flq (h_i h 31) (xn h) x1) := by
  have kb := c_rb (b := h_i h 31) (n := xn h) d I rfl rfl
  rw [show d + 50 + 54 = d + 104 by omega] at kb
  have k1 := c_rr (b := h_i h 31) (n := xn h) 1 (by decide) d I rfl rfl 1 (by decide)
  rw [show d + 80 + 60 = d + 140 by omega] at k1
  have k2 := c_rr (b := h_i h 31) (n := xn h) 2 (by decide) d I rfl rfl 0 (by decide)
  rw [show d + 80 + 60 = d + 140 by omega] at k2
  refine t_X11_fault d h I.1 x1 _ ⟨fun e => Ci.mono kb (fun r h' k => ⟨k.2.1.1, k.2.1, k.2.2.1.more (by decide +kernel), ?_⟩), fun e => Ci.mono k1 (fun r h' k => ⟨k.2.1.1, k.2.1, k.2.2.1.more (by decide +kernel), ?_⟩), fun e => Ci.mono k2 (fun r h' k => ⟨k.2.1.1, k.2.1, k.2.2.1.more (by decide +kernel), ?_⟩), fun n => ⟨I, Fr.rf _ _, ?_⟩⟩
  · unfold flq
    rw [if_pos e]
    exact k.1.trans k.2.2.2.1
  · unfold flq
    rw [e, if_neg (by decide), if_pos rfl]
    exact k.1.trans k.2.2.2
  · unfold flq
    rw [e, if_neg (by decide), if_neg (by decide), if_pos rfl]
    exact k.1.trans k.2.2.2
  · unfold flq
    rw [if_neg n.1, if_neg n.2.1, if_neg n.2.2]
theorem c_flM (d : Nat) {b : Nat → Int32} {n : Nat} {h : Hp_} (I : Iv h) (q : Qt b n h) (x1 : Int32) : Ci (m_X12_fault (d + 80 + 59) 0 0) [.ref 1, .int x1] h (fun r h' => Iv h' ∧ Fr wzf h h' ∧ r = flq b n x1) := by
  by_cases e0 : x1 = 0
  · subst e0
    refine Ci.mono (c_faultf0 d q.2.1 I q.1) (fun r h' k => ⟨k.1, k.2.1, ?_⟩)
    unfold flq
    rw [if_pos rfl]
    exact k.2.2.1
  · by_cases e1 : x1 = 1
    · subst e1
      refine Ci.mono (c_faultf d q.2.1 I q.1 1 (by decide)) (fun r h' k => ⟨k.1.1, k.1.2.1, ?_⟩)
      unfold flq
      rw [if_neg (by decide), if_pos rfl]
      exact k.2
    · by_cases e2 : x1 = 2
      · subst e2
        refine Ci.mono (c_faultf d q.2.1 I q.1 2 (by decide)) (fun r h' k => ⟨k.1.1, k.1.2.1, ?_⟩)
        unfold flq
        rw [if_neg (by decide), if_neg (by decide), if_pos rfl]
        exact k.2
      · have nb : ¬ (0 ≤ x1 ∧ x1 ≤ 2) := fun y => by
          have y0 := q_le.mp y.1
          have y2 := q_le.mp y.2
          have t0 : (0 : Int32).toInt = 0 := rfl
          have t1 : (1 : Int32).toInt = 1 := rfl
          have t2 : (2 : Int32).toInt = 2 := rfl
          have n0 : ¬ x1.toInt = 0 := fun z => e0 (Int32.toInt_inj.mp (by rw [t0]; exact z))
          have n1 : ¬ x1.toInt = 1 := fun z => e1 (Int32.toInt_inj.mp (by rw [t1]; exact z))
          have n2 : ¬ x1.toInt = 2 := fun z => e2 (Int32.toInt_inj.mp (by rw [t2]; exact z))
          omega
        refine t_X12_fault (d + 80) h I.1 x1 _ ⟨fun y => absurd y nb, fun _ => ⟨I, Fr.rf _ _, ?_⟩⟩
        unfold flq
        rw [if_neg e0, if_neg e1, if_neg e2]
theorem LiT.fl {N : Nat} {h h1 h2 : Hp_} {x1 r1 r2 : Int32} (L : LiT N h) (k1 : Iv h1 ∧ Fr wzq h h1 ∧ r1 = flq (h_i h 31) (xn h) x1) (k2 : Iv h2 ∧ Fr wzf h1 h2 ∧ r2 = flq (h_i h 31) (xn h) x1) : LiT N h2 ∧ r1 = r2 := ⟨(L.fr k1.1 k1.2.1 (by decide +kernel)).fr k2.1 k2.2.1 (by decide +kernel), k1.2.2.trans k2.2.2.symm⟩
/-! beaten -/
theorem c_has (d : Nat) {h : Hp_} (I : Iv h) (x1 : Int32) : Ci (m_X0_has (d + 0) 0 0) [.ref 12, .int x1] h (fun r h' => h' = h ∧ ((r = 1 ∧ (¬ x1 < 0 ∧ ¬ h_i h 12 3 ≤ x1)) ∨ (r = 0 ∧ ¬ (¬ x1 < 0 ∧ ¬ h_i h 12 3 ≤ x1)))) := t_X0_has d h I.1 x1 _ ⟨fun z => ⟨rfl, Or.inr ⟨rfl, fun y => y.1 z⟩⟩, fun z => ⟨fun y => ⟨rfl, Or.inr ⟨rfl, fun u => u.2 y⟩⟩, fun y => ⟨rfl, Or.inl ⟨rfl, z, y⟩⟩⟩⟩
def bnX (h : Hp_) (x1 x2 : Int32) : Int32 := if ¬ x1 < 0 ∧ ¬ h_i h 12 3 ≤ x1 then (if x2 = 0 then h_i h 35 x1.toNatClampNeg else if x2 = 1 then h_i h 36 x1.toNatClampNeg else -1) else -1
theorem c_bnX (d : Nat) {h : Hp_} (I : Iv h) (x1 x2 : Int32) : Ci (m_X11_beaten (d + 2) 0 0) [.ref 0, .int x1, .int x2] h (fun r h' => Iv h' ∧ h' = h ∧ r = bnX h x1 x2) := by
  have b3 := x12_in I
  have t0 : (0 : Int32).toInt = 0 := rfl
  have v : (¬ x1 < 0 ∧ ¬ h_i h 12 3 ≤ x1) → vp_in x1 12 := fun y => by
    have y0 := q_nlt y.1
    have y1 := q_nle y.2
    exact dp_in (lo := 0) (hi := 11) ⟨by show (0 : Int) ≤ _; omega, by show _ ≤ (11 : Int); omega⟩ (by decide) (by decide)
  refine t_X11_beaten d h I.1 x1 x2 _ (Ci.mono (c_has (d + 1) I x1) (fun r h1 k => ?_))
  obtain ⟨e, k⟩ := k
  subst e
  refine ⟨I.1, fun n0 => ?_, fun e0 => ⟨I, rfl, ?_⟩⟩
  · have y : ¬ x1 < 0 ∧ ¬ h_i h1 12 3 ≤ x1 := by
      rcases k with k | k
      · exact k.2
      · exact absurd k.1 n0
    refine ⟨fun e2 => t_X0_stepsOf (d + 0) h1 I.1 x1 _ (Ci.mono (c_has (d + 0) I x1) (fun r3 h3 q => ?_)), fun e2 => t_X0_pointsOf (d + 0) h1 I.1 x1 _ (Ci.mono (c_has (d + 0) I x1) (fun r3 h3 q => ?_)), fun n2 => ⟨I, rfl, ?_⟩⟩
    · obtain ⟨e, q⟩ := q
      subst e
      refine ⟨I.1, fun z => ?_, fun _ => ⟨v y, I.1, I, rfl, ?_⟩⟩
      · rcases q with q | q
        · rw [z] at q
          exact absurd q.1 (by decide)
        · exact absurd y q.2
      · unfold bnX
        rw [if_pos y, if_pos e2]
    · obtain ⟨e, q⟩ := q
      subst e
      refine ⟨I.1, fun z => ?_, fun _ => ⟨v y, I.1, I, rfl, ?_⟩⟩
      · rcases q with q | q
        · rw [z] at q
          exact absurd q.1 (by decide)
        · exact absurd y q.2
      · unfold bnX
        rw [if_pos y, e2, if_neg (by decide), if_pos rfl]
    · unfold bnX
      rw [if_pos y, if_neg n2.1, if_neg n2.2]
  · unfold bnX
    rcases k with k | k
    · rw [e0] at k
      exact absurd k.1 (by decide)
    · rw [if_neg k.2]
theorem c_bnM (d : Nat) {h : Hp_} (I : Iv h) (x1 x2 : Int32) : Ci (m_X12_beaten (d + 1) 0 0) [.ref 1, .int x1, .int x2] h (fun r h' => Iv h' ∧ h' = h ∧ (((0 ≤ x1 ∧ x1 ≤ h_i h 1 42 - 1) → (x2 = 0 → r = h_i h 227 x1.toNatClampNeg) ∧ (x2 = 1 → r.toInt = (mP (h_i h 228) x1.toNatClampNeg (h_i h 227 x1.toNatClampNeg).toNatClampNeg 0 : Int)) ∧ (¬ x2 = 0 → ¬ x2 = 1 → r = -1)) ∧ (¬ (0 ≤ x1 ∧ x1 ≤ h_i h 1 42 - 1) → r = -1))) := by
  have r42 := I.2.1 1 42
  rw [show tf 1 42 = (0, 12) by decide +kernel] at r42
  have b0 : 0 ≤ (h_i h 1 42).toInt := r42.1
  have b1 : (h_i h 1 42).toInt ≤ 12 := r42.2
  have t0 : (0 : Int32).toInt = 0 := rfl
  have t1 : (1 : Int32).toInt = 1 := rfl
  have em : (h_i h 1 42 - 1).toInt = (h_i h 1 42).toInt - 1 := by rw [tx_sub (by rw [t1]; omega) (by rw [t1]; omega), t1]
  refine t_X12_beaten d h I.1 x1 x2 _ ⟨fun n => ⟨I, rfl, fun y => absurd y n, fun _ => rfl⟩, fun y => ⟨fun b => ⟨fun n2 => ?_, fun e2 => ?_⟩, fun nb => ⟨I, rfl, fun _ => ⟨fun e => absurd (by rw [e]; decide) nb, fun e => absurd (by rw [e]; decide) nb, fun _ _ => rfl⟩, fun n => absurd y n⟩⟩⟩
  · have y0 := q_le.mp y.1
    have y1 := q_le.mp y.2
    refine Ci.mono (c_pointsOf d I x1 ⟨by show (0 : Int) ≤ _; omega, by show _ ≤ (11 : Int); omega⟩) (fun r h' k => ?_)
    obtain ⟨e, k⟩ := k
    subst e
    refine ⟨I.1, I, rfl, fun _ => ⟨fun e => absurd e n2, fun _ => k, fun _ n1 => ?_⟩, fun n => absurd y n⟩
    have c0 := q_le.mp b.1
    have c1 := q_le.mp b.2
    rw [t0] at c0
    rw [t1] at c1
    rcases Int.lt_or_le x2.toInt 1 with u | u
    · exact absurd (Int32.toInt_inj.mp (by rw [t0]; omega)) n2
    · exact absurd (Int32.toInt_inj.mp (by rw [t1]; omega)) n1
  · have y0 := q_le.mp y.1
    have y1 := q_le.mp y.2
    refine ⟨dp_in (lo := 0) (hi := 11) ⟨by show (0 : Int) ≤ _; omega, by show _ ≤ (11 : Int); omega⟩ (by decide) (by decide), I, rfl, fun _ => ⟨fun _ => rfl, fun e => absurd (e2.symm.trans e) (by decide), fun n => absurd e2 n⟩, fun n => absurd y n⟩
theorem LiT.bn {N : Nat} {h h1 h2 : Hp_} {x1 x2 r1 r2 : Int32} (L : LiT N h) (k1 : Iv h1 ∧ h1 = h ∧ r1 = bnX h x1 x2) (k2 : Iv h2 ∧ h2 = h1 ∧ (((0 ≤ x1 ∧ x1 ≤ h_i h1 1 42 - 1) → (x2 = 0 → r2 = h_i h1 227 x1.toNatClampNeg) ∧ (x2 = 1 → r2.toInt = (mP (h_i h1 228) x1.toNatClampNeg (h_i h1 227 x1.toNatClampNeg).toNatClampNeg 0 : Int)) ∧ (¬ x2 = 0 → ¬ x2 = 1 → r2 = -1)) ∧ (¬ (0 ≤ x1 ∧ x1 ≤ h_i h1 1 42 - 1) → r2 = -1))) : LiT N h2 ∧ r1 = r2 := by
  obtain ⟨_, e1, k1⟩ := k1
  obtain ⟨_, e2, ky, kn⟩ := k2
  subst e1
  subst e2
  refine ⟨L, ?_⟩
  have b3 := x12_in L.1
  have t0 : (0 : Int32).toInt = 0 := rfl
  have t1 : (1 : Int32).toInt = 1 := rfl
  rw [← L.r2] at ky kn
  have em : (h_i h2 12 3 - 1).toInt = (h_i h2 12 3).toInt - 1 := by rw [tx_sub (by rw [t1]; omega) (by rw [t1]; omega), t1]
  rw [k1]
  unfold bnX
  by_cases c : ¬ x1 < 0 ∧ ¬ h_i h2 12 3 ≤ x1
  · have c0 := q_nlt c.1
    have c1 := q_nle c.2
    have y : 0 ≤ x1 ∧ x1 ≤ h_i h2 12 3 - 1 := ⟨q_le.mpr (by omega), q_le.mpr (by omega)⟩
    have n1 := n_nat (x := x1) (by omega)
    have n3 := n_nat b3.1
    have q := L.2.2.2.2.2.2.2 x1.toNatClampNeg (by omega)
    rw [if_pos c]
    by_cases z : x2 = 0
    · rw [if_pos z, (ky y).1 z]
      exact q.1
    · rw [if_neg z]
      by_cases w : x2 = 1
      · rw [if_pos w]
        exact Int32.toInt_inj.mp (q.2.trans ((ky y).2.1 w).symm)
      · rw [if_neg w, (ky y).2.2 z w]
  · rw [if_neg c]
    refine (kn (fun y => c ⟨fun z => ?_, fun z => ?_⟩)).symm
    · have z := q_lt.mp z
      have y := q_le.mp y.1
      omega
    · have z := q_le.mp z
      have y := q_le.mp y.2
      omega
/-! walks over paths: lengths, and the least of them -/
def wkq (E : Nat → Nat × Nat × Int) (n u : Nat) : Nat → Nat → Int → Prop
  | 0, v, t => v = u ∧ t = 0
  | k + 1, v, t => ∃ i, i < n ∧ ((v = (E i).2.1 ∧ wkq E n u k (E i).1 (t - (E i).2.2)) ∨ (v = (E i).1 ∧ wkq E n u k (E i).2.1 (t - (E i).2.2)))
theorem wkq_mo {E E' : Nat → Nat × Nat × Int} {n n' u : Nat} (hn : n ≤ n') (hE : ∀ i, i < n → E' i = E i) : ∀ (k v : Nat) (t : Int), wkq E n u k v t → wkq E' n' u k v t
  | 0, _, _, h => h
  | k + 1, v, t, ⟨i, hi, h⟩ => ⟨i, by omega, by
    rw [hE i hi]
    exact h.elim (fun h => Or.inl ⟨h.1, wkq_mo hn hE k _ _ h.2⟩) (fun h => Or.inr ⟨h.1, wkq_mo hn hE k _ _ h.2⟩)⟩
theorem wkq_cc {E : Nat → Nat × Nat × Int} {n u w : Nat} {k : Nat} {s : Int} (h : wkq E n u k w s) : ∀ (j v : Nat) (t : Int), wkq E n w j v t → wkq E n u (k + j) v (s + t)
  | 0, v, t, ⟨a, b⟩ => by
    rw [a, b, Int.add_zero]
    exact h
  | j + 1, v, t, ⟨i, hi, g⟩ => ⟨i, hi, by
    have e : s + t - (E i).2.2 = s + (t - (E i).2.2) := by omega
    rw [e]
    exact g.elim (fun g => Or.inl ⟨g.1, wkq_cc h j _ _ g.2⟩) (fun g => Or.inr ⟨g.1, wkq_cc h j _ _ g.2⟩)⟩
/-- d is the least length from u, up to B -/
def Exr (E : Nat → Nat × Nat × Int) (n : Nat) (B : Int) (u : Nat) (d : Nat → Int) : Prop := ∀ v, v < 16 → (0 ≤ d v ∧ d v ≤ B) ∧ (∀ k t, wkq E n u k v t → d v ≤ t) ∧ (d v < B → ∃ k, wkq E n u k v (d v))
def Ev (E : Nat → Nat × Nat × Int) (n : Nat) : Prop := ∀ i, i < n → ((E i).1 < 16 ∧ (E i).2.1 < 16) ∧ 1 ≤ (E i).2.2 ∧ (E i).2.2 ≤ 60
def Fe (E : Nat → Nat × Nat × Int) (n : Nat) (d : Nat → Int) : Prop := ∀ i, i < n → d (E i).2.1 ≤ d (E i).1 + (E i).2.2 ∧ d (E i).1 ≤ d (E i).2.1 + (E i).2.2
theorem fe_le {E : Nat → Nat × Nat × Int} {n u : Nat} {d : Nat → Int} (f : Fe E n d) (h0 : d u ≤ 0) : ∀ (k v : Nat) (t : Int), wkq E n u k v t → d v ≤ t
  | 0, v, t, ⟨a, b⟩ => by
    rw [a, b]
    exact h0
  | k + 1, v, t, ⟨i, hi, h⟩ => by
    have q := f i hi
    rcases h with ⟨a, b⟩ | ⟨a, b⟩
    · have ih := fe_le f h0 k _ _ b
      rw [a]
      omega
    · have ih := fe_le f h0 k _ _ b
      rw [a]
      omega
theorem Exr.fe {E : Nat → Nat × Nat × Int} {n u : Nat} {B : Int} {d : Nat → Int} (x : Exr E n B u d) (e : Ev E n) : Fe E n d := fun i hi => by
  have q := e i hi
  have xa := x _ q.1.1
  have xb := x _ q.1.2
  constructor
  · by_cases c : d (E i).1 < B
    · obtain ⟨k, h⟩ := xa.2.2 c
      refine xb.2.1 (k + 1) _ ⟨i, hi, Or.inl ⟨rfl, ?_⟩⟩
      rw [Int.add_sub_cancel]
      exact h
    · have := xb.1.2
      have := xa.1.2
      omega
  · by_cases c : d (E i).2.1 < B
    · obtain ⟨k, h⟩ := xb.2.2 c
      refine xa.2.1 (k + 1) _ ⟨i, hi, Or.inr ⟨rfl, ?_⟩⟩
      rw [Int.add_sub_cancel]
      exact h
    · have := xb.1.2
      have := xa.1.2
      omega
/-- how many are no farther than t -/
def cnp (d : Nat → Int) (t : Int) : Nat → Nat
  | 0 => 0
  | j + 1 => cnp d t j + (if d j ≤ t then 1 else 0)
theorem cnp_le (d : Nat → Int) (t : Int) : ∀ j, cnp d t j ≤ j
  | 0 => Nat.le_refl _
  | j + 1 => by
    have ih := cnp_le d t j
    show cnp d t j + (if d j ≤ t then 1 else 0) ≤ j + 1
    by_cases c : d j ≤ t
    · rw [if_pos c]
      omega
    · rw [if_neg c]
      omega
theorem cnp_mo {d : Nat → Int} {s t : Int} (h : s ≤ t) : ∀ j, cnp d s j ≤ cnp d t j
  | 0 => Nat.le_refl _
  | j + 1 => by
    have ih := cnp_mo (d := d) h j
    show cnp d s j + (if d j ≤ s then 1 else 0) ≤ cnp d t j + (if d j ≤ t then 1 else 0)
    by_cases c : d j ≤ s
    · rw [if_pos c, if_pos (Int.le_trans c h)]
      omega
    · rw [if_neg c]
      omega
theorem cnp_lt {d : Nat → Int} {s t : Int} (h : s ≤ t) {v : Nat} (h1 : s < d v) (h2 : d v ≤ t) : ∀ j, v < j → cnp d s j + 1 ≤ cnp d t j
  | 0, l => absurd l (by omega)
  | j + 1, l => by
    show cnp d s j + (if d j ≤ s then 1 else 0) + 1 ≤ cnp d t j + (if d j ≤ t then 1 else 0)
    by_cases c : v = j
    · have m := cnp_mo (d := d) h j
      rw [← c, if_neg (by omega), if_pos h2]
      rw [← c] at m
      omega
    · have ih := cnp_lt h h1 h2 j (by omega)
      by_cases c : d j ≤ s
      · rw [if_pos c, if_pos (Int.le_trans c h)]
        omega
      · rw [if_neg c]
        omega
theorem Exr.b9 {E : Nat → Nat × Nat × Int} {n u : Nat} {B : Int} {d : Nat → Int} (x : Exr E n B u d) (e : Ev E n) : ∀ (N v : Nat), v < 16 → (d v).toNat < N → d v < B → d v + 60 ≤ 60 * (cnp d (d v) 16 : Int)
  | 0, _, _, l, _ => absurd l (by omega)
  | N + 1, v, hv, l, c => by
    obtain ⟨k, h⟩ := (x v hv).2.2 c
    have p := (x v hv).1.1
    cases k with
    | zero =>
      have h' : v = u ∧ d v = 0 := h
      have q := cnp_lt (d := d) (s := -1) (t := d v) (by omega) (v := v) (by omega) (Int.le_refl _) 16 hv
      omega
    | succ k =>
      obtain ⟨i, hi, g⟩ := h
      have ei := e i hi
      have fe := x.fe e i hi
      have st : ∀ a, a < 16 → wkq E n u k a (d v - (E i).2.2) → d v ≤ d a + (E i).2.2 → d v + 60 ≤ 60 * (cnp d (d v) 16 : Int) := fun a ha hw hf => by
        have xa := (x a ha).2.1 k _ hw
        have pa := (x a ha).1.1
        have ih := Exr.b9 x e N a ha (by omega) (by omega)
        have q := cnp_lt (d := d) (s := d a) (t := d v) (by omega) (v := v) (by omega) (Int.le_refl _) 16 hv
        omega
      rcases g with ⟨a, b⟩ | ⟨a, b⟩
      · exact st _ ei.1.1 b (by rw [a]; exact fe.1)
      · exact st _ ei.1.2 b (by rw [a]; exact fe.2)
theorem Exr.le {E : Nat → Nat × Nat × Int} {n u : Nat} {B : Int} {d : Nat → Int} (x : Exr E n B u d) (e : Ev E n) {v : Nat} (hv : v < 16) (c : d v < B) : d v ≤ 900 := by
  have k := x.b9 e ((d v).toNat + 1) v hv (by omega) c
  have l := cnp_le d (d v) 16
  omega
theorem Exr.eq {E : Nat → Nat × Nat × Int} {n u : Nat} {B B' : Int} {d d' : Nat → Int} (x : Exr E n B u d) (y : Exr E n B' u d') (e : Ev E n) (hB : 900 < B) (hB' : 900 < B') {v : Nat} (hv : v < 16) : (d v < B ∧ d' v < B' ∧ d v = d' v) ∨ (¬ d v < B ∧ ¬ d' v < B') := by
  by_cases c : d v < B
  · obtain ⟨k, h⟩ := (x v hv).2.2 c
    have l := (y v hv).2.1 k _ h
    have l9 := x.le e hv c
    obtain ⟨k', h'⟩ := (y v hv).2.2 (by omega)
    have l' := (x v hv).2.1 k' _ h'
    exact Or.inl ⟨c, by omega, by omega⟩
  · refine Or.inr ⟨c, fun c' => c ?_⟩
    obtain ⟨k', h'⟩ := (y v hv).2.2 c'
    have l' := (x v hv).2.1 k' _ h'
    have l9 := y.le e hv c'
    omega
def Exd (E : Nat → Nat × Nat × Int) (n : Nat) (B : Int) (D : Nat → Nat → Int) : Prop := ∀ u, u < 16 → Exr E n B u (D u)
def exE (E : Nat → Nat × Nat × Int) (n : Nat) (q : Nat × Nat × Int) : Nat → Nat × Nat × Int := fun i => if i = n then q else E i
/-- one path more: what the table must be -/
theorem Exd.add {E : Nat → Nat × Nat × Int} {n : Nat} {B : Int} {D V : Nat → Nat → Int} {a b : Nat} {m : Int} (x : Exd E n B D) (e : Ev E n) (ha : a < 16) (hb : b < 16) (hm : 1 ≤ m) (hV : ∀ u v, u < 16 → v < 16 → ((0 ≤ V u v ∧ V u v ≤ B) ∧ (V u v < B → ∃ k, wkq (exE E n (a, b, m)) (n + 1) u k v (V u v))) ∧ V u v ≤ D u v ∧ V u v ≤ D u a + m + D b v ∧ V u v ≤ D u b + m + D a v) : Exd (exE E n (a, b, m)) (n + 1) B V := fun u hu v hv => by
  have q := hV u v hu hv
  refine ⟨q.1.1, fun k t h => ?_, q.1.2⟩
  have z : ∀ w, w < 16 → D w w ≤ 0 := fun w hw => (x w hw w hw).2.1 0 0 ⟨rfl, rfl⟩
  have fu := (x u hu).fe e
  have fa := (x a ha).fe e
  have fb := (x b hb).fe e
  have f : Fe (exE E n (a, b, m)) (n + 1) (fun v => min (D u v) (min (D u a + m + D b v) (D u b + m + D a v))) := fun i hi => by
    by_cases c : i = n
    · have ee : exE E n (a, b, m) i = (a, b, m) := if_pos c
      rw [ee]
      have h1 := z a ha
      have h2 := z b hb
      have h3 := (x b hb a ha).1.1
      have h4 := (x a ha b hb).1.1
      have h5 := (x u hu a ha).1.1
      have h6 := (x u hu b hb).1.1
      show min (D u b) (min (D u a + m + D b b) (D u b + m + D a b)) ≤ min (D u a) (min (D u a + m + D b a) (D u b + m + D a a)) + m ∧ min (D u a) (min (D u a + m + D b a) (D u b + m + D a a)) ≤ min (D u b) (min (D u a + m + D b b) (D u b + m + D a b)) + m
      have h7 := (x a ha a ha).1.1
      have h8 := (x b hb b hb).1.1
      omega
    · have ee : exE E n (a, b, m) i = E i := if_neg c
      rw [ee]
      have k1 := fu i (by omega)
      have k2 := fa i (by omega)
      have k3 := fb i (by omega)
      show min (D u (E i).2.1) (min (D u a + m + D b (E i).2.1) (D u b + m + D a (E i).2.1)) ≤ min (D u (E i).1) (min (D u a + m + D b (E i).1) (D u b + m + D a (E i).1)) + (E i).2.2 ∧ min (D u (E i).1) (min (D u a + m + D b (E i).1) (D u b + m + D a (E i).1)) ≤ min (D u (E i).2.1) (min (D u a + m + D b (E i).2.1) (D u b + m + D a (E i).2.1)) + (E i).2.2
      omega
  have g := fe_le f (u := u) (by
    show min (D u u) (min (D u a + m + D b u) (D u b + m + D a u)) ≤ 0
    have := z u hu
    omega) k v t h
  have g' : min (D u v) (min (D u a + m + D b v) (D u b + m + D a v)) ≤ t := g
  omega
/-- the reference's paths, and the class's table -/
def eE (h : Hp_) : Nat → Nat × Nat × Int := fun i => ((h_i h 200 i).toNatClampNeg, (h_i h 201 i).toNatClampNeg, (h_i h 202 i).toInt)
def eN (h : Hp_) : Nat := (h_i h 1 6).toNatClampNeg
def dX (h : Hp_) : Nat → Nat → Int := fun u v => (h_i h 30 (16 * u + v)).toInt
def ExP (h : Hp_) : Prop := (∀ i, i < eN h → 1 ≤ (h_i h 202 i).toInt) ∧ Exd (eE h) (eN h) 1000000 (dX h)
def exoP (ws : List Nat) : Bool := off ws 30 && off ws 200 && off ws 201 && off ws 202 && !inw ws 1 6
theorem exP_F : ExP HF := by
  have z : eN HF = 0 := by
    unfold eN
    rw [show h_i HF 1 6 = 0 by decide +kernel]
    decide
  refine ⟨fun i hi => absurd hi (by rw [z]; omega), ?_⟩
  rw [z]
  have t : (List.range 256).all (fun k => h_i HF 30 k == (if k / 16 = k % 16 then 0 else 1000000)) = true := by decide +kernel
  have t0 : (0 : Int32).toInt = 0 := rfl
  have tm : (1000000 : Int32).toInt = 1000000 := rfl
  have dv : ∀ u v, u < 16 → v < 16 → dX HF u v = if u = v then 0 else 1000000 := fun u v hu hv => by
    have y := eq_of_beq (List.all_eq_true.mp t (16 * u + v) (List.mem_range.mpr (by omega)))
    unfold dX
    rw [y]
    by_cases c : u = v
    · rw [if_pos c, if_pos (by omega), t0]
    · rw [if_neg c, if_neg (by omega), tm]
  intro u hu v hv
  show (0 ≤ dX HF u v ∧ dX HF u v ≤ 1000000) ∧ (∀ k t, wkq (eE HF) 0 u k v t → dX HF u v ≤ t) ∧ (dX HF u v < 1000000 → ∃ k, wkq (eE HF) 0 u k v (dX HF u v))
  rw [dv u v hu hv]
  by_cases c : u = v
  · rw [if_pos c]
    refine ⟨⟨by decide, by decide⟩, fun k t h => ?_, fun _ => ⟨0, c.symm, rfl⟩⟩
    cases k with
    | zero =>
      have h' : v = u ∧ t = 0 := h
      omega
    | succ k =>
      obtain ⟨i, hi, _⟩ := h
      omega
  · rw [if_neg c]
    refine ⟨⟨by decide, by decide⟩, fun k t h => ?_, fun y => absurd y (by decide)⟩
    cases k with
    | zero =>
      have h' : v = u ∧ t = 0 := h
      omega
    | succ k =>
      obtain ⟨i, hi, _⟩ := h
      omega
theorem ExP.cg {h h' : Hp_} (e : ExP h) (a : h_i h' 30 = h_i h 30) (b : h_i h' 200 = h_i h 200) (c : h_i h' 201 = h_i h 201) (d : h_i h' 202 = h_i h 202) (n : h_i h' 1 6 = h_i h 1 6) : ExP h' := by
  unfold ExP eE eN dX
  rw [a, b, c, d, n]
  exact e
theorem ExP.fr {ws : List Nat} {h h' : Hp_} (e : ExP h) (f : Fr ws h h') (o : exoP ws = true) : ExP h' := by
  unfold exoP at o
  simp only [Bool.and_eq_true, Bool.not_eq_true'] at o
  exact e.cg (funext (fun k => fr_i f o.1.1.1.1 k)) (funext (fun k => fr_i f o.1.1.1.2 k)) (funext (fun k => fr_i f o.1.1.2 k)) (funext (fun k => fr_i f o.1.2 k)) (f.2 1 6 o.2).1
theorem ExP.mf {W : List Nat} {h h' : Hp_} (e : ExP h) (f : Mf W h h') (o : exoP W = true) : ExP h' := by
  unfold exoP at o
  simp only [Bool.and_eq_true, Bool.not_eq_true'] at o
  exact e.cg (funext (fun k => (f.2.2.2 30 k (by decide) (off_inw o.1.1.1.1 k)).1)) (funext (fun k => f.2.1 200 (by decide) (by decide) k)) (funext (fun k => f.2.1 201 (by decide) (by decide) k)) (funext (fun k => f.2.1 202 (by decide) (by decide) k)) (f.1 6)
/-- the number of paths too -/
def ExR (h : Hp_) : Prop := h_i h 10 1 = h_i h 1 6 ∧ ExP h
def exoR (ws : List Nat) : Bool := !inw ws 10 1 && exoP ws
theorem exR_F : ExR HF := ⟨by decide +kernel, exP_F⟩
theorem ExR.fr {ws : List Nat} {h h' : Hp_} (e : ExR h) (f : Fr ws h h') (o : exoR ws = true) : ExR h' := by
  unfold exoR at o
  rw [Bool.and_eq_true, Bool.not_eq_true'] at o
  refine ⟨?_, e.2.fr f o.2⟩
  have o2 := o.2
  unfold exoP at o2
  simp only [Bool.and_eq_true, Bool.not_eq_true'] at o2
  rw [(f.2 10 1 o.1).1, (f.2 1 6 o2.2).1]
  exact e.1
theorem ExR.mf {W : List Nat} {h h' : Hp_} (e : ExR h) (f : Mf W h h') (o : exoR W = true) : ExR h' := by
  unfold exoR at o
  rw [Bool.and_eq_true, Bool.not_eq_true'] at o
  refine ⟨?_, e.2.mf f o.2⟩
  rw [(f.2.2.2 10 1 (by decide) o.1).1, f.1 6]
  exact e.1
def oca (ok : Prop) (m r m' : Int32) : Prop := (ok ∧ r = m ∧ m' = m + 1) ∨ (¬ ok ∧ r = -1 ∧ m' = m)
theorem oca_eq {p q : Prop} {m r1 r2 m1 m2 : Int32} (e : p ↔ q) (a : oca p m r1 m1) (b : oca q m r2 m2) : r1 = r2 ∧ m1 = m2 := by
  rcases a with ⟨a, a1, a2⟩ | ⟨a, a1, a2⟩ <;> rcases b with ⟨b, b1, b2⟩ | ⟨b, b1, b2⟩
  · exact ⟨a1.trans b1.symm, a2.trans b2.symm⟩
  · exact absurd (e.mp a) b
  · exact absurd (e.mpr b) a
  · exact ⟨a1.trans b1.symm, a2.trans b2.symm⟩
theorem nz_lt {m n : Int32} (b : m.toInt ≤ n.toInt) : m < n ↔ ¬ m = n := ⟨fun l e => by rw [e] at l; exact absurd (q_lt.mp l) (Int.lt_irrefl _), fun ne => q_lt.mpr (by
  rcases Int.lt_or_le m.toInt n.toInt with u | u
  · exact u
  · exact absurd (Int32.toInt_inj.mp (Int.le_antisymm b u)) ne)⟩
theorem p15 {x : Int32} : (0 ≤ x ∧ x < 16) ↔ (0 ≤ x ∧ x ≤ 15) := by
  have t15 : (15 : Int32).toInt = 15 := rfl
  have t16 : (16 : Int32).toInt = 16 := rfl
  rw [q_lt, q_le (y := 15), t15, t16]
  exact ⟨fun z => ⟨z.1, by omega⟩, fun z => ⟨z.1, by omega⟩⟩

theorem f_le {h : Hp_} {c f : Nat} {n : Int} (I : Iv h) (e : tf c f = (0, n)) : 0 ≤ (h_i h c f).toInt ∧ (h_i h c f).toInt ≤ n := by
  have rg := I.2.1 c f
  rw [e] at rg
  exact ⟨rg.1, rg.2⟩
theorem i256 {i j : Nat} (hi : i < 16) (hj : j < 16) : ((Int32.ofNat i * 16) + Int32.ofNat j).toNatClampNeg = 16 * i + j ∧ vp_in ((Int32.ofNat i * 16) + Int32.ofNat j) 256 := by
  have t16 : (16 : Int32).toInt = 16 := rfl
  have ei := on_j (n := i) (by omega)
  have ej := on_j (n := j) (by omega)
  have a : (Int32.ofNat i * 16).toInt = (i : Int) * 16 := by rw [tx_mul (by rw [t16]; omega) (by rw [t16]; omega), t16, ei]
  have b : (Int32.ofNat i * 16 + Int32.ofNat j).toInt = (i : Int) * 16 + (j : Int) := by rw [tx_add (by omega) (by omega), a, ej]
  have n := n_nat (x := Int32.ofNat i * 16 + Int32.ofNat j) (by omega)
  exact ⟨by omega, dp_in (lo := 0) (hi := 255) ⟨by show (0 : Int) ≤ _; omega, by show _ ≤ (255 : Int); omega⟩ (by decide) (by decide)⟩
theorem mn_i (x y : Int32) : (if x < y then x else y).toInt = min x.toInt y.toInt := by
  by_cases c : x < y
  · rw [if_pos c]
    have := q_lt.mp c
    omega
  · rw [if_neg c]
    have := q_nlt c
    omega
/-- the table while a path is laid -/
def Lv (E : Nat → Nat × Nat × Int) (n a b : Nat) (m : Int) (D : Nat → Nat → Int) (P : Nat → Nat → Prop) (h : Hp_) : Prop := ∀ u v, u < 16 → v < 16 → ((0 ≤ dX h u v ∧ dX h u v ≤ 1000000) ∧ (dX h u v < 1000000 → ∃ k, wkq (exE E n (a, b, m)) (n + 1) u k v (dX h u v))) ∧ dX h u v ≤ D u v ∧ (P u v → dX h u v ≤ D u a + m + D b v ∧ dX h u v ≤ D u b + m + D a v)
theorem Lv.cg {E : Nat → Nat × Nat × Int} {n a b : Nat} {m : Int} {D : Nat → Nat → Int} {P Q : Nat → Nat → Prop} {h : Hp_} (l : Lv E n a b m D P h) (pq : ∀ u v, u < 16 → v < 16 → Q u v → P u v) : Lv E n a b m D Q h := fun u v hu hv => ⟨(l u v hu hv).1, (l u v hu hv).2.1, fun q => (l u v hu hv).2.2 (pq u v hu hv q)⟩
theorem Lv.st {E : Nat → Nat × Nat × Int} {n a b : Nat} {m : Int} {D : Nat → Nat → Int} {P : Nat → Nat → Prop} {h : Hp_} (l : Lv E n a b m D P h) (ha : a < 16) (hb : b < 16) (hm : 1 ≤ m) {i j : Nat} (hi : i < 16) (hj : j < 16) {y : Int32} (ey : y.toInt = min (min (dX h i b + m + dX h a j) (dX h i a + m + dX h b j)) (dX h i j)) : Lv E n a b m D (fun u v => P u v ∨ (u = i ∧ v = j)) (h_im h 30 (16 * i + j) y) := fun u v hu hv => by
  have lij := l i j hi hj
  have lia := l i a hi ha
  have lib := l i b hi hb
  have laj := l a j ha hj
  have lbj := l b j hb hj
  by_cases c : u = i ∧ v = j
  · have e : dX (h_im h 30 (16 * i + j) y) u v = y.toInt := by
      unfold dX
      rw [c.1, c.2, im_at]
    rw [e, c.1, c.2]
    refine ⟨⟨⟨by omega, by omega⟩, fun yb => ?_⟩, by omega, fun _ => ⟨by omega, by omega⟩⟩
    have en : exE E n (a, b, m) n = (a, b, m) := if_pos rfl
    by_cases q1 : y.toInt = dX h i j
    · rw [q1] at yb ⊢
      exact lij.1.2 yb
    · by_cases q2 : y.toInt = dX h i a + m + dX h b j
      · obtain ⟨k1, w1⟩ := lia.1.2 (by omega)
        obtain ⟨k2, w2⟩ := lbj.1.2 (by omega)
        have w3 : wkq (exE E n (a, b, m)) (n + 1) i (k1 + 1) b (dX h i a + m) := ⟨n, by omega, Or.inl ⟨by rw [en], by rw [en]; show wkq _ _ _ _ a (dX h i a + m - m); rw [Int.add_sub_cancel]; exact w1⟩⟩
        rw [q2]
        exact ⟨_, wkq_cc w3 k2 _ _ w2⟩
      · have q3 : y.toInt = dX h i b + m + dX h a j := by omega
        obtain ⟨k1, w1⟩ := lib.1.2 (by omega)
        obtain ⟨k2, w2⟩ := laj.1.2 (by omega)
        have w3 : wkq (exE E n (a, b, m)) (n + 1) i (k1 + 1) a (dX h i b + m) := ⟨n, by omega, Or.inr ⟨by rw [en], by rw [en]; show wkq _ _ _ _ b (dX h i b + m - m); rw [Int.add_sub_cancel]; exact w1⟩⟩
        rw [q3]
        exact ⟨_, wkq_cc w3 k2 _ _ w2⟩
  · have e : dX (h_im h 30 (16 * i + j) y) u v = dX h u v := by
      unfold dX
      rw [h_i_im, if_neg (fun z => c (by have := z.2; omega))]
    rw [e]
    exact ⟨(l u v hu hv).1, (l u v hu hv).2.1, fun q => (l u v hu hv).2.2 (q.elim id (fun q => absurd q c))⟩
theorem ly_in (d : Nat) (h0 : Hp_) {E : Nat → Nat × Nat × Int} {n a b : Nat} {m : Int} {D : Nat → Nat → Int} (ha : a < 16) (hb : b < 16) (hm : 1 ≤ m ∧ m ≤ 60) (x3 : Int32) (e3 : x3.toInt = m) {i : Nat} (hi : i < 16) (K : Int32 → Hp_ → Prop) (O : ∀ h, Iv h → Fr [30999] h0 h → Lv E n a b m D (fun u _ => u < i + 1) h → AW (m_X9_lay (d + 1) 0 0) 0 0 14 [(0, .ref 10), (1, .int (Int32.ofNat a)), (2, .int (Int32.ofNat b)), (3, .int x3), (4, .int (Int32.ofNat i + 1))] [] h (kI K)) :
    ∀ (r j : Nat) (h : Hp_), j + r = 16 → Iv h → Fr [30999] h0 h → Lv E n a b m D (fun u v => u < i ∨ (u = i ∧ v < j)) h → AW (m_X9_lay (d + 1) 0 0) 0 0 24 [(0, .ref 10), (1, .int (Int32.ofNat a)), (2, .int (Int32.ofNat b)), (3, .int x3), (4, .int (Int32.ofNat i)), (5, .int (Int32.ofNat j))] [] h (kI K) := by
  have t16 : (16 : Int32).toInt = 16 := rfl
  intro r
  induction r with
  | zero =>
    intro j h ej I F l
    exact t_X9_lay_24 d h I.1 _ _ x3 _ _ K ⟨fun _ => O h I F (l.cg (fun u v hu hv q => by omega)), fun z => absurd (q_le.mpr (by rw [t16, on_j (by omega)]; omega)) z⟩
  | succ r ih =>
    intro j h ej I F l
    have hj : j < 16 := by omega
    have k1 := i256 hi ha
    have k2 := i256 hb hj
    have k3 := i256 hi hb
    have k4 := i256 ha hj
    have k5 := i256 hi hj
    have lij := (l i j hi hj).1.1
    have lia := (l i a hi ha).1.1
    have lib := (l i b hi hb).1.1
    have laj := (l a j ha hj).1.1
    have lbj := (l b j hb hj).1.1
    unfold dX at lij lia lib laj lbj
    refine t_X9_lay_24 d h I.1 _ _ x3 _ _ K ⟨fun z => by have := q_le.mp z; rw [t16, on_j (by omega)] at this; omega, fun _ => ⟨k1.2, k2.2, k3.2, k4.2, k5.2, k5.2, ?_⟩⟩
    rw [k1.1, k2.1, k3.1, k4.1, k5.1, on_s (by omega)]
    have s1 : (h_i h 30 (16 * i + b) + x3 + h_i h 30 (16 * a + j)).toInt = dX h i b + m + dX h a j := by
      unfold dX
      rw [tx_add (by rw [tx_add (by omega) (by omega)]; omega) (by rw [tx_add (by omega) (by omega)]; omega), tx_add (by omega) (by omega), e3]
    have s2 : (h_i h 30 (16 * i + a) + x3 + h_i h 30 (16 * b + j)).toInt = dX h i a + m + dX h b j := by
      unfold dX
      rw [tx_add (by rw [tx_add (by omega) (by omega)]; omega) (by rw [tx_add (by omega) (by omega)]; omega), tx_add (by omega) (by omega), e3]
    exact ih (j + 1) _ (by omega) (tr_ 30 (by decide +kernel) I _ _ (by decide) (by decide)) (F.im (inw_row (by decide +kernel) _)) ((l.st ha hb hm.1 hi hj (by rw [mn_i, mn_i, s1, s2]; rfl)).cg (fun u v hu hv q => by omega))
theorem ly_out (d : Nat) (h0 : Hp_) {E : Nat → Nat × Nat × Int} {n a b : Nat} {m : Int} {D : Nat → Nat → Int} (ha : a < 16) (hb : b < 16) (hm : 1 ≤ m ∧ m ≤ 60) (x3 : Int32) (e3 : x3.toInt = m) (K : Int32 → Hp_ → Prop) (O : ∀ h, Iv h → Fr [30999] h0 h → Lv E n a b m D (fun _ _ => True) h → K ((h_i h 10 1 + 1) - 1) (h_im h 10 1 (h_i h 10 1 + 1))) :
    ∀ (r i : Nat) (h : Hp_), i + r = 16 → Iv h → Fr [30999] h0 h → Lv E n a b m D (fun u _ => u < i) h → AW (m_X9_lay (d + 1) 0 0) 0 0 14 [(0, .ref 10), (1, .int (Int32.ofNat a)), (2, .int (Int32.ofNat b)), (3, .int x3), (4, .int (Int32.ofNat i))] [] h (kI K) := by
  have t16 : (16 : Int32).toInt = 16 := rfl
  intro r
  induction r with
  | zero =>
    intro i h ei I F l
    exact t_X9_lay_14 d h I.1 _ _ x3 _ K ⟨fun _ => O h I F (l.cg (fun u v hu hv q => by omega)), fun z => absurd (q_le.mpr (by rw [t16, on_j (by omega)]; omega)) z⟩
  | succ r ih =>
    intro i h ei I F l
    refine t_X9_lay_14 d h I.1 _ _ x3 _ K ⟨fun z => by have := q_le.mp z; rw [t16, on_j (by omega)] at this; omega, fun _ => ?_⟩
    refine ly_in d h0 ha hb hm x3 e3 (i := i) (by omega) K (fun h' I' F' l' => ?_) 16 0 h (by omega) I F (l.cg (fun u v hu hv q => by omega))
    rw [on_s (by omega)]
    exact ih (i + 1) h' (by omega) I' F' l'
def okPx (m x1 x2 x3 : Int32) : Prop := (0 ≤ x1 ∧ x1 < 16) ∧ (0 ≤ x2 ∧ x2 < 16) ∧ ¬ x1 = x2 ∧ (1 ≤ x3 ∧ x3 ≤ 60) ∧ m < 40
def okPn (m x1 x2 x3 : Int32) : Prop := (0 ≤ x1 ∧ x1 ≤ 15) ∧ (0 ≤ x2 ∧ x2 ≤ 15) ∧ ¬ x1 = x2 ∧ (1 ≤ x3 ∧ x3 ≤ 60) ∧ ¬ m = 40
theorem on_of {x : Int32} (b : 0 ≤ x.toInt ∧ x.toInt ≤ 1000000) : Int32.ofNat x.toNatClampNeg = x := by
  have n := n_nat (x := x) b.1
  exact Int32.toInt_inj.mp (by rw [on_j (by omega)]; exact n)
theorem ev_ {h : Hp_} (I : Iv h) (x : ∀ i, i < eN h → 1 ≤ (h_i h 202 i).toInt) : Ev (eE h) (eN h) := fun i hi => by
  have r0 := I.2.1 200 i
  have r1 := I.2.1 201 i
  have r2 := I.2.1 202 i
  rw [tfa_tf (show tfa 200 = some (0, 15) by decide +kernel)] at r0
  rw [tfa_tf (show tfa 201 = some (0, 15) by decide +kernel)] at r1
  rw [tfa_tf (show tfa 202 = some (0, 60) by decide +kernel)] at r2
  have a0 : 0 ≤ (h_i h 200 i).toInt := r0.1
  have a1 : (h_i h 200 i).toInt ≤ 15 := r0.2
  have b0 : 0 ≤ (h_i h 201 i).toInt := r1.1
  have b1 : (h_i h 201 i).toInt ≤ 15 := r1.2
  have n0 := n_nat (x := h_i h 200 i) a0
  have n1 := n_nat (x := h_i h 201 i) b0
  exact ⟨⟨by show (h_i h 200 i).toNatClampNeg < 16; omega, by show (h_i h 201 i).toNatClampNeg < 16; omega⟩, x i hi, r2.2⟩
theorem c_ptX (d : Nat) {h : Hp_} (I : Iv h) (x : ExP h) (x1 x2 x3 : Int32) : Ci (m_X11_path (d + 2) 0 0) [.ref 0, .int x1, .int x2, .int x3] h (fun r h' => Iv h' ∧ Fr [10001, 30999] h h' ∧ oca (okPx (h_i h 10 1) x1 x2 x3) (h_i h 10 1) r (h_i h' 10 1) ∧ (okPx (h_i h 10 1) x1 x2 x3 → Exd (exE (eE h) (eN h) (x1.toNatClampNeg, x2.toNatClampNeg, x3.toInt)) (eN h + 1) 1000000 (dX h')) ∧ (¬ okPx (h_i h 10 1) x1 x2 x3 → h' = h)) := by
  have t1 : (1 : Int32).toInt = 1 := rfl
  have t16 : (16 : Int32).toInt = 16 := rfl
  have t0 : (0 : Int32).toInt = 0 := rfl
  have t60 : (60 : Int32).toInt = 60 := rfl
  have tc : (40 : Int32).toInt = 40 := rfl
  have rg := I.2.1 10 1
  rw [show tf 10 1 = (0, 40) by decide +kernel] at rg
  have r0 : 0 ≤ (h_i h 10 1).toInt := rg.1
  have no : ¬ okPx (h_i h 10 1) x1 x2 x3 → Iv h ∧ Fr [10001, 30999] h h ∧ oca (okPx (h_i h 10 1) x1 x2 x3) (h_i h 10 1) (-1) (h_i h 10 1) ∧ (okPx (h_i h 10 1) x1 x2 x3 → Exd (exE (eE h) (eN h) (x1.toNatClampNeg, x2.toNatClampNeg, x3.toInt)) (eN h + 1) 1000000 (dX h)) ∧ (¬ okPx (h_i h 10 1) x1 x2 x3 → h = h) := fun n => ⟨I, Fr.rf _ _, Or.inr ⟨n, rfl, rfl⟩, fun o => absurd o n, fun _ => rfl⟩
  refine t_X11_path d h x1 x2 x3 _ (Ci.mono (s_X11_isPlace _ h x1) (fun r h1 q => ?_))
  obtain ⟨er, eh⟩ := q
  subst er eh
  refine ⟨I.1, fun z => no (fun o => bI_0.mp z o.1), fun z => Ci.mono (s_X11_isPlace _ _ x2) (fun r h2 q => ?_)⟩
  obtain ⟨er, eh⟩ := q
  subst er eh
  refine ⟨I.1, fun z2 => no (fun o => bI_0.mp z2 o.2.1), fun z2 => ⟨fun e => no (fun o => o.2.2.1 e), fun ne => ⟨fun a3 => ?_, fun n => no (fun o => n o.2.2.2.1)⟩⟩⟩
  have b1 : 0 ≤ x1 ∧ x1 < 16 := Decidable.byContradiction (fun n => z (bI_0.mpr n))
  have b2 : 0 ≤ x2 ∧ x2 < 16 := Decidable.byContradiction (fun n => z2 (bI_0.mpr n))
  have c1 := q_le.mp b1.1
  have c1' := q_lt.mp b1.2
  have c2 := q_le.mp b2.1
  have c2' := q_lt.mp b2.2
  have c3 := q_le.mp a3.1
  have c3' := q_le.mp a3.2
  rw [t0] at c1 c2
  rw [t16] at c1' c2'
  rw [t1] at c3
  rw [t60] at c3'
  have n1 := n_nat (x := x1) c1
  have n2 := n_nat (x := x2) c2
  refine t_X9_lay d h2 I.1 x1 x2 x3 _ ⟨fun l => ?_, fun n => ⟨I.1, no (fun o => n o.2.2.2.2)⟩⟩
  have l0 := q_lt.mp l
  have ex : (h_i h2 10 1 + 1).toInt = (h_i h2 10 1).toInt + 1 := tx_add (by rw [t1]; omega) (by rw [t1]; omega)
  have ev := ev_ I x.1
  have L0 : Lv (eE h2) (eN h2) x1.toNatClampNeg x2.toNatClampNeg x3.toInt (dX h2) (fun u _ => u < 0) h2 := fun u v hu hv => by
    have q := x.2 u hu v hv
    exact ⟨⟨q.1, fun c => by
      obtain ⟨k, w⟩ := q.2.2 c
      exact ⟨k, wkq_mo (Nat.le_succ _) (fun i hi => if_neg (by omega)) k v _ w⟩⟩, Int.le_refl _, fun c => absurd c (by omega)⟩
  have go := ly_out d h2 (E := eE h2) (n := eN h2) (D := dX h2) (a := x1.toNatClampNeg) (b := x2.toNatClampNeg) (m := x3.toInt) (by omega) (by omega) ⟨c3, c3'⟩ x3 rfl (fun r h' => Wf h' ∧ (Iv h' ∧ Fr [10001, 30999] h2 h' ∧ oca (okPx (h_i h2 10 1) x1 x2 x3) (h_i h2 10 1) r (h_i h' 10 1) ∧ (okPx (h_i h2 10 1) x1 x2 x3 → Exd (exE (eE h2) (eN h2) (x1.toNatClampNeg, x2.toNatClampNeg, x3.toInt)) (eN h2 + 1) 1000000 (dX h')) ∧ (¬ okPx (h_i h2 10 1) x1 x2 x3 → h' = h2))) (fun h9 I9 F9 V9 => ?_) 16 0 h2 (by omega) I (Fr.rf _ _) L0
  · rw [on_of ⟨c1, by omega⟩, on_of ⟨c2, by omega⟩] at go
    exact go
  · have e9 : h_i h9 10 1 = h_i h2 10 1 := (F9.2 10 1 (by decide +kernel)).1
    have I5 : Iv (h_im h9 10 1 (h_i h9 10 1 + 1)) := I9.im (by rw [show tf 10 1 = (0, 40) by decide +kernel, e9]; exact ⟨by show (0 : Int) ≤ _; omega, by show _ ≤ (40 : Int); omega⟩) (by decide)
    refine ⟨I5.1, I5, (F9.more (b := [10001, 30999]) (by decide +kernel)).im (by decide +kernel), Or.inl ⟨⟨b1, b2, ne, a3, l⟩, by rw [e9]; exact tx_back _, by rw [im_at, e9]⟩, fun _ => ?_, fun n => absurd ⟨b1, b2, ne, a3, l⟩ n⟩
    have dd : dX (h_im h9 10 1 (h_i h9 10 1 + 1)) = dX h9 := by
      unfold dX
      rw [show h_i (h_im h9 10 1 (h_i h9 10 1 + 1)) 30 = h_i h9 30 from funext (fun k => im_ne (by decide))]
    rw [dd]
    exact x.2.add ev (by omega) (by omega) c3 (fun u v hu hv => ⟨(V9 u v hu hv).1, (V9 u v hu hv).2.1, ((V9 u v hu hv).2.2 trivial).1, ((V9 u v hu hv).2.2 trivial).2⟩)
theorem c_ptM (d : Nat) {h : Hp_} (I : Iv h) (x1 x2 x3 : Int32) : Ci (m_X12_path (d + 2) 0 0) [.ref 1, .int x1, .int x2, .int x3] h (fun r h' => Iv h' ∧ Fr [1006, 200999, 201999, 202999] h h' ∧ oca (okPn (h_i h 1 6) x1 x2 x3) (h_i h 1 6) r (h_i h' 1 6) ∧ (okPn (h_i h 1 6) x1 x2 x3 → eE h' = exE (eE h) (eN h) (x1.toNatClampNeg, x2.toNatClampNeg, x3.toInt) ∧ eN h' = eN h + 1) ∧ (¬ okPn (h_i h 1 6) x1 x2 x3 → h' = h)) := by
  have t1 : (1 : Int32).toInt = 1 := rfl
  have tc : (40 : Int32).toInt = 40 := rfl
  have rg := I.2.1 1 6
  rw [show tf 1 6 = (0, 40) by decide +kernel] at rg
  have r0 : 0 ≤ (h_i h 1 6).toInt := rg.1
  have r1 : (h_i h 1 6).toInt ≤ 40 := rg.2
  have no : ¬ okPn (h_i h 1 6) x1 x2 x3 → Iv h ∧ Fr [1006, 200999, 201999, 202999] h h ∧ oca (okPn (h_i h 1 6) x1 x2 x3) (h_i h 1 6) (-1) (h_i h 1 6) ∧ (okPn (h_i h 1 6) x1 x2 x3 → eE h = exE (eE h) (eN h) (x1.toNatClampNeg, x2.toNatClampNeg, x3.toInt) ∧ eN h = eN h + 1) ∧ (¬ okPn (h_i h 1 6) x1 x2 x3 → h = h) := fun n => ⟨I, Fr.rf _ _, Or.inr ⟨n, rfl, rfl⟩, fun o => absurd o n, fun _ => rfl⟩
  refine t_X12_path d h I.1 x1 x2 x3 _ ⟨fun n => no (fun o => n o.1), fun a1 => ⟨fun n => no (fun o => n o.2.1), fun a2 => ⟨fun e => no (fun o => o.2.2.1 e), fun nx => ⟨fun n => no (fun o => n o.2.2.2.1), fun a3 => ⟨fun ne => ?_, fun e => no (fun o => o.2.2.2.2 e)⟩⟩⟩⟩⟩
  have l := q_lt.mp ((nz_lt (by rw [tc]; exact r1)).mpr ne)
  have ex : (h_i h 1 6 + 1).toInt = (h_i h 1 6).toInt + 1 := tx_add (by rw [t1]; omega) (by rw [t1]; omega)
  have v : vp_in (h_i h 1 6) 40 := dp_in (lo := 0) (hi := 39) ⟨r0, by show _ ≤ (39 : Int); omega⟩ (by decide) (by decide)
  have p3 : rin x3.toInt (0, 60) := ⟨by have := q_le.mp a3.1; show (0 : Int) ≤ _; omega, by have := q_le.mp a3.2; exact this⟩
  refine ⟨v, v, v, ((((I.im (a := 200) (by rw [tfa_tf (show tfa 200 = some (0, 15) by decide +kernel)]; exact ⟨by have := q_le.mp a1.1; exact this, by have := q_le.mp a1.2; exact this⟩) (jw_jr (by decide) (by decide) _)).im (a := 201) (by rw [tfa_tf (show tfa 201 = some (0, 15) by decide +kernel)]; exact ⟨by have := q_le.mp a2.1; exact this, by have := q_le.mp a2.2; exact this⟩) (jw_jr (by decide) (by decide) _)).im (a := 202) (by rw [tfa_tf (show tfa 202 = some (0, 60) by decide +kernel)]; exact p3) (jw_jr (by decide) (by decide) _)).im (a := 1) (k := 6) (by rw [show tf 1 6 = (0, 40) by decide +kernel]; exact ⟨by show (0 : Int) ≤ _; omega, by show _ ≤ (40 : Int); omega⟩) (by decide)), ((((Fr.rf _ _).im (inw_row (by decide +kernel) _)).im (inw_row (by decide +kernel) _)).im (inw_row (by decide +kernel) _)).im (by decide +kernel), Or.inl ⟨⟨a1, a2, nx, a3, ne⟩, tx_back _, im_at⟩, fun _ => ⟨funext (fun i => ?_), ?_⟩, fun n => absurd ⟨a1, a2, nx, a3, ne⟩ n⟩
  · unfold eE exE eN
    by_cases c : i = (h_i h 1 6).toNatClampNeg
    · rw [if_pos c]
      refine Prod.ext ?_ (Prod.ext ?_ ?_)
      · show (h_i _ 200 i).toNatClampNeg = x1.toNatClampNeg
        rw [im_ne (by decide), im_ne (by decide), im_ne (by decide), c, im_at]
      · show (h_i _ 201 i).toNatClampNeg = x2.toNatClampNeg
        rw [im_ne (by decide), im_ne (by decide), c, im_at]
      · show (h_i _ 202 i).toInt = x3.toInt
        rw [im_ne (by decide), c, im_at]
    · rw [if_neg c]
      refine Prod.ext ?_ (Prod.ext ?_ ?_)
      · show (h_i _ 200 i).toNatClampNeg = (h_i h 200 i).toNatClampNeg
        rw [im_ne (by decide), im_ne (by decide), im_ne (by decide), h_i_im, if_neg (fun y => c y.2)]
      · show (h_i _ 201 i).toNatClampNeg = (h_i h 201 i).toNatClampNeg
        rw [im_ne (by decide), im_ne (by decide), h_i_im, if_neg (fun y => c y.2), im_ne (by decide)]
      · show (h_i _ 202 i).toInt = (h_i h 202 i).toInt
        rw [im_ne (by decide), h_i_im, if_neg (fun y => c y.2), im_ne (by decide), im_ne (by decide)]
  · have n0 := n_nat (x := h_i h 1 6) r0
    have n1 := n_nat (x := h_i h 1 6 + 1) (by omega)
    show (h_i (h_im _ 1 6 (h_i h 1 6 + 1)) 1 6).toNatClampNeg = (h_i h 1 6).toNatClampNeg + 1
    rw [im_at]
    omega
theorem okP_eq {m x1 x2 x3 : Int32} (b : m.toInt ≤ 40) : okPx m x1 x2 x3 ↔ okPn m x1 x2 x3 := by
  unfold okPx okPn
  rw [p15, p15, nz_lt (n := 40) b]
def PtX (x1 x2 x3 : Int32) (h : Hp_) (r1 : Int32) (h1 : Hp_) : Prop := Fr [10001, 30999] h h1 ∧ oca (okPx (h_i h 10 1) x1 x2 x3) (h_i h 10 1) r1 (h_i h1 10 1) ∧ (okPx (h_i h 10 1) x1 x2 x3 → Exd (exE (eE h) (eN h) (x1.toNatClampNeg, x2.toNatClampNeg, x3.toInt)) (eN h + 1) 1000000 (dX h1)) ∧ (¬ okPx (h_i h 10 1) x1 x2 x3 → h1 = h)
def PtM (x1 x2 x3 : Int32) (h1 : Hp_) (r2 : Int32) (h2 : Hp_) : Prop := Fr [1006, 200999, 201999, 202999] h1 h2 ∧ oca (okPn (h_i h1 1 6) x1 x2 x3) (h_i h1 1 6) r2 (h_i h2 1 6) ∧ (okPn (h_i h1 1 6) x1 x2 x3 → eE h2 = exE (eE h1) (eN h1) (x1.toNatClampNeg, x2.toNatClampNeg, x3.toInt) ∧ eN h2 = eN h1 + 1) ∧ (¬ okPn (h_i h1 1 6) x1 x2 x3 → h2 = h1)
theorem ExR.pt {h h1 h2 : Hp_} {x1 x2 x3 r1 r2 : Int32} (I : Iv h) (L : ExR h) (k1 : PtX x1 x2 x3 h r1 h1) (k2 : PtM x1 x2 x3 h1 r2 h2) : ExR h2 ∧ r1 = r2 := by
  have e : h_i h 10 1 = h_i h 1 6 := L.1
  have e1 : h_i h1 1 6 = h_i h 1 6 := (k1.1.2 1 6 (by decide +kernel)).1
  obtain ⟨f1, kp, xp, np⟩ := k1
  obtain ⟨f2, kq, xq, nq⟩ := k2
  rw [e1] at kq xq nq
  rw [e] at kp xp np
  have rg := I.2.1 1 6
  rw [show tf 1 6 = (0, 40) by decide +kernel] at rg
  have oe := okP_eq (x1 := x1) (x2 := x2) (x3 := x3) rg.2
  have z := oca_eq oe kp kq
  have eE1 : eE h1 = eE h := by
    unfold eE
    rw [show h_i h1 200 = h_i h 200 from funext (fun k => fr_i f1 (by decide +kernel) k), show h_i h1 201 = h_i h 201 from funext (fun k => fr_i f1 (by decide +kernel) k), show h_i h1 202 = h_i h 202 from funext (fun k => fr_i f1 (by decide +kernel) k)]
  have eN1 : eN h1 = eN h := by
    unfold eN
    rw [e1]
  have dX2 : dX h2 = dX h1 := by
    unfold dX
    rw [show h_i h2 30 = h_i h1 30 from funext (fun k => fr_i f2 (by decide +kernel) k)]
  refine ⟨⟨?_, ?_⟩, z.1⟩
  · rw [(f2.2 10 1 (by decide +kernel)).1]
    exact z.2
  · by_cases o : okPx (h_i h 1 6) x1 x2 x3
    · have o' := oe.mp o
      have xx := xp o
      have yy := xq o'
      rw [eE1, eN1] at yy
      refine ⟨fun i hi => ?_, ?_⟩
      · have w : (eE h2 i).2.2 = (h_i h2 202 i).toInt := rfl
        rw [← w, yy.1]
        rw [yy.2] at hi
        unfold exE
        by_cases c : i = eN h
        · rw [if_pos c]
          exact q_le.mp o.2.2.2.1.1
        · rw [if_neg c]
          exact L.2.1 i (by omega)
      · rw [yy.1, yy.2, dX2]
        exact xx
    · rw [nq (fun y => o (oe.mpr y)), np o]
      exact L.2
/-- far while the reference searches -/
def Fi (u : Nat) (h0 h : Hp_) : Prop := Iv h ∧ Fr [203999] h0 h ∧ (∀ v, v < 16 → (0 ≤ (h_i h 203 v).toInt ∧ (h_i h 203 v).toInt ≤ 100000) ∧ ((h_i h 203 v).toInt < 100000 → ∃ k, wkq (eE h0) (eN h0) u k v (h_i h 203 v).toInt)) ∧ (h_i h 203 u).toInt ≤ 0
theorem Fi.e {u : Nat} {h0 h : Hp_} (f : Fi u h0 h) : eE h = eE h0 ∧ eN h = eN h0 ∧ ∀ k, h_i h 200 k = h_i h0 200 k ∧ h_i h 201 k = h_i h0 201 k ∧ h_i h 202 k = h_i h0 202 k := by
  have a : h_i h 200 = h_i h0 200 := funext (fun k => fr_i f.2.1 (by decide +kernel) k)
  have b : h_i h 201 = h_i h0 201 := funext (fun k => fr_i f.2.1 (by decide +kernel) k)
  have c : h_i h 202 = h_i h0 202 := funext (fun k => fr_i f.2.1 (by decide +kernel) k)
  refine ⟨by unfold eE; rw [a, b, c], by unfold eN; rw [(f.2.1.2 1 6 (by decide +kernel)).1], fun k => ⟨by rw [a], by rw [b], by rw [c]⟩⟩
theorem Fi.st {u : Nat} {h0 h : Hp_} (f : Fi u h0 h) {p : Nat} (hp : p < 16) {y : Int32} (l : 0 ≤ y.toInt) (c : y.toInt < (h_i h 203 p).toInt) (w : y.toInt < 100000 → ∃ k, wkq (eE h0) (eN h0) u k p y.toInt) : Fi u h0 (h_im h 203 p y) ∧ fsn (h_im h 203 p y) 16 < fsn h 16 := by
  have b := (f.2.2.1 p hp).1
  have s := (fsn_le (h := h) (p := p) (x := y) (by omega) l 16).2 hp
  refine ⟨⟨tr_ 203 (by decide +kernel) f.1 _ _ (by decide) (by decide), f.2.1.im (inw_row (by decide +kernel) _), fun v hv => ?_, ?_⟩, by omega⟩
  · by_cases q : v = p
    · rw [q, im_at]
      exact ⟨⟨l, by omega⟩, w⟩
    · rw [h_i_im, if_neg (fun z => q z.2)]
      exact f.2.2.1 v hv
  · by_cases q : u = p
    · rw [q, im_at]
      have := f.2.2.2
      rw [q] at this
      omega
    · rw [h_i_im, if_neg (fun z => q z.2)]
      exact f.2.2.2
/-- the paths before k are no shorter ways -/
def Fk (h0 h : Hp_) (j : Nat) : Prop := ∀ i, i < j → (h_i h 203 (eE h0 i).2.1).toInt ≤ (h_i h 203 (eE h0 i).1).toInt + (eE h0 i).2.2 ∧ (h_i h 203 (eE h0 i).1).toInt ≤ (h_i h 203 (eE h0 i).2.1).toInt + (eE h0 i).2.2
theorem wo_43 (d : Nat) (h0 : Hp_) (I0 : Iv h0) (x0 : ∀ i, i < eN h0 → 1 ≤ (h_i h0 202 i).toInt) (u : Nat) (x2 : Int32) (K : Int32 → Hp_ → Prop) (N : Nat) (k0 : ∀ h, Fi u h0 h → Fk h0 h (eN h0) → AW (m_X12_walkOf (d + 0) 0 0) 0 0 34 [(0, .ref 1), (2, .int x2), (3, .int 0)] [] h (kI K)) (k1 : ∀ h, Fi u h0 h → fsn h 16 < N → AW (m_X12_walkOf (d + 0) 0 0) 0 0 34 [(0, .ref 1), (2, .int x2), (3, .int 1)] [] h (kI K)) :
    ∀ (r j : Nat) (x3 : Int32) (h : Hp_), j + r = eN h0 → Fi u h0 h → ((x3 = 0 ∧ fsn h 16 ≤ N ∧ Fk h0 h j) ∨ (x3 = 1 ∧ fsn h 16 < N)) → AW (m_X12_walkOf (d + 0) 0 0) 0 0 43 [(0, .ref 1), (2, .int x2), (3, .int x3), (4, .int (Int32.ofNat j))] [] h (kI K) := by
  have ev := ev_ I0 x0
  have b6 := f_le (c := 1) (f := 6) (n := 40) I0 (by decide +kernel)
  have n6 := n_nat (x := h_i h0 1 6) b6.1
  have en : (eN h0 : Int) = (h_i h0 1 6).toInt := n6
  intro r
  induction r with
  | zero =>
    intro j x3 h ej f c
    have e6 : h_i h 1 6 = h_i h0 1 6 := (f.2.1.2 1 6 (by decide +kernel)).1
    have ejn : j = eN h0 := by omega
    refine t_X12_walkOf_43 d h f.1.1 x2 x3 _ K ⟨fun _ => ?_, fun z => absurd (q_le.mpr (by rw [e6, on_j (by omega)]; omega)) z⟩
    rcases c with ⟨c, _, c'⟩ | ⟨c, c'⟩
    · rw [c]
      exact k0 h f (ejn ▸ c')
    · rw [c]
      exact k1 h f c'
  | succ r ih =>
    intro j x3 h ej f c
    have hj : j < eN h0 := by omega
    have q := ev j hj
    have e6 : h_i h 1 6 = h_i h0 1 6 := (f.2.1.2 1 6 (by decide +kernel)).1
    have ee := f.e
    have kj : (Int32.ofNat j).toNatClampNeg = j := on_k (by omega)
    have vj : vp_in (Int32.ofNat j) 40 := on_in (by omega) (by decide)
    have r0 := I0.2.1 200 j
    have r1 := I0.2.1 201 j
    rw [tfa_tf (show tfa 200 = some (0, 15) by decide +kernel)] at r0
    rw [tfa_tf (show tfa 201 = some (0, 15) by decide +kernel)] at r1
    have va : vp_in (h_i h0 200 j) 16 := dp_in (lo := 0) (hi := 15) r0 (by decide) (by decide)
    have vb : vp_in (h_i h0 201 j) 16 := dp_in (lo := 0) (hi := 15) r1 (by decide) (by decide)
    have em : (h_i h0 202 j).toInt = (eE h0 j).2.2 := rfl
    have ea : (h_i h0 200 j).toNatClampNeg = (eE h0 j).1 := rfl
    have eb : (h_i h0 201 j).toNatClampNeg = (eE h0 j).2.1 := rfl
    have fa := f.2.2.1 _ q.1.1
    have fb := f.2.2.1 _ q.1.2
    have nx : ∀ (h' : Hp_) (y : Int32), Fi u h0 h' → ((y = 0 ∧ fsn h' 16 ≤ N ∧ Fk h0 h' (j + 1)) ∨ (y = 1 ∧ fsn h' 16 < N)) → AW (m_X12_walkOf (d + 0) 0 0) 0 0 43 [(0, .ref 1), (2, .int x2), (3, .int y), (4, .int (Int32.ofNat j + 1))] [] h' (kI K) := fun h' y f' c' => by
      rw [on_s (by omega)]
      exact ih (j + 1) y h' (by omega) f' c'
    have hN : fsn h 16 ≤ N := by rcases c with c | c <;> omega
    have wb : ∀ h', Fi u h0 h' → (h_i h' 203 (eE h0 j).1).toInt + (eE h0 j).2.2 < 100000 → ∃ k, wkq (eE h0) (eN h0) u k (eE h0 j).2.1 ((h_i h' 203 (eE h0 j).1).toInt + (eE h0 j).2.2) := fun h' f' l => by
      obtain ⟨k, w⟩ := (f'.2.2.1 _ q.1.1).2 (by omega)
      exact ⟨k + 1, j, hj, Or.inl ⟨rfl, by rw [Int.add_sub_cancel]; exact w⟩⟩
    have wa : ∀ h', Fi u h0 h' → (h_i h' 203 (eE h0 j).2.1).toInt + (eE h0 j).2.2 < 100000 → ∃ k, wkq (eE h0) (eN h0) u k (eE h0 j).1 ((h_i h' 203 (eE h0 j).2.1).toInt + (eE h0 j).2.2) := fun h' f' l => by
      obtain ⟨k, w⟩ := (f'.2.2.1 _ q.1.2).2 (by omega)
      exact ⟨k + 1, j, hj, Or.inr ⟨rfl, by rw [Int.add_sub_cancel]; exact w⟩⟩
    have sa : (h_i h 203 (eE h0 j).1 + h_i h0 202 j).toInt = (h_i h 203 (eE h0 j).1).toInt + (eE h0 j).2.2 := by
      rw [tx_add (by omega) (by omega), em]
    have sb : (h_i h 203 (eE h0 j).2.1 + h_i h0 202 j).toInt = (h_i h 203 (eE h0 j).2.1).toInt + (eE h0 j).2.2 := by
      rw [tx_add (by omega) (by omega), em]
    have T := t_X12_walkOf_43 d h f.1.1 x2 x3 (Int32.ofNat j) K
    rw [kj, (ee.2.2 j).1, (ee.2.2 j).2.1, (ee.2.2 j).2.2, ea, eb, e6] at T
    refine T ⟨fun z => by have := q_le.mp z; rw [on_j (by omega)] at this; omega, fun _ => ⟨vj, vj, va, vj, vb, fun e1 => ⟨vb, vj, va, fun e2 => nx h x3 f ?_, fun e2 => ⟨vb, vj, va, ?_⟩⟩, fun e1 => ⟨va, vj, vb, vb, vj, va, ?_⟩⟩⟩
    · have e1 := q_le.mp e1
      have e2 := q_le.mp e2
      rw [sa] at e1
      rw [sb] at e2
      rcases c with ⟨c, c1, c2⟩ | c
      · refine Or.inl ⟨c, c1, fun i hi => ?_⟩
        by_cases y : i = j
        · rw [y]
          exact ⟨e1, e2⟩
        · exact c2 i (by omega)
      · exact Or.inr c
    · have e2 := q_nle e2
      rw [sb] at e2
      have s := f.st q.1.1 (y := h_i h 203 (eE h0 j).2.1 + h_i h0 202 j) (by rw [sb]; omega) (by rw [sb]; exact e2) (by rw [sb]; exact wa h f)
      exact nx _ 1 s.1 (Or.inr ⟨rfl, by omega⟩)
    · have e1 := q_nle e1
      rw [sa] at e1
      have s := f.st q.1.2 (y := h_i h 203 (eE h0 j).1 + h_i h0 202 j) (by rw [sa]; omega) (by rw [sa]; exact e1) (by rw [sa]; exact wb h f)
      have at1 : (h_i (h_im h 203 (eE h0 j).2.1 (h_i h 203 (eE h0 j).1 + h_i h0 202 j)) 203 (eE h0 j).2.1) = h_i h 203 (eE h0 j).1 + h_i h0 202 j := im_at
      have s2 : (h_i h 203 (eE h0 j).1 + h_i h0 202 j + h_i h0 202 j).toInt = (h_i h 203 (eE h0 j).1).toInt + (eE h0 j).2.2 + (eE h0 j).2.2 := by
        rw [tx_add (by rw [sa]; omega) (by rw [sa]; omega), sa, em]
      refine ⟨fun _ => nx _ 1 s.1 (Or.inr ⟨rfl, by omega⟩), fun e2 => ⟨vb, vj, va, ?_⟩⟩
      have e2 := q_nle e2
      rw [s2] at e2
      have w2 := wa _ s.1
      rw [at1, sa] at w2
      have t := s.1.st q.1.1 (y := h_i h 203 (eE h0 j).1 + h_i h0 202 j + h_i h0 202 j) (by rw [s2]; omega) (by rw [s2]; exact e2) (by rw [s2]; exact w2)
      exact nx _ 1 t.1 (Or.inr ⟨rfl, by omega⟩)
theorem wo_34 (d : Nat) (h0 : Hp_) (I0 : Iv h0) (x0 : ∀ i, i < eN h0 → 1 ≤ (h_i h0 202 i).toInt) (u : Nat) (x2 : Int32) (K : Int32 → Hp_ → Prop) (k0 : ∀ h, Fi u h0 h → Fk h0 h (eN h0) → AW (m_X12_walkOf (d + 0) 0 0) 0 0 34 [(0, .ref 1), (2, .int x2), (3, .int 0)] [] h (kI K)) :
    ∀ (N : Nat) (h : Hp_), Fi u h0 h → fsn h 16 < N → AW (m_X12_walkOf (d + 0) 0 0) 0 0 34 [(0, .ref 1), (2, .int x2), (3, .int 1)] [] h (kI K)
  | 0, _, _, l => absurd l (by omega)
  | N + 1, h, f, l => t_X12_walkOf_34 d h f.1.1 x2 1 K ⟨fun z => absurd z (by decide), fun _ => wo_43 d h0 I0 x0 u x2 K (fsn h 16) k0 (fun h' f' l' => wo_34 d h0 I0 x0 u x2 K k0 N h' f' (by omega)) (eN h0) 0 0 h (by omega) f (Or.inl ⟨rfl, Nat.le_refl _, fun i hi => absurd hi (by omega)⟩)⟩
/-- what the reference's search answers -/
theorem c_woM (d : Nat) {h : Hp_} (I : Iv h) (x0 : ∀ i, i < eN h → 1 ≤ (h_i h 202 i).toInt) (x1 x2 : Int32) (p1 : 0 ≤ x1.toInt ∧ x1.toInt < 16) (p2 : 0 ≤ x2.toInt ∧ x2.toInt < 16) : Ci (m_X12_walkOf (d + 0) 0 0) [.ref 1, .int x1, .int x2] h (fun r h' => Iv h' ∧ Fr [203999] h h' ∧ ∃ e : Nat → Int, Exr (eE h) (eN h) 100000 x1.toNatClampNeg e ∧ ((e x2.toNatClampNeg < 100000 ∧ r.toInt = e x2.toNatClampNeg) ∨ (¬ e x2.toNatClampNeg < 100000 ∧ r = -1))) := by
  have t16 : (16 : Int32).toInt = 16 := rfl
  have t1 : (1 : Int32).toInt = 1 := rfl
  have t0 : (0 : Int32).toInt = 0 := rfl
  have tm : (100000 : Int32).toInt = 100000 := rfl
  have n1 := n_nat (x := x1) p1.1
  have n2 := n_nat (x := x2) p2.1
  have v2 : vp_in x2 16 := vin_ti p2.1 (by omega)
  have fin : ∀ h', Fi x1.toNatClampNeg h h' → Fk h h' (eN h) → AW (m_X12_walkOf (d + 0) 0 0) 0 0 34 [(0, .ref 1), (2, .int x2), (3, .int 0)] [] h' (kI (fun r h' => Iv h' ∧ Fr [203999] h h' ∧ ∃ e : Nat → Int, Exr (eE h) (eN h) 100000 x1.toNatClampNeg e ∧ ((e x2.toNatClampNeg < 100000 ∧ r.toInt = e x2.toNatClampNeg) ∨ (¬ e x2.toNatClampNeg < 100000 ∧ r = -1)))) := fun h' f g => by
    have X : Exr (eE h) (eN h) 100000 x1.toNatClampNeg (fun v => (h_i h' 203 v).toInt) := fun v hv => ⟨(f.2.2.1 v hv).1, fe_le (d := fun v => (h_i h' 203 v).toInt) g f.2.2.2 |> fun q k t w => q k v t w, (f.2.2.1 v hv).2⟩
    exact t_X12_walkOf_34 d h' f.1.1 x2 0 _ ⟨fun _ => ⟨v2, fun c => ⟨v2, f.1, f.2.1, _, X, Or.inl ⟨by have := q_lt.mp c; rw [tm] at this; exact this, rfl⟩⟩, fun c => ⟨f.1, f.2.1, _, X, Or.inr ⟨fun y => c (q_lt.mpr (by rw [tm]; exact y)), rfl⟩⟩⟩, fun z => absurd rfl z⟩
  have lp : ∀ (r j : Nat) (h' : Hp_), j + r = 16 → Iv h' → Fr [203999] h h' → (∀ v, v < j → h_i h' 203 v = if v = x1.toNatClampNeg then 0 else 100000) → AW (m_X12_walkOf (d + 0) 0 0) 0 0 2 [(0, .ref 1), (1, .int x1), (2, .int x2), (3, .int (Int32.ofNat j))] [] h' (kI (fun r h' => Iv h' ∧ Fr [203999] h h' ∧ ∃ e : Nat → Int, Exr (eE h) (eN h) 100000 x1.toNatClampNeg e ∧ ((e x2.toNatClampNeg < 100000 ∧ r.toInt = e x2.toNatClampNeg) ∨ (¬ e x2.toNatClampNeg < 100000 ∧ r = -1)))) := by
    intro r
    induction r with
    | zero =>
      intro j h' ej I' F' P
      refine t_X12_walkOf_2 d h' I'.1 x1 x2 _ _ ⟨fun _ => ?_, fun z => absurd (q_le.mpr (by rw [t16, on_j (by omega)]; omega)) z⟩
      refine wo_34 d h I x0 x1.toNatClampNeg x2 _ fin (fsn h' 16 + 1) h' ⟨I', F', fun v hv => ?_, ?_⟩ (by omega)
      · rw [P v (by omega)]
        by_cases c : v = x1.toNatClampNeg
        · rw [if_pos c, t0]
          exact ⟨⟨by decide, by decide⟩, fun _ => ⟨0, c, rfl⟩⟩
        · rw [if_neg c, tm]
          exact ⟨⟨by decide, by decide⟩, fun y => absurd y (by decide)⟩
      · rw [P _ (by omega), if_pos rfl, t0]
        exact Int.le_refl _
    | succ r ih =>
      intro j h' ej I' F' P
      have kj : (Int32.ofNat j).toNatClampNeg = j := on_k (by omega)
      have vj : vp_in (Int32.ofNat j) 16 := on_in (by omega) (by decide)
      have go : ∀ y, y = (if j = x1.toNatClampNeg then (0 : Int32) else 100000) → AW (m_X12_walkOf (d + 0) 0 0) 0 0 2 [(0, .ref 1), (1, .int x1), (2, .int x2), (3, .int (Int32.ofNat j + 1))] [] (h_im h' 203 (Int32.ofNat j).toNatClampNeg y) (kI (fun r h' => Iv h' ∧ Fr [203999] h h' ∧ ∃ e : Nat → Int, Exr (eE h) (eN h) 100000 x1.toNatClampNeg e ∧ ((e x2.toNatClampNeg < 100000 ∧ r.toInt = e x2.toNatClampNeg) ∨ (¬ e x2.toNatClampNeg < 100000 ∧ r = -1)))) := fun y ey => by
        rw [kj, on_s (by omega)]
        refine ih (j + 1) _ (by omega) (tr_ 203 (by decide +kernel) I' _ _ (by decide) (by decide)) (F'.im (inw_row (by decide +kernel) _)) (fun v hv => ?_)
        by_cases c : v = j
        · rw [c, im_at]
          exact ey
        · rw [h_i_im, if_neg (fun z => c z.2)]
          exact P v (by omega)
      refine t_X12_walkOf_2 d h' I'.1 x1 x2 _ _ ⟨fun z => by have := q_le.mp z; rw [t16, on_j (by omega)] at this; omega, fun _ => ⟨fun n => ⟨vj, go 100000 ?_⟩, fun e => ⟨vj, go 0 ?_⟩⟩⟩
      · rw [if_neg (fun c => n (Int32.toInt_inj.mp (by rw [on_j (by omega)]; omega)))]
      · rw [if_pos (by rw [← e, kj])]
  exact t_X12_walkOf d h x1 x2 _ (lp 16 0 h (by omega) I (Fr.rf _ _) (fun v hv => absurd hv (by omega)))
/-- the walks, as the class's table has them -/
def wX (h : Hp_) (a b : Nat) : Option Int := if a < 16 ∧ b < 16 ∧ dX h a b < 1000000 then some (dX h a b) else none
theorem wX_le {h : Hp_} (I : Iv h) (x : ExP h) (a b : Nat) (k : Int) (e : wX h a b = some k) : 0 ≤ k ∧ k ≤ 900 := by
  unfold wX at e
  by_cases c : a < 16 ∧ b < 16 ∧ dX h a b < 1000000
  · rw [if_pos c] at e
    cases e
    have q := x.2 a c.1
    exact ⟨(q b c.2.1).1.1, q.le (ev_ I x.1) c.2.1 c.2.2⟩
  · rw [if_neg c] at e
    cases e
theorem wX_cg {h h' : Hp_} (e : ∀ k, h_i h' 30 k = h_i h 30 k) : wX h' = wX h := by
  unfold wX dX
  rw [show h_i h' 30 = h_i h 30 from funext e]
theorem c_mnX (d : Nat) {h : Hp_} (I : Iv h) (a b : Nat) (ha : a < 16) (hb : b < 16) : Ci (m_X9_minutes (d + 1) 0 0) [.ref 10, .int (Int32.ofNat a), .int (Int32.ofNat b)] h (fun r h' => h' = h ∧ ((∃ k, wX h a b = some k ∧ r.toInt = k) ∨ (wX h a b = none ∧ r = -1))) := by
  have t16 : (16 : Int32).toInt = 16 := rfl
  have t0 : (0 : Int32).toInt = 0 := rfl
  have tm : (1000000 : Int32).toInt = 1000000 := rfl
  have oa := on_j (n := a) (by omega)
  have ob := on_j (n := b) (by omega)
  have b1 : 0 ≤ Int32.ofNat a ∧ Int32.ofNat a < 16 := ⟨q_le.mpr (by omega), q_lt.mpr (by omega)⟩
  have b2 : 0 ≤ Int32.ofNat b ∧ Int32.ofNat b < 16 := ⟨q_le.mpr (by omega), q_lt.mpr (by omega)⟩
  have k := i256 (i := a) (j := b) ha hb
  refine t_X9_minutes d h _ _ _ (Ci.mono (s_X11_isPlace _ h (Int32.ofNat a)) (fun r h3 q => ?_))
  obtain ⟨er, eh⟩ := q
  subst er eh
  refine ⟨I.1, fun z => absurd b1 (bI_0.mp z), fun _ => Ci.mono (s_X11_isPlace _ _ (Int32.ofNat b)) (fun r h4 q => ?_)⟩
  obtain ⟨er, eh⟩ := q
  subst er eh
  refine ⟨I.1, fun _ => ⟨k.2, ?_⟩, fun z => absurd b2 (bI_0.mp z)⟩
  rw [k.1]
  refine ⟨fun c => ⟨rfl, Or.inl ⟨dX h4 a b, ?_, rfl⟩⟩, fun c => ⟨rfl, Or.inr ⟨?_, rfl⟩⟩⟩
  · have c := q_lt.mp c
    rw [tm] at c
    unfold wX
    rw [if_pos ⟨ha, hb, c⟩]
  · unfold wX
    rw [if_neg (fun y => c (q_lt.mpr (by rw [tm]; exact y.2.2)))]
theorem c_woR (d : Nat) {h : Hp_} (I : Iv h) (x : ExP h) (x1 x2 : Int32) (p1 : 0 ≤ x1.toInt ∧ x1.toInt < 16) (p2 : 0 ≤ x2.toInt ∧ x2.toInt < 16) : Ci (m_X12_walkOf (d + 0) 0 0) [.ref 1, .int x1, .int x2] h (fun r h' => Iv h' ∧ Fr [203999] h h' ∧ ((∃ k, wX h x1.toNatClampNeg x2.toNatClampNeg = some k ∧ r.toInt = k) ∨ (wX h x1.toNatClampNeg x2.toNatClampNeg = none ∧ r = -1))) := by
  have n1 := n_nat (x := x1) p1.1
  have n2 := n_nat (x := x2) p2.1
  refine Ci.mono (c_woM d I x.1 x1 x2 p1 p2) (fun r h' q => ⟨q.1, q.2.1, ?_⟩)
  obtain ⟨e, X, y⟩ := q.2.2
  have z := (x.2 x1.toNatClampNeg (by omega)).eq X (ev_ I x.1) (by decide) (by decide) (v := x2.toNatClampNeg) (by omega)
  unfold wX
  rcases z with ⟨z1, z2, z3⟩ | ⟨z1, z2⟩
  · rw [if_pos ⟨by omega, by omega, z1⟩]
    rcases y with ⟨_, y⟩ | ⟨y, _⟩
    · exact Or.inl ⟨_, rfl, by rw [y, z3]⟩
    · exact absurd z2 y
  · rw [if_neg (fun c => z1 c.2.2)]
    rcases y with ⟨y, _⟩ | ⟨_, y⟩
    · exact absurd y z2
    · exact Or.inr ⟨rfl, y⟩
/-- of each beat its steps -/
def sB (h : Hp_) (k i : Nat) : Sp3 := (h_i h 228 (150 * k + i), h_i h 229 (150 * k + i), h_i h 230 (150 * k + i))
def bL (h : Hp_) (k : Nat) : List Sp3 := (List.range (h_i h 227 k).toNatClampNeg).map (sB h k)
def ExS (h : Hp_) : Prop := ∀ k, k < (h_i h 12 3).toNatClampNeg → ∀ i, i < (h_i h 227 k).toNatClampNeg → h_i h 34 (150 * k + i) = pkS (sB h k i) ∧ stR (sB h k i)
def exoS (ws : List Nat) : Bool := off ws 34 && off ws 227 && off ws 228 && off ws 229 && off ws 230 && !inw ws 12 3
theorem exS_F : ExS HF := fun k hk => by
  rw [show h_i HF 12 3 = 0 by decide +kernel] at hk
  exact absurd hk (by show ¬ k < 0; omega)
theorem ExS.cg {h h' : Hp_} (e : ExS h) (a : ∀ k, h_i h' 34 k = h_i h 34 k) (b : ∀ k, h_i h' 227 k = h_i h 227 k) (c : ∀ k, h_i h' 228 k = h_i h 228 k) (d : ∀ k, h_i h' 229 k = h_i h 229 k) (f : ∀ k, h_i h' 230 k = h_i h 230 k) (n : h_i h' 12 3 = h_i h 12 3) : ExS h' := fun k hk i hi => by
  rw [n] at hk
  rw [b] at hi
  have q := e k hk i hi
  unfold sB at q ⊢
  rw [a, c, d, f]
  exact q
theorem ExS.fr {ws : List Nat} {h h' : Hp_} (e : ExS h) (f : Fr ws h h') (o : exoS ws = true) : ExS h' := by
  unfold exoS at o
  simp only [Bool.and_eq_true, Bool.not_eq_true'] at o
  exact e.cg (fun k => fr_i f o.1.1.1.1.1 k) (fun k => fr_i f o.1.1.1.1.2 k) (fun k => fr_i f o.1.1.1.2 k) (fun k => fr_i f o.1.1.2 k) (fun k => fr_i f o.1.2 k) (f.2 12 3 o.2).1
theorem ExS.mf {W : List Nat} {h h' : Hp_} (e : ExS h) (f : Mf W h h') (o : exoS W = true) : ExS h' := by
  unfold exoS at o
  simp only [Bool.and_eq_true, Bool.not_eq_true'] at o
  exact e.cg (fun k => (f.2.2.2 34 k (by decide) (off_inw o.1.1.1.1.1 k)).1) (fun k => f.2.1 227 (by decide) (by decide) k) (fun k => f.2.1 228 (by decide) (by decide) k) (fun k => f.2.1 229 (by decide) (by decide) k) (fun k => f.2.1 230 (by decide) (by decide) k) (f.2.2.2 12 3 (by decide) o.2).1
theorem z227 {h : Hp_} (I : Iv h) (k : Nat) : (h_i h 227 k).toNatClampNeg ≤ 150 ∧ (((h_i h 227 k).toNatClampNeg : Nat) : Int) = (h_i h 227 k).toInt := by
  have rg := I.2.1 227 k
  rw [tfa_tf (show tfa 227 = some (0, 150) by decide +kernel)] at rg
  have r0 : 0 ≤ (h_i h 227 k).toInt := rg.1
  have r1 : (h_i h 227 k).toInt ≤ 150 := rg.2
  have n := n_nat r0
  exact ⟨by omega, by omega⟩
theorem ExS.bt {N : Nat} {h h1 h2 : Hp_} {r1 r2 : Int32} (T : LiT N h) (L : ExS h) (k1 : Iv h1 ∧ Fr wbx h h1 ∧ Btx h r1 h1) (k2 : (Iv h2 ∧ J2 h2) ∧ Btm (h_i h 31) (xn h) h1 r2 h2) : ExS h2 := by
  obtain ⟨I1, F1, kn, ky⟩ := k1
  obtain ⟨⟨I2, JJ⟩, F2, c8, mn, my⟩ := k2
  have a42 : h_i h1 1 42 = h_i h 12 3 := (F1.2 1 42 (by decide +kernel)).1.trans T.r2.symm
  rw [a42] at mn my
  have b123 : h_i h2 12 3 = h_i h1 12 3 := (F2.2 12 3 (by decide +kernel)).1
  have f227 : ∀ k, h_i h1 227 k = h_i h 227 k := fun k => fr_i F1 (by decide +kernel) k
  have f228 : ∀ k, h_i h1 228 k = h_i h 228 k := fun k => fr_i F1 (by decide +kernel) k
  have f229 : ∀ k, h_i h1 229 k = h_i h 229 k := fun k => fr_i F1 (by decide +kernel) k
  have f230 : ∀ k, h_i h1 230 k = h_i h 230 k := fun k => fr_i F1 (by decide +kernel) k
  have g34 : ∀ k, h_i h2 34 k = h_i h1 34 k := fun k => fr_i F2 (by decide +kernel) k
  have bb1 : bB h1 = 150 * (h_i h 12 3).toNatClampNeg := by
    show 150 * (h_i h1 1 42).toNatClampNeg = _
    rw [a42]
  have b3 := x12_in T.1
  have n3 := n_nat b3.1
  have lw : ∀ k, k < (h_i h 12 3).toNatClampNeg → (∀ z, z < 150 * (h_i h 12 3).toNatClampNeg → h_i h1 34 z = h_i h 34 z) → h_i h2 227 k = h_i h 227 k → ∀ i, i < (h_i h2 227 k).toNatClampNeg → h_i h2 34 (150 * k + i) = pkS (sB h2 k i) ∧ stR (sB h2 k i) := fun k hk x w i hi => by
    rw [w] at hi
    have zk := (z227 T.1 k).1
    have q := L k hk i hi
    have cc := c8 (150 * k + i) (by rw [bb1]; omega)
    have es : sB h2 k i = sB h k i := by
      unfold sB
      rw [cc.1, cc.2.1, cc.2.2, f228, f229, f230]
    rw [g34, x _ (by omega), es]
    exact q
  by_cases o : okB (h_i h 31) (xn h) (h_i h 12 3)
  · have ky := ky o
    have my := my o
    have t1 : (1 : Int32).toInt = 1 := rfl
    have ex : (h_i h 12 3 + 1).toInt = (h_i h 12 3).toInt + 1 := tx_add (by rw [t1]; omega) (by rw [t1]; omega)
    have n4 := n_nat (x := h_i h 12 3 + 1) (by omega)
    intro k hk
    rw [b123, ky.2.1] at hk
    have w : h_i h2 227 k = if k = (h_i h 12 3).toNatClampNeg then Int32.ofNat (beo (h_i h 31) (xn h)).length else h_i h 227 k := by rw [my.2.2.2.1 k, f227]
    rcases Nat.lt_or_ge k (h_i h 12 3).toNatClampNeg with u | u
    · have nk : ¬ k = (h_i h 12 3).toNatClampNeg := by omega
      rw [if_neg nk] at w
      exact lw k u ky.2.2.2.2.2.2 w
    · have ek : k = (h_i h 12 3).toNatClampNeg := by omega
      rw [if_pos ek] at w
      intro i hi
      have l150 := o.2.2
      rw [w, on_k (by omega)] at hi
      have gi : (beo (h_i h 31) (xn h))[i]? = some ((beo (h_i h 31) (xn h))[i]'hi) := List.getElem?_eq_getElem hi
      have p := ky.2.2.2.2.2.1 i _ gi
      have m := my.2.2.2.2.1 i _ gi
      have s := my.2.2.2.2.2 _ (List.getElem_mem hi)
      rw [bb1, ← ek] at m
      rw [← ek] at p
      have es : sB h2 k i = (beo (h_i h 31) (xn h))[i]'hi := by
        unfold sB
        rw [m.1, m.2.1, m.2.2]
      rw [g34, p, es]
      exact ⟨rfl, s⟩
  · have kn := kn o
    have mn := mn o
    intro k hk
    rw [b123, kn.2.1] at hk
    exact lw k hk (fun z _ => kn.2.2.2.2.2 z) ((mn.2.2.2 k).trans (f227 k))
abbrev okWx (m x1 x2 x3 : Int32) : Prop := (0 ≤ x1 ∧ x1 < 16) ∧ (0 ≤ x2 ∧ x2 ≤ 1440) ∧ (x2 ≤ x3 ∧ x3 ≤ 1440) ∧ m < 8
abbrev okWn (m x1 x2 x3 : Int32) : Prop := (0 ≤ x1 ∧ x1 ≤ 15) ∧ (0 ≤ x2 ∧ x2 ≤ 1440) ∧ (x2 ≤ x3 ∧ x3 ≤ 1440) ∧ ¬ m = 8
theorem w3_ {h : Hp_} {a n k : Nat} {x : Int32} {ok : Prop} [Decidable ok] (o : ok) : h_i (h_im h a n x) a k = if ok ∧ k = n then x else h_i h a k := by
  rw [h_i_im]
  by_cases q : k = n
  · rw [if_pos ⟨rfl, q⟩, if_pos ⟨o, q⟩]
  · rw [if_neg (fun y => q y.2), if_neg (fun y => q y.2)]
theorem w3a {h : Hp_} {p a b c f n k : Nat} {x y z v : Int32} {ok : Prop} [Decidable ok] (o : ok) (e1 : a ≠ b) (e2 : a ≠ c) (e3 : a ≠ p) : h_i (h_im (h_im (h_im (h_im h a n x) b n y) c n z) p f v) a k = if ok ∧ k = n then x else h_i h a k := by
  rw [im_ne e3, im_ne e2, im_ne e1]
  exact w3_ o
theorem w3b {h : Hp_} {p a b c f n k : Nat} {x y z v : Int32} {ok : Prop} [Decidable ok] (o : ok) (e1 : b ≠ a) (e2 : b ≠ c) (e3 : b ≠ p) : h_i (h_im (h_im (h_im (h_im h a n x) b n y) c n z) p f v) b k = if ok ∧ k = n then y else h_i h b k := by
  rw [im_ne e3, im_ne e2, w3_ o, im_ne e1]
theorem w3c {h : Hp_} {p a b c f n k : Nat} {x y z v : Int32} {ok : Prop} [Decidable ok] (o : ok) (e1 : c ≠ a) (e2 : c ≠ b) (e3 : c ≠ p) : h_i (h_im (h_im (h_im (h_im h a n x) b n y) c n z) p f v) c k = if ok ∧ k = n then z else h_i h c k := by
  rw [im_ne e3, w3_ o, im_ne e2, im_ne e1]
theorem c_wtX (d : Nat) {h : Hp_} (I : Iv h) (x1 x2 x3 : Int32) : Ci (m_X11_watch (d + 1) 0 0) [.ref 0, .int x1, .int x2, .int x3] h (fun r h' => Iv h' ∧ Fr [20003, 92999, 93999, 94999] h h' ∧ oca (okWx (h_i h 20 3) x1 x2 x3) (h_i h 20 3) r (h_i h' 20 3) ∧ (∀ k, h_i h' 92 k = if okWx (h_i h 20 3) x1 x2 x3 ∧ k = (h_i h 20 3).toNatClampNeg then x1 else h_i h 92 k) ∧ (∀ k, h_i h' 93 k = if okWx (h_i h 20 3) x1 x2 x3 ∧ k = (h_i h 20 3).toNatClampNeg then x2 else h_i h 93 k) ∧ (∀ k, h_i h' 94 k = if okWx (h_i h 20 3) x1 x2 x3 ∧ k = (h_i h 20 3).toNatClampNeg then x3 else h_i h 94 k)) := by
  have t1 : (1 : Int32).toInt = 1 := rfl
  have tc : (8 : Int32).toInt = 8 := rfl
  have rg := I.2.1 20 3
  rw [show tf 20 3 = (0, 8) by decide +kernel] at rg
  have r0 : 0 ≤ (h_i h 20 3).toInt := rg.1
  have r1 : (h_i h 20 3).toInt ≤ 8 := rg.2
  have no : ¬ okWx (h_i h 20 3) x1 x2 x3 → Iv h ∧ Fr [20003, 92999, 93999, 94999] h h ∧ oca (okWx (h_i h 20 3) x1 x2 x3) (h_i h 20 3) (-1) (h_i h 20 3) ∧ (∀ k, h_i h 92 k = if okWx (h_i h 20 3) x1 x2 x3 ∧ k = (h_i h 20 3).toNatClampNeg then x1 else h_i h 92 k) ∧ (∀ k, h_i h 93 k = if okWx (h_i h 20 3) x1 x2 x3 ∧ k = (h_i h 20 3).toNatClampNeg then x2 else h_i h 93 k) ∧ (∀ k, h_i h 94 k = if okWx (h_i h 20 3) x1 x2 x3 ∧ k = (h_i h 20 3).toNatClampNeg then x3 else h_i h 94 k) := fun n => ⟨I, Fr.rf _ _, Or.inr ⟨n, rfl, rfl⟩, fun k => (if_neg (fun y => n y.1)).symm, fun k => (if_neg (fun y => n y.1)).symm, fun k => (if_neg (fun y => n y.1)).symm⟩
  have vin : h_i h 20 3 < 8 → vp_in (h_i h 20 3) 8 := fun l => dp_in (lo := 0) (hi := 7) ⟨r0, by have := q_lt.mp l; show _ ≤ (7 : Int); omega⟩ (by decide) (by decide)
  have ex : h_i h 20 3 < 8 → (h_i h 20 3 + 1).toInt = (h_i h 20 3).toInt + 1 ∧ (h_i h 20 3).toInt < 8 := fun l => by
    have l := q_lt.mp l
    exact ⟨tx_add (by rw [t1]; omega) (by rw [t1]; omega), by omega⟩
  refine t_X11_watch d h x1 x2 x3 _ (Ci.mono (s_X11_isPlace _ h x1) (fun r h1 q => ?_))
  obtain ⟨er, eh⟩ := q
  subst er eh
  refine ⟨I.1, fun z => no (fun o => bI_0.mp z o.1), fun z => ⟨fun n => no (fun o => n o.2.1), fun a2 => ⟨fun a3 => ?_, fun n => no (fun o => n o.2.2.1)⟩⟩⟩
  have a1 : 0 ≤ x1 ∧ x1 < 16 := Decidable.byContradiction (fun n => z (bI_0.mpr n))
  refine t_X6_addWatch d h1 I.1 x1 x2 x3 _ ⟨fun l => ?_, fun n => ⟨I.1, no (fun o => n o.2.2.2)⟩⟩
  obtain ⟨e1, e2⟩ := ex l
  have I5 := ((tr_ 94 (by decide +kernel) (tr_ 93 (by decide +kernel) (tr_ 92 (by decide +kernel) I (h_i h1 20 3).toNatClampNeg x1 (by decide) (by decide)) (h_i h1 20 3).toNatClampNeg x2 (by decide) (by decide)) (h_i h1 20 3).toNatClampNeg x3 (by decide) (by decide)).im (a := 20) (k := 3) (x := (h_i h1 20 3 + 1)) (by rw [show tf 20 3 = (0, 8) by decide +kernel]; exact ⟨by show (0 : Int) ≤ _; omega, by show _ ≤ (8 : Int); omega⟩) (by decide))
  exact ⟨vin l, vin l, vin l, I5.1, I5, ((((Fr.rf _ _).im (inw_row (by decide +kernel) _)).im (inw_row (by decide +kernel) _)).im (inw_row (by decide +kernel) _)).im (by decide +kernel), Or.inl ⟨⟨a1, a2, a3, l⟩, tx_back _, im_at⟩, fun k => w3a ⟨a1, a2, a3, l⟩ (by decide) (by decide) (by decide), fun k => w3b ⟨a1, a2, a3, l⟩ (by decide) (by decide) (by decide), fun k => w3c ⟨a1, a2, a3, l⟩ (by decide) (by decide) (by decide)⟩
theorem c_wtM (d : Nat) {h : Hp_} (I : Iv h) (x1 x2 x3 : Int32) : Ci (m_X12_watch (d + 2) 0 0) [.ref 1, .int x1, .int x2, .int x3] h (fun r h' => Iv h' ∧ Fr [1108, 281999, 282999, 283999] h h' ∧ oca (okWn (h_i h 1 108) x1 x2 x3) (h_i h 1 108) r (h_i h' 1 108) ∧ (∀ k, h_i h' 281 k = if okWn (h_i h 1 108) x1 x2 x3 ∧ k = (h_i h 1 108).toNatClampNeg then x1 else h_i h 281 k) ∧ (∀ k, h_i h' 282 k = if okWn (h_i h 1 108) x1 x2 x3 ∧ k = (h_i h 1 108).toNatClampNeg then x2 else h_i h 282 k) ∧ (∀ k, h_i h' 283 k = if okWn (h_i h 1 108) x1 x2 x3 ∧ k = (h_i h 1 108).toNatClampNeg then x3 else h_i h 283 k)) := by
  have t1 : (1 : Int32).toInt = 1 := rfl
  have tc : (8 : Int32).toInt = 8 := rfl
  have rg := I.2.1 1 108
  rw [show tf 1 108 = (0, 8) by decide +kernel] at rg
  have r0 : 0 ≤ (h_i h 1 108).toInt := rg.1
  have r1 : (h_i h 1 108).toInt ≤ 8 := rg.2
  have no : ¬ okWn (h_i h 1 108) x1 x2 x3 → Iv h ∧ Fr [1108, 281999, 282999, 283999] h h ∧ oca (okWn (h_i h 1 108) x1 x2 x3) (h_i h 1 108) (-1) (h_i h 1 108) ∧ (∀ k, h_i h 281 k = if okWn (h_i h 1 108) x1 x2 x3 ∧ k = (h_i h 1 108).toNatClampNeg then x1 else h_i h 281 k) ∧ (∀ k, h_i h 282 k = if okWn (h_i h 1 108) x1 x2 x3 ∧ k = (h_i h 1 108).toNatClampNeg then x2 else h_i h 282 k) ∧ (∀ k, h_i h 283 k = if okWn (h_i h 1 108) x1 x2 x3 ∧ k = (h_i h 1 108).toNatClampNeg then x3 else h_i h 283 k) := fun n => ⟨I, Fr.rf _ _, Or.inr ⟨n, rfl, rfl⟩, fun k => (if_neg (fun y => n y.1)).symm, fun k => (if_neg (fun y => n y.1)).symm, fun k => (if_neg (fun y => n y.1)).symm⟩
  have vin : h_i h 1 108 < 8 → vp_in (h_i h 1 108) 8 := fun l => dp_in (lo := 0) (hi := 7) ⟨r0, by have := q_lt.mp l; show _ ≤ (7 : Int); omega⟩ (by decide) (by decide)
  have ex : h_i h 1 108 < 8 → (h_i h 1 108 + 1).toInt = (h_i h 1 108).toInt + 1 ∧ (h_i h 1 108).toInt < 8 := fun l => by
    have l := q_lt.mp l
    exact ⟨tx_add (by rw [t1]; omega) (by rw [t1]; omega), by omega⟩
  refine t_X12_watch d h I.1 x1 x2 x3 _ ⟨fun n => no (fun o => n o.1), fun a1 => ⟨fun n => no (fun o => n o.2.1), fun a2 => ⟨fun n => no (fun o => n o.2.2.1), fun a3 => ⟨fun ne => ?_, fun e => no (fun o => o.2.2.2 e)⟩⟩⟩⟩
  have l : h_i h 1 108 < 8 := (nz_lt (by rw [tc]; exact r1)).mpr ne
  obtain ⟨e1, e2⟩ := ex l
  exact ⟨vin l, vin l, vin l, ((tr_ 283 (by decide +kernel) (tr_ 282 (by decide +kernel) (tr_ 281 (by decide +kernel) I (h_i h 1 108).toNatClampNeg x1 (by decide) (by decide)) (h_i h 1 108).toNatClampNeg x2 (by decide) (by decide)) (h_i h 1 108).toNatClampNeg x3 (by decide) (by decide)).im (a := 1) (k := 108) (x := (h_i h 1 108 + 1)) (by rw [show tf 1 108 = (0, 8) by decide +kernel]; exact ⟨by show (0 : Int) ≤ _; omega, by show _ ≤ (8 : Int); omega⟩) (by decide)), ((((Fr.rf _ _).im (inw_row (by decide +kernel) _)).im (inw_row (by decide +kernel) _)).im (inw_row (by decide +kernel) _)).im (by decide +kernel), Or.inl ⟨⟨a1, a2, a3, ne⟩, tx_back _, im_at⟩, fun k => w3a ⟨a1, a2, a3, ne⟩ (by decide) (by decide) (by decide), fun k => w3b ⟨a1, a2, a3, ne⟩ (by decide) (by decide) (by decide), fun k => w3c ⟨a1, a2, a3, ne⟩ (by decide) (by decide) (by decide)⟩
theorem okW_eq {m x1 x2 x3 : Int32} (b : m.toInt ≤ 8) : okWx m x1 x2 x3 ↔ okWn m x1 x2 x3 := by
  unfold okWx okWn
  rw [p15, nz_lt (n := 8) b]
/-- the watches -/
def ExW (h : Hp_) : Prop := h_i h 20 3 = h_i h 1 108 ∧ ∀ k, k < (h_i h 20 3).toNatClampNeg → (h_i h 92 k = h_i h 281 k ∧ h_i h 93 k = h_i h 282 k ∧ h_i h 94 k = h_i h 283 k) ∧ (0 ≤ (h_i h 92 k).toInt ∧ (h_i h 92 k).toInt ≤ 15) ∧ (0 ≤ (h_i h 93 k).toInt ∧ (h_i h 94 k).toInt ≤ 1440)
def exoW (ws : List Nat) : Bool := off ws 92 && off ws 93 && off ws 94 && off ws 281 && off ws 282 && off ws 283 && !inw ws 20 3 && !inw ws 1 108
theorem exW_F : ExW HF := ⟨by decide +kernel, fun k hk => by
  rw [show h_i HF 20 3 = 0 by decide +kernel] at hk
  exact absurd hk (by show ¬ k < 0; omega)⟩
theorem ExW.cg {h h' : Hp_} (e : ExW h) (a : ∀ k, h_i h' 92 k = h_i h 92 k) (b : ∀ k, h_i h' 93 k = h_i h 93 k) (c : ∀ k, h_i h' 94 k = h_i h 94 k) (d : ∀ k, h_i h' 281 k = h_i h 281 k) (f : ∀ k, h_i h' 282 k = h_i h 282 k) (g : ∀ k, h_i h' 283 k = h_i h 283 k) (n : h_i h' 20 3 = h_i h 20 3) (m : h_i h' 1 108 = h_i h 1 108) : ExW h' := by
  refine ⟨by rw [n, m]; exact e.1, fun k hk => ?_⟩
  rw [n] at hk
  rw [a, b, c, d, f, g]
  exact e.2 k hk
theorem ExW.fr {ws : List Nat} {h h' : Hp_} (e : ExW h) (f : Fr ws h h') (o : exoW ws = true) : ExW h' := by
  unfold exoW at o
  simp only [Bool.and_eq_true, Bool.not_eq_true'] at o
  exact e.cg (fun k => fr_i f o.1.1.1.1.1.1.1 k) (fun k => fr_i f o.1.1.1.1.1.1.2 k) (fun k => fr_i f o.1.1.1.1.1.2 k) (fun k => fr_i f o.1.1.1.1.2 k) (fun k => fr_i f o.1.1.1.2 k) (fun k => fr_i f o.1.1.2 k) (f.2 20 3 o.1.2).1 (f.2 1 108 o.2).1
theorem ExW.mf {W : List Nat} {h h' : Hp_} (e : ExW h) (f : Mf W h h') (o : exoW W = true) : ExW h' := by
  unfold exoW at o
  simp only [Bool.and_eq_true, Bool.not_eq_true'] at o
  exact e.cg (fun k => (f.2.2.2 92 k (by decide) (off_inw o.1.1.1.1.1.1.1 k)).1) (fun k => (f.2.2.2 93 k (by decide) (off_inw o.1.1.1.1.1.1.2 k)).1) (fun k => (f.2.2.2 94 k (by decide) (off_inw o.1.1.1.1.1.2 k)).1) (fun k => f.2.1 281 (by decide) (by decide) k) (fun k => f.2.1 282 (by decide) (by decide) k) (fun k => f.2.1 283 (by decide) (by decide) k) (f.2.2.2 20 3 (by decide) o.1.2).1 (f.1 108)
def WtX (x1 x2 x3 : Int32) (h : Hp_) (r : Int32) (h' : Hp_) : Prop := Fr [20003, 92999, 93999, 94999] h h' ∧ oca (okWx (h_i h 20 3) x1 x2 x3) (h_i h 20 3) r (h_i h' 20 3) ∧ (∀ k, h_i h' 92 k = if okWx (h_i h 20 3) x1 x2 x3 ∧ k = (h_i h 20 3).toNatClampNeg then x1 else h_i h 92 k) ∧ (∀ k, h_i h' 93 k = if okWx (h_i h 20 3) x1 x2 x3 ∧ k = (h_i h 20 3).toNatClampNeg then x2 else h_i h 93 k) ∧ (∀ k, h_i h' 94 k = if okWx (h_i h 20 3) x1 x2 x3 ∧ k = (h_i h 20 3).toNatClampNeg then x3 else h_i h 94 k)
def WtM (x1 x2 x3 : Int32) (h : Hp_) (r : Int32) (h' : Hp_) : Prop := Fr [1108, 281999, 282999, 283999] h h' ∧ oca (okWn (h_i h 1 108) x1 x2 x3) (h_i h 1 108) r (h_i h' 1 108) ∧ (∀ k, h_i h' 281 k = if okWn (h_i h 1 108) x1 x2 x3 ∧ k = (h_i h 1 108).toNatClampNeg then x1 else h_i h 281 k) ∧ (∀ k, h_i h' 282 k = if okWn (h_i h 1 108) x1 x2 x3 ∧ k = (h_i h 1 108).toNatClampNeg then x2 else h_i h 282 k) ∧ (∀ k, h_i h' 283 k = if okWn (h_i h 1 108) x1 x2 x3 ∧ k = (h_i h 1 108).toNatClampNeg then x3 else h_i h 283 k)
theorem ExW.wt {h h1 h2 : Hp_} {x1 x2 x3 r1 r2 : Int32} (I : Iv h) (L : ExW h) (k1 : WtX x1 x2 x3 h r1 h1) (k2 : WtM x1 x2 x3 h1 r2 h2) : ExW h2 ∧ r1 = r2 := by
  obtain ⟨f1, kp, a1, a2, a3⟩ := k1
  obtain ⟨f2, kq, b1, b2, b3⟩ := k2
  have e1 : h_i h1 1 108 = h_i h 20 3 := ((f1.2 1 108 (by decide +kernel)).1).trans L.1.symm
  rw [e1] at kq b1 b2 b3
  have rg := I.2.1 20 3
  rw [show tf 20 3 = (0, 8) by decide +kernel] at rg
  have r0 : 0 ≤ (h_i h 20 3).toInt := rg.1
  have r8 : (h_i h 20 3).toInt ≤ 8 := rg.2
  have oe := okW_eq (x1 := x1) (x2 := x2) (x3 := x3) (m := h_i h 20 3) r8
  have z := oca_eq oe kp kq
  have g1 : ∀ k, h_i h1 281 k = h_i h 281 k := fun k => fr_i f1 (by decide +kernel) k
  have g2 : ∀ k, h_i h1 282 k = h_i h 282 k := fun k => fr_i f1 (by decide +kernel) k
  have g3 : ∀ k, h_i h1 283 k = h_i h 283 k := fun k => fr_i f1 (by decide +kernel) k
  have c1 : ∀ k, h_i h2 92 k = h_i h1 92 k := fun k => fr_i f2 (by decide +kernel) k
  have c2 : ∀ k, h_i h2 93 k = h_i h1 93 k := fun k => fr_i f2 (by decide +kernel) k
  have c3 : ∀ k, h_i h2 94 k = h_i h1 94 k := fun k => fr_i f2 (by decide +kernel) k
  have e20 : h_i h2 20 3 = h_i h1 20 3 := (f2.2 20 3 (by decide +kernel)).1
  refine ⟨⟨e20.trans z.2, fun k hk => ?_⟩, z.1⟩
  rw [e20] at hk
  by_cases o : okWx (h_i h 20 3) x1 x2 x3
  · have o' := oe.mp o
    rcases kp with ⟨_, _, m⟩ | ⟨n, _⟩
    · have t1 : (1 : Int32).toInt = 1 := rfl
      have t0 : (0 : Int32).toInt = 0 := rfl
      have t16 : (16 : Int32).toInt = 16 := rfl
      have t14 : (1440 : Int32).toInt = 1440 := rfl
      have ex : (h_i h 20 3 + 1).toInt = (h_i h 20 3).toInt + 1 := tx_add (by rw [t1]; omega) (by rw [t1]; omega)
      have n0 := n_nat (x := h_i h 20 3) r0
      have n1 := n_nat (x := h_i h 20 3 + 1) (by omega)
      rw [m] at hk
      by_cases q : k = (h_i h 20 3).toNatClampNeg
      · rw [show h_i h2 92 k = x1 by rw [c1, a1, if_pos ⟨o, q⟩], show h_i h2 93 k = x2 by rw [c2, a2, if_pos ⟨o, q⟩], show h_i h2 94 k = x3 by rw [c3, a3, if_pos ⟨o, q⟩], show h_i h2 281 k = x1 by rw [b1, if_pos ⟨o', q⟩], show h_i h2 282 k = x2 by rw [b2, if_pos ⟨o', q⟩], show h_i h2 283 k = x3 by rw [b3, if_pos ⟨o', q⟩]]
        have u1 := q_le.mp o.1.1
        have u2 := q_lt.mp o.1.2
        have u3 := q_le.mp o.2.1.1
        have u4 := q_le.mp o.2.2.1.2
        exact ⟨⟨rfl, rfl, rfl⟩, ⟨by omega, by omega⟩, ⟨by omega, by omega⟩⟩
      · rw [show h_i h2 92 k = h_i h 92 k by rw [c1, a1, if_neg (fun y => q y.2)], show h_i h2 93 k = h_i h 93 k by rw [c2, a2, if_neg (fun y => q y.2)], show h_i h2 94 k = h_i h 94 k by rw [c3, a3, if_neg (fun y => q y.2)], show h_i h2 281 k = h_i h 281 k by rw [b1, if_neg (fun y => q y.2), g1], show h_i h2 282 k = h_i h 282 k by rw [b2, if_neg (fun y => q y.2), g2], show h_i h2 283 k = h_i h 283 k by rw [b3, if_neg (fun y => q y.2), g3]]
        exact L.2 k (by omega)
    · exact absurd o n
  · have o' : ¬ okWn (h_i h 20 3) x1 x2 x3 := fun y => o (oe.mpr y)
    rcases kp with ⟨y, _⟩ | ⟨_, _, m⟩
    · exact absurd y o
    · rw [m] at hk
      rw [show h_i h2 92 k = h_i h 92 k by rw [c1, a1, if_neg (fun y => o y.1)], show h_i h2 93 k = h_i h 93 k by rw [c2, a2, if_neg (fun y => o y.1)], show h_i h2 94 k = h_i h 94 k by rw [c3, a3, if_neg (fun y => o y.1)], show h_i h2 281 k = h_i h 281 k by rw [b1, if_neg (fun y => o' y.1), g1], show h_i h2 282 k = h_i h 282 k by rw [b2, if_neg (fun y => o' y.1), g2], show h_i h2 283 k = h_i h 283 k by rw [b3, if_neg (fun y => o' y.1), g3]]
      exact L.2 k hk
/-! what a beat sees -/
theorem bL_l (h : Hp_) (k : Nat) : (bL h k).length = (h_i h 227 k).toNatClampNeg := by
  unfold bL
  rw [List.length_map, List.length_range]
theorem bL_g {h : Hp_} {k i : Nat} (hi : i < (h_i h 227 k).toNatClampNeg) : (bL h k)[i]? = some (sB h k i) := by
  unfold bL
  rw [List.getElem?_map, List.getElem?_range hi]
  rfl
theorem bL_d {h : Hp_} {k i : Nat} (hi : i < (h_i h 227 k).toNatClampNeg) : (bL h k).drop i = sB h k i :: (bL h k).drop (i + 1) := by
  have l : i < (bL h k).length := by rw [bL_l]; exact hi
  rw [List.drop_eq_getElem_cons l]
  have g := bL_g hi
  rw [List.getElem?_eq_getElem l] at g
  rw [Option.some.inj g]
theorem bL_m {h : Hp_} {k : Nat} {x : Sp3} (hx : x ∈ bL h k) : ∃ i, i < (h_i h 227 k).toNatClampNeg ∧ x = sB h k i := by
  unfold bL at hx
  obtain ⟨i, hi, e⟩ := List.mem_map.mp hx
  exact ⟨i, List.mem_range.mp hi, e.symm⟩
theorem c_dsM (d : Nat) {h0 : Hp_} (I0 : Iv h0) (X : ExP h0) (x1 x2 : Int32) (b1 : 0 ≤ x1.toInt ∧ x1.toInt ≤ 11) (b2 : 0 ≤ x2.toInt ∧ x2.toInt ≤ 7) (S : ∀ i, i < (h_i h0 227 x1.toNatClampNeg).toNatClampNeg → stR (sB h0 x1.toNatClampNeg i)) (P : 0 ≤ (h_i h0 281 x2.toNatClampNeg).toInt ∧ (h_i h0 283 x2.toNatClampNeg).toInt ≤ 1440) : Ci (m_X12_doesSee (d + 1) 0 0) [.ref 1, .int x1, .int x2] h0 (fun r h' => Iv h' ∧ Fr [203999] h0 h' ∧ ((r = 1 ∧ wkS (wX h0) (h_i h0 281 x2.toNatClampNeg).toNatClampNeg (h_i h0 282 x2.toNatClampNeg).toInt (h_i h0 283 x2.toNatClampNeg).toInt (bL h0 x1.toNatClampNeg) 0 0 = true) ∨ (r = 0 ∧ wkS (wX h0) (h_i h0 281 x2.toNatClampNeg).toNatClampNeg (h_i h0 282 x2.toNatClampNeg).toInt (h_i h0 283 x2.toNatClampNeg).toInt (bL h0 x1.toNatClampNeg) 0 0 = false))) := by
  have t1 : (1 : Int32).toInt = 1 := rfl
  have t0 : (0 : Int32).toInt = 0 := rfl
  have t150 : (150 : Int32).toInt = 150 := rfl
  have t1440 : (1440 : Int32).toInt = 1440 := rfl
  have n1 := n_nat b1.1
  have n2 := n_nat b2.1
  have z := z227 I0 x1.toNatClampNeg
  have hw := wX_le I0 X
  have v1 : vp_in x1 12 := dp_in (lo := 0) (hi := 11) ⟨b1.1, b1.2⟩ (by decide) (by decide)
  have v2 : vp_in x2 8 := dp_in (lo := 0) (hi := 7) ⟨b2.1, b2.2⟩ (by decide) (by decide)
  have m1 : (150 * x1).toInt = 150 * x1.toInt := by rw [tx_mul (by rw [t150]; omega) (by rw [t150]; omega), t150]
  have pn := n_nat P.1
  generalize epl : (h_i h0 281 x2.toNatClampNeg).toNatClampNeg = pl at *
  have lp : ∀ (n i a : Nat) (x3 : Int32) (h : Hp_), i + n = (h_i h0 227 x1.toNatClampNeg).toNatClampNeg → a < 16 → 0 ≤ x3.toInt → x3.toInt ≤ 1440 + 900 * (i : Int) → Iv h → Fr [203999] h0 h → AW (m_X12_doesSee (d + 1) 0 0) 0 0 12 [(0, .ref 1), (1, .int x1), (2, .int x2), (3, .int x3), (4, .int (Int32.ofNat a)), (5, .int (150 * x1 + Int32.ofNat i))] [] h (kI (fun r h' => Iv h' ∧ Fr [203999] h0 h' ∧ ((r = 1 ∧ wkS (wX h0) pl (h_i h0 282 x2.toNatClampNeg).toInt (h_i h0 283 x2.toNatClampNeg).toInt ((bL h0 x1.toNatClampNeg).drop i) x3.toInt a = true) ∨ (r = 0 ∧ wkS (wX h0) pl (h_i h0 282 x2.toNatClampNeg).toInt (h_i h0 283 x2.toNatClampNeg).toInt ((bL h0 x1.toNatClampNeg).drop i) x3.toInt a = false)))) := by
    intro n
    induction n with
    | zero =>
      intro i a x3 h e ha l3 u3 I F
      have oi := on_j (n := i) (by omega)
      have e227 : h_i h 227 x1.toNatClampNeg = h_i h0 227 x1.toNatClampNeg := fr_i F (by decide +kernel) _
      have s1 : (150 * x1 + h_i h 227 x1.toNatClampNeg).toInt = 150 * x1.toInt + (h_i h0 227 x1.toNatClampNeg).toInt := by rw [e227, tx_add (by omega) (by omega), m1]
      have s2 : (150 * x1 + Int32.ofNat i).toInt = 150 * x1.toInt + (i : Int) := by rw [tx_add (by omega) (by omega), m1, oi]
      refine t_X12_doesSee_12 d h I.1 x1 x2 x3 _ _ _ ⟨v1, fun _ => ⟨I, F, Or.inr ⟨rfl, ?_⟩⟩, fun y => absurd (q_le.mpr (by omega)) y⟩
      rw [List.drop_eq_nil_of_le (by rw [bL_l]; omega)]
      rfl
    | succ n ih =>
      intro i a x3 h e ha l3 u3 I F
      have li : i < (h_i h0 227 x1.toNatClampNeg).toNatClampNeg := by omega
      have oi := on_j (n := i) (by omega)
      have oa := on_j (n := a) (by omega)
      have e227 : h_i h 227 x1.toNatClampNeg = h_i h0 227 x1.toNatClampNeg := fr_i F (by decide +kernel) _
      have s1 : (150 * x1 + h_i h 227 x1.toNatClampNeg).toInt = 150 * x1.toInt + (h_i h0 227 x1.toNatClampNeg).toInt := by rw [e227, tx_add (by omega) (by omega), m1]
      have s2 : (150 * x1 + Int32.ofNat i).toInt = 150 * x1.toInt + (i : Int) := by rw [tx_add (by omega) (by omega), m1, oi]
      have nm := n_nat (x := 150 * x1 + Int32.ofNat i) (by omega)
      have km : (150 * x1 + Int32.ofNat i).toNatClampNeg = 150 * x1.toNatClampNeg + i := by omega
      have v5 : vp_in (150 * x1 + Int32.ofNat i) 1800 := dp_in (lo := 0) (hi := 1799) ⟨by show (0 : Int) ≤ _; omega, by show _ ≤ (1799 : Int); omega⟩ (by decide) (by decide)
      have nx : 150 * x1 + Int32.ofNat i + 1 = 150 * x1 + Int32.ofNat (i + 1) := by rw [Int32.add_assoc, on_s (by omega)]
      have sr := S i li
      have a1 : h_i h 228 (150 * x1.toNatClampNeg + i) = (sB h0 x1.toNatClampNeg i).1 := fr_i F (by decide +kernel) _
      have a2 : ∀ h', Fr [203999] h0 h' → h_i h' 229 (150 * x1.toNatClampNeg + i) = (sB h0 x1.toNatClampNeg i).2.1 := fun h' F' => fr_i F' (by decide +kernel) _
      have a3 : ∀ h', Fr [203999] h0 h' → h_i h' 230 (150 * x1.toNatClampNeg + i) = (sB h0 x1.toNatClampNeg i).2.2 := fun h' F' => fr_i F' (by decide +kernel) _
      have a4 : h_i h 281 x2.toNatClampNeg = h_i h0 281 x2.toNatClampNeg := fr_i F (by decide +kernel) _
      have a5 : h_i h 282 x2.toNatClampNeg = h_i h0 282 x2.toNatClampNeg := fr_i F (by decide +kernel) _
      have a6 : h_i h 283 x2.toNatClampNeg = h_i h0 283 x2.toNatClampNeg := fr_i F (by decide +kernel) _
      have wh : wX h = wX h0 := wX_cg (fun k => fr_i F (by decide +kernel) k)
      have Xh : ExP h := X.fr F (by decide +kernel)
      rw [bL_d li]
      have T := t_X12_doesSee_12 d h I.1 x1 x2 x3 (Int32.ofNat a) (150 * x1 + Int32.ofNat i)
      rw [km, a1, a2 h F, a4, a5, a6, nx] at T
      generalize sB h0 x1.toNatClampNeg i = x at sr T a1 a2 a3
      have hs : ∀ y ∈ (bL h0 x1.toNatClampNeg).drop (i + 1), stR y := fun y hy => by
        obtain ⟨j, hj, ej⟩ := bL_m (List.mem_of_mem_drop hy)
        rw [ej]
        exact S j hj
      refine T _ ⟨v1, fun y => ?_, fun _ => ⟨fun y => ?_, fun y => ⟨v5, fun n1' => ⟨fun n3 => ⟨v5, ?_⟩, fun y3 => ⟨v2, fun np => ?_, fun yp => ⟨v2, v2, fun nw => ?_, fun yw => ?_⟩⟩⟩, fun y1 => ⟨v5, ?_⟩⟩⟩⟩
      · have y := q_le.mp y
        omega
      · have y := q_lt.mp y
        refine ⟨I, F, Or.inr ⟨rfl, ?_⟩⟩
        exact wkS_l (fun a b k e => (hw a b k e).1) _ _ _ (fun y hy => by
          rcases List.mem_cons.mp hy with u | u
          · rw [u]; exact sr
          · exact hs y u) (by omega)
      · have p0 : 0 ≤ x.2.1.toInt ∧ x.2.1.toInt ≤ 15 := by
          rcases sr with q | q | q | q
          · exact ⟨q.2.1, q.2.2.1⟩
          · exact absurd q.1 n1'
          · exact ⟨q.2.1, q.2.2.1⟩
          · exact absurd q.1 n3
        have np := n_nat p0.1
        have ep : x.2.1 = Int32.ofNat x.2.1.toNatClampNeg := (of_nat32 p0.1).symm
        have um : wkS (wX h0) pl (h_i h0 282 x2.toNatClampNeg).toInt (h_i h0 283 x2.toNatClampNeg).toInt (x :: (bL h0 x1.toNatClampNeg).drop (i + 1)) x3.toInt a = match wX h0 a x.2.1.toNatClampNeg with
            | none => wkS (wX h0) pl (h_i h0 282 x2.toNatClampNeg).toInt (h_i h0 283 x2.toNatClampNeg).toInt ((bL h0 x1.toNatClampNeg).drop (i + 1)) x3.toInt a
            | some k => wkS (wX h0) pl (h_i h0 282 x2.toNatClampNeg).toInt (h_i h0 283 x2.toNatClampNeg).toInt ((bL h0 x1.toNatClampNeg).drop (i + 1)) (if x.1 = 2 then (if x3.toInt + k < x.2.2.toInt then x.2.2.toInt else x3.toInt + k) else x3.toInt + k) x.2.1.toNatClampNeg := by
          show (if x.1 = 3 then _ else if x.1 = 1 then _ else _) = _
          rw [if_neg n3, if_neg n1']
          cases wX h0 a x.2.1.toNatClampNeg <;> rfl
        have ka : (Int32.ofNat a).toNatClampNeg = a := on_k (by omega)
        refine Ci.mono (c_woR d I Xh (Int32.ofNat a) x.2.1 (by omega) (by omega)) (fun r h8 q => ?_)
        obtain ⟨I8, F8, q⟩ := q
        rw [wh, ka] at q
        have G8 : Fr [203999] h0 h8 := F.tr F8
        refine ⟨I8.1, fun nr => ?_, fun er => ?_⟩
        · obtain ⟨k, q1, q2⟩ : ∃ k, wX h0 a x.2.1.toNatClampNeg = some k ∧ r.toInt = k := by
            rcases q with q | q
            · exact q
            · exact absurd q.2 nr
          have k9 := hw _ _ _ q1
          have sm : (x3 + r).toInt = x3.toInt + k := by rw [tx_add (by omega) (by omega), q2]
          rw [um, q1, a2 h8 G8, a3 h8 G8]
          refine ⟨v5, fun n2' => ?_, fun y2 => ⟨v5, ?_⟩⟩
          · have g := ih (i + 1) x.2.1.toNatClampNeg (x3 + r) h8 (by omega) (by omega) (by omega) (by omega) I8 G8
            rw [← ep, sm] at g
            show AW _ _ _ _ _ _ _ (kI (fun r h' => Iv h' ∧ Fr [203999] h0 h' ∧ ((r = 1 ∧ wkS (wX h0) pl (h_i h0 282 x2.toNatClampNeg).toInt (h_i h0 283 x2.toNatClampNeg).toInt ((bL h0 x1.toNatClampNeg).drop (i + 1)) (if x.1 = 2 then (if x3.toInt + k < x.2.2.toInt then x.2.2.toInt else x3.toInt + k) else x3.toInt + k) x.2.1.toNatClampNeg = true) ∨ (r = 0 ∧ wkS (wX h0) pl (h_i h0 282 x2.toNatClampNeg).toInt (h_i h0 283 x2.toNatClampNeg).toInt ((bL h0 x1.toNatClampNeg).drop (i + 1)) (if x.1 = 2 then (if x3.toInt + k < x.2.2.toInt then x.2.2.toInt else x3.toInt + k) else x3.toInt + k) x.2.1.toNatClampNeg = false))))
            rw [if_neg n2']
            exact g
          · have a9 : 0 ≤ x.2.2.toInt ∧ x.2.2.toInt ≤ 1440 := by
              rcases sr with q | q | q | q
              · exact absurd (q.1.symm.trans y2) (by decide)
              · exact absurd q.1 n1'
              · exact ⟨q.2.2.2.1, q.2.2.2.2⟩
              · exact absurd q.1 n3
            have gm : (if (x3 + r) < x.2.2 then x.2.2 else (x3 + r)).toInt = if x3.toInt + k < x.2.2.toInt then x.2.2.toInt else x3.toInt + k := by
              by_cases c : x3 + r < x.2.2
              · have c' := q_lt.mp c
                rw [if_pos c, if_pos (by omega)]
              · have c' := q_nlt c
                rw [if_neg c, if_neg (by omega), sm]
            have lo : 0 ≤ (if (x3 + r) < x.2.2 then x.2.2 else (x3 + r)).toInt ∧ (if (x3 + r) < x.2.2 then x.2.2 else (x3 + r)).toInt ≤ 1440 + 900 * ((i + 1 : Nat) : Int) := by
              rw [gm]
              split <;> omega
            have g := ih (i + 1) x.2.1.toNatClampNeg (if (x3 + r) < x.2.2 then x.2.2 else (x3 + r)) h8 (by omega) (by omega) lo.1 lo.2 I8 G8
            rw [← ep, gm] at g
            show AW _ _ _ _ _ _ _ (kI (fun r h' => Iv h' ∧ Fr [203999] h0 h' ∧ ((r = 1 ∧ wkS (wX h0) pl (h_i h0 282 x2.toNatClampNeg).toInt (h_i h0 283 x2.toNatClampNeg).toInt ((bL h0 x1.toNatClampNeg).drop (i + 1)) (if x.1 = 2 then (if x3.toInt + k < x.2.2.toInt then x.2.2.toInt else x3.toInt + k) else x3.toInt + k) x.2.1.toNatClampNeg = true) ∨ (r = 0 ∧ wkS (wX h0) pl (h_i h0 282 x2.toNatClampNeg).toInt (h_i h0 283 x2.toNatClampNeg).toInt ((bL h0 x1.toNatClampNeg).drop (i + 1)) (if x.1 = 2 then (if x3.toInt + k < x.2.2.toInt then x.2.2.toInt else x3.toInt + k) else x3.toInt + k) x.2.1.toNatClampNeg = false))))
            rw [if_pos y2]
            exact g
        · have wn : wX h0 a x.2.1.toNatClampNeg = none := by
            rcases q with ⟨k, q1, q2⟩ | q
            · have := (hw _ _ _ q1).1
              rw [er] at q2
              have o : (-1 : Int32).toInt = -1 := rfl
              omega
            · exact q.1
          rw [um, wn]
          exact ih (i + 1) a x3 h8 (by omega) ha l3 (by omega) I8 G8
      · have sm : (x3 + 1).toInt = x3.toInt + 1 := tx_add (by rw [t1]; omega) (by rw [t1]; omega)
        have g := ih (i + 1) a (x3 + 1) h (by omega) ha (by omega) (by omega) I F
        rw [sm] at g
        have um : wkS (wX h0) pl (h_i h0 282 x2.toNatClampNeg).toInt (h_i h0 283 x2.toNatClampNeg).toInt (x :: (bL h0 x1.toNatClampNeg).drop (i + 1)) x3.toInt a = if a = pl ∧ (h_i h0 282 x2.toNatClampNeg).toInt ≤ x3.toInt + 1 ∧ x3.toInt + 1 ≤ (h_i h0 283 x2.toNatClampNeg).toInt then true else wkS (wX h0) pl (h_i h0 282 x2.toNatClampNeg).toInt (h_i h0 283 x2.toNatClampNeg).toInt ((bL h0 x1.toNatClampNeg).drop (i + 1)) (x3.toInt + 1) a := by
          show (if x.1 = 3 then _ else if x.1 = 1 then _ else _) = _
          rw [if_pos y3]
        rw [um, if_neg (fun y => np (Int32.toInt_inj.mp (by have := y.1; omega)))]
        exact g
      · have sm : (x3 + 1).toInt = x3.toInt + 1 := tx_add (by rw [t1]; omega) (by rw [t1]; omega)
        have g := ih (i + 1) a (x3 + 1) h (by omega) ha (by omega) (by omega) I F
        rw [sm] at g
        have um : wkS (wX h0) pl (h_i h0 282 x2.toNatClampNeg).toInt (h_i h0 283 x2.toNatClampNeg).toInt (x :: (bL h0 x1.toNatClampNeg).drop (i + 1)) x3.toInt a = if a = pl ∧ (h_i h0 282 x2.toNatClampNeg).toInt ≤ x3.toInt + 1 ∧ x3.toInt + 1 ≤ (h_i h0 283 x2.toNatClampNeg).toInt then true else wkS (wX h0) pl (h_i h0 282 x2.toNatClampNeg).toInt (h_i h0 283 x2.toNatClampNeg).toInt ((bL h0 x1.toNatClampNeg).drop (i + 1)) (x3.toInt + 1) a := by
          show (if x.1 = 3 then _ else if x.1 = 1 then _ else _) = _
          rw [if_pos y3]
        rw [um, if_neg (fun y => nw ⟨q_le.mpr (by have := y.2.1; omega), q_le.mpr (by have := y.2.2; omega)⟩)]
        exact g
      · have sm : (x3 + 1).toInt = x3.toInt + 1 := tx_add (by rw [t1]; omega) (by rw [t1]; omega)
        have um : wkS (wX h0) pl (h_i h0 282 x2.toNatClampNeg).toInt (h_i h0 283 x2.toNatClampNeg).toInt (x :: (bL h0 x1.toNatClampNeg).drop (i + 1)) x3.toInt a = if a = pl ∧ (h_i h0 282 x2.toNatClampNeg).toInt ≤ x3.toInt + 1 ∧ x3.toInt + 1 ≤ (h_i h0 283 x2.toNatClampNeg).toInt then true else wkS (wX h0) pl (h_i h0 282 x2.toNatClampNeg).toInt (h_i h0 283 x2.toNatClampNeg).toInt ((bL h0 x1.toNatClampNeg).drop (i + 1)) (x3.toInt + 1) a := by
          show (if x.1 = 3 then _ else if x.1 = 1 then _ else _) = _
          rw [if_pos y3]
        have y0 := congrArg Int32.toInt yp
        have w1 := q_le.mp yw.1
        have w2 := q_le.mp yw.2
        refine ⟨I, F, Or.inl ⟨rfl, ?_⟩⟩
        rw [um, if_pos ⟨by omega, by omega, by omega⟩]
      · have a2' : 1 ≤ x.2.1.toInt ∧ x.2.1.toInt ≤ 240 := by
          rcases sr with q | q | q | q
          · exact absurd (q.1.symm.trans y1) (by decide)
          · exact ⟨q.2.1, q.2.2.1⟩
          · exact absurd (q.1.symm.trans y1) (by decide)
          · exact absurd (q.1.symm.trans y1) (by decide)
        have sm : (x3 + x.2.1).toInt = x3.toInt + x.2.1.toInt := tx_add (by omega) (by omega)
        have n3 : ¬ x.1 = 3 := by rw [y1]; decide
        have g := ih (i + 1) a (x3 + x.2.1) h (by omega) ha (by omega) (by omega) I F
        rw [sm] at g
        have um : wkS (wX h0) pl (h_i h0 282 x2.toNatClampNeg).toInt (h_i h0 283 x2.toNatClampNeg).toInt (x :: (bL h0 x1.toNatClampNeg).drop (i + 1)) x3.toInt a = wkS (wX h0) pl (h_i h0 282 x2.toNatClampNeg).toInt (h_i h0 283 x2.toNatClampNeg).toInt ((bL h0 x1.toNatClampNeg).drop (i + 1)) (x3.toInt + x.2.1.toInt) a := by
          show (if x.1 = 3 then _ else if x.1 = 1 then _ else _) = _
          rw [if_neg n3, if_pos y1]
        rw [um]
        exact g
  have g := lp (h_i h0 227 x1.toNatClampNeg).toNatClampNeg 0 0 0 h0 (by omega) (by omega) (by decide) (by decide) I0 (Fr.rf _ _)
  refine t_X12_doesSee d h0 x1 x2 _ ?_
  have e0 : 150 * x1 + Int32.ofNat 0 = 150 * x1 := Int32.toInt_inj.mp (by rw [tx_add (by rw [show (Int32.ofNat 0).toInt = 0 from rfl]; omega) (by rw [show (Int32.ofNat 0).toInt = 0 from rfl]; omega), show (Int32.ofNat 0).toInt = 0 from rfl]; omega)
  rw [e0] at g
  exact g
