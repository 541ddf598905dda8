/-! what class and reference keep alike; what the law's loop keeps -/
def rl : List ((Nat × Nat) × Nat) := [((11, 1), 32), ((12, 3), 42)]
theorem rl_F : Rlf rl HF := fun q hq => by
  have z : rl.all (fun q => h_i HF q.1.1 q.1.2 == h_i HF 1 q.2) = true := by decide +kernel
  exact eq_of_beq (List.all_eq_true.mp z q hq)
/-- the tape, and how many acts and pays there are -/
def Ex (h : Hp_) : Prop := (∀ k, k < xn h → h_i h 225 k = h_i h 31 k) ∧ h_i h 235 0 = h_i h 13 5 ∧ h_i h 235 1 = h_i h 14 5
def exo (ws : List Nat) : Bool := off ws 31 && off ws 225 && off ws 235 && !inw ws 11 1 && !inw ws 13 5 && !inw ws 14 5
theorem ex_F : Ex HF := by
  have z : xn HF = 0 := by
    show (h_i HF 11 1).toNatClampNeg = 0
    rw [show h_i HF 11 1 = 0 by decide +kernel]
    rfl
  exact ⟨fun k hk => absurd hk (by rw [z]; omega), by decide +kernel, by decide +kernel⟩
theorem Ex.cg {h h' : Hp_} (e : Ex h) (a : ∀ k, h_i h' 31 k = h_i h 31 k) (b : ∀ k, h_i h' 225 k = h_i h 225 k) (c : ∀ k, h_i h' 235 k = h_i h 235 k) (n : h_i h' 11 1 = h_i h 11 1) (p : h_i h' 13 5 = h_i h 13 5) (q : h_i h' 14 5 = h_i h 14 5) : Ex h' := by
  refine ⟨fun k hk => ?_, by rw [c, p]; exact e.2.1, by rw [c, q]; exact e.2.2⟩
  rw [a, b]
  refine e.1 k ?_
  have hk : k < (h_i h' 11 1).toNatClampNeg := hk
  rw [n] at hk
  exact hk
theorem Ex.fr {ws : List Nat} {h h' : Hp_} (e : Ex h) (f : Fr ws h h') (o : exo ws = true) : Ex h' := by
  unfold exo at o
  simp only [Bool.and_eq_true, Bool.not_eq_true'] at o
  exact e.cg (fun k => fr_i f o.1.1.1.1.1 k) (fun k => fr_i f o.1.1.1.1.2 k) (fun k => fr_i f o.1.1.1.2 k) (f.2 11 1 o.1.1.2).1 (f.2 13 5 o.1.2).1 (f.2 14 5 o.2).1
theorem Ex.mf {W : List Nat} {h h' : Hp_} (e : Ex h) (f : Mf W h h') (o : exo W = true) : Ex h' := by
  unfold exo at o
  simp only [Bool.and_eq_true, Bool.not_eq_true'] at o
  exact e.cg (fun k => (f.2.2.2 31 k (by decide) (off_inw o.1.1.1.1.1 k)).1) (fun k => f.2.1 225 (by decide) (by decide) k) (fun k => f.2.1 235 (by decide) (by decide) k) (f.2.2.2 11 1 (by decide) o.1.1.2).1 (f.2.2.2 13 5 (by decide) o.1.2).1 (f.2.2.2 14 5 (by decide) o.2).1
/-- the men, and what this row wants besides -/
def Mef (h : Hp_) : Prop := Mn h ∧ Ex h
def Li (N : Nat) (h : Hp_) : Prop := Iv h ∧ J2 h ∧ h_sh h 2 = some (3, 1) ∧ (∃ c, h_r h 0 15 = some c ∧ h_sh h c = some (3, N)) ∧ Rlf rl h ∧ Mef h
theorem Li.z {N : Nat} {h : Hp_} (L : Li N h) : Li0 N h := ⟨L.1, L.2.1, L.2.2.1, L.2.2.2.1⟩
theorem Li0.li {N : Nat} {h : Hp_} (L : Li0 N h) (R : Rlf rl h) (m : Mef h) : Li N h := ⟨L.1, L.2.1, L.2.2.1, L.2.2.2, R, m⟩
theorem Mn.fr {ws : List Nat} {h h' : Hp_} (m : Mn h) (f : Fr ws h h') (o : (!inw ws 0 7 && off ws 15) = true) : Mn h' := fun k hk hm => by
  rw [Bool.and_eq_true, Bool.not_eq_true'] at o
  rw [(f.2 15 k (off_inw o.2 k)).2.2]
  exact m k hk (by rw [(f.2 0 7 o.1).1] at hm; exact hm)
theorem Mef.fr {ws : List Nat} {h h' : Hp_} (m : Mef h) (f : Fr ws h h') (o : (!inw ws 0 7 && off ws 15 && exo ws) = true) : Mef h' := by
  rw [Bool.and_eq_true] at o
  exact ⟨m.1.fr f o.1, m.2.fr f o.2⟩
theorem mn_F : Mn HF := fun k hk hm => by
  rw [show h_i HF 0 7 = 0 by decide +kernel] at hm
  have z : (0 : Int32).toInt = 0 := rfl
  omega
theorem li_F : Li 0 HF := li0_F.li rl_F ⟨mn_F, ex_F⟩
theorem Li.fr {N : Nat} {ws : List Nat} {h h' : Hp_} (L : Li N h) (I : Iv h') (f : Fr ws h h') (o : ((jso ws && !inw ws 0 15) && rl.all (fun q => !inw ws q.1.1 q.1.2 && !inw ws 1 q.2) && (!inw ws 0 7 && off ws 15 && exo ws)) = true) : Li N h' := by
  rw [Bool.and_eq_true, Bool.and_eq_true (jso ws && !inw ws 0 15)] at o
  exact (L.z.fr I f o.1.1).li (L.2.2.2.2.1.fr f o.1.2) (L.2.2.2.2.2.fr f o.2)
theorem Li.sr {N : Nat} {h h' : Hp_} (L : Li N h) (I : Iv h') (J : J2 h') (s : Sr h h') : Li N h' := (L.z.sn I J s.sn).li (L.2.2.2.2.1.fr s (by decide +kernel)) (L.2.2.2.2.2.fr s (by decide +kernel))
theorem Mn.mf {h h' : Hp_} (m : Mn h) (f : Mf wsX h h') : Mn h' := fun k hk hm => by
  rw [(f.2.2.2 15 k (by decide) (off_inw (by decide +kernel) k)).2]
  exact m k hk (by rw [(f.2.2.2 0 7 (by decide) (by decide +kernel)).1] at hm; exact hm)
theorem Mef.mf {h h' : Hp_} (m : Mef h) (f : Mf wsX h h') : Mef h' := ⟨m.1.mf f, m.2.mf f (by decide +kernel)⟩
theorem Mef.con {h h' : Hp_} {x1 x2 x3 r : Int32} (m : Mef h) (k : Cy x1 x2 x3 h r h') : Mef h' := ⟨k.2.2.1 m.1, m.2.mf k.1.2.1 (by decide +kernel)⟩
theorem Li.con2 {N : Nat} {h h1 h2 : Hp_} {x1 x2 x3 r1 r2 : Int32} (L : Li N h) (k1 : Cy x1 x2 x3 h r1 h1) (k2 : Iv h2 ∧ J2 h2 ∧ Sn h1 h2 ∧ ocm (h_i h1 1 7) x1 x2 x3 r2 (h_i h2 1 7) ∧ Cw (okm (h_i h1 1 7) x1 x2 x3) (h_i h1 1 7) x1 h1 h2) : Li N h2 := ((L.z.con k1.1).sn k2.1 k2.2.1 k2.2.2.1).li ((L.2.2.2.2.1.mf k1.1.2.1 (by decide +kernel)).fr k2.2.2.1 (by decide +kernel)) ((L.2.2.2.2.2.con k1).fr k2.2.2.1 (by decide +kernel))
theorem Li.tick2 {N N' : Nat} {h h1 h2 : Hp_} {x r1 r2 : Int32} (L : Li N h) (k1 : Iv h1 ∧ Mf wsX h h1 ∧ (∃ c', h_r h1 0 15 = some c' ∧ h_sh h1 c' = some (3, N')) ∧ otk (h_i h 0 0) x r1 (h_i h1 0 0)) (k2 : Iv h2 ∧ J2 h2 ∧ Fr wsT h1 h2 ∧ otk (h_i h1 1 0) x r2 (h_i h2 1 0)) : Li N' h2 := ((L.z.tick k1).st k2.1 k2.2.1 k2.2.2.1).li ((L.2.2.2.2.1.mf k1.2.1 (by decide +kernel)).fr k2.2.2.1 (by decide +kernel)) ((L.2.2.2.2.2.mf k1.2.1).fr k2.2.2.1 (by decide +kernel))
