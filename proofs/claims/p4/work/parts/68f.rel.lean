/-! what class and reference keep alike; what the law's loop keeps -/
def rl : List ((Nat × Nat) × Nat) := [((0, 7), 7)]
theorem rl_F : Rlf rl HF := fun q hq => by
  have z : rl.all (fun q => h_i HF q.1.1 q.1.2 == h_i HF 1 q.2) = true := by decide +kernel
  exact eq_of_beq (List.all_eq_true.mp z q hq)
def Ex (_ : Hp_) : Prop := True
def exo (_ : List Nat) : Bool := true
theorem ex_F : Ex HF := trivial
theorem Ex.fr {ws : List Nat} {h h' : Hp_} (_ : Ex h) (_ : Fr ws h h') (_ : exo ws = true) : Ex h' := trivial
theorem Ex.mf {W : List Nat} {h h' : Hp_} (_ : Ex h) (_ : Mf W h h') (_ : exo W = true) : Ex h' := trivial
/-- the men, and what this row wants besides -/
def Mef (h : Hp_) : Prop := Mn h ∧ Ex h
def Li (N : Nat) (h : Hp_) : Prop := Iv h ∧ J2 h ∧ h_sh h 2 = some (3, 1) ∧ (∃ c, h_r h 0 15 = some c ∧ h_sh h c = some (3, N)) ∧ Rlf rl h ∧ Mef h
theorem Li.z {N : Nat} {h : Hp_} (L : Li N h) : Li0 N h := ⟨L.1, L.2.1, L.2.2.1, L.2.2.2.1⟩
theorem Li0.li {N : Nat} {h : Hp_} (L : Li0 N h) (R : Rlf rl h) (m : Mef h) : Li N h := ⟨L.1, L.2.1, L.2.2.1, L.2.2.2, R, m⟩
theorem Mn.fr {ws : List Nat} {h h' : Hp_} (m : Mn h) (f : Fr ws h h') (o : (!inw ws 0 7 && off ws 15) = true) : Mn h' := fun k hk hm => by
  rw [Bool.and_eq_true, Bool.not_eq_true'] at o
  rw [(f.2 15 k (off_inw o.2 k)).2.2]
  exact m k hk (by rw [(f.2 0 7 o.1).1] at hm; exact hm)
theorem Mef.fr {ws : List Nat} {h h' : Hp_} (m : Mef h) (f : Fr ws h h') (o : (!inw ws 0 7 && off ws 15 && exo ws) = true) : Mef h' := by
  rw [Bool.and_eq_true] at o
  exact ⟨m.1.fr f o.1, m.2.fr f o.2⟩
theorem mn_F : Mn HF := fun k hk hm => by
  rw [show h_i HF 0 7 = 0 by decide +kernel] at hm
  have z : (0 : Int32).toInt = 0 := rfl
  omega
theorem li_F : Li 0 HF := li0_F.li rl_F ⟨mn_F, ex_F⟩
theorem Li.fr {N : Nat} {ws : List Nat} {h h' : Hp_} (L : Li N h) (I : Iv h') (f : Fr ws h h') (o : ((jso ws && !inw ws 0 15) && rl.all (fun q => !inw ws q.1.1 q.1.2 && !inw ws 1 q.2) && (!inw ws 0 7 && off ws 15 && exo ws)) = true) : Li N h' := by
  rw [Bool.and_eq_true, Bool.and_eq_true (jso ws && !inw ws 0 15)] at o
  exact (L.z.fr I f o.1.1).li (L.2.2.2.2.1.fr f o.1.2) (L.2.2.2.2.2.fr f o.2)
theorem Li.sr {N : Nat} {h h' : Hp_} (L : Li N h) (I : Iv h') (J : J2 h') (s : Sr h h') : Li N h' := (L.z.sn I J s.sn).li (L.2.2.2.2.1.fr s (by decide +kernel)) (L.2.2.2.2.2.fr s (by decide +kernel))
theorem Mn.mf {h h' : Hp_} (m : Mn h) (f : Mf wsX h h') : Mn h' := fun k hk hm => by
  rw [(f.2.2.2 15 k (by decide) (off_inw (by decide +kernel) k)).2]
  exact m k hk (by rw [(f.2.2.2 0 7 (by decide) (by decide +kernel)).1] at hm; exact hm)
theorem Mef.mf {h h' : Hp_} (m : Mef h) (f : Mf wsX h h') : Mef h' := ⟨m.1.mf f, m.2.mf f (by decide +kernel)⟩
theorem Mef.con {h h' : Hp_} {x1 x2 x3 r : Int32} (m : Mef h) (k : Cy x1 x2 x3 h r h') : Mef h' := ⟨k.2.2.1 m.1, m.2.mf k.1.2.1 (by decide +kernel)⟩
theorem oc_eq {m x1 x2 x3 r1 r2 m1 m2 : Int32} (b : 0 ≤ m.toInt ∧ m.toInt ≤ 12) (p : ocs m x1 x2 x3 r1 m1) (q : ocm m x1 x2 x3 r2 m2) : r1 = r2 ∧ m1 = m2 := by
  have t12 : (12 : Int32).toInt = 12 := rfl
  have t15 : (15 : Int32).toInt = 15 := rfl
  have t16 : (16 : Int32).toInt = 16 := rfl
  have e1 : okc m x1 x2 x3 → okm m x1 x2 x3 := fun o => ⟨o.1, o.2.1, ⟨o.2.2.1.1, q_le.mpr (by have := q_lt.mp o.2.2.1.2; omega)⟩, fun e => by have := q_lt.mp o.2.2.2; rw [e] at this; omega⟩
  have e2 : okm m x1 x2 x3 → okc m x1 x2 x3 := fun o => ⟨o.1, o.2.1, ⟨o.2.2.1.1, q_lt.mpr (by have := q_le.mp o.2.2.1.2; omega)⟩, q_lt.mpr (by
    rcases Int.lt_or_le m.toInt 12 with u | u
    · omega
    · exact absurd (Int32.toInt_inj.mp (by omega)) o.2.2.2)⟩
  rcases p with ⟨p, a, c⟩ | ⟨p, a, c⟩ <;> rcases q with ⟨q, a', c'⟩ | ⟨q, a', c'⟩
  · exact ⟨a.trans a'.symm, c.trans c'.symm⟩
  · exact absurd (e1 p) q
  · exact absurd (e2 q) p
  · exact ⟨a.trans a'.symm, c.trans c'.symm⟩
theorem men0_in {h : Hp_} (I : Iv h) : rin (h_i h 1 7).toInt (0, 12) := by
  have := I.2.1 1 7
  rwa [show tf 1 7 = (0, 12) by decide +kernel] at this
theorem Li.con3 {N : Nat} {h h1 h2 : Hp_} {x1 x2 x3 r1 r2 : Int32} (L : Li N h) (k1 : Cy x1 x2 x3 h r1 h1) (k2 : Iv h2 ∧ J2 h2 ∧ Sn h1 h2 ∧ ocm (h_i h1 1 7) x1 x2 x3 r2 (h_i h2 1 7) ∧ Cw (okm (h_i h1 1 7) x1 x2 x3) (h_i h1 1 7) x1 h1 h2) : Li N h2 ∧ r1 = r2 := by
  have e : h_i h 0 7 = h_i h 1 7 := L.2.2.2.2.1 ((0, 7), 7) (by decide +kernel)
  have e1 : h_i h1 1 7 = h_i h 1 7 := k1.1.2.1.1 7
  have kq := k2.2.2.2.1
  have kp := k1.2.1
  rw [e1] at kq
  rw [e] at kp
  have b := men0_in L.1
  have z := oc_eq ⟨b.1, b.2⟩ kp kq
  refine ⟨((L.z.con k1.1).sn k2.1 k2.2.1 k2.2.2.1).li (fun q hq => ?_) ((L.2.2.2.2.2.con k1).fr k2.2.2.1 (by decide +kernel)), z.1⟩
  by_cases y : q = ((0, 7), 7)
  · rw [y]
    show h_i h2 0 7 = h_i h2 1 7
    rw [(k2.2.2.1.2 0 7 (by decide +kernel)).1]
    exact z.2
  · exact ((Rlf.mf (rl := rl.filter (fun q => !decide (q = ((0, 7), 7)))) (fun q hq => L.2.2.2.2.1 q (List.mem_filter.mp hq).1) k1.1.2.1 (by decide +kernel)).fr k2.2.2.1 (by decide +kernel)) q (List.mem_filter.mpr ⟨hq, by rw [decide_eq_false y]; rfl⟩)
theorem Li.tick2 {N N' : Nat} {h h1 h2 : Hp_} {x r1 r2 : Int32} (L : Li N h) (k1 : Iv h1 ∧ Mf wsX h h1 ∧ (∃ c', h_r h1 0 15 = some c' ∧ h_sh h1 c' = some (3, N')) ∧ otk (h_i h 0 0) x r1 (h_i h1 0 0)) (k2 : Iv h2 ∧ J2 h2 ∧ Fr wsT h1 h2 ∧ otk (h_i h1 1 0) x r2 (h_i h2 1 0)) : Li N' h2 := ((L.z.tick k1).st k2.1 k2.2.1 k2.2.2.1).li ((L.2.2.2.2.1.mf k1.2.1 (by decide +kernel)).fr k2.2.2.1 (by decide +kernel)) ((L.2.2.2.2.2.mf k1.2.1).fr k2.2.2.1 (by decide +kernel))
