/-! walks over paths: lengths, and the least of them -/
def wkp (E : Nat → Nat × Nat × Int) (n u : Nat) : Nat → Nat → Int → Prop
  | 0, v, t => v = u ∧ t = 0
  | k + 1, v, t => ∃ i, i < n ∧ ((v = (E i).2.1 ∧ wkp E n u k (E i).1 (t - (E i).2.2)) ∨ (v = (E i).1 ∧ wkp E n u k (E i).2.1 (t - (E i).2.2)))
theorem wkp_mo {E E' : Nat → Nat × Nat × Int} {n n' u : Nat} (hn : n ≤ n') (hE : ∀ i, i < n → E' i = E i) : ∀ (k v : Nat) (t : Int), wkp E n u k v t → wkp E' n' u k v t
  | 0, _, _, h => h
  | k + 1, v, t, ⟨i, hi, h⟩ => ⟨i, by omega, by
    rw [hE i hi]
    exact h.elim (fun h => Or.inl ⟨h.1, wkp_mo hn hE k _ _ h.2⟩) (fun h => Or.inr ⟨h.1, wkp_mo hn hE k _ _ h.2⟩)⟩
theorem wkp_cc {E : Nat → Nat × Nat × Int} {n u w : Nat} {k : Nat} {s : Int} (h : wkp E n u k w s) : ∀ (j v : Nat) (t : Int), wkp E n w j v t → wkp E n u (k + j) v (s + t)
  | 0, v, t, ⟨a, b⟩ => by
    rw [a, b, Int.add_zero]
    exact h
  | j + 1, v, t, ⟨i, hi, g⟩ => ⟨i, hi, by
    have e : s + t - (E i).2.2 = s + (t - (E i).2.2) := by omega
    rw [e]
    exact g.elim (fun g => Or.inl ⟨g.1, wkp_cc h j _ _ g.2⟩) (fun g => Or.inr ⟨g.1, wkp_cc h j _ _ g.2⟩)⟩
/-- d is the least length from u, up to B -/
def Exr (E : Nat → Nat × Nat × Int) (n : Nat) (B : Int) (u : Nat) (d : Nat → Int) : Prop := ∀ v, v < 16 → (0 ≤ d v ∧ d v ≤ B) ∧ (∀ k t, wkp E n u k v t → d v ≤ t) ∧ (d v < B → ∃ k, wkp E n u k v (d v))
def Ev (E : Nat → Nat × Nat × Int) (n : Nat) : Prop := ∀ i, i < n → ((E i).1 < 16 ∧ (E i).2.1 < 16) ∧ 1 ≤ (E i).2.2 ∧ (E i).2.2 ≤ 60
def Fe (E : Nat → Nat × Nat × Int) (n : Nat) (d : Nat → Int) : Prop := ∀ i, i < n → d (E i).2.1 ≤ d (E i).1 + (E i).2.2 ∧ d (E i).1 ≤ d (E i).2.1 + (E i).2.2
theorem fe_le {E : Nat → Nat × Nat × Int} {n u : Nat} {d : Nat → Int} (f : Fe E n d) (h0 : d u ≤ 0) : ∀ (k v : Nat) (t : Int), wkp E n u k v t → d v ≤ t
  | 0, v, t, ⟨a, b⟩ => by
    rw [a, b]
    exact h0
  | k + 1, v, t, ⟨i, hi, h⟩ => by
    have q := f i hi
    rcases h with ⟨a, b⟩ | ⟨a, b⟩
    · have ih := fe_le f h0 k _ _ b
      rw [a]
      omega
    · have ih := fe_le f h0 k _ _ b
      rw [a]
      omega
theorem Exr.fe {E : Nat → Nat × Nat × Int} {n u : Nat} {B : Int} {d : Nat → Int} (x : Exr E n B u d) (e : Ev E n) : Fe E n d := fun i hi => by
  have q := e i hi
  have xa := x _ q.1.1
  have xb := x _ q.1.2
  constructor
  · by_cases c : d (E i).1 < B
    · obtain ⟨k, h⟩ := xa.2.2 c
      refine xb.2.1 (k + 1) _ ⟨i, hi, Or.inl ⟨rfl, ?_⟩⟩
      rw [Int.add_sub_cancel]
      exact h
    · have := xb.1.2
      have := xa.1.2
      omega
  · by_cases c : d (E i).2.1 < B
    · obtain ⟨k, h⟩ := xb.2.2 c
      refine xa.2.1 (k + 1) _ ⟨i, hi, Or.inr ⟨rfl, ?_⟩⟩
      rw [Int.add_sub_cancel]
      exact h
    · have := xb.1.2
      have := xa.1.2
      omega
/-- how many are no farther than t -/
def cnp (d : Nat → Int) (t : Int) : Nat → Nat
  | 0 => 0
  | j + 1 => cnp d t j + (if d j ≤ t then 1 else 0)
theorem cnp_le (d : Nat → Int) (t : Int) : ∀ j, cnp d t j ≤ j
  | 0 => Nat.le_refl _
  | j + 1 => by
    have ih := cnp_le d t j
    show cnp d t j + (if d j ≤ t then 1 else 0) ≤ j + 1
    by_cases c : d j ≤ t
    · rw [if_pos c]
      omega
    · rw [if_neg c]
      omega
theorem cnp_mo {d : Nat → Int} {s t : Int} (h : s ≤ t) : ∀ j, cnp d s j ≤ cnp d t j
  | 0 => Nat.le_refl _
  | j + 1 => by
    have ih := cnp_mo (d := d) h j
    show cnp d s j + (if d j ≤ s then 1 else 0) ≤ cnp d t j + (if d j ≤ t then 1 else 0)
    by_cases c : d j ≤ s
    · rw [if_pos c, if_pos (Int.le_trans c h)]
      omega
    · rw [if_neg c]
      omega
theorem cnp_lt {d : Nat → Int} {s t : Int} (h : s ≤ t) {v : Nat} (h1 : s < d v) (h2 : d v ≤ t) : ∀ j, v < j → cnp d s j + 1 ≤ cnp d t j
  | 0, l => absurd l (by omega)
  | j + 1, l => by
    show cnp d s j + (if d j ≤ s then 1 else 0) + 1 ≤ cnp d t j + (if d j ≤ t then 1 else 0)
    by_cases c : v = j
    · have m := cnp_mo (d := d) h j
      rw [← c, if_neg (by omega), if_pos h2]
      rw [← c] at m
      omega
    · have ih := cnp_lt h h1 h2 j (by omega)
      by_cases c : d j ≤ s
      · rw [if_pos c, if_pos (Int.le_trans c h)]
        omega
      · rw [if_neg c]
        omega
theorem Exr.b9 {E : Nat → Nat × Nat × Int} {n u : Nat} {B : Int} {d : Nat → Int} (x : Exr E n B u d) (e : Ev E n) : ∀ (N v : Nat), v < 16 → (d v).toNat < N → d v < B → d v + 60 ≤ 60 * (cnp d (d v) 16 : Int)
  | 0, _, _, l, _ => absurd l (by omega)
  | N + 1, v, hv, l, c => by
    obtain ⟨k, h⟩ := (x v hv).2.2 c
    have p := (x v hv).1.1
    cases k with
    | zero =>
      have h' : v = u ∧ d v = 0 := h
      have q := cnp_lt (d := d) (s := -1) (t := d v) (by omega) (v := v) (by omega) (Int.le_refl _) 16 hv
      omega
    | succ k =>
      obtain ⟨i, hi, g⟩ := h
      have ei := e i hi
      have fe := x.fe e i hi
      have st : ∀ a, a < 16 → wkp E n u k a (d v - (E i).2.2) → d v ≤ d a + (E i).2.2 → d v + 60 ≤ 60 * (cnp d (d v) 16 : Int) := fun a ha hw hf => by
        have xa := (x a ha).2.1 k _ hw
        have pa := (x a ha).1.1
        have ih := Exr.b9 x e N a ha (by omega) (by omega)
        have q := cnp_lt (d := d) (s := d a) (t := d v) (by omega) (v := v) (by omega) (Int.le_refl _) 16 hv
        omega
      rcases g with ⟨a, b⟩ | ⟨a, b⟩
      · exact st _ ei.1.1 b (by rw [a]; exact fe.1)
      · exact st _ ei.1.2 b (by rw [a]; exact fe.2)
theorem Exr.le {E : Nat → Nat × Nat × Int} {n u : Nat} {B : Int} {d : Nat → Int} (x : Exr E n B u d) (e : Ev E n) {v : Nat} (hv : v < 16) (c : d v < B) : d v ≤ 900 := by
  have k := x.b9 e ((d v).toNat + 1) v hv (by omega) c
  have l := cnp_le d (d v) 16
  omega
theorem Exr.eq {E : Nat → Nat × Nat × Int} {n u : Nat} {B B' : Int} {d d' : Nat → Int} (x : Exr E n B u d) (y : Exr E n B' u d') (e : Ev E n) (hB : 900 < B) (hB' : 900 < B') {v : Nat} (hv : v < 16) : (d v < B ∧ d' v < B' ∧ d v = d' v) ∨ (¬ d v < B ∧ ¬ d' v < B') := by
  by_cases c : d v < B
  · obtain ⟨k, h⟩ := (x v hv).2.2 c
    have l := (y v hv).2.1 k _ h
    have l9 := x.le e hv c
    obtain ⟨k', h'⟩ := (y v hv).2.2 (by omega)
    have l' := (x v hv).2.1 k' _ h'
    exact Or.inl ⟨c, by omega, by omega⟩
  · refine Or.inr ⟨c, fun c' => c ?_⟩
    obtain ⟨k', h'⟩ := (y v hv).2.2 c'
    have l' := (x v hv).2.1 k' _ h'
    have l9 := y.le e hv c'
    omega
def Exd (E : Nat → Nat × Nat × Int) (n : Nat) (B : Int) (D : Nat → Nat → Int) : Prop := ∀ u, u < 16 → Exr E n B u (D u)
def exE (E : Nat → Nat × Nat × Int) (n : Nat) (q : Nat × Nat × Int) : Nat → Nat × Nat × Int := fun i => if i = n then q else E i
/-- one path more: what the table must be -/
theorem Exd.add {E : Nat → Nat × Nat × Int} {n : Nat} {B : Int} {D V : Nat → Nat → Int} {a b : Nat} {m : Int} (x : Exd E n B D) (e : Ev E n) (ha : a < 16) (hb : b < 16) (hm : 1 ≤ m) (hV : ∀ u v, u < 16 → v < 16 → ((0 ≤ V u v ∧ V u v ≤ B) ∧ (V u v < B → ∃ k, wkp (exE E n (a, b, m)) (n + 1) u k v (V u v))) ∧ V u v ≤ D u v ∧ V u v ≤ D u a + m + D b v ∧ V u v ≤ D u b + m + D a v) : Exd (exE E n (a, b, m)) (n + 1) B V := fun u hu v hv => by
  have q := hV u v hu hv
  refine ⟨q.1.1, fun k t h => ?_, q.1.2⟩
  have z : ∀ w, w < 16 → D w w ≤ 0 := fun w hw => (x w hw w hw).2.1 0 0 ⟨rfl, rfl⟩
  have fu := (x u hu).fe e
  have fa := (x a ha).fe e
  have fb := (x b hb).fe e
  have f : Fe (exE E n (a, b, m)) (n + 1) (fun v => min (D u v) (min (D u a + m + D b v) (D u b + m + D a v))) := fun i hi => by
    by_cases c : i = n
    · have ee : exE E n (a, b, m) i = (a, b, m) := if_pos c
      rw [ee]
      have h1 := z a ha
      have h2 := z b hb
      have h3 := (x b hb a ha).1.1
      have h4 := (x a ha b hb).1.1
      have h5 := (x u hu a ha).1.1
      have h6 := (x u hu b hb).1.1
      show min (D u b) (min (D u a + m + D b b) (D u b + m + D a b)) ≤ min (D u a) (min (D u a + m + D b a) (D u b + m + D a a)) + m ∧ min (D u a) (min (D u a + m + D b a) (D u b + m + D a a)) ≤ min (D u b) (min (D u a + m + D b b) (D u b + m + D a b)) + m
      have h7 := (x a ha a ha).1.1
      have h8 := (x b hb b hb).1.1
      omega
    · have ee : exE E n (a, b, m) i = E i := if_neg c
      rw [ee]
      have k1 := fu i (by omega)
      have k2 := fa i (by omega)
      have k3 := fb i (by omega)
      show min (D u (E i).2.1) (min (D u a + m + D b (E i).2.1) (D u b + m + D a (E i).2.1)) ≤ min (D u (E i).1) (min (D u a + m + D b (E i).1) (D u b + m + D a (E i).1)) + (E i).2.2 ∧ min (D u (E i).1) (min (D u a + m + D b (E i).1) (D u b + m + D a (E i).1)) ≤ min (D u (E i).2.1) (min (D u a + m + D b (E i).2.1) (D u b + m + D a (E i).2.1)) + (E i).2.2
      omega
  have g := fe_le f (u := u) (by
    show min (D u u) (min (D u a + m + D b u) (D u b + m + D a u)) ≤ 0
    have := z u hu
    omega) k v t h
  have g' : min (D u v) (min (D u a + m + D b v) (D u b + m + D a v)) ≤ t := g
  omega
/-! what class and reference keep alike; what the law's loop keeps -/
def rl : List ((Nat × Nat) × Nat) := [((10, 1), 6)]
theorem rl_F : Rlf rl HF := fun q hq => by
  have z : rl.all (fun q => h_i HF q.1.1 q.1.2 == h_i HF 1 q.2) = true := by decide +kernel
  exact eq_of_beq (List.all_eq_true.mp z q hq)
/-- the reference's paths, and the class's table -/
def eE (h : Hp_) : Nat → Nat × Nat × Int := fun i => ((h_i h 200 i).toNatClampNeg, (h_i h 201 i).toNatClampNeg, (h_i h 202 i).toInt)
def eN (h : Hp_) : Nat := (h_i h 1 6).toNatClampNeg
def dX (h : Hp_) : Nat → Nat → Int := fun u v => (h_i h 30 (16 * u + v)).toInt
def Ex (h : Hp_) : Prop := (∀ i, i < eN h → 1 ≤ (h_i h 202 i).toInt) ∧ Exd (eE h) (eN h) 1000000 (dX h)
def exo (ws : List Nat) : Bool := off ws 30 && off ws 200 && off ws 201 && off ws 202 && !inw ws 1 6
theorem ex_F : Ex HF := by
  have z : eN HF = 0 := by
    unfold eN
    rw [show h_i HF 1 6 = 0 by decide +kernel]
    decide
  refine ⟨fun i hi => absurd hi (by rw [z]; omega), ?_⟩
  rw [z]
  have t : (List.range 256).all (fun k => h_i HF 30 k == (if k / 16 = k % 16 then 0 else 1000000)) = true := by decide +kernel
  have t0 : (0 : Int32).toInt = 0 := rfl
  have tm : (1000000 : Int32).toInt = 1000000 := rfl
  have dv : ∀ u v, u < 16 → v < 16 → dX HF u v = if u = v then 0 else 1000000 := fun u v hu hv => by
    have y := eq_of_beq (List.all_eq_true.mp t (16 * u + v) (List.mem_range.mpr (by omega)))
    unfold dX
    rw [y]
    by_cases c : u = v
    · rw [if_pos c, if_pos (by omega), t0]
    · rw [if_neg c, if_neg (by omega), tm]
  intro u hu v hv
  show (0 ≤ dX HF u v ∧ dX HF u v ≤ 1000000) ∧ (∀ k t, wkp (eE HF) 0 u k v t → dX HF u v ≤ t) ∧ (dX HF u v < 1000000 → ∃ k, wkp (eE HF) 0 u k v (dX HF u v))
  rw [dv u v hu hv]
  by_cases c : u = v
  · rw [if_pos c]
    refine ⟨⟨by decide, by decide⟩, fun k t h => ?_, fun _ => ⟨0, c.symm, rfl⟩⟩
    cases k with
    | zero =>
      have h' : v = u ∧ t = 0 := h
      omega
    | succ k =>
      obtain ⟨i, hi, _⟩ := h
      omega
  · rw [if_neg c]
    refine ⟨⟨by decide, by decide⟩, fun k t h => ?_, fun y => absurd y (by decide)⟩
    cases k with
    | zero =>
      have h' : v = u ∧ t = 0 := h
      omega
    | succ k =>
      obtain ⟨i, hi, _⟩ := h
      omega
theorem Ex.cg {h h' : Hp_} (e : Ex h) (a : h_i h' 30 = h_i h 30) (b : h_i h' 200 = h_i h 200) (c : h_i h' 201 = h_i h 201) (d : h_i h' 202 = h_i h 202) (n : h_i h' 1 6 = h_i h 1 6) : Ex h' := by
  unfold Ex eE eN dX
  rw [a, b, c, d, n]
  exact e
theorem Ex.fr {ws : List Nat} {h h' : Hp_} (e : Ex h) (f : Fr ws h h') (o : exo ws = true) : Ex h' := by
  unfold exo at o
  simp only [Bool.and_eq_true, Bool.not_eq_true'] at o
  exact e.cg (funext (fun k => fr_i f o.1.1.1.1 k)) (funext (fun k => fr_i f o.1.1.1.2 k)) (funext (fun k => fr_i f o.1.1.2 k)) (funext (fun k => fr_i f o.1.2 k)) (f.2 1 6 o.2).1
theorem Ex.mf {W : List Nat} {h h' : Hp_} (e : Ex h) (f : Mf W h h') (o : exo W = true) : Ex h' := by
  unfold exo at o
  simp only [Bool.and_eq_true, Bool.not_eq_true'] at o
  exact e.cg (funext (fun k => (f.2.2.2 30 k (by decide) (off_inw o.1.1.1.1 k)).1)) (funext (fun k => f.2.1 200 (by decide) (by decide) k)) (funext (fun k => f.2.1 201 (by decide) (by decide) k)) (funext (fun k => f.2.1 202 (by decide) (by decide) k)) (f.1 6)
/-- the men, and what this row wants besides -/
def Mef (h : Hp_) : Prop := Mn h ∧ Ex h
def Li (N : Nat) (h : Hp_) : Prop := Iv h ∧ J2 h ∧ h_sh h 2 = some (3, 1) ∧ (∃ c, h_r h 0 15 = some c ∧ h_sh h c = some (3, N)) ∧ Rlf rl h ∧ Mef h
theorem Li.z {N : Nat} {h : Hp_} (L : Li N h) : Li0 N h := ⟨L.1, L.2.1, L.2.2.1, L.2.2.2.1⟩
theorem Li0.li {N : Nat} {h : Hp_} (L : Li0 N h) (R : Rlf rl h) (m : Mef h) : Li N h := ⟨L.1, L.2.1, L.2.2.1, L.2.2.2, R, m⟩
theorem Mn.fr {ws : List Nat} {h h' : Hp_} (m : Mn h) (f : Fr ws h h') (o : (!inw ws 0 7 && off ws 15) = true) : Mn h' := fun k hk hm => by
  rw [Bool.and_eq_true, Bool.not_eq_true'] at o
  rw [(f.2 15 k (off_inw o.2 k)).2.2]
  exact m k hk (by rw [(f.2 0 7 o.1).1] at hm; exact hm)
theorem Mef.fr {ws : List Nat} {h h' : Hp_} (m : Mef h) (f : Fr ws h h') (o : (!inw ws 0 7 && off ws 15 && exo ws) = true) : Mef h' := by
  rw [Bool.and_eq_true] at o
  exact ⟨m.1.fr f o.1, m.2.fr f o.2⟩
theorem mn_F : Mn HF := fun k hk hm => by
  rw [show h_i HF 0 7 = 0 by decide +kernel] at hm
  have z : (0 : Int32).toInt = 0 := rfl
  omega
theorem li_F : Li 0 HF := li0_F.li rl_F ⟨mn_F, ex_F⟩
theorem Li.fr {N : Nat} {ws : List Nat} {h h' : Hp_} (L : Li N h) (I : Iv h') (f : Fr ws h h') (o : ((jso ws && !inw ws 0 15) && rl.all (fun q => !inw ws q.1.1 q.1.2 && !inw ws 1 q.2) && (!inw ws 0 7 && off ws 15 && exo ws)) = true) : Li N h' := by
  rw [Bool.and_eq_true, Bool.and_eq_true (jso ws && !inw ws 0 15)] at o
  exact (L.z.fr I f o.1.1).li (L.2.2.2.2.1.fr f o.1.2) (L.2.2.2.2.2.fr f o.2)
theorem Li.sr {N : Nat} {h h' : Hp_} (L : Li N h) (I : Iv h') (J : J2 h') (s : Sr h h') : Li N h' := (L.z.sn I J s.sn).li (L.2.2.2.2.1.fr s (by decide +kernel)) (L.2.2.2.2.2.fr s (by decide +kernel))
theorem Mn.mf {h h' : Hp_} (m : Mn h) (f : Mf wsX h h') : Mn h' := fun k hk hm => by
  rw [(f.2.2.2 15 k (by decide) (off_inw (by decide +kernel) k)).2]
  exact m k hk (by rw [(f.2.2.2 0 7 (by decide) (by decide +kernel)).1] at hm; exact hm)
theorem Mef.mf {h h' : Hp_} (m : Mef h) (f : Mf wsX h h') : Mef h' := ⟨m.1.mf f, m.2.mf f (by decide +kernel)⟩
theorem Mef.con {h h' : Hp_} {x1 x2 x3 r : Int32} (m : Mef h) (k : Cy x1 x2 x3 h r h') : Mef h' := ⟨k.2.2.1 m.1, m.2.mf k.1.2.1 (by decide +kernel)⟩
theorem Li.con2 {N : Nat} {h h1 h2 : Hp_} {x1 x2 x3 r1 r2 : Int32} (L : Li N h) (k1 : Cy x1 x2 x3 h r1 h1) (k2 : Iv h2 ∧ J2 h2 ∧ Sn h1 h2 ∧ ocm (h_i h1 1 7) x1 x2 x3 r2 (h_i h2 1 7) ∧ Cw (okm (h_i h1 1 7) x1 x2 x3) (h_i h1 1 7) x1 h1 h2) : Li N h2 := ((L.z.con k1.1).sn k2.1 k2.2.1 k2.2.2.1).li ((L.2.2.2.2.1.mf k1.1.2.1 (by decide +kernel)).fr k2.2.2.1 (by decide +kernel)) ((L.2.2.2.2.2.con k1).fr k2.2.2.1 (by decide +kernel))
theorem Li.tick2 {N N' : Nat} {h h1 h2 : Hp_} {x r1 r2 : Int32} (L : Li N h) (k1 : Iv h1 ∧ Mf wsX h h1 ∧ (∃ c', h_r h1 0 15 = some c' ∧ h_sh h1 c' = some (3, N')) ∧ otk (h_i h 0 0) x r1 (h_i h1 0 0)) (k2 : Iv h2 ∧ J2 h2 ∧ Fr wsT h1 h2 ∧ otk (h_i h1 1 0) x r2 (h_i h2 1 0)) : Li N' h2 := ((L.z.tick k1).st k2.1 k2.2.1 k2.2.2.1).li ((L.2.2.2.2.1.mf k1.2.1 (by decide +kernel)).fr k2.2.2.1 (by decide +kernel)) ((L.2.2.2.2.2.mf k1.2.1).fr k2.2.2.1 (by decide +kernel))
