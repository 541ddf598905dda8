/-! a man on his beat -/
/-- the points among the steps of the beat b from s on, f of them looked at -/
def mP (wh : Nat → Int32) (b : Nat) : Nat → Nat → Nat
  | 0, _ => 0
  | f + 1, s => (if wh (150 * b + s) = 2 then 1 else 0) + mP wh b f (s + 1)
abbrev nB (h : Hp_) (c : Nat) : Nat := (h_i h 212 c).toNatClampNeg
abbrev nS (h : Hp_) (c : Nat) : Nat := (h_i h 213 c).toNatClampNeg
abbrev nZ (h : Hp_) (c : Nat) : Nat := (h_i h 227 (nB h c)).toNatClampNeg
/-- before a step: there is room in the rows for all points to come -/
def Gs (h : Hp_) (c : Nat) : Prop := 0 ≤ (h_i h 213 c).toInt ∧ nS h c ≤ nZ h c ∧ (h_i h 212 c).toInt < (h_i h 1 42).toInt ∧ (h_i h 216 c).toInt + (mP (h_i h 228) (nB h c) (nZ h c - nS h c) (nS h c) : Int) ≤ 400 ∧ h_i h 210 c = -1
/-- between the calls -/
def Jm (h : Hp_) (c : Nat) : Prop := (h_i h 208 c = 0 → h_i h 210 c = -1) ∧ (h_i h 208 c = 1 → 0 ≤ (h_i h 213 c).toInt ∧ nS h c < nZ h c ∧ (h_i h 212 c).toInt < (h_i h 1 42).toInt ∧ (h_i h 216 c).toInt + (mP (h_i h 228) (nB h c) (nZ h c - (nS h c + 1)) (nS h c + 1) : Int) ≤ 400 ∧ (¬ h_i h 210 c = -1 → (h_i h 216 c).toInt + (mP (h_i h 228) (nB h c) (nZ h c - nS h c) (nS h c) : Int) ≤ 400))
theorem Jd.jm {h : Hp_} {c : Nat} (j : Jd h c) : Jm h c := ⟨j.2, fun z => absurd z j.1⟩
theorem Mo.wh {c : Nat} {h h' : Hp_} (m : Mo c h h') : h_i h' 228 = h_i h 228 := funext m.2.2.1
theorem Jm_o {c c' : Nat} {h h' : Hp_} (m : Mo c h h') (n : c' ≠ c) (j : Jm h c') : Jm h' c' := by
  have e := fun (a : Nat) (ha : mrow a = true) => m.1 a ha c' n
  have ez : nZ h' c' = nZ h c' := by show (h_i h' 227 (h_i h' 212 c').toNatClampNeg).toNatClampNeg = _; rw [e 212 rfl, m.2.1]
  have es : nS h' c' = nS h c' := by show (h_i h' 213 c').toNatClampNeg = _; rw [e 213 rfl]
  have eb : nB h' c' = nB h c' := by show (h_i h' 212 c').toNatClampNeg = _; rw [e 212 rfl]
  unfold Jm
  rw [ez, es, eb, e 208 rfl, e 210 rfl, e 212 rfl, e 213 rfl, e 216 rfl, m.wh, m.b42]
  exact j
theorem mP_s {wh : Nat → Int32} {b z s : Nat} (h : s < z) : mP wh b (z - s) s = (if wh (150 * b + s) = 2 then 1 else 0) + mP wh b (z - (s + 1)) (s + 1) := by
  obtain ⟨f, e⟩ : ∃ f, z - s = f + 1 := ⟨z - s - 1, by omega⟩
  rw [e, show z - (s + 1) = f by omega]
  rfl
theorem Gs_f {c : Nat} {h h' : Hp_} (m : Mo c h h') (o : So c h h') : (∀ b, h_i h' 227 b = h_i h 227 b) ∧ nZ h' c = nZ h c ∧ nS h' c = nS h c ∧ nB h' c = nB h c := by
  refine ⟨m.2.1, ?_, ?_, ?_⟩
  · show (h_i h' 227 (h_i h' 212 c).toNatClampNeg).toNatClampNeg = _; rw [o.2.1, m.2.1]
  · show (h_i h' 213 c).toNatClampNeg = _; rw [o.2.2.1]
  · show (h_i h' 212 c).toNatClampNeg = _; rw [o.2.1]
theorem Gs_s {c : Nat} {h h' : Hp_} (m : Mo c h h') (o : So c h h') (e : h_i h' 210 c = h_i h 210 c) (g : Gs h c) : Gs h' c := by
  obtain ⟨_, ez, es, eb⟩ := Gs_f m o
  unfold Gs
  rw [ez, es, eb, o.2.1, o.2.2.1, o.2.2.2, m.wh, m.b42, e]
  exact g
theorem Gs_j {c : Nat} {h h' : Hp_} (m : Mo c h h') (o : So c h h') (d1 : h_i h 208 c = 1) (g : Gs h c) (l : nS h c < nZ h c) : Jm h' c := by
  obtain ⟨_, ez, es, eb⟩ := Gs_f m o
  refine ⟨fun z => by rw [o.1, d1] at z; exact absurd z (by decide), fun _ => ?_⟩
  rw [ez, es, eb, o.2.1, o.2.2.1, o.2.2.2, m.wh, m.b42]
  have p := mP_s (wh := h_i h 228) (b := nB h c) l
  have g4 := g.2.2.2.1
  exact ⟨g.1, l, g.2.2.1, by omega, fun _ => g4⟩
theorem c_miss (d : Nat) {h : Hp_} (I : Iv h) (c : Nat) (x1 x2 : Int32) (b1 : rin x1.toInt (0, 399)) : Cv (m_X12_miss (d + 0) 0 0) [.ref 1, .int x1, .int x2] h (fun h' => Iv h' ∧ Mo c h h' ∧ So c h h' ∧ h_i h' 210 c = h_i h 210 c) := by
  have v := dp_in b1 (n := 400) (by decide) (by decide)
  exact t_X12_miss d h I.1 x1 x2 _ ⟨v, v, i243 (i242 I _ _) _ _, ((Mo.rf _ _).im (by decide) (fun y => absurd y (by decide))).im (by decide) (fun y => absurd y (by decide)), ((So.rf _ _).im (by decide)).im (by decide), by rw [im_ne (by decide), im_ne (by decide)]⟩
/-- a point is come to: one row further -/
def Cm (c : Nat) (h h' : Hp_) : Prop := Iv h' ∧ Mo c h h' ∧ (h_i h' 208 c = h_i h 208 c ∧ h_i h' 212 c = h_i h 212 c ∧ h_i h' 213 c = h_i h 213 c ∧ h_i h' 210 c = h_i h 210 c) ∧ (h_i h' 216 c).toInt = (h_i h 216 c).toInt + 1
theorem rw_in {h : Hp_} (I : Iv h) (c : Nat) : rin (h_i h 216 c).toInt (0, 400) := dp_rg I 216 c (by decide +kernel)
theorem c_comes (d : Nat) {h : Hp_} (I : Iv h) (x1 x2 : Int32) (b1 : rin x1.toInt (0, 11)) (l : (h_i h 216 x1.toNatClampNeg).toInt ≤ 399) : Ci (m_X12_comes (d + 1) 0 0) [.ref 1, .int x1, .int x2] h (fun _ h' => Cm x1.toNatClampNeg h h') := by
  have v1 := dp_in b1 (n := 12) (by decide) (by decide)
  have t1 : (1 : Int32).toInt = 1 := rfl
  have r0 : 0 ≤ (h_i h 216 x1.toNatClampNeg).toInt := (rw_in I _).1
  have e1 : (h_i h 216 x1.toNatClampNeg + 1).toInt = (h_i h 216 x1.toNatClampNeg).toInt + 1 := by rw [tx_add (by rw [t1]; omega) (by rw [t1]; omega), t1]
  have vr : vp_in (h_i h 216 x1.toNatClampNeg) 400 := dp_in (lo := 0) (hi := 399) ⟨r0, l⟩ (by decide) (by decide)
  have I1 : Iv (h_im h 216 x1.toNatClampNeg (h_i h 216 x1.toNatClampNeg + 1)) := i216 I _ ⟨by show (0 : Int) ≤ _; omega, by show _ ≤ (400 : Int); omega⟩
  have M1 : Mo x1.toNatClampNeg h (h_im h 216 x1.toNatClampNeg (h_i h 216 x1.toNatClampNeg + 1)) := (Mo.rf _ _).im (by decide) (fun _ => rfl)
  have C1 : Cm x1.toNatClampNeg h (h_im h 216 x1.toNatClampNeg (h_i h 216 x1.toNatClampNeg + 1)) := ⟨I1, M1, ⟨im_ne (by decide), im_ne (by decide), im_ne (by decide), im_ne (by decide)⟩, by rw [im_at]; exact e1⟩
  have st : ∀ {h1 : Hp_} {a k : Nat} {v : Int32}, Cm x1.toNatClampNeg h h1 → Iv (h_im h1 a k v) → (Nat.beq a 227 || Nat.beq a 228 || Nat.beq a 1 || !(inw wsR a 999)) = false → mrow a = false → Cm x1.toNatClampNeg h (h_im h1 a k v) := by
    intro h1 a k v C J hb hm
    have n : ∀ {y : Nat}, mrow y = true → y ≠ a := fun {y} z e => by rw [e, hm] at z; cases z
    exact ⟨J, C.2.1.im hb (fun z => by rw [hm] at z; cases z), ⟨by rw [im_ne (n rfl)]; exact C.2.2.1.1, by rw [im_ne (n rfl)]; exact C.2.2.1.2.1, by rw [im_ne (n rfl)]; exact C.2.2.1.2.2.1, by rw [im_ne (n rfl)]; exact C.2.2.1.2.2.2⟩, by rw [im_ne (n rfl)]; exact C.2.2.2⟩
  have C2 := fun (v : Int32) => st C1 (i241 I1 (h_i h 216 x1.toNatClampNeg).toNatClampNeg v) (by decide) (by decide)
  refine t_X12_comes d h I.1 x1 x2 _ ⟨v1, v1, v1, v1, fun _ => ⟨vr, fun _ => C2 _, fun _ => ⟨v1, st (C2 _) (i211 (C2 _).1 _ _) (by decide) (by decide)⟩⟩, fun _ => ?_⟩
  refine Cv.mono (c_miss d I1 x1.toNatClampNeg _ 1 ⟨r0, l⟩) (fun h' q => ⟨q.1.1, q.1, M1.tr q.2.1, ?_, ?_⟩)
  · exact ⟨by rw [q.2.2.1.1]; exact C1.2.2.1.1, by rw [q.2.2.1.2.1]; exact C1.2.2.1.2.1, by rw [q.2.2.1.2.2.1]; exact C1.2.2.1.2.2.1, by rw [q.2.2.2]; exact C1.2.2.1.2.2.2⟩
  · rw [q.2.2.1.2.2.2]; exact C1.2.2.2
/-- a step further -/
theorem Gs_n {c : Nat} {h h' : Hp_} {x : Int32} (I : Iv h) (m : Mo c h h') (e2 : h_i h' 212 c = h_i h 212 c) (e3 : h_i h' 213 c = x) (e4 : h_i h' 210 c = h_i h 210 c) (ex : x.toInt = (h_i h 213 c).toInt + 1) (g : Gs h c) (l : nS h c < nZ h c)
    (er : (h_i h' 216 c).toInt ≤ (h_i h 216 c).toInt + (if h_i h 228 (150 * nB h c + nS h c) = 2 then 1 else 0 : Nat)) : Gs h' c ∧ nS h' c = nS h c + 1 ∧ nZ h' c = nZ h c := by
  have ez : nZ h' c = nZ h c := by show (h_i h' 227 (h_i h' 212 c).toNatClampNeg).toNatClampNeg = _; rw [e2, m.2.1]
  have eb : nB h' c = nB h c := by show (h_i h' 212 c).toNatClampNeg = _; rw [e2]
  have s0 := g.1
  have es : nS h' c = nS h c + 1 := by
    show (h_i h' 213 c).toNatClampNeg = (h_i h 213 c).toNatClampNeg + 1
    have a := n_nat (x := h_i h 213 c) s0
    have b := n_nat (x := x) (by omega)
    rw [e3]
    omega
  refine ⟨?_, es, ez⟩
  unfold Gs
  rw [ez, es, eb, e2, e3, e4, m.wh, m.b42]
  have p := mP_s (wh := h_i h 228) (b := nB h c) l
  have g4 := g.2.2.2.1
  refine ⟨by omega, by omega, g.2.2.1, ?_, g.2.2.2.2⟩
  rw [p] at g4
  omega
