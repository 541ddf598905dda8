section
/-! LOOKS: open, act, pay, constable keep the relation -/
theorem c_onX (d : Nat) {h : Hp_} (I : Iv h) (x1 : Int32) : Ci (m_X11_open (d + 1) 0 0) [.ref 0, .int x1] h (fun r h' => Iv h' ∧ Fr [18003, 71999, 72999] h h' ∧ Onx x1 h r h') := by
  refine t_X11_open d h I.1 x1 _ ⟨fun n => ⟨I, Fr.rf _ _, fun c => absurd c n, fun _ => ⟨rfl, rfl⟩⟩, fun c => Ci.mono (c_sta d I ⟨q_le.mp c.1, q_le.mp c.2⟩ _) (fun r h' k => ⟨k.1.1, k.1, k.2.1, fun _ => k, fun n => absurd c n⟩)⟩
theorem c_onM (d : Nat) {h : Hp_} (I : Iv h) (x1 : Int32) : Ci (m_X12_open (d + 1) 0 0) [.ref 1, .int x1] h (fun r h' => Iv h' ∧ Fr [1096, 262999, 263999] h h' ∧ Onm x1 h r h') := by
  refine t_X12_open d h I.1 x1 _ ⟨fun n => ⟨I, Fr.rf _ _, fun c => absurd c.1 n, fun _ => ⟨rfl, rfl⟩⟩, fun c => ⟨fun y => ⟨I, Fr.rf _ _, fun u => absurd y u.2, fun _ => ⟨rfl, rfl⟩⟩, fun n => Ci.mono (c_opn d I n ⟨q_le.mp c.1, q_le.mp c.2⟩) (fun r h' k => ⟨k.1.1, k.1, k.2.1, fun _ => k, fun u => absurd ⟨c, n⟩ u⟩)⟩⟩
/-! act and pay -/
theorem At_.cg {f f' : Nat → Int32} {i : Nat} {L : List Int32} (a : At_ f i L) (e : ∀ j, i ≤ j → j < i + L.length → f' j = f j) : At_ f' i L := fun k v h => by
  have lk : k < L.length := (List.getElem?_eq_some_iff.mp h).1
  rw [e (i + k) (by omega) (by omega)]
  exact a k v h
theorem rlX_lt {i k : Nat} {C : List Cl2} {v : Int32} (h : (rlX 1 i C)[k]? = some v) : k < rlN C := by
  have lk : k < (rlX 1 i C).length := (List.getElem?_eq_some_iff.mp h).1
  rw [rlX_l] at lk
  exact lk
/-- codes of other acts stay -/
theorem gdC.cg {h h' : Hp_} {k : Nat} {C : List Cl2} (g : gdC h k C) (a : h_i h' 39 k = h_i h 39 k) (b : ∀ i, i < 164 → h_i h' 40 (164 * k + i) = h_i h 40 (164 * k + i)) (c : ∀ i, i < 560 → h_i h' 231 (560 * k + i) = h_i h 231 (560 * k + i)) (d : h_i h' 232 k = h_i h 232 k) : gdC h' k C := by
  obtain ⟨g1, g2, g3, g4, g5⟩ := g
  refine ⟨g1, ⟨by rw [a]; exact g2.1, g2.2.1, fun i v e => ?_⟩, g3.cg (fun j l u => ?_), by rw [d]; exact g4, g5⟩
  · rw [b i (by have := rlX_lt e; omega)]
    exact g2.2.2 i v e
  · have := c (j - 560 * k) (by omega)
    rw [show 560 * k + (j - 560 * k) = j by omega] at this
    exact this
theorem ExK.ac {h h1 h2 : Hp_} {x1 r1 r2 : Int32} (e : ExK h) (I : Iv h) (e0 : h_i h 0 0 = h_i h 1 0) (F1 : Fr wrx_13 h h1) (F2 : Fr wzt h1 h2) (k1 : Rlx_13 x1 h r1 h1 ∧ RcX_13 x1 h h1) (k2 : Rlm (h_i h 31) (xn h) 0 x1 h1 r2 h2 ∧ RcM (h_i h 31) (xn h) 0 x1 h1 h2) : ExK h2 := by
  have c20 := n13_in I
  have n13 := n_nat c20.1
  have t1 : (1 : Int32).toInt = 1 := rfl
  have e235 : h_i h1 235 0 = h_i h 13 5 := by rw [fr_i F1 (a := 235) (by decide +kernel) 0]; exact e.1.2.2.2.2.1
  have g : ∀ a, off wrx_13 a = true → off wzt a = true → h_i h2 a = h_i h a := fun a o1 o2 => funext (fun k => (fr_i F2 o2 k).trans (fr_i F1 o1 k))
  have gf : ∀ a k, inw wrx_13 a k = false → inw wzt a k = false → h_i h2 a k = h_i h a k := fun a k o1 o2 => ((F2.2 a k o2).1).trans (F1.2 a k o1).1
  have kq := k2
  unfold Rlm RcM at kq
  rw [e235] at kq
  have g2 : ∀ a, off wzt a = true → h_i h2 a = h_i h1 a := fun a o2 => funext (fun k => fr_i F2 o2 k)
  have g1 : ∀ a, off wrx_13 a = true → h_i h1 a = h_i h a := fun a o2 => funext (fun k => fr_i F1 o2 k)
  by_cases c : okR (h_i h 31) (xn h) 0 x1 (h_i h 13 5)
  · have p := k1.1.2 c
    have q := kq.1.2 c
    have pc := k1.2.2 c
    have qc := kq.2.2 c
    have n20 : ¬ h_i h 13 5 = 20 := c.2.1
    have l20 : (h_i h 13 5).toInt < 20 := by
      rcases Int.lt_or_le (h_i h 13 5).toInt 20 with u | u
      · exact u
      · exact absurd (Int32.toInt_inj.mp (show (h_i h 13 5).toInt = (20 : Int32).toInt by rw [show (20 : Int32).toInt = 20 from rfl]; omega)) n20
    have f1 : (h_i h 13 5 + 1).toInt = (h_i h 13 5).toInt + 1 := by rw [tx_add (by rw [t1]; omega) (by rw [t1]; omega), t1]
    have n14 := n_nat (x := h_i h 13 5 + 1) (by omega)
    have z13 : h_i h2 13 5 = h_i h 13 5 + 1 := by rw [(F2.2 13 5 (by decide +kernel)).1]; exact p.2.2.1
    refine ⟨⟨by rw [gf 1 80 (by decide +kernel) (by decide +kernel), gf 17 16 (by decide +kernel) (by decide +kernel)]; exact e.1.1, by rw [gf 1 79 (by decide +kernel) (by decide +kernel), gf 17 7 (by decide +kernel) (by decide +kernel)]; exact e.1.2.1, by rw [gf 1 96 (by decide +kernel) (by decide +kernel), gf 18 3 (by decide +kernel) (by decide +kernel)]; exact e.1.2.2.1, by rw [gf 1 29 (by decide +kernel) (by decide +kernel), gf 21 4 (by decide +kernel) (by decide +kernel)]; exact e.1.2.2.2.1, ?_, by rw [gf 0 7 (by decide +kernel) (by decide +kernel)]; exact e.1.2.2.2.2.2⟩, kx_2 e (g 249 (by decide +kernel) (by decide +kernel)) (g 250 (by decide +kernel) (by decide +kernel)) (g 251 (by decide +kernel) (by decide +kernel)) (g 252 (by decide +kernel) (by decide +kernel)) (g 253 (by decide +kernel) (by decide +kernel)) (g 57 (by decide +kernel) (by decide +kernel)) (g 58 (by decide +kernel) (by decide +kernel)) (g 59 (by decide +kernel) (by decide +kernel)) (g 60 (by decide +kernel) (by decide +kernel)) (g 61 (by decide +kernel) (by decide +kernel)) (g 254 (by decide +kernel) (by decide +kernel)) (g 63 (by decide +kernel) (by decide +kernel)) (g 62 (by decide +kernel) (by decide +kernel)) (g 65 (by decide +kernel) (by decide +kernel)) (gf 17 7 (by decide +kernel) (by decide +kernel)) (gf 17 16 (by decide +kernel) (by decide +kernel)), kx_3 e (g 255 (by decide +kernel) (by decide +kernel)) (g 256 (by decide +kernel) (by decide +kernel)) (g 257 (by decide +kernel) (by decide +kernel)) (g 258 (by decide +kernel) (by decide +kernel)) (g 259 (by decide +kernel) (by decide +kernel)) (g 260 (by decide +kernel) (by decide +kernel)) (g 261 (by decide +kernel) (by decide +kernel)) (g 64 (by decide +kernel) (by decide +kernel)) (g 65 (by decide +kernel) (by decide +kernel)) (g 66 (by decide +kernel) (by decide +kernel)) (g 67 (by decide +kernel) (by decide +kernel)) (g 68 (by decide +kernel) (by decide +kernel)) (g 69 (by decide +kernel) (by decide +kernel)) (g 70 (by decide +kernel) (by decide +kernel)) (gf 17 16 (by decide +kernel) (by decide +kernel)), kx_4 e (g 262 (by decide +kernel) (by decide +kernel)) (g 263 (by decide +kernel) (by decide +kernel)) (g 71 (by decide +kernel) (by decide +kernel)) (g 72 (by decide +kernel) (by decide +kernel)) (gf 18 3 (by decide +kernel) (by decide +kernel)), kx_5 e (g 104 (by decide +kernel) (by decide +kernel)) (g 105 (by decide +kernel) (by decide +kernel)) (g 106 (by decide +kernel) (by decide +kernel)) (g 107 (by decide +kernel) (by decide +kernel)) (g 221 (by decide +kernel) (by decide +kernel)) (g 222 (by decide +kernel) (by decide +kernel)) (g 223 (by decide +kernel) (by decide +kernel)) (g 224 (by decide +kernel) (by decide +kernel)) , fun k hk => ?_, kx_7 e (g 204 (by decide +kernel) (by decide +kernel)) (gf 0 7 (by decide +kernel) (by decide +kernel)) (fun j hj => (m1_fr F2 (by decide +kernel) j hj).trans (m1_fr F1 (by decide +kernel) j hj)), fun k hk => ?_⟩
    · rw [z13, q.2.2.1 0, if_pos rfl]
    · rw [z13] at hk
      rw [q.2.2.2.1 k, q.2.2.2.2 k, g2 37 (by decide +kernel), g2 38 (by decide +kernel), p.2.2.2.1 k, p.2.2.2.2 k, g1 233 (by decide +kernel), g1 234 (by decide +kernel), show 20 * 0 + (h_i h 13 5).toNatClampNeg = (h_i h 13 5).toNatClampNeg by omega, (F1.2 1 0 (by decide +kernel)).1, ← e0]
      by_cases u : k = (h_i h 13 5).toNatClampNeg
      · rw [if_pos u, if_pos u, if_pos u, if_pos u]
        exact ⟨rfl, rfl⟩
      · rw [if_neg u, if_neg u, if_neg u, if_neg u]
        exact e.2.2.2.2.2.1 k (by omega)
    · rw [z13] at hk
      rw [show 20 * 0 + (h_i h 13 5).toNatClampNeg = (h_i h 13 5).toNatClampNeg by omega] at qc
      by_cases u : k = (h_i h 13 5).toNatClampNeg
      · refine ⟨(k2ru (h_i h 31) (xn h) (0 + 1) 0).2.2, clO_ru (Or.inl rfl) pc.1, ⟨?_, pc.2.1, fun i v ee => ?_⟩, ?_, ?_, qc.2.2.2.1⟩
        · rw [g2 39 (by decide +kernel), u]
          exact pc.2.2.1
        · rw [g2 40 (by decide +kernel), u]
          exact pc.2.2.2.1 i v ee
        · rw [u]
          exact qc.2.1
        · rw [u]
          exact qc.2.2.1
      · obtain ⟨C, gc⟩ := e.2.2.2.2.2.2.2 k (by omega)
        refine ⟨C, gc.cg ?_ (fun i hi => ?_) (fun i hi => ?_) ?_⟩
        · rw [g2 39 (by decide +kernel)]
          exact pc.2.2.2.2.1 k u
        · rw [g2 40 (by decide +kernel)]
          exact pc.2.2.2.2.2 _ (by omega)
        · rw [qc.2.2.2.2.2 _ (by omega), g1 231 (by decide +kernel)]
        · rw [qc.2.2.2.2.1 k u, g1 232 (by decide +kernel)]
  · have p := k1.1.1 c
    have q := kq.1.1 c
    have pc := k1.2.1 c
    have qc := kq.2.1 c
    have z13 : h_i h2 13 5 = h_i h 13 5 := by rw [(F2.2 13 5 (by decide +kernel)).1]; exact p.2.2.1
    refine ⟨⟨by rw [gf 1 80 (by decide +kernel) (by decide +kernel), gf 17 16 (by decide +kernel) (by decide +kernel)]; exact e.1.1, by rw [gf 1 79 (by decide +kernel) (by decide +kernel), gf 17 7 (by decide +kernel) (by decide +kernel)]; exact e.1.2.1, by rw [gf 1 96 (by decide +kernel) (by decide +kernel), gf 18 3 (by decide +kernel) (by decide +kernel)]; exact e.1.2.2.1, by rw [gf 1 29 (by decide +kernel) (by decide +kernel), gf 21 4 (by decide +kernel) (by decide +kernel)]; exact e.1.2.2.2.1, ?_, by rw [gf 0 7 (by decide +kernel) (by decide +kernel)]; exact e.1.2.2.2.2.2⟩, kx_2 e (g 249 (by decide +kernel) (by decide +kernel)) (g 250 (by decide +kernel) (by decide +kernel)) (g 251 (by decide +kernel) (by decide +kernel)) (g 252 (by decide +kernel) (by decide +kernel)) (g 253 (by decide +kernel) (by decide +kernel)) (g 57 (by decide +kernel) (by decide +kernel)) (g 58 (by decide +kernel) (by decide +kernel)) (g 59 (by decide +kernel) (by decide +kernel)) (g 60 (by decide +kernel) (by decide +kernel)) (g 61 (by decide +kernel) (by decide +kernel)) (g 254 (by decide +kernel) (by decide +kernel)) (g 63 (by decide +kernel) (by decide +kernel)) (g 62 (by decide +kernel) (by decide +kernel)) (g 65 (by decide +kernel) (by decide +kernel)) (gf 17 7 (by decide +kernel) (by decide +kernel)) (gf 17 16 (by decide +kernel) (by decide +kernel)), kx_3 e (g 255 (by decide +kernel) (by decide +kernel)) (g 256 (by decide +kernel) (by decide +kernel)) (g 257 (by decide +kernel) (by decide +kernel)) (g 258 (by decide +kernel) (by decide +kernel)) (g 259 (by decide +kernel) (by decide +kernel)) (g 260 (by decide +kernel) (by decide +kernel)) (g 261 (by decide +kernel) (by decide +kernel)) (g 64 (by decide +kernel) (by decide +kernel)) (g 65 (by decide +kernel) (by decide +kernel)) (g 66 (by decide +kernel) (by decide +kernel)) (g 67 (by decide +kernel) (by decide +kernel)) (g 68 (by decide +kernel) (by decide +kernel)) (g 69 (by decide +kernel) (by decide +kernel)) (g 70 (by decide +kernel) (by decide +kernel)) (gf 17 16 (by decide +kernel) (by decide +kernel)), kx_4 e (g 262 (by decide +kernel) (by decide +kernel)) (g 263 (by decide +kernel) (by decide +kernel)) (g 71 (by decide +kernel) (by decide +kernel)) (g 72 (by decide +kernel) (by decide +kernel)) (gf 18 3 (by decide +kernel) (by decide +kernel)), kx_5 e (g 104 (by decide +kernel) (by decide +kernel)) (g 105 (by decide +kernel) (by decide +kernel)) (g 106 (by decide +kernel) (by decide +kernel)) (g 107 (by decide +kernel) (by decide +kernel)) (g 221 (by decide +kernel) (by decide +kernel)) (g 222 (by decide +kernel) (by decide +kernel)) (g 223 (by decide +kernel) (by decide +kernel)) (g 224 (by decide +kernel) (by decide +kernel)) , fun k hk => ?_, kx_7 e (g 204 (by decide +kernel) (by decide +kernel)) (gf 0 7 (by decide +kernel) (by decide +kernel)) (fun j hj => (m1_fr F2 (by decide +kernel) j hj).trans (m1_fr F1 (by decide +kernel) j hj)), fun k hk => ?_⟩
    · rw [z13, q.2.2.1 0]
      exact e235
    · rw [z13] at hk
      rw [q.2.2.2.1 k, q.2.2.2.2 k, g2 37 (by decide +kernel), g2 38 (by decide +kernel), p.2.2.2.1 k, p.2.2.2.2 k, g1 233 (by decide +kernel), g1 234 (by decide +kernel)]
      exact e.2.2.2.2.2.1 k hk
    · rw [z13] at hk
      obtain ⟨C, gc⟩ := e.2.2.2.2.2.2.2 k hk
      refine ⟨C, gc.cg ?_ (fun i hi => ?_) (fun i hi => ?_) ?_⟩
      · rw [g2 39 (by decide +kernel)]
        exact pc.1 k
      · rw [g2 40 (by decide +kernel)]
        exact pc.2 _
      · rw [qc.1, g1 231 (by decide +kernel)]
      · rw [qc.2, g1 232 (by decide +kernel)]
theorem ExK.pa {h h1 h2 : Hp_} {x1 r2 : Int32} (e : ExK h) (I : Iv h) (F1 : Fr wrx_14 h h1) (F2 : Fr wzt h1 h2) (k2 : Rlm (h_i h 31) (xn h) 1 x1 h1 r2 h2 ∧ RcM (h_i h 31) (xn h) 1 x1 h1 h2) : ExK h2 := by
  have c20 := n13_in I
  have n13 := n_nat c20.1
  have g : ∀ a, off wrx_14 a = true → off wzt a = true → h_i h2 a = h_i h a := fun a o1 o2 => funext (fun k => (fr_i F2 o2 k).trans (fr_i F1 o1 k))
  have gf : ∀ a k, inw wrx_14 a k = false → inw wzt a k = false → h_i h2 a k = h_i h a k := fun a k o1 o2 => ((F2.2 a k o2).1).trans (F1.2 a k o1).1
  have g1 : ∀ a, off wrx_14 a = true → h_i h1 a = h_i h a := fun a o2 => funext (fun k => fr_i F1 o2 k)
  have s235 : h_i h2 235 0 = h_i h1 235 0 ∧ (∀ k, k < 20 → h_i h2 233 k = h_i h1 233 k ∧ h_i h2 234 k = h_i h1 234 k ∧ h_i h2 232 k = h_i h1 232 k ∧ ∀ i, i < 560 → h_i h2 231 (560 * k + i) = h_i h1 231 (560 * k + i)) := by
    by_cases c : okR (h_i h 31) (xn h) 1 x1 (h_i h1 235 1)
    · have q := k2.1.2 c
      have qc := k2.2.2 c
      refine ⟨?_, fun k hk => ⟨?_, ?_, ?_, fun i hi => ?_⟩⟩
      · rw [q.2.2.1 0, if_neg (by decide)]
      · rw [q.2.2.2.1 k, if_neg (by omega)]
      · rw [q.2.2.2.2 k, if_neg (by omega)]
      · exact qc.2.2.2.2.1 k (by omega)
      · exact qc.2.2.2.2.2 _ (by omega)
    · have q := k2.1.1 c
      have qc := k2.2.1 c
      exact ⟨q.2.2.1 0, fun k hk => ⟨q.2.2.2.1 k, q.2.2.2.2 k, qc.2 k, fun i hi => qc.1 _⟩⟩
  refine ⟨⟨by rw [gf 1 80 (by decide +kernel) (by decide +kernel), gf 17 16 (by decide +kernel) (by decide +kernel)]; exact e.1.1, by rw [gf 1 79 (by decide +kernel) (by decide +kernel), gf 17 7 (by decide +kernel) (by decide +kernel)]; exact e.1.2.1, by rw [gf 1 96 (by decide +kernel) (by decide +kernel), gf 18 3 (by decide +kernel) (by decide +kernel)]; exact e.1.2.2.1, by rw [gf 1 29 (by decide +kernel) (by decide +kernel), gf 21 4 (by decide +kernel) (by decide +kernel)]; exact e.1.2.2.2.1, ?_, by rw [gf 0 7 (by decide +kernel) (by decide +kernel)]; exact e.1.2.2.2.2.2⟩, kx_2 e (g 249 (by decide +kernel) (by decide +kernel)) (g 250 (by decide +kernel) (by decide +kernel)) (g 251 (by decide +kernel) (by decide +kernel)) (g 252 (by decide +kernel) (by decide +kernel)) (g 253 (by decide +kernel) (by decide +kernel)) (g 57 (by decide +kernel) (by decide +kernel)) (g 58 (by decide +kernel) (by decide +kernel)) (g 59 (by decide +kernel) (by decide +kernel)) (g 60 (by decide +kernel) (by decide +kernel)) (g 61 (by decide +kernel) (by decide +kernel)) (g 254 (by decide +kernel) (by decide +kernel)) (g 63 (by decide +kernel) (by decide +kernel)) (g 62 (by decide +kernel) (by decide +kernel)) (g 65 (by decide +kernel) (by decide +kernel)) (gf 17 7 (by decide +kernel) (by decide +kernel)) (gf 17 16 (by decide +kernel) (by decide +kernel)), kx_3 e (g 255 (by decide +kernel) (by decide +kernel)) (g 256 (by decide +kernel) (by decide +kernel)) (g 257 (by decide +kernel) (by decide +kernel)) (g 258 (by decide +kernel) (by decide +kernel)) (g 259 (by decide +kernel) (by decide +kernel)) (g 260 (by decide +kernel) (by decide +kernel)) (g 261 (by decide +kernel) (by decide +kernel)) (g 64 (by decide +kernel) (by decide +kernel)) (g 65 (by decide +kernel) (by decide +kernel)) (g 66 (by decide +kernel) (by decide +kernel)) (g 67 (by decide +kernel) (by decide +kernel)) (g 68 (by decide +kernel) (by decide +kernel)) (g 69 (by decide +kernel) (by decide +kernel)) (g 70 (by decide +kernel) (by decide +kernel)) (gf 17 16 (by decide +kernel) (by decide +kernel)), kx_4 e (g 262 (by decide +kernel) (by decide +kernel)) (g 263 (by decide +kernel) (by decide +kernel)) (g 71 (by decide +kernel) (by decide +kernel)) (g 72 (by decide +kernel) (by decide +kernel)) (gf 18 3 (by decide +kernel) (by decide +kernel)), kx_5 e (g 104 (by decide +kernel) (by decide +kernel)) (g 105 (by decide +kernel) (by decide +kernel)) (g 106 (by decide +kernel) (by decide +kernel)) (g 107 (by decide +kernel) (by decide +kernel)) (g 221 (by decide +kernel) (by decide +kernel)) (g 222 (by decide +kernel) (by decide +kernel)) (g 223 (by decide +kernel) (by decide +kernel)) (g 224 (by decide +kernel) (by decide +kernel)) , fun k hk => ?_, kx_7 e (g 204 (by decide +kernel) (by decide +kernel)) (gf 0 7 (by decide +kernel) (by decide +kernel)) (fun j hj => (m1_fr F2 (by decide +kernel) j hj).trans (m1_fr F1 (by decide +kernel) j hj)), fun k hk => ?_⟩
  · rw [s235.1, gf 13 5 (by decide +kernel) (by decide +kernel), g1 235 (by decide +kernel)]
    exact e.1.2.2.2.2.1
  · rw [gf 13 5 (by decide +kernel) (by decide +kernel)] at hk
    have y := s235.2 k (by omega)
    rw [y.1, y.2.1, g1 233 (by decide +kernel), g1 234 (by decide +kernel), g 37 (by decide +kernel) (by decide +kernel), g 38 (by decide +kernel) (by decide +kernel)]
    exact e.2.2.2.2.2.1 k hk
  · rw [gf 13 5 (by decide +kernel) (by decide +kernel)] at hk
    have y := s235.2 k (by omega)
    obtain ⟨C, gc⟩ := e.2.2.2.2.2.2.2 k hk
    refine ⟨C, gc.cg ?_ (fun i hi => ?_) (fun i hi => ?_) ?_⟩
    · rw [g 39 (by decide +kernel) (by decide +kernel)]
    · rw [g 40 (by decide +kernel) (by decide +kernel)]
    · rw [y.2.2.2 i hi, g1 231 (by decide +kernel)]
    · rw [y.2.2.1, g1 232 (by decide +kernel)]
/-! constable -/
theorem ExK.con {h h1 h2 : Hp_} {x1 x2 x3 r1 r2 : Int32} (e : ExK h) (I : Iv h) (x : ExM h) (k1 : Cy x1 x2 x3 h r1 h1 ∧ CyA x1 x2 x3 h h1) (k2 : ocm (h_i h1 1 7) x1 x2 x3 r2 (h_i h2 1 7) ∧ CwA x1 x2 x3 h1 h2) (k3 : Cw (okm (h_i h1 1 7) x1 x2 x3) (h_i h1 1 7) x1 h1 h2) : ExK h2 := by
  have mm := menX_in I
  have nm := n_nat mm.1
  have em : h_i h1 1 7 = h_i h 0 7 := (k1.1.1.2.1.1 7).trans x.1.1.symm
  have oo := okc_okm (x1 := x1) (x2 := x2) (x3 := x3) mm
  have k2' := k2
  rw [em] at k2' k3
  unfold CwA at k2'
  rw [em] at k2'
  by_cases c : okc (h_i h 0 7) x1 x2 x3
  · have p := k1.2.1 c
    have q := k2'.2.1 (oo.mp c)
    have w := k3.1 (oo.mp c)
    have t1 : (1 : Int32).toInt = 1 := rfl
    have l12 := q_lt.mp c.2.2.2
    rw [show (12 : Int32).toInt = 12 from rfl] at l12
    have m' : h_i h1 0 7 = h_i h 0 7 + 1 := by
      rcases k1.1.2.1 with u | u
      · exact u.2.2
      · exact absurd c u.1
    have f1 : (h_i h 0 7 + 1).toInt = (h_i h 0 7).toInt + 1 := by rw [tx_add (by rw [t1]; omega) (by rw [t1]; omega), t1]
    have n1 := n_nat (x := h_i h 0 7 + 1) (by omega)
    have F2 := q.2.2.1
    have g : ∀ a, off wcM a = true → a ≠ 401 + (h_i h 0 7).toNatClampNeg → a ≠ 0 → h_i h2 a = h_i h a := fun a o2 n3 n0 => (funext (fun k => fr_i F2 o2 k)).trans (p.2.1 a n3 n0)
    have gf : ∀ a k, inw wcM a k = false → a ≠ 401 + (h_i h 0 7).toNatClampNeg → a ≠ 0 → h_i h2 a k = h_i h a k := fun a k o2 n3 n0 => ((F2.2 a k o2).1).trans (by rw [p.2.1 a n3 n0])
    have z7 : h_i h2 0 7 = h_i h 0 7 + 1 := by rw [(F2.2 0 7 (by decide +kernel)).1]; exact m'
    refine ⟨⟨by rw [gf 1 80 (by decide +kernel) (by omega) (by decide), gf 17 16 (by decide +kernel) (by omega) (by decide)]; exact e.1.1, by rw [gf 1 79 (by decide +kernel) (by omega) (by decide), gf 17 7 (by decide +kernel) (by omega) (by decide)]; exact e.1.2.1, by rw [gf 1 96 (by decide +kernel) (by omega) (by decide), gf 18 3 (by decide +kernel) (by omega) (by decide)]; exact e.1.2.2.1, by rw [gf 1 29 (by decide +kernel) (by omega) (by decide), gf 21 4 (by decide +kernel) (by omega) (by decide)]; exact e.1.2.2.2.1, by rw [gf 235 0 (by decide +kernel) (by omega) (by decide), gf 13 5 (by decide +kernel) (by omega) (by decide)]; exact e.1.2.2.2.2.1, ?_⟩, kx_2 e (g 249 (by decide +kernel) (by omega) (by decide)) (g 250 (by decide +kernel) (by omega) (by decide)) (g 251 (by decide +kernel) (by omega) (by decide)) (g 252 (by decide +kernel) (by omega) (by decide)) (g 253 (by decide +kernel) (by omega) (by decide)) (g 57 (by decide +kernel) (by omega) (by decide)) (g 58 (by decide +kernel) (by omega) (by decide)) (g 59 (by decide +kernel) (by omega) (by decide)) (g 60 (by decide +kernel) (by omega) (by decide)) (g 61 (by decide +kernel) (by omega) (by decide)) (g 254 (by decide +kernel) (by omega) (by decide)) (g 63 (by decide +kernel) (by omega) (by decide)) (g 62 (by decide +kernel) (by omega) (by decide)) (g 65 (by decide +kernel) (by omega) (by decide)) (gf 17 7 (by decide +kernel) (by omega) (by decide)) (gf 17 16 (by decide +kernel) (by omega) (by decide)), kx_3 e (g 255 (by decide +kernel) (by omega) (by decide)) (g 256 (by decide +kernel) (by omega) (by decide)) (g 257 (by decide +kernel) (by omega) (by decide)) (g 258 (by decide +kernel) (by omega) (by decide)) (g 259 (by decide +kernel) (by omega) (by decide)) (g 260 (by decide +kernel) (by omega) (by decide)) (g 261 (by decide +kernel) (by omega) (by decide)) (g 64 (by decide +kernel) (by omega) (by decide)) (g 65 (by decide +kernel) (by omega) (by decide)) (g 66 (by decide +kernel) (by omega) (by decide)) (g 67 (by decide +kernel) (by omega) (by decide)) (g 68 (by decide +kernel) (by omega) (by decide)) (g 69 (by decide +kernel) (by omega) (by decide)) (g 70 (by decide +kernel) (by omega) (by decide)) (gf 17 16 (by decide +kernel) (by omega) (by decide)), kx_4 e (g 262 (by decide +kernel) (by omega) (by decide)) (g 263 (by decide +kernel) (by omega) (by decide)) (g 71 (by decide +kernel) (by omega) (by decide)) (g 72 (by decide +kernel) (by omega) (by decide)) (gf 18 3 (by decide +kernel) (by omega) (by decide)), kx_5 e (g 104 (by decide +kernel) (by omega) (by decide)) (g 105 (by decide +kernel) (by omega) (by decide)) (g 106 (by decide +kernel) (by omega) (by decide)) (g 107 (by decide +kernel) (by omega) (by decide)) (g 221 (by decide +kernel) (by omega) (by decide)) (g 222 (by decide +kernel) (by omega) (by decide)) (g 223 (by decide +kernel) (by omega) (by decide)) (g 224 (by decide +kernel) (by omega) (by decide)) , kx_6 e (g 233 (by decide +kernel) (by omega) (by decide)) (g 234 (by decide +kernel) (by omega) (by decide)) (g 37 (by decide +kernel) (by omega) (by decide)) (g 38 (by decide +kernel) (by omega) (by decide)) (gf 13 5 (by decide +kernel) (by omega) (by decide)), fun j hj => ?_, kx_8 e (g 39 (by decide +kernel) (by omega) (by decide)) (g 40 (by decide +kernel) (by omega) (by decide)) (g 231 (by decide +kernel) (by omega) (by decide)) (g 232 (by decide +kernel) (by omega) (by decide)) (gf 13 5 (by decide +kernel) (by omega) (by decide))⟩
    · rw [z7]
      omega
    · rw [z7] at hj
      have z401 : inw wcM 401 1 = false := by decide +kernel
      have c1 : cn (401 + j) = cn 401 := (cn_man (by omega)).trans (by decide)
      rw [(F2.2 (401 + j) 1 (by rw [inw_ce c1]; exact z401)).1]
      by_cases u : j = (h_i h 0 7).toNatClampNeg
      · rw [u, w, p.1]
        rfl
      · rw [p.2.1 (401 + j) (by omega) (by omega), k3.2 j (Or.inl u), p.2.1 204 (by omega) (by decide)]
        exact e.2.2.2.2.2.2.1 j (by omega)
  · have p := k1.2.2 c
    have q := k2'.2.2 (fun u => c (oo.mpr u))
    rw [q, p]
    exact e
theorem exK_F : ExK HF := by
  refine ⟨by decide +kernel, fun f hf => ⟨fun hl => ?_, ?_, ?_⟩, fun i hi => ?_, fun i hi => ?_, fun k hk => ?_, fun k hk => ?_, fun j hj => ?_, fun k hk => ?_⟩
  · rw [show (h_i HF 17 7).toNatClampNeg = 0 by decide +kernel] at hl
    exact absurd hl (by omega)
  · have z : (List.range 80).all (fun f => h_i HF 254 f == h_i HF 63 f) = true := by decide +kernel
    exact eq_of_beq (List.all_eq_true.mp z f (List.mem_range.mpr hf))
  · rw [show (h_i HF 17 16).toNatClampNeg = 0 by decide +kernel]
    have z : (List.range 80).all (fun f => h_i HF 62 f == 0) = true := by decide +kernel
    exact eq_of_beq (List.all_eq_true.mp z f (List.mem_range.mpr hf))
  · rw [show (h_i HF 17 16).toNatClampNeg = 0 by decide +kernel] at hi
    exact absurd hi (by omega)
  · rw [show (h_i HF 18 3).toNatClampNeg = 0 by decide +kernel] at hi
    exact absurd hi (by omega)
  · have z : (List.range 40).all (fun k => h_i HF 104 k == h_i HF 221 k && (h_i HF 105 k == h_i HF 222 k && (h_i HF 106 k == h_i HF 223 k && h_i HF 107 k == h_i HF 224 k))) = true := by decide +kernel
    have y := List.all_eq_true.mp z k (List.mem_range.mpr hk)
    rw [Bool.and_eq_true, Bool.and_eq_true, Bool.and_eq_true] at y
    exact ⟨eq_of_beq y.1, eq_of_beq y.2.1, eq_of_beq y.2.2.1, eq_of_beq y.2.2.2⟩
  · rw [show (h_i HF 13 5).toNatClampNeg = 0 by decide +kernel] at hk
    exact absurd hk (by omega)
  · rw [show (h_i HF 0 7).toNatClampNeg = 0 by decide +kernel] at hj
    exact absurd hj (by omega)
  · rw [show (h_i HF 13 5).toNatClampNeg = 0 by decide +kernel] at hk
    exact absurd hk (by omega)
end
section
/-! WAGES: draw and ill keep the counts of points and the years -/
theorem fDw_2 {n : Int32} {w : Int32 → Int32 → Int32} {x2 x3 : Int32} {M : Nat → Int32} : (fDw n w x2 x3 M).1 2 = M 2 := by
  unfold fDw
  show (if (fDp 3 M).1 6 = -1 then _ else _ : Nat → Int32) 2 = M 2
  split
  · refine ((Rk.dr (m := 0)).1 2 (by decide)).trans ?_
    show (fDp 3 M).1 2 = M 2
    exact fDp_k (by decide) (by decide) (by decide)
  · show (fDp 3 M).1 2 = M 2
    exact fDp_k (by decide) (by decide) (by decide)
theorem ExN.dw {h h1 h2 : Hp_} {x1 x2 x3 r1 r2 : Int32} (e : ExN h) (I : Iv h) (x : ExM h) (f : Fr wMx h h1) (k1 : DxX x1 x2 x3 h r1 h1) (_ : DwP PU (fun _ _ b => b) x1 x2 x3 (h_i h (401 + x1.toNatClampNeg)) () h1 r2 h2) (f2 : Fr mwR h1 h2) : ExN h2 := by
  by_cases c : isM h x1 ∧ okDw h (h_i h (401 + x1.toNatClampNeg)) x2 x3
  · have hj := (x.rk I c.1).1
    exact ExN.ev e x hj f f2 (k1.1 c).2 dp_ev (dp_le (cz := 3) (x.2.2.1 _ hj).1 (rwX_in I).1) dw_c.1 dw_c.2 fDw_2
  · have z := (k1.2 c).2
    subst z
    exact ExN.fr e f2 (by decide +kernel)
theorem ExN.il {h h1 h2 : Hp_} {x1 x2 r1 r2 : Int32} (e : ExN h) (I : Iv h) (x : ExM h) (f : Fr wMx h h1) (b2 : x2 = 0 ∨ x2 = 1) (k1 : IxX x1 x2 h r1 h1) (_ : IxM x1 x2 (h_i h (401 + x1.toNatClampNeg)) h1 r2 h2) (f2 : Fr mwR h1 h2) : ExN h2 := by
  rcases il_cs (P := isM h x1) (Q := h_i h (401 + x1.toNatClampNeg) 4 = 4) b2 with c | c | c
  · have hj := (x.rk I c.1).1
    exact ExN.ev e x hj f f2 (k1.1 c).2 dp_ev (dp_le (cz := 4) (x.2.2.1 _ hj).1 (rwX_in I).1) (dp_c (cz := 4)).1 (dp_c (cz := 4)).2 (fDp_k (by decide) (by decide) (by decide))
  · have hj := (x.rk I c.1).1
    exact ExN.ev e x hj f f2 (k1.2.1 c).2 (fun e he => (by cases he)) (Or.inl rfl) (i_0 _).symm (i_0 _).symm rfl
  · have z := (k1.2.2 c).2
    subst z
    exact ExN.fr e f2 (by decide +kernel)
/-! WAGES: the texts of PAY and the years, as class and reference keep them -/
def gdP (h : Hp_) (k : Nat) (C : List Cl2) : Prop := (∀ c ∈ C, clO 2 c) ∧ (h_i h 44 k = Int32.ofNat (rlN C) ∧ rlN C ≤ 164 ∧ ∀ i v, (rlX 2 0 C)[i]? = some v → h_i h 45 (164 * k + i) = v) ∧ At_ (h_i h 231) (560 * (20 + k)) (rlM C) ∧ h_i h 232 (20 + k) = Int32.ofNat (rlM C).length ∧ (rlM C).length ≤ 560
noncomputable def CCp (h : Hp_) (k : Nat) : List Cl2 := Classical.epsilon (gdP h k)
def ExWg (h : Hp_) : Prop := h_i h 235 1 = h_i h 14 5 ∧ (∀ k : Nat, k < (h_i h 14 5).toNatClampNeg → h_i h 233 (20 + k) = h_i h 42 k ∧ h_i h 234 (20 + k) = h_i h 43 k) ∧ ∀ k : Nat, k < (h_i h 14 5).toNatClampNeg → ∃ C, gdP h k C
def wLs : List Nat := [42, 43, 44, 45, 231, 232, 233, 234, 235]
theorem ExWg.cg {h h' : Hp_} (e : ExWg h) (R : ∀ a ∈ wLs, h_i h' a = h_i h a) (f14 : h_i h' 14 5 = h_i h 14 5) : ExWg h' := by
  obtain ⟨e1, e2, e3⟩ := e
  refine ⟨?_, ?_, ?_⟩
  · rw [R 235 (by decide), f14]
    exact e1
  · rw [R 233 (by decide), R 234 (by decide), R 42 (by decide), R 43 (by decide), f14]
    exact e2
  · unfold gdP
    rw [R 44 (by decide), R 45 (by decide), R 231 (by decide), R 232 (by decide), f14]
    exact e3
def exoWg (ws : List Nat) : Bool := wLs.all (fun a => off ws a) && !inw ws 14 5
theorem ExWg.fr {ws : List Nat} {h h' : Hp_} (e : ExWg h) (f : Fr ws h h') (o : exoWg ws = true) : ExWg h' := by
  unfold exoWg at o
  simp only [Bool.and_eq_true, Bool.not_eq_true'] at o
  exact e.cg (fun a ha => funext (fun k => fr_i f (List.all_eq_true.mp o.1 a ha) k)) (f.2 14 5 o.2).1
theorem ExWg.mf {W : List Nat} {h h' : Hp_} (e : ExWg h) (f : Mf W h h') (o : exoWg W = true) : ExWg h' := by
  unfold exoWg at o
  simp only [Bool.and_eq_true, Bool.not_eq_true'] at o
  refine e.cg (fun a ha => funext (fun k => ?_)) (f.2.2.2 14 5 (by decide) o.2).1
  have z : wLs.all (fun a => decide (a < 200 ∨ (200 ≤ a ∧ a < 300))) = true := by decide
  rcases of_decide_eq_true (List.all_eq_true.mp z a ha) with b | b
  · exact (f.2.2.2 a k (Or.inl b) (off_inw (List.all_eq_true.mp o.1 a ha) k)).1
  · exact f.2.1 a b.1 b.2 k
theorem n14_in {h : Hp_} (I : Iv h) : 0 ≤ (h_i h 14 5).toInt ∧ (h_i h 14 5).toInt ≤ 20 := by
  have a := I.2.1 14 5
  rw [show tf 14 5 = (0, 20) by decide +kernel] at a
  exact ⟨a.1, a.2⟩
theorem ExWg.gd {h : Hp_} (e : ExWg h) {k : Nat} (hk : k < (h_i h 14 5).toNatClampNeg) : gdP h k (CCp h k) := Classical.epsilon_spec (e.2.2 k hk)
theorem rlX_lt2 {i k : Nat} {C : List Cl2} {v : Int32} (h : (rlX 2 i C)[k]? = some v) : k < rlN C := by
  have lk : k < (rlX 2 i C).length := (List.getElem?_eq_some_iff.mp h).1
  rw [rlX_l] at lk
  exact lk
theorem gdP.cg {h h' : Hp_} {k : Nat} {C : List Cl2} (g : gdP h k C) (a : h_i h' 44 k = h_i h 44 k) (b : ∀ i, i < 164 → h_i h' 45 (164 * k + i) = h_i h 45 (164 * k + i)) (c : ∀ i, i < 560 → h_i h' 231 (560 * (20 + k) + i) = h_i h 231 (560 * (20 + k) + i)) (d : h_i h' 232 (20 + k) = h_i h 232 (20 + k)) : gdP h' k C := by
  obtain ⟨g1, g2, g3, g4, g5⟩ := g
  refine ⟨g1, ⟨by rw [a]; exact g2.1, g2.2.1, fun i v e => ?_⟩, g3.cg (fun j l u => ?_), by rw [d]; exact g4, g5⟩
  · rw [b i (by have := rlX_lt2 e; omega)]
    exact g2.2.2 i v e
  · have := c (j - 560 * (20 + k)) (by omega)
    rw [show 560 * (20 + k) + (j - 560 * (20 + k)) = j by omega] at this
    exact this
theorem ExWg.ac {h h1 h2 : Hp_} {x1 r2 : Int32} (e : ExWg h) (I : Iv h) (F1 : Fr wrx_13 h h1) (F2 : Fr wzt h1 h2) (k2 : Rlm (h_i h 31) (xn h) 0 x1 h1 r2 h2 ∧ RcM (h_i h 31) (xn h) 0 x1 h1 h2) : ExWg h2 := by
  have c20 := i20 I
  have n20 := n_nat c20.1
  have c14 := n14_in I
  have n14 := n_nat c14.1
  have g : ∀ a, off wrx_13 a = true → off wzt a = true → h_i h2 a = h_i h a := fun a o1 o2 => funext (fun k => (fr_i F2 o2 k).trans (fr_i F1 o1 k))
  have gf : ∀ a k, inw wrx_13 a k = false → inw wzt a k = false → h_i h2 a k = h_i h a k := fun a k o1 o2 => ((F2.2 a k o2).1).trans (F1.2 a k o1).1
  have g1 : ∀ a, off wrx_13 a = true → h_i h1 a = h_i h a := fun a o2 => funext (fun k => fr_i F1 o2 k)
  have e0 : h_i h1 235 0 = h_i h 235 0 := by rw [g1 235 (by decide +kernel)]
  have s235 : h_i h2 235 1 = h_i h1 235 1 ∧ (∀ k, k < 20 → h_i h2 233 (20 + k) = h_i h1 233 (20 + k) ∧ h_i h2 234 (20 + k) = h_i h1 234 (20 + k) ∧ h_i h2 232 (20 + k) = h_i h1 232 (20 + k) ∧ ∀ i, i < 560 → h_i h2 231 (560 * (20 + k) + i) = h_i h1 231 (560 * (20 + k) + i)) := by
    by_cases c : okR (h_i h 31) (xn h) 0 x1 (h_i h1 235 0)
    · have q := k2.1.2 c
      have qc := k2.2.2 c
      have n2 : ¬ h_i h 235 0 = 20 := by rw [← e0]; exact c.2.1
      have l20 : (h_i h 235 0).toInt < 20 := by
        rcases Int.lt_or_le (h_i h 235 0).toInt 20 with u | u
        · exact u
        · exact absurd (Int32.toInt_inj.mp (show (h_i h 235 0).toInt = (20 : Int32).toInt by rw [show (20 : Int32).toInt = 20 from rfl]; omega)) n2
      have lk : (h_i h1 235 0).toNatClampNeg < 20 := by rw [e0]; omega
      refine ⟨?_, fun k hk => ⟨?_, ?_, ?_, fun i hi => ?_⟩⟩
      · rw [q.2.2.1 1, if_neg (by decide)]
      · rw [q.2.2.2.1 (20 + k), if_neg (by omega)]
      · rw [q.2.2.2.2 (20 + k), if_neg (by omega)]
      · exact qc.2.2.2.2.1 (20 + k) (by omega)
      · exact qc.2.2.2.2.2 _ (by omega)
    · have q := k2.1.1 c
      have qc := k2.2.1 c
      exact ⟨q.2.2.1 1, fun k hk => ⟨q.2.2.2.1 _, q.2.2.2.2 _, qc.2 _, fun i hi => qc.1 _⟩⟩
  refine ⟨?_, fun k hk => ?_, fun k hk => ?_⟩
  · rw [s235.1, gf 14 5 (by decide +kernel) (by decide +kernel), g1 235 (by decide +kernel)]
    exact e.1
  · rw [gf 14 5 (by decide +kernel) (by decide +kernel)] at hk
    have y := s235.2 k (by omega)
    rw [y.1, y.2.1, g1 233 (by decide +kernel), g1 234 (by decide +kernel), g 42 (by decide +kernel) (by decide +kernel), g 43 (by decide +kernel) (by decide +kernel)]
    exact e.2.1 k hk
  · rw [gf 14 5 (by decide +kernel) (by decide +kernel)] at hk
    have y := s235.2 k (by omega)
    obtain ⟨C, gc⟩ := e.2.2 k hk
    refine ⟨C, gc.cg ?_ (fun i hi => ?_) (fun i hi => ?_) ?_⟩
    · rw [g 44 (by decide +kernel) (by decide +kernel)]
    · rw [g 45 (by decide +kernel) (by decide +kernel)]
    · rw [y.2.2.2 i hi, g1 231 (by decide +kernel)]
    · rw [y.2.2.1, g1 232 (by decide +kernel)]
theorem ExWg.pa {h h1 h2 : Hp_} {x1 r1 r2 : Int32} (e : ExWg h) (I : Iv h) (e0 : h_i h 0 0 = h_i h 1 0) (F1 : Fr wrx_14 h h1) (F2 : Fr wzt h1 h2) (k1 : Rlx_14 x1 h r1 h1 ∧ RcX_14 x1 h h1) (k2 : Rlm (h_i h 31) (xn h) 1 x1 h1 r2 h2 ∧ RcM (h_i h 31) (xn h) 1 x1 h1 h2) : ExWg h2 := by
  have c20 := n14_in I
  have n13 := n_nat c20.1
  have t1 : (1 : Int32).toInt = 1 := rfl
  have e235 : h_i h1 235 1 = h_i h 14 5 := by rw [fr_i F1 (a := 235) (by decide +kernel) 1]; exact e.1
  have gf : ∀ a k, inw wrx_14 a k = false → inw wzt a k = false → h_i h2 a k = h_i h a k := fun a k o1 o2 => ((F2.2 a k o2).1).trans (F1.2 a k o1).1
  have kq := k2
  unfold Rlm RcM at kq
  rw [e235] at kq
  have g2 : ∀ a, off wzt a = true → h_i h2 a = h_i h1 a := fun a o2 => funext (fun k => fr_i F2 o2 k)
  have g1 : ∀ a, off wrx_14 a = true → h_i h1 a = h_i h a := fun a o2 => funext (fun k => fr_i F1 o2 k)
  by_cases c : okR (h_i h 31) (xn h) 1 x1 (h_i h 14 5)
  · have p := k1.1.2 c
    have q := kq.1.2 c
    have pc := k1.2.2 c
    have qc := kq.2.2 c
    have n20 : ¬ h_i h 14 5 = 20 := c.2.1
    have l20 : (h_i h 14 5).toInt < 20 := by
      rcases Int.lt_or_le (h_i h 14 5).toInt 20 with u | u
      · exact u
      · exact absurd (Int32.toInt_inj.mp (show (h_i h 14 5).toInt = (20 : Int32).toInt by rw [show (20 : Int32).toInt = 20 from rfl]; omega)) n20
    have f1 : (h_i h 14 5 + 1).toInt = (h_i h 14 5).toInt + 1 := by rw [tx_add (by rw [t1]; omega) (by rw [t1]; omega), t1]
    have n14 := n_nat (x := h_i h 14 5 + 1) (by omega)
    have z13 : h_i h2 14 5 = h_i h 14 5 + 1 := by rw [(F2.2 14 5 (by decide +kernel)).1]; exact p.2.2.1
    refine ⟨?_, fun k hk => ?_, fun k hk => ?_⟩
    · rw [z13, q.2.2.1 1, if_pos rfl]
    · rw [z13] at hk
      rw [q.2.2.2.1 (20 + k), q.2.2.2.2 (20 + k), g2 42 (by decide +kernel), g2 43 (by decide +kernel), p.2.2.2.1 k, p.2.2.2.2 k, g1 233 (by decide +kernel), g1 234 (by decide +kernel), (F1.2 1 0 (by decide +kernel)).1, ← e0]
      by_cases u : k = (h_i h 14 5).toNatClampNeg
      · rw [if_pos (show 20 + k = 20 * 1 + (h_i h 14 5).toNatClampNeg by omega), if_pos (show 20 + k = 20 * 1 + (h_i h 14 5).toNatClampNeg by omega), if_pos u, if_pos u]
        exact ⟨rfl, rfl⟩
      · rw [if_neg (show ¬ 20 + k = 20 * 1 + (h_i h 14 5).toNatClampNeg by omega), if_neg (show ¬ 20 + k = 20 * 1 + (h_i h 14 5).toNatClampNeg by omega), if_neg u, if_neg u]
        exact e.2.1 k (by omega)
    · rw [z13] at hk
      rw [show 20 * 1 + (h_i h 14 5).toNatClampNeg = 20 + (h_i h 14 5).toNatClampNeg by omega] at qc
      by_cases u : k = (h_i h 14 5).toNatClampNeg
      · refine ⟨(k2ru (h_i h 31) (xn h) (1 + 1) 0).2.2, clO_ru (Or.inr rfl) pc.1, ⟨?_, pc.2.1, fun i v ee => ?_⟩, ?_, ?_, qc.2.2.2.1⟩
        · rw [g2 44 (by decide +kernel), u]
          exact pc.2.2.1
        · rw [g2 45 (by decide +kernel), u]
          exact pc.2.2.2.1 i v ee
        · rw [u]
          exact qc.2.1
        · rw [u]
          exact qc.2.2.1
      · obtain ⟨C, gc⟩ := e.2.2 k (by omega)
        refine ⟨C, gc.cg ?_ (fun i hi => ?_) (fun i hi => ?_) ?_⟩
        · rw [g2 44 (by decide +kernel)]
          exact pc.2.2.2.2.1 k u
        · rw [g2 45 (by decide +kernel)]
          exact pc.2.2.2.2.2 _ (by omega)
        · rw [qc.2.2.2.2.2 _ (by omega), g1 231 (by decide +kernel)]
        · rw [qc.2.2.2.2.1 (20 + k) (by omega), g1 232 (by decide +kernel)]
  · have p := k1.1.1 c
    have q := kq.1.1 c
    have pc := k1.2.1 c
    have qc := kq.2.1 c
    have z13 : h_i h2 14 5 = h_i h 14 5 := by rw [(F2.2 14 5 (by decide +kernel)).1]; exact p.2.2.1
    refine ⟨?_, fun k hk => ?_, fun k hk => ?_⟩
    · rw [z13, q.2.2.1 1]
      exact e235
    · rw [z13] at hk
      rw [q.2.2.2.1 _, q.2.2.2.2 _, g2 42 (by decide +kernel), g2 43 (by decide +kernel), p.2.2.2.1 k, p.2.2.2.2 k, g1 233 (by decide +kernel), g1 234 (by decide +kernel)]
      exact e.2.1 k hk
    · rw [z13] at hk
      obtain ⟨C, gc⟩ := e.2.2 k hk
      refine ⟨C, gc.cg ?_ (fun i hi => ?_) (fun i hi => ?_) ?_⟩
      · rw [g2 44 (by decide +kernel)]
        exact pc.1 k
      · rw [g2 45 (by decide +kernel)]
        exact pc.2 _
      · rw [qc.1, g1 231 (by decide +kernel)]
      · rw [qc.2, g1 232 (by decide +kernel)]
theorem exWg_F : ExWg HF := by
  refine ⟨by decide +kernel, fun k hk => ?_, fun k hk => ?_⟩
  · rw [show (h_i HF 14 5).toNatClampNeg = 0 by decide +kernel] at hk
    exact absurd hk (by omega)
  · rw [show (h_i HF 14 5).toNatClampNeg = 0 by decide +kernel] at hk
    exact absurd hk (by omega)
/-! WAGES: inForce of PAY (printed by mk_wage_b.py) -/
theorem c_inf14 (d : Nat) {h : Hp_} (I : Iv h) (x1 x2 : Int32) : Ci (m_X10_inForce (d + 0) 0 0) [.ref 14, .int x1, .int x2] h (fun r h' => h' = h ∧ r = fob (h_i h 42) (h_i h 43) x1 x2 (h_i h 14 5).toNatClampNeg) := by
  have c13 := I.2.1 14 5
  rw [show tf 14 5 = (0, 20) by decide +kernel] at c13
  have c0 : 0 ≤ (h_i h 14 5).toInt := c13.1
  have c1 : (h_i h 14 5).toInt ≤ 20 := c13.2
  have n13 := n_nat c0
  have lp : ∀ (n i : Nat), i + n = (h_i h 14 5).toNatClampNeg → AW (m_X10_inForce (d + 0) 0 0) 0 0 5 [(0, .ref 14), (1, .int x1), (2, .int x2), (3, .int (fob (h_i h 42) (h_i h 43) x1 x2 i)), (4, .int (Int32.ofNat i))] [] h (kI (fun r h' => h' = h ∧ r = fob (h_i h 42) (h_i h 43) x1 x2 (h_i h 14 5).toNatClampNeg)) := by
    intro n
    induction n with
    | zero =>
      intro i e
      have oi := on_j (n := i) (by omega)
      refine t_X10_inForce_14_5 d h I.1 x1 x2 _ _ _ ⟨fun _ => ⟨rfl, by rw [← e]; rfl⟩, fun z => ?_⟩
      have z := q_nle z
      omega
    | succ n ih =>
      intro i e
      have oi := on_j (n := i) (by omega)
      have ki := on_k (n := i) (by omega)
      have vi : vp_in (Int32.ofNat i) 20 := on_in (by omega) (by decide)
      have ih := ih (i + 1) (by omega)
      refine t_X10_inForce_14_5 d h I.1 x1 x2 _ _ _ ⟨fun z => ?_, fun _ => ?_⟩
      · have z := q_le.mp z
        omega
      · rw [ki, on_s (n := i) (by omega)]
        refine ⟨vi, fun a => ?_, fun a => ⟨vi, fun b => ?_, fun b => ⟨fun c => ?_, fun c => ⟨vi, ?_, fun e => ?_, fun e => ?_⟩⟩⟩⟩
        · have q : fob (h_i h 42) (h_i h 43) x1 x2 (i + 1) = fob (h_i h 42) (h_i h 43) x1 x2 i := if_pos a
          rw [q] at ih
          exact ih
        · have q : fob (h_i h 42) (h_i h 43) x1 x2 (i + 1) = fob (h_i h 42) (h_i h 43) x1 x2 i := (if_neg a).trans (if_pos b)
          rw [q] at ih
          exact ih
        · have q : fob (h_i h 42) (h_i h 43) x1 x2 (i + 1) = Int32.ofNat i := (if_neg a).trans ((if_neg b).trans (if_pos c))
          rw [q] at ih
          exact ih
        · rcases fob_b (h_i h 42) (h_i h 43) x1 x2 i (by omega) with z | z
          · exact absurd z c
          · exact dp_in (lo := 0) (hi := 19) ⟨z.1, by show _ ≤ (19 : Int); omega⟩ (by decide) (by decide)
        · have q : fob (h_i h 42) (h_i h 43) x1 x2 (i + 1) = fob (h_i h 42) (h_i h 43) x1 x2 i := (if_neg a).trans ((if_neg b).trans ((if_neg c).trans (if_pos e)))
          rw [q] at ih
          exact ih
        · have q : fob (h_i h 42) (h_i h 43) x1 x2 (i + 1) = Int32.ofNat i := (if_neg a).trans ((if_neg b).trans ((if_neg c).trans (if_neg e)))
          rw [q] at ih
          exact ih
  exact t_X10_inForce_14 d h x1 x2 _ (lp (h_i h 14 5).toNatClampNeg 0 (by omega))
theorem f20 {i : Nat} (hi : i < 20) : (20 * (1 : Int32) + Int32.ofNat i).toNatClampNeg = 20 + i ∧ vp_in (20 * (1 : Int32) + Int32.ofNat i) 40 := by
  have e : 20 * (1 : Int32) + Int32.ofNat i = Int32.ofNat (20 + i) := by rw [show 20 * (1 : Int32) = Int32.ofNat 20 by decide, ← Int32.ofNat_add]
  rw [e]
  exact ⟨on_k (by omega), on_in (by omega) (by decide)⟩
theorem f21 {z : Int32} {i : Nat} (b : z = -1 ∨ (0 ≤ z.toInt ∧ z.toInt < (i : Int))) (n : ¬ z = -1) (hi : i ≤ 20) : (20 * (1 : Int32) + z).toNatClampNeg = 20 + z.toNatClampNeg ∧ vp_in (20 * (1 : Int32) + z) 40 := by
  rcases b with e | e
  · exact absurd e n
  · have nz := n_nat e.1
    have w := f20 (i := z.toNatClampNeg) (by omega)
    rw [of_nat32 e.1] at w
    exact w
theorem c_fof1 (d : Nat) {h : Hp_} (I : Iv h) (x1 x2 : Int32) : Ci (m_X12_forceOf (d + 0) 0 0) [.ref 1, .int 1, .int x1, .int x2] h (fun r h' => h' = h ∧ r = fob (fun k => h_i h 233 (20 + k)) (fun k => h_i h 234 (20 + k)) x1 x2 (h_i h 235 1).toNatClampNeg) := by
  have c13 := dp_rg I 235 1 (show tfa 235 = some (0, 20) by decide +kernel)
  have c0 : 0 ≤ (h_i h 235 1).toInt := c13.1
  have c1 : (h_i h 235 1).toInt ≤ 20 := c13.2
  have n13 := n_nat c0
  have k0 : (1 : Int32).toNatClampNeg = 1 := rfl
  have v0 : vp_in (1 : Int32) 2 := on_in (n := 1) (by omega) (by decide)
  have lp : ∀ (n i : Nat), i + n = (h_i h 235 1).toNatClampNeg → AW (m_X12_forceOf (d + 0) 0 0) 0 0 6 [(0, .ref 1), (1, .int 1), (2, .int x1), (3, .int x2), (4, .int (fob (fun k => h_i h 233 (20 + k)) (fun k => h_i h 234 (20 + k)) x1 x2 i)), (5, .int (Int32.ofNat i))] [] h (kI (fun r h' => h' = h ∧ r = fob (fun k => h_i h 233 (20 + k)) (fun k => h_i h 234 (20 + k)) x1 x2 (h_i h 235 1).toNatClampNeg)) := by
    intro n
    induction n with
    | zero =>
      intro i e
      have oi := on_j (n := i) (by omega)
      refine t_X12_forceOf_6 d h I.1 1 x1 x2 _ _ _ ⟨v0, fun _ => ⟨rfl, by rw [← e]; rfl⟩, fun z => ?_⟩
      rw [k0] at z
      have z := q_nle z
      omega
    | succ n ih =>
      intro i e
      have oi := on_j (n := i) (by omega)
      have ki := on_k (n := i) (by omega)
      have f2 := f20 (i := i) (by omega)
      have vi := f2.2
      have ih := ih (i + 1) (by omega)
      refine t_X12_forceOf_6 d h I.1 1 x1 x2 _ _ _ ⟨v0, fun z => ?_, fun _ => ?_⟩
      · rw [k0] at z
        have z := q_le.mp z
        omega
      · rw [f2.1, on_s (n := i) (by omega)]
        refine ⟨vi, fun a => ?_, fun a => ⟨vi, fun b => ?_, fun b => ⟨fun c => ?_, fun c => ⟨vi, ?_, fun e => ?_, fun e => ?_⟩⟩⟩⟩
        · have q : fob (fun k => h_i h 233 (20 + k)) (fun k => h_i h 234 (20 + k)) x1 x2 (i + 1) = fob (fun k => h_i h 233 (20 + k)) (fun k => h_i h 234 (20 + k)) x1 x2 i := if_pos a
          rw [q] at ih
          exact ih
        · have q : fob (fun k => h_i h 233 (20 + k)) (fun k => h_i h 234 (20 + k)) x1 x2 (i + 1) = fob (fun k => h_i h 233 (20 + k)) (fun k => h_i h 234 (20 + k)) x1 x2 i := (if_neg a).trans (if_pos b)
          rw [q] at ih
          exact ih
        · have q : fob (fun k => h_i h 233 (20 + k)) (fun k => h_i h 234 (20 + k)) x1 x2 (i + 1) = Int32.ofNat i := (if_neg a).trans ((if_neg b).trans (if_pos c))
          rw [q] at ih
          exact ih
        · exact (f21 (fob_b (fun k => h_i h 233 (20 + k)) (fun k => h_i h 234 (20 + k)) x1 x2 i (by omega)) c (by omega)).2
        · have q : fob (fun k => h_i h 233 (20 + k)) (fun k => h_i h 234 (20 + k)) x1 x2 (i + 1) = fob (fun k => h_i h 233 (20 + k)) (fun k => h_i h 234 (20 + k)) x1 x2 i := (if_neg a).trans ((if_neg b).trans ((if_neg c).trans (if_pos (by rw [(f21 (fob_b (fun k => h_i h 233 (20 + k)) (fun k => h_i h 234 (20 + k)) x1 x2 i (by omega)) c (by omega)).1] at e; exact e))))
          rw [q] at ih
          exact ih
        · have q : fob (fun k => h_i h 233 (20 + k)) (fun k => h_i h 234 (20 + k)) x1 x2 (i + 1) = Int32.ofNat i := (if_neg a).trans ((if_neg b).trans ((if_neg c).trans (if_neg (by rw [(f21 (fob_b (fun k => h_i h 233 (20 + k)) (fun k => h_i h 234 (20 + k)) x1 x2 i (by omega)) c (by omega)).1] at e; exact e))))
          rw [q] at ih
          exact ih
  exact t_X12_forceOf d h 1 x1 x2 _ (lp (h_i h 235 1).toNatClampNeg 0 (by omega))
/-! WAGES: what is counted, pure; the class's counts -/
def cnq (P : Nat → Prop) [DecidablePred P] : Nat → Int32
  | 0 => 0
  | k + 1 => if P k then cnq P k + 1 else cnq P k
theorem cnq_y {P : Nat → Prop} [DecidablePred P] {k : Nat} (y : P k) : cnq P (k + 1) = cnq P k + 1 := if_pos y
theorem cnq_n {P : Nat → Prop} [DecidablePred P] {k : Nat} (n : ¬ P k) : cnq P (k + 1) = cnq P k := if_neg n
theorem cnq_c {P Q : Nat → Prop} [DecidablePred P] [DecidablePred Q] : ∀ n, (∀ k, k < n → (P k ↔ Q k)) → cnq P n = cnq Q n
  | 0, _ => rfl
  | n + 1, e => by
    have a := cnq_c n (fun k hk => e k (by omega))
    by_cases c : P n
    · rw [cnq_y c, cnq_y ((e n (by omega)).mp c), a]
    · rw [cnq_n c, cnq_n (fun u => c ((e n (by omega)).mpr u)), a]
abbrev pMt (A D S : Nat → Int32) (who day : Int32) (i : Nat) : Prop := (A i = who ∧ D i / 1440 = day) ∧ S i = 1
abbrev pBl (A D C : Nat → Int32) (who day : Int32) (i : Nat) : Prop := (A i = who ∧ D i / 1440 = day) ∧ (C i = 1 ∨ ¬ C i < 5)
abbrev pTkq (A G M V : Nat → Int32) (who day x5 : Int32) (i : Nat) : Prop := (A i = who ∧ G i = 3 ∧ M i / 1440 = day) ∧ (V i = 3 ↔ x5 = 1)
def cMt (A D S : Nat → Int32) (who day : Int32) (n : Nat) : Int32 := cnq (pMt A D S who day) n
def cBl (A D C : Nat → Int32) (who day : Int32) (n : Nat) : Int32 := cnq (pBl A D C who day) n
def cTk (A G M V : Nat → Int32) (who day x5 : Int32) (n : Nat) : Int32 := cnq (pTkq A G M V who day x5) n
/-- outcomes and causes of the rows, as known at q -/
def ouX (h : Hp_) (q : Int32) (i : Nat) : Int32 := outP (h_i h 51 i) (h_i h 52 i) q
def caX_ (h : Hp_) (q : Int32) (i : Nat) : Int32 := cauX h (Int32.ofNat i) q
theorem c_wdu (d : Nat) {h : Hp_} (I : Iv h) {i : Nat} (hi : i < 400) (x2 x3 : Int32) : Ci (m_X7_wasDue (d + 0) 0 0) [.ref 16, .int (Int32.ofNat i), .int x2, .int x3] h (fun r h' => h' = h ∧ (((h_i h 47 i = x2 ∧ h_i h 49 i / 1440 = x3) ∧ r = 1) ∨ (¬ (h_i h 47 i = x2 ∧ h_i h 49 i / 1440 = x3) ∧ r = 0))) := by
  have ki := on_k (n := i) (by omega)
  have vi : vp_in (Int32.ofNat i) 400 := on_in (by omega) (by decide)
  refine t_X7_wasDue d h I.1 _ x2 x3 _ ⟨vi, ?_⟩
  rw [ki]
  exact ⟨fun n => ⟨rfl, Or.inr ⟨fun u => n u.1, rfl⟩⟩, fun y => ⟨vi, fun n => ⟨rfl, Or.inr ⟨fun u => n u.2, rfl⟩⟩, fun z => ⟨rfl, Or.inl ⟨⟨y, z⟩, rfl⟩⟩⟩⟩
theorem c_cmt (d : Nat) {h : Hp_} (I : Iv h) (x1 x2 x3 : Int32) : Ci (m_X7_countMet (d + 1) 0 0) [.ref 16, .int x1, .int x2, .int x3] h (fun r h' => h' = h ∧ r = cMt (h_i h 47) (h_i h 49) (ouX h x3) x1 x2 (h_i h 16 7).toNatClampNeg) := by
  have rw_ := rwX_in I
  have lp : ∀ (t i : Nat), i + t = (h_i h 16 7).toNatClampNeg → AW (m_X7_countMet (d + 1) 0 0) 0 0 6 [(0, .ref 16), (1, .int x1), (2, .int x2), (3, .int x3), (4, .int (cMt (h_i h 47) (h_i h 49) (ouX h x3) x1 x2 i)), (5, .int (Int32.ofNat i))] [] h (kI (fun r h' => h' = h ∧ r = cMt (h_i h 47) (h_i h 49) (ouX h x3) x1 x2 (h_i h 16 7).toNatClampNeg)) := by
    intro t
    induction t with
    | zero =>
      intro i e
      have ei : i = (h_i h 16 7).toNatClampNeg := by omega
      refine t_X7_countMet_6 d h I.1 x1 x2 x3 _ _ _ ⟨fun _ => ⟨rfl, by rw [ei]⟩, fun z => ?_⟩
      have z := q_nle z
      rw [on_j (by omega)] at z
      omega
    | succ t ih =>
      intro i e
      have oi := on_j (n := i) (by omega)
      have ki := on_k (n := i) (by omega)
      have vi : vp_in (Int32.ofNat i) 400 := on_in (by omega) (by decide)
      have y := ih (i + 1) (by omega)
      rw [← on_s (by omega)] at y
      have no : ¬ pMt (h_i h 47) (h_i h 49) (ouX h x3) x1 x2 i → AW (m_X7_countMet (d + 1) 0 0) 0 0 6 [(0, .ref 16), (1, .int x1), (2, .int x2), (3, .int x3), (4, .int (cMt (h_i h 47) (h_i h 49) (ouX h x3) x1 x2 i)), (5, .int (Int32.ofNat i + 1))] [] h (kI (fun r h' => h' = h ∧ r = cMt (h_i h 47) (h_i h 49) (ouX h x3) x1 x2 (h_i h 16 7).toNatClampNeg)) := fun n => by
        rw [show cMt (h_i h 47) (h_i h 49) (ouX h x3) x1 x2 (i + 1) = cMt (h_i h 47) (h_i h 49) (ouX h x3) x1 x2 i from cnq_n n] at y
        exact y
      refine t_X7_countMet_6 d h I.1 x1 x2 x3 _ _ _ ⟨fun z => ?_, fun _ => Ci.mono (c_wdu d I (by omega) x1 x2) (fun r4 h2 k => ?_)⟩
      · have z := q_le.mp z
        rw [oi] at z
        omega
      · obtain ⟨eh, k⟩ := k
        subst eh
        rcases k with ⟨c, e4⟩ | ⟨c, e4⟩
        · refine ⟨I.1, fun z => absurd (e4.symm.trans z) (by decide), fun _ => Ci.mono (c_oaX d I _ x3 vi) (fun r8 h6 k6 => ?_)⟩
          obtain ⟨eh, e8⟩ := k6
          subst eh
          rw [ki] at e8
          have e8 : r8 = ouX h6 x3 i := e8
          rw [e8]
          refine ⟨I.1, fun n => no (fun u => n u.2), fun o => ?_⟩
          rw [show cMt (h_i h6 47) (h_i h6 49) (ouX h6 x3) x1 x2 (i + 1) = cMt (h_i h6 47) (h_i h6 49) (ouX h6 x3) x1 x2 i + 1 from cnq_y ⟨c, o⟩] at y
          exact y
        · exact ⟨I.1, fun _ => no (fun u => c u.1), fun z => absurd e4 z⟩
  exact t_X7_countMet d h x1 x2 x3 _ (lp (h_i h 16 7).toNatClampNeg 0 (by omega))
theorem c_cbl (d : Nat) {h : Hp_} (I : Iv h) (x1 x2 x3 : Int32) : Ci (m_X7_countBlamed (d + 2) 0 0) [.ref 16, .int x1, .int x2, .int x3] h (fun r h' => h' = h ∧ r = cBl (h_i h 47) (h_i h 49) (caX_ h x3) x1 x2 (h_i h 16 7).toNatClampNeg) := by
  have rw_ := rwX_in I
  have lp : ∀ (t i : Nat), i + t = (h_i h 16 7).toNatClampNeg → AW (m_X7_countBlamed (d + 2) 0 0) 0 0 6 [(0, .ref 16), (1, .int x1), (2, .int x2), (3, .int x3), (4, .int (cBl (h_i h 47) (h_i h 49) (caX_ h x3) x1 x2 i)), (5, .int (Int32.ofNat i))] [] h (kI (fun r h' => h' = h ∧ r = cBl (h_i h 47) (h_i h 49) (caX_ h x3) x1 x2 (h_i h 16 7).toNatClampNeg)) := by
    intro t
    induction t with
    | zero =>
      intro i e
      have ei : i = (h_i h 16 7).toNatClampNeg := by omega
      refine t_X7_countBlamed_6 d h I.1 x1 x2 x3 _ _ _ ⟨fun _ => ⟨rfl, by rw [ei]⟩, fun z => ?_⟩
      have z := q_nle z
      rw [on_j (by omega)] at z
      omega
    | succ t ih =>
      intro i e
      have oi := on_j (n := i) (by omega)
      have vi : vp_in (Int32.ofNat i) 400 := on_in (by omega) (by decide)
      have y := ih (i + 1) (by omega)
      rw [← on_s (by omega)] at y
      have no : ¬ pBl (h_i h 47) (h_i h 49) (caX_ h x3) x1 x2 i → AW (m_X7_countBlamed (d + 2) 0 0) 0 0 6 [(0, .ref 16), (1, .int x1), (2, .int x2), (3, .int x3), (4, .int (cBl (h_i h 47) (h_i h 49) (caX_ h x3) x1 x2 i)), (5, .int (Int32.ofNat i + 1))] [] h (kI (fun r h' => h' = h ∧ r = cBl (h_i h 47) (h_i h 49) (caX_ h x3) x1 x2 (h_i h 16 7).toNatClampNeg)) := fun n => by
        rw [show cBl (h_i h 47) (h_i h 49) (caX_ h x3) x1 x2 (i + 1) = cBl (h_i h 47) (h_i h 49) (caX_ h x3) x1 x2 i from cnq_n n] at y
        exact y
      have ye : pBl (h_i h 47) (h_i h 49) (caX_ h x3) x1 x2 i → AW (m_X7_countBlamed (d + 2) 0 0) 0 0 6 [(0, .ref 16), (1, .int x1), (2, .int x2), (3, .int x3), (4, .int (cBl (h_i h 47) (h_i h 49) (caX_ h x3) x1 x2 i + 1)), (5, .int (Int32.ofNat i + 1))] [] h (kI (fun r h' => h' = h ∧ r = cBl (h_i h 47) (h_i h 49) (caX_ h x3) x1 x2 (h_i h 16 7).toNatClampNeg)) := fun n => by
        rw [show cBl (h_i h 47) (h_i h 49) (caX_ h x3) x1 x2 (i + 1) = cBl (h_i h 47) (h_i h 49) (caX_ h x3) x1 x2 i + 1 from cnq_y n] at y
        exact y
      refine t_X7_countBlamed_6 d h I.1 x1 x2 x3 _ _ _ ⟨fun z => ?_, fun _ => Ci.mono (c_wdu d I (by omega) x1 x2) (fun r4 h2 k => ?_)⟩
      · have z := q_le.mp z
        rw [oi] at z
        omega
      · obtain ⟨eh, k⟩ := k
        subst eh
        rcases k with ⟨c, e4⟩ | ⟨c, e4⟩
        · refine ⟨I.1, fun z => absurd (e4.symm.trans z) (by decide), fun _ => Ci.mono (c_caX d I _ x3 vi) (fun r8 h6 k6 => ?_)⟩
          obtain ⟨eh, e8⟩ := k6
          subst eh
          have e8 : r8 = caX_ h6 x3 i := e8
          rw [e8]
          exact ⟨I.1, fun o => ye ⟨c, Or.inl o⟩, fun n => ⟨fun l => no (fun u => u.2.elim n (fun v => v l)), fun l => ye ⟨c, Or.inr l⟩⟩⟩
        · exact ⟨I.1, fun _ => no (fun u => c u.1), fun z => absurd e4 z⟩
  exact t_X7_countBlamed d h x1 x2 x3 _ (lp (h_i h 16 7).toNatClampNeg 0 (by omega))
/-- what should have been done at sighting i, as known at q -/
def shX (E : Enl) (h : Hp_) (q : Int32) (i : Nat) : Int32 := evB E (h_i h 66 i / 1440) q (h_i h 70) i (h_i h)
theorem shX_fr {E : Enl} {ws : List Nat} {h h' : Hp_} (f : Fr ws h h') (o : ([66, 70, 37, 38].all (fun a => off ws a) && !inw ws 13 5) = true) (q : Int32) : shX E h' q = shX E h q := by
  rw [Bool.and_eq_true, Bool.not_eq_true'] at o
  have g : ∀ a ∈ [66, 70, 37, 38], h_i h' a = h_i h a := fun a ha => funext (fun k => fr_i f (List.all_eq_true.mp o.1 a ha) k)
  funext i
  unfold shX evB foB
  rw [g 66 (by decide), g 70 (by decide), g 37 (by decide), g 38 (by decide), (f.2 13 5 o.2).1]
theorem c_dueX (d : Nat) {E : Enl} {h : Hp_} (I : Iv h) (T : TX E.1 h) {i : Nat} (hi : i < (h_i h 17 16).toNatClampNeg) (q : Int32) : Ci (m_X4_due (d + 3) 0 0) [.ref 17, .int (Int32.ofNat i), .ref 13, .int q] h (fun r h' => Iv h' ∧ Fr [41999] h h' ∧ r = shX E h q i) := by
  have r := (iq17 I).2
  have n := n_nat r.1
  have oi := on_j (n := i) (by omega)
  have ki := on_k (n := i) (by omega)
  have vi : vp_in (Int32.ofNat i) 300 := on_in (by omega) (by decide)
  refine t_X4_due d h I.1 _ q _ (Ci.mono (c_has4 d I.1 (x1 := Int32.ofNat i) ⟨by omega, by omega⟩) (fun r3 h3 k3 => ?_))
  obtain ⟨e3, eh⟩ := k3
  subst eh
  refine ⟨I.1, fun _ => ⟨vi, Ci.mono (c_inf d I _ _) (fun r8 h6 k6 => ?_)⟩, fun z => absurd (e3.symm.trans z) (by decide)⟩
  obtain ⟨eh, e8⟩ := k6
  subst eh
  rw [e8]
  refine ⟨I.1, Ci.mono (c_ans d (E := E) I T (x3 := Int32.ofNat i) ⟨by omega, by omega⟩ _ _) (fun r11 h9 k9 => ⟨k9.1.1, k9.1, k9.2.1, ?_⟩)⟩
  rw [k9.2.2, ki]
  rfl
theorem c_ctk (d : Nat) {E : Enl} {h : Hp_} (I : Iv h) (T : TX E.1 h) (x1 x2 x4 x5 : Int32) (b5 : x5 = 0 ∨ x5 = 1) : Ci (m_X4_countTaken (d + 4) 0 0) [.ref 17, .int x1, .int x2, .ref 13, .int x4, .int x5] h (fun r h' => Iv h' ∧ Fr [41999] h h' ∧ r = cTk (h_i h 64) (h_i h 67) (h_i h 66) (shX E h x4) x1 x2 x5 (h_i h 17 16).toNatClampNeg) := by
  have rr := (iq17 I).2
  have nn := n_nat rr.1
  have lp : ∀ (t i : Nat) (h2 : Hp_), i + t = (h_i h 17 16).toNatClampNeg → Iv h2 → Fr [41999] h h2 → AW (m_X4_countTaken (d + 4) 0 0) 0 0 6 [(0, .ref 17), (1, .int x1), (2, .int x2), (3, .ref 13), (4, .int x4), (5, .int x5), (6, .int (cTk (h_i h 64) (h_i h 67) (h_i h 66) (shX E h x4) x1 x2 x5 i)), (7, .int (Int32.ofNat i))] [] h2 (kI (fun r h' => Iv h' ∧ Fr [41999] h h' ∧ r = cTk (h_i h 64) (h_i h 67) (h_i h 66) (shX E h x4) x1 x2 x5 (h_i h 17 16).toNatClampNeg)) := by
    intro t
    induction t with
    | zero =>
      intro i h2 e I2 F2
      have ei : i = (h_i h 17 16).toNatClampNeg := by omega
      refine t_X4_countTaken_6 d h2 I2.1 x1 x2 x4 x5 _ _ _ ⟨fun _ => ⟨I2, F2, by rw [ei]⟩, fun z => ?_⟩
      have z := q_nle z
      rw [(F2.2 17 16 (by decide +kernel)).1, on_j (by omega)] at z
      omega
    | succ t ih =>
      intro i h2 e I2 F2
      have oi := on_j (n := i) (by omega)
      have ki := on_k (n := i) (by omega)
      have vi : vp_in (Int32.ofNat i) 300 := on_in (by omega) (by decide)
      have g : ∀ a, off [41999] a = true → h_i h2 a = h_i h a := fun a o => funext (fun k => fr_i F2 o k)
      have no : ∀ h3, Iv h3 → Fr [41999] h h3 → ¬ pTkq (h_i h 64) (h_i h 67) (h_i h 66) (shX E h x4) x1 x2 x5 i → AW (m_X4_countTaken (d + 4) 0 0) 0 0 6 [(0, .ref 17), (1, .int x1), (2, .int x2), (3, .ref 13), (4, .int x4), (5, .int x5), (6, .int (cTk (h_i h 64) (h_i h 67) (h_i h 66) (shX E h x4) x1 x2 x5 i)), (7, .int (Int32.ofNat i + 1))] [] h3 (kI (fun r h' => Iv h' ∧ Fr [41999] h h' ∧ r = cTk (h_i h 64) (h_i h 67) (h_i h 66) (shX E h x4) x1 x2 x5 (h_i h 17 16).toNatClampNeg)) := fun h3 I3 F3 n => by
        have y := ih (i + 1) h3 (by omega) I3 F3
        rw [← on_s (by omega), show cTk (h_i h 64) (h_i h 67) (h_i h 66) (shX E h x4) x1 x2 x5 (i + 1) = cTk (h_i h 64) (h_i h 67) (h_i h 66) (shX E h x4) x1 x2 x5 i from cnq_n n] at y
        exact y
      have ye : ∀ h3, Iv h3 → Fr [41999] h h3 → pTkq (h_i h 64) (h_i h 67) (h_i h 66) (shX E h x4) x1 x2 x5 i → AW (m_X4_countTaken (d + 4) 0 0) 0 0 6 [(0, .ref 17), (1, .int x1), (2, .int x2), (3, .ref 13), (4, .int x4), (5, .int x5), (6, .int (cTk (h_i h 64) (h_i h 67) (h_i h 66) (shX E h x4) x1 x2 x5 i + 1)), (7, .int (Int32.ofNat i + 1))] [] h3 (kI (fun r h' => Iv h' ∧ Fr [41999] h h' ∧ r = cTk (h_i h 64) (h_i h 67) (h_i h 66) (shX E h x4) x1 x2 x5 (h_i h 17 16).toNatClampNeg)) := fun h3 I3 F3 n => by
        have y := ih (i + 1) h3 (by omega) I3 F3
        rw [← on_s (by omega), show cTk (h_i h 64) (h_i h 67) (h_i h 66) (shX E h x4) x1 x2 x5 (i + 1) = cTk (h_i h 64) (h_i h 67) (h_i h 66) (shX E h x4) x1 x2 x5 i + 1 from cnq_y n] at y
        exact y
      refine t_X4_countTaken_6 d h2 I2.1 x1 x2 x4 x5 _ _ _ ⟨fun z => ?_, fun _ => ⟨vi, ?_⟩⟩
      · have z := q_le.mp z
        rw [(F2.2 17 16 (by decide +kernel)).1, oi] at z
        omega
      · rw [ki, g 64 (by decide +kernel), g 67 (by decide +kernel), g 66 (by decide +kernel)]
        refine ⟨fun n => no h2 I2 F2 (fun u => n u.1.1), fun c1 => ⟨vi, fun n => no h2 I2 F2 (fun u => n u.1.2.1), fun c2 => ⟨vi, fun n => no h2 I2 F2 (fun u => n u.1.2.2), fun c3 => ?_⟩⟩⟩
        have T2 : TX E.1 h2 := T.cg (F2.2 13 5 (by decide +kernel)).1 (fun k => fr_i F2 (by decide +kernel) k) (fun k => fr_i F2 (by decide +kernel) k)
        refine Ci.mono (c_dueX d (E := E) I2 T2 (i := i) (by rw [(F2.2 17 16 (by decide +kernel)).1]; omega) x4) (fun r10 h8 k8 => ?_)
        obtain ⟨I8, F8, e10⟩ := k8
        have F3 := F2.tr F8
        rw [shX_fr F2 (by decide +kernel)] at e10
        rw [e10]
        refine ⟨I8.1, fun n => ⟨fun n0 => no h8 I8 F3 (fun u => ?_), fun y0 => ye h8 I8 F3 ⟨⟨c1, c2, c3⟩, ?_⟩⟩, fun y => ⟨fun n1 => no h8 I8 F3 (fun u => n1 (u.2.mp y).symm), fun y1 => ye h8 I8 F3 ⟨⟨c1, c2, c3⟩, fun _ => y1.symm, fun _ => y⟩⟩⟩
        · rcases b5 with z | z
          · exact n0 z.symm
          · exact n (u.2.mpr z)
        · refine ⟨fun u => absurd u n, fun u => ?_⟩
          rw [← y0] at u
          exact absurd u (by decide)
  exact t_X4_countTaken d h x1 x2 x4 x5 _ (lp (h_i h 17 16).toNatClampNeg 0 h (by omega) I (Fr.rf _ _))
/-! WAGES: what a text of PAY tells of six letters; the class's wageOf -/
def lt6q (a b c d e f : Int32) : Nat → Int32
  | 0 => a
  | 1 => b
  | 2 => c
  | 3 => d
  | 4 => e
  | _ => f
def wgV (L : Nat → Int32) (f : Int32) (C : Nat → List Cl2) : Int32 := if f = -1 then 0 else evC (fun c => L (ixq 2 (xch c)).toNatClampNeg) (C f.toNatClampNeg)
def clp (r : Int32) : Int32 := if 0 < (if 10000 < r then 10000 else r) then (if 10000 < r then 10000 else r) else 0
theorem clp_m (r : Int32) : (if 0 < (if r < 10000 then r else 10000) then (if r < 10000 then r else 10000) else 0) = clp r := by
  have e : (if r < 10000 then r else 10000) = (if 10000 < r then 10000 else r) := by
    by_cases a : r < 10000
    · rw [if_pos a, if_neg (fun u => by have := q_lt.mp a; have := q_lt.mp u; omega)]
    · rw [if_neg a]
      by_cases b : 10000 < r
      · rw [if_pos b]
      · rw [if_neg b]
        have := q_nlt a
        have := q_nlt b
        exact Int32.toInt_inj.mp (by omega)
  unfold clp
  rw [e]
theorem wgV_c {L L' : Nat → Int32} {f f' : Int32} {C : Nat → List Cl2} (ef : f = f') (b : f = -1 ∨ (0 ≤ f.toInt ∧ ∀ c ∈ C f.toNatClampNeg, clO 2 c)) (e : ∀ t, t < 6 → L t = L' t) : wgV L f C = wgV L' f' C := by
  subst ef
  unfold wgV
  rcases b with z | z
  · rw [if_pos z, if_pos z]
  · have nz : ¬ f = -1 := fun y => by
      rw [y] at z
      exact absurd z.1 (by decide)
    rw [if_neg nz, if_neg nz]
    refine evC_v (s := 2) (fun x hx => ?_) _ z.2
    have b9 := ix_in (Or.inr rfl) hx
    have b8 : (ixq 2 (xch x)).toInt ≤ 5 := b9.2
    have nb := n_nat b9.1
    exact e _ (by omega)
theorem gdP_r {h h' : Hp_} (R : ∀ a ∈ [44, 45, 231, 232], h_i h' a = h_i h a) : gdP h' = gdP h := by
  unfold gdP
  rw [R 44 (by decide), R 45 (by decide), R 231 (by decide), R 232 (by decide)]
theorem CCp_r {h h' : Hp_} (R : ∀ a ∈ [44, 45, 231, 232], h_i h' a = h_i h a) : CCp h' = CCp h := by
  funext k
  unfold CCp
  rw [gdP_r R]
theorem c_ans14 (d : Nat) {h : Hp_} (I : Iv h) (e : ExWg h) (dy q : Int32) : Ci (m_X10_answer (d + 2) 0 0) [.ref 14, .int (fob (h_i h 42) (h_i h 43) dy q (h_i h 14 5).toNatClampNeg), .ref 108, .int 0] h (fun r h' => Iv h' ∧ Fr [46999] h h' ∧ r = wgV (h_i h 108) (fob (h_i h 42) (h_i h 43) dy q (h_i h 14 5).toNatClampNeg) (CCp h)) := by
  have c20 := n14_in I
  have n14 := n_nat c20.1
  have fb := fob_b (h_i h 42) (h_i h 43) dy q (h_i h 14 5).toNatClampNeg (by omega)
  unfold wgV
  generalize fob (h_i h 42) (h_i h 43) dy q (h_i h 14 5).toNatClampNeg = k at fb
  rcases fb with z | z
  · rw [z]
    refine Ci.mono (c_an0_14 d I _) (fun r h' u => ?_)
    rw [u.1, u.2]
    exact ⟨I, Fr.rf _ _, (if_pos rfl).symm⟩
  · have nk := n_nat z.1
    have ek : Int32.ofNat k.toNatClampNeg = k := of_nat32 z.1
    have t := e.gd (k := k.toNatClampNeg) (by omega)
    have nm : ¬ k = -1 := fun y => by
      rw [y] at z
      exact absurd z.1 (by decide)
    have ix : ∀ c, ltb 2 c = true → vp_in ((0 : Int32) + ixq 2 (xch c)) 6 ∧ (0 ≤ (0 : Int32) + ixq 2 (xch c) ∧ (0 : Int32) + ixq 2 (xch c) ≤ ((6 : Int32) - 1)) := fun c hc => by
      have b := ix_in (Or.inr rfl) hc
      have b2 : (ixq 2 (xch c)).toInt ≤ 5 := b.2
      rw [Int32.zero_add]
      refine ⟨dp_in (lo := 0) (hi := 5) ⟨b.1, b2⟩ (by decide) (by decide), q_le.mpr ?_, q_le.mpr ?_⟩
      · rw [show (0 : Int32).toInt = 0 from rfl]
        exact b.1
      · rw [show ((6 : Int32) - 1).toInt = 5 from rfl]
        exact b2
    have A := c_an_14 d I (r := k.toNatClampNeg) (by omega) t.1 t.2.1.1 t.2.1.2.1 t.2.1.2.2 0 (fun c hc => (ix c hc).2) (fun c hc => (ix c hc).1)
    rw [ek] at A
    refine Ci.mono A (fun r h' u => ⟨u.1, u.2.1, ?_⟩)
    rw [u.2.2, if_neg nm]
    refine evC_v (s := 2) (fun c hc => ?_) _ t.1
    show h_i h 108 ((0 : Int32) + ixq 2 (xch c)).toNatClampNeg = _
    rw [Int32.zero_add]
/-- the six letters of the man of cell c -/
def lX6 (E : Enl) (h : Hp_) (c : Nat) (day q : Int32) : Nat → Int32 := lt6q (rkv (h_i h 104) (h_i h 105) (h_i h 106) (h_i h 107) (h_i h c 0) day q (h_i h 21 4).toNatClampNeg 0 (h_i h c 1) (-1)) (h_i h c 2) (cMt (h_i h 47) (h_i h 49) (ouX h q) (h_i h c 0) day (h_i h 16 7).toNatClampNeg) (cBl (h_i h 47) (h_i h 49) (caX_ h q) (h_i h c 0) day (h_i h 16 7).toNatClampNeg) (cTk (h_i h 64) (h_i h 67) (h_i h 66) (shX E h q) (h_i h c 0) day 1 (h_i h 17 16).toNatClampNeg) (cTk (h_i h 64) (h_i h 67) (h_i h 66) (shX E h q) (h_i h c 0) day 0 (h_i h 17 16).toNatClampNeg)
noncomputable def wgX (E : Enl) (h : Hp_) (c : Nat) (day q : Int32) : Int32 := clp (wgV (lX6 E h c day q) (fob (h_i h 42) (h_i h 43) day q (h_i h 14 5).toNatClampNeg) (CCp h))
def wWg : List Nat := [41999, 46999, 108999]
def wWh : List Nat := [41999, 46999, 108999, 109999]
theorem wh {h h' : Hp_} (f : Fr wWg h h') : Fr wWh h h' := f.more (by decide +kernel)
theorem wc_fr {c a : Nat} {h h' : Hp_} (f : Fr wWh h h') (b : 401 ≤ c ∧ c ≤ 412) : h_i h' c a = h_i h c a := by
  have c1 : cn c = cn 401 := by
    have := (cn_man (j := c - 401) (by omega)).trans (show _ = cn 401 by decide)
    rw [show 401 + (c - 401) = c by omega] at this
    exact this
  have z : off wWh 401 = true := by decide +kernel
  exact (f.2 c a (by rw [inw_ce c1]; exact off_inw z a)).1
theorem cBl_r {h h' : Hp_} (f : Fr wWh h h') (q : Int32) : caX_ h' q = caX_ h q := by
  have g : ∀ a, off wWh a = true → h_i h' a = h_i h a := fun a o => funext (fun k => fr_i f o k)
  funext i
  unfold caX_ cauX
  rw [g 51 (by decide +kernel), g 52 (by decide +kernel), g 53 (by decide +kernel), g 54 (by decide +kernel), g 55 (by decide +kernel), g 56 (by decide +kernel), g 16 (by decide +kernel)]
theorem ou_r {h h' : Hp_} (f : Fr wWh h h') (q : Int32) : ouX h' q = ouX h q := by
  have g : ∀ a, off wWh a = true → h_i h' a = h_i h a := fun a o => funext (fun k => fr_i f o k)
  funext i
  unfold ouX
  rw [g 51 (by decide +kernel), g 52 (by decide +kernel)]
theorem wgX_r {E : Enl} {h h' : Hp_} (f : Fr wWh h h') {c : Nat} (b : 401 ≤ c ∧ c ≤ 412) (day q : Int32) : wgX E h' c day q = wgX E h c day q := by
  have g : ∀ a, off wWh a = true → h_i h' a = h_i h a := fun a o => funext (fun k => fr_i f o k)
  unfold wgX lX6
  rw [wc_fr f b, wc_fr f b, wc_fr f b, cBl_r f, ou_r f, shX_fr f (by decide +kernel), g 104 (by decide +kernel), g 105 (by decide +kernel), g 106 (by decide +kernel), g 107 (by decide +kernel), g 21 (by decide +kernel), g 47 (by decide +kernel), g 49 (by decide +kernel), g 16 (by decide +kernel), g 64 (by decide +kernel), g 67 (by decide +kernel), g 66 (by decide +kernel), g 17 (by decide +kernel), g 42 (by decide +kernel), g 43 (by decide +kernel), g 14 (by decide +kernel), CCp_r (fun a ha => ?_)]
  have z : [44, 45, 231, 232].all (fun a => off wWh a) = true := by decide +kernel
  exact g a (List.all_eq_true.mp z a ha)
theorem i108 {h : Hp_} (I : Iv h) (k : Nat) (x : Int32) : Iv (h_im h 108 k x) := tr_ 108 (by decide +kernel) I k x (by decide) (by decide)
theorem f108 {h h' : Hp_} (f : Fr wWg h h') (k : Nat) (x : Int32) : Fr wWg h (h_im h' 108 k x) := f.im (inw_row (by decide +kernel) _)
theorem c_wgO (d : Nat) {E : Enl} {h : Hp_} (I : Iv h) (W : ExWg h) (T : TX E.1 h) {c : Nat} (hc : Cn h c) (day q : Int32) : Ci (m_X11_wageOf (d + 5) 0 0) [.ref 0, .ref c, .int day, .int q] h (fun r h' => Iv h' ∧ Fr wWg h h' ∧ r = wgX E h c day q) := by
  have b : 401 ≤ c ∧ c ≤ 412 := ⟨hc.1, hc.2.1⟩
  have sh : ∀ {h' : Hp_}, Fr wWg h h' → h_sh h' c = some (12, 17) := fun f => (congrFun f.1 c).trans hc.2.2
  have v6 : ∀ {k : Nat}, k < 6 → vp_in (Int32.ofNat k) 6 := fun hk => on_in hk (by decide)
  refine t_X11_wageOf d h I.1 c hc.2.2 (by have := hc.1; omega) day q _ (Ci.mono (c_cls d I hc day q) (fun r3 h1 k1 => ?_))
  obtain ⟨e3, eh⟩ := k1
  subst eh
  refine ⟨I.1, hc.2.2, v6 (k := 0) (by decide), v6 (k := 1) (by decide), ?_⟩
  have F1 : Fr wWg h1 (h_im (h_im h1 108 (0 : Int32).toNatClampNeg r3) 108 (1 : Int32).toNatClampNeg (h_i h1 c 2)) := f108 (f108 (Fr.rf _ _) _ _) _ _
  have I1 := i108 (i108 I (0 : Int32).toNatClampNeg r3) (1 : Int32).toNatClampNeg (h_i h1 c 2)
  generalize e1 : h_im (h_im h1 108 (0 : Int32).toNatClampNeg r3) 108 (1 : Int32).toNatClampNeg (h_i h1 c 2) = H1 at F1 I1 ⊢
  refine Ci.mono (c_cmt d I1 _ _ _) (fun r9 h7 k7 => ?_)
  obtain ⟨eh, e9⟩ := k7
  subst eh
  refine ⟨I1.1, sh F1, v6 (k := 2) (by decide), ?_⟩
  have F2 := f108 F1 (2 : Int32).toNatClampNeg r9
  have I2 := i108 I1 (2 : Int32).toNatClampNeg r9
  generalize e2 : h_im h7 108 (2 : Int32).toNatClampNeg r9 = H2 at F2 I2 ⊢
  refine Ci.mono (c_cbl d I2 _ _ _) (fun r14 h12 k12 => ?_)
  obtain ⟨eh, e14⟩ := k12
  subst eh
  refine ⟨I2.1, sh F2, v6 (k := 3) (by decide), ?_⟩
  have F3 := f108 F2 (3 : Int32).toNatClampNeg r14
  have I3 := i108 I2 (3 : Int32).toNatClampNeg r14
  generalize e3_ : h_im h12 108 (3 : Int32).toNatClampNeg r14 = H3 at F3 I3 ⊢
  have TT : ∀ {h' : Hp_}, Fr wWg h1 h' → TX E.1 h' := fun f => T.cg (f.2 13 5 (by decide +kernel)).1 (fun k => fr_i f (by decide +kernel) k) (fun k => fr_i f (by decide +kernel) k)
  refine Ci.mono (c_ctk d (E := E) I3 (TT F3) _ _ _ 1 (Or.inr rfl)) (fun r19 h17 k17 => ?_)
  obtain ⟨I17, F17, e19⟩ := k17
  have F4' := F3.tr (F17.more (by decide +kernel))
  refine ⟨I17.1, sh F4', v6 (k := 4) (by decide), ?_⟩
  have F4 := f108 F4' (4 : Int32).toNatClampNeg r19
  have I4 := i108 I17 (4 : Int32).toNatClampNeg r19
  generalize e4 : h_im h17 108 (4 : Int32).toNatClampNeg r19 = H4 at F4 I4 ⊢
  refine Ci.mono (c_ctk d (E := E) I4 (TT F4) _ _ _ 0 (Or.inl rfl)) (fun r24 h22 k22 => ?_)
  obtain ⟨I22, F22, e24⟩ := k22
  have F5' := F4.tr (F22.more (by decide +kernel))
  refine ⟨I22.1, v6 (k := 5) (by decide), ?_⟩
  have F5 := f108 F5' (5 : Int32).toNatClampNeg r24
  have I5 := i108 I22 (5 : Int32).toNatClampNeg r24
  generalize e5 : h_im h22 108 (5 : Int32).toNatClampNeg r24 = H5 at F5 I5 ⊢
  refine Ci.mono (c_inf14 d I5 day q) (fun r28 h26 k26 => ?_)
  obtain ⟨eh, e28⟩ := k26
  subst eh
  rw [e28]
  have W5 : ExWg h26 := W.fr F5 (by decide +kernel)
  refine ⟨I5.1, Ci.mono (c_ans14 d I5 W5 day q) (fun r31 h29 k29 => ⟨k29.1.1, k29.1, F5.tr (k29.2.1.more (by decide +kernel)), ?_⟩)⟩
  show clp r31 = _
  have g5 : ∀ a, off wWg a = true → h_i h26 a = h_i h1 a := fun a o => funext (fun k => fr_i F5 o k)
  have z4 : [44, 45, 231, 232].all (fun a => off wWg a) = true := by decide +kernel
  rw [k29.2.2, g5 42 (by decide +kernel), g5 43 (by decide +kernel), g5 14 (by decide +kernel), CCp_r (fun a ha => g5 a (List.all_eq_true.mp z4 a ha))]
  unfold wgX
  have c20 := n14_in I
  have n14 := n_nat c20.1
  have fb := fob_b (h_i h1 42) (h_i h1 43) day q (h_i h1 14 5).toNatClampNeg (by omega)
  refine congrArg clp (wgV_c rfl ?_ (fun t ht => ?_))
  · rcases fb with z | z
    · exact Or.inl z
    · have nz := n_nat z.1
      exact Or.inr ⟨z.1, (W.gd (by omega)).1⟩
  · -- the six letters
    have r0 : (0 : Int32).toNatClampNeg = 0 := rfl
    have r1 : (1 : Int32).toNatClampNeg = 1 := rfl
    have r2 : (2 : Int32).toNatClampNeg = 2 := rfl
    have r3_ : (3 : Int32).toNatClampNeg = 3 := rfl
    have r4 : (4 : Int32).toNatClampNeg = 4 := rfl
    have r5 : (5 : Int32).toNatClampNeg = 5 := rfl
    have p22 : h_i h22 108 = h_i H4 108 := funext (fun k => fr_i F22 (by decide +kernel) k)
    have p17 : h_i h17 108 = h_i H3 108 := funext (fun k => fr_i F17 (by decide +kernel) k)
    have row : h_i h26 108 = up1 (up1 (up1 (up1 (up1 (up1 (h_i h1 108) 0 r3) 1 (h_i h1 c 2)) 2 r9) 3 r14) 4 r19) 5 r24 := by
      rw [← e5, im_row, p22, ← e4, im_row, p17, ← e3_, im_row, ← e2, im_row, ← e1, im_row, im_row, r0, r1, r2, r3_, r4, r5]
    have g1 : ∀ {h' : Hp_}, Fr wWg h1 h' → ∀ a, off wWg a = true → h_i h' a = h_i h1 a := fun f a o => funext (fun k => fr_i f o k)
    have f9 : r9 = cMt (h_i h1 47) (h_i h1 49) (ouX h1 q) (h_i h1 c 0) day (h_i h1 16 7).toNatClampNeg := by
      rw [e9, g1 F1 47 (by decide +kernel), g1 F1 49 (by decide +kernel), ou_r (wh F1), g1 F1 16 (by decide +kernel)]
    have f14 : r14 = cBl (h_i h1 47) (h_i h1 49) (caX_ h1 q) (h_i h1 c 0) day (h_i h1 16 7).toNatClampNeg := by
      rw [e14, g1 F2 47 (by decide +kernel), g1 F2 49 (by decide +kernel), cBl_r (wh F2), g1 F2 16 (by decide +kernel), wc_fr (wh F1) b]
    have f19 : r19 = cTk (h_i h1 64) (h_i h1 67) (h_i h1 66) (shX E h1 q) (h_i h1 c 0) day 1 (h_i h1 17 16).toNatClampNeg := by
      rw [e19, g1 F3 64 (by decide +kernel), g1 F3 67 (by decide +kernel), g1 F3 66 (by decide +kernel), shX_fr F3 (by decide +kernel), g1 F3 17 (by decide +kernel), wc_fr (wh F2) b]
    have f24 : r24 = cTk (h_i h1 64) (h_i h1 67) (h_i h1 66) (shX E h1 q) (h_i h1 c 0) day 0 (h_i h1 17 16).toNatClampNeg := by
      rw [e24, g1 F4 64 (by decide +kernel), g1 F4 67 (by decide +kernel), g1 F4 66 (by decide +kernel), shX_fr F4 (by decide +kernel), g1 F4 17 (by decide +kernel), wc_fr (wh F4') b]
    rw [row]
    unfold lX6
    rw [← f9, ← f14, ← f19, ← f24, ← e3]
    rcases (show t = 0 ∨ t = 1 ∨ t = 2 ∨ t = 3 ∨ t = 4 ∨ t = 5 by omega) with z | z | z | z | z | z <;> subst z
    · rw [up1_ne (by decide), up1_ne (by decide), up1_ne (by decide), up1_ne (by decide), up1_ne (by decide), up1_at]; rfl
    · rw [up1_ne (by decide), up1_ne (by decide), up1_ne (by decide), up1_ne (by decide), up1_at]; rfl
    · rw [up1_ne (by decide), up1_ne (by decide), up1_ne (by decide), up1_at]; rfl
    · rw [up1_ne (by decide), up1_ne (by decide), up1_at]; rfl
    · rw [up1_ne (by decide), up1_at]; rfl
    · rw [up1_at]; rfl
/-! WAGES: the reference's payOf -/
def ouM (h : Hp_) (q : Int32) (i : Nat) : Int32 := sOP (h_i h 241 i) (h_i h 242 i) q
def caM_ (h : Hp_) (q : Int32) (i : Nat) : Int32 := if ouM h q i = 2 then cauM h (Int32.ofNat i) q else -1
def shM (E : Enl) (b : Bl) (h : Hp_) (q : Int32) (i : Nat) : Int32 := evB E (h_i h 257 i / 1440) q (h_i h 261) i b
def lM6 (E : Enl) (b : Bl) (h : Hp_) (x1 day q : Int32) : Nat → Int32 := lt6q (rkv (h_i h 221) (h_i h 222) (h_i h 223) (h_i h 224) x1 day q (h_i h 1 29).toNatClampNeg 0 (h_i h 204 x1.toNatClampNeg) (-1)) (h_i h 205 x1.toNatClampNeg) (cMt (h_i h 238) (h_i h 240) (ouM h q) x1 day (h_i h 1 63).toNatClampNeg) (cBl (h_i h 238) (h_i h 240) (caM_ h q) x1 day (h_i h 1 63).toNatClampNeg) (cTk (h_i h 255) (h_i h 258) (h_i h 257) (shM E b h q) x1 day 1 (h_i h 1 80).toNatClampNeg) (cTk (h_i h 255) (h_i h 258) (h_i h 257) (shM E b h q) x1 day 0 (h_i h 1 80).toNatClampNeg)
def fo1 (h : Hp_) (day q : Int32) : Int32 := fob (fun k => h_i h 233 (20 + k)) (fun k => h_i h 234 (20 + k)) day q (h_i h 235 1).toNatClampNeg
noncomputable def wgMq (E : Enl) (b : Bl) (h : Hp_) (x1 day q : Int32) : Int32 := clp (wgV (lM6 E b h x1 day q) (fo1 h day q) (CCp h))
theorem l6l {c : Int32} (o : ltb 2 c = true) : c = 99 ∨ c = 121 ∨ c = 109 ∨ c = 120 ∨ c = 116 ∨ c = 97 := of_decide_eq_true o
theorem c_pyO (d : Nat) {E : Enl} {b : Bl} {h : Hp_} (I : Iv h) (W : ExWg h) (P : PEm E b h) (PX : ∀ h', Fr wzL h h' → ExP h') {x1 : Int32} (v1 : vp_in x1 12) (day q : Int32) : Ci (m_X12_payOf (d + 7) 0 0) [.ref 1, .int x1, .int day, .int q] h (fun r h' => Iv h' ∧ Fr wzL h h' ∧ r = wgMq E b h x1 day q) := by
  have a63 := I.2.1 1 63
  rw [show tf 1 63 = (0, 400) by decide +kernel] at a63
  have p63 : (h_i h 1 63).toInt ≤ 400 := a63.2
  have n63 := n_nat a63.1
  have r80 := (iq1 I).2.1
  have n80 := n_nat r80.1
  have c14 := n14_in I
  have n14 := n_nat c14.1
  have PP : ∀ {h'}, Fr wzL h h' → PEm E b h' := fun f => P.fr f (by decide +kernel) (fun _ => PX _ f)
  -- the second loop: sightings
  have l2 : ∀ (t i : Nat) (h2 : Hp_), i + t = (h_i h 1 80).toNatClampNeg → Iv h2 → Fr wzL h h2 → AW (m_X12_payOf (d + 7) 0 0) 0 0 128 [(0, .ref 1), (1, .int x1), (2, .int day), (3, .int q), (4, .int (cMt (h_i h 238) (h_i h 240) (ouM h q) x1 day (h_i h 1 63).toNatClampNeg)), (5, .int (cBl (h_i h 238) (h_i h 240) (caM_ h q) x1 day (h_i h 1 63).toNatClampNeg)), (6, .int (cTk (h_i h 255) (h_i h 258) (h_i h 257) (shM E b h q) x1 day 1 i)), (7, .int (cTk (h_i h 255) (h_i h 258) (h_i h 257) (shM E b h q) x1 day 0 i)), (8, .int (Int32.ofNat i))] [] h2 (kI (fun r h' => Iv h' ∧ Fr wzL h h' ∧ r = wgMq E b h x1 day q)) := by
    intro t
    induction t with
    | zero =>
      intro i h2 e I2 F2
      have ei : i = (h_i h 1 80).toNatClampNeg := by omega
      have g : ∀ a, off wzL a = true → h_i h2 a = h_i h a := fun a o => funext (fun k => fr_i F2 o k)
      refine t_X12_payOf_128 d h2 I2.1 _ _ _ _ _ _ _ _ _ ⟨fun _ => Ci.mono (c_rkM d I2 v1 day q) (fun r26 h24 k24 => ?_), fun z => ?_⟩
      · obtain ⟨e26, eh⟩ := k24
        subst eh
        have vl : ∀ {k : Nat}, k < 128 → vp_in (Int32.ofNat k) 128 := fun hk => on_in hk (by decide)
        refine ⟨I2.1, vl (k := 99) (by decide), v1, vl (k := 121) (by decide), vl (k := 109) (by decide), vl (k := 120) (by decide), vl (k := 116) (by decide), vl (k := 97) (by decide), ?_⟩
        have I3 := i236 (i236 (i236 (i236 (i236 (i236 I2 (99 : Int32).toNatClampNeg r26) (121 : Int32).toNatClampNeg (h_i h24 205 x1.toNatClampNeg)) (109 : Int32).toNatClampNeg (cMt (h_i h 238) (h_i h 240) (ouM h q) x1 day (h_i h 1 63).toNatClampNeg)) (120 : Int32).toNatClampNeg (cBl (h_i h 238) (h_i h 240) (caM_ h q) x1 day (h_i h 1 63).toNatClampNeg)) (116 : Int32).toNatClampNeg (cTk (h_i h 255) (h_i h 258) (h_i h 257) (shM E b h q) x1 day 1 i)) (97 : Int32).toNatClampNeg (cTk (h_i h 255) (h_i h 258) (h_i h 257) (shM E b h q) x1 day 0 i)
        have F3 := (((((F2.im (k := (99 : Int32).toNatClampNeg) (x := r26) (inw_row (a := 236) (by decide +kernel) _)).im (k := (121 : Int32).toNatClampNeg) (x := h_i h24 205 x1.toNatClampNeg) (inw_row (a := 236) (by decide +kernel) _)).im (k := (109 : Int32).toNatClampNeg) (x := cMt (h_i h 238) (h_i h 240) (ouM h q) x1 day (h_i h 1 63).toNatClampNeg) (inw_row (a := 236) (by decide +kernel) _)).im (k := (120 : Int32).toNatClampNeg) (x := cBl (h_i h 238) (h_i h 240) (caM_ h q) x1 day (h_i h 1 63).toNatClampNeg) (inw_row (a := 236) (by decide +kernel) _)).im (k := (116 : Int32).toNatClampNeg) (x := cTk (h_i h 255) (h_i h 258) (h_i h 257) (shM E b h q) x1 day 1 i) (inw_row (a := 236) (by decide +kernel) _)).im (k := (97 : Int32).toNatClampNeg) (x := cTk (h_i h 255) (h_i h 258) (h_i h 257) (shM E b h q) x1 day 0 i) (inw_row (a := 236) (by decide +kernel) _)
        have row : h_i (h_im (h_im (h_im (h_im (h_im (h_im h24 236 (99 : Int32).toNatClampNeg r26) 236 (121 : Int32).toNatClampNeg (h_i h24 205 x1.toNatClampNeg)) 236 (109 : Int32).toNatClampNeg (cMt (h_i h 238) (h_i h 240) (ouM h q) x1 day (h_i h 1 63).toNatClampNeg)) 236 (120 : Int32).toNatClampNeg (cBl (h_i h 238) (h_i h 240) (caM_ h q) x1 day (h_i h 1 63).toNatClampNeg)) 236 (116 : Int32).toNatClampNeg (cTk (h_i h 255) (h_i h 258) (h_i h 257) (shM E b h q) x1 day 1 i)) 236 (97 : Int32).toNatClampNeg (cTk (h_i h 255) (h_i h 258) (h_i h 257) (shM E b h q) x1 day 0 i)) 236 = up1 (up1 (up1 (up1 (up1 (up1 (h_i h24 236) 99 r26) 121 (h_i h24 205 x1.toNatClampNeg)) 109 (cMt (h_i h 238) (h_i h 240) (ouM h q) x1 day (h_i h 1 63).toNatClampNeg)) 120 (cBl (h_i h 238) (h_i h 240) (caM_ h q) x1 day (h_i h 1 63).toNatClampNeg)) 116 (cTk (h_i h 255) (h_i h 258) (h_i h 257) (shM E b h q) x1 day 1 i)) 97 (cTk (h_i h 255) (h_i h 258) (h_i h 257) (shM E b h q) x1 day 0 i) := by
          rw [im_row, im_row, im_row, im_row, im_row, im_row, show (99 : Int32).toNatClampNeg = 99 by simp, show (121 : Int32).toNatClampNeg = 121 by simp, show (109 : Int32).toNatClampNeg = 109 by simp, show (120 : Int32).toNatClampNeg = 120 by simp, show (116 : Int32).toNatClampNeg = 116 by simp, show (97 : Int32).toNatClampNeg = 97 by simp]
        generalize h_im (h_im (h_im (h_im (h_im (h_im h24 236 (99 : Int32).toNatClampNeg r26) 236 (121 : Int32).toNatClampNeg (h_i h24 205 x1.toNatClampNeg)) 236 (109 : Int32).toNatClampNeg (cMt (h_i h 238) (h_i h 240) (ouM h q) x1 day (h_i h 1 63).toNatClampNeg)) 236 (120 : Int32).toNatClampNeg (cBl (h_i h 238) (h_i h 240) (caM_ h q) x1 day (h_i h 1 63).toNatClampNeg)) 236 (116 : Int32).toNatClampNeg (cTk (h_i h 255) (h_i h 258) (h_i h 257) (shM E b h q) x1 day 1 i)) 236 (97 : Int32).toNatClampNeg (cTk (h_i h 255) (h_i h 258) (h_i h 257) (shM E b h q) x1 day 0 i) = H at I3 F3 row ⊢
        refine Ci.mono (c_fof1 d I3 day q) (fun r36 h34 k34 => ?_)
        obtain ⟨eh, e36⟩ := k34
        subst eh
        have g3 : ∀ a, off wzL a = true → h_i h34 a = h_i h a := fun a o => funext (fun k => fr_i F3 o k)
        have fe : r36 = fo1 h day q := by
          rw [e36, g3 233 (by decide +kernel), g3 234 (by decide +kernel), g3 235 (by decide +kernel)]
          rfl
        have fb : fo1 h day q = -1 ∨ (0 ≤ (fo1 h day q).toInt ∧ (fo1 h day q).toInt < (((h_i h 235 1).toNatClampNeg : Nat) : Int)) := fob_b _ _ day q _ (by rw [W.1]; omega)
        rw [W.1] at fb
        refine ⟨I3.1, Ci.mono (c_tell2 d 1 (by decide) I3 r36 ?_) (fun r39 h37 k37 => ⟨k37.1.1, k37.1, F3.tr (k37.2.1.more (by decide +kernel)), ?_⟩)⟩
        · rw [fe]
          rcases fb with z | z
          · rw [z]
            exact ⟨by decide, by decide⟩
          · exact ⟨by show (-1 : Int) ≤ _; omega, by show _ ≤ (19 : Int); omega⟩
        · rw [clp_m]
          unfold wgMq
          refine congrArg clp ?_
          unfold wgV
          rcases k37.2.2 with ⟨z, e5⟩ | ⟨nz, f, pc, te⟩
          · rw [fe] at z
            rw [if_pos z, e5]
          · rw [fe] at nz pc te
            rw [if_neg nz]
            rcases fb with z | z
            · exact absurd z nz
            · have nk := n_nat z.1
              have t := W.gd (k := (fo1 h day q).toNatClampNeg) (by omega)
              rw [show 20 * 1 + (fo1 h day q).toNatClampNeg = 20 + (fo1 h day q).toNatClampNeg by omega] at pc te
              have l32 : (h_i h34 232 (20 + (fo1 h day q).toNatClampNeg)).toNatClampNeg = (rlM (CCp h (fo1 h day q).toNatClampNeg)).length := by
                rw [g3 232 (by decide +kernel), t.2.2.2.1]
                exact on_k (by have := t.2.2.2.2; omega)
              have a := tel_ev (CCp h (fo1 h day q).toNatClampNeg) f _ _ r39 pc te (by rw [g3 231 (by decide +kernel)]; exact t.2.2.1) (by rw [l32]) t.1
              rw [a]
              refine evC_v (s := 2) (fun c hc => ?_) _ t.1
              rw [row, ei]
              unfold lM6
              rw [← show r26 = rkv (h_i h 221) (h_i h 222) (h_i h 223) (h_i h 224) x1 day q (h_i h 1 29).toNatClampNeg 0 (h_i h 204 x1.toNatClampNeg) (-1) by rw [e26, g 221 (by decide +kernel), g 222 (by decide +kernel), g 223 (by decide +kernel), g 224 (by decide +kernel), g 204 (by decide +kernel), (F2.2 1 29 (by decide +kernel)).1], g 205 (by decide +kernel)]
              rcases l6l hc with u | u | u | u | u | u <;> subst u
              · rw [show (99 : Int32).toNatClampNeg = 99 by simp, show (ixq 2 (xch 99)).toNatClampNeg = 0 by decide +kernel, up1_ne (by decide), up1_ne (by decide), up1_ne (by decide), up1_ne (by decide), up1_ne (by decide), up1_at]; rfl
              · rw [show (121 : Int32).toNatClampNeg = 121 by simp, show (ixq 2 (xch 121)).toNatClampNeg = 1 by decide +kernel, up1_ne (by decide), up1_ne (by decide), up1_ne (by decide), up1_ne (by decide), up1_at]; rfl
              · rw [show (109 : Int32).toNatClampNeg = 109 by simp, show (ixq 2 (xch 109)).toNatClampNeg = 2 by decide +kernel, up1_ne (by decide), up1_ne (by decide), up1_ne (by decide), up1_at]; rfl
              · rw [show (120 : Int32).toNatClampNeg = 120 by simp, show (ixq 2 (xch 120)).toNatClampNeg = 3 by decide +kernel, up1_ne (by decide), up1_ne (by decide), up1_at]; rfl
              · rw [show (116 : Int32).toNatClampNeg = 116 by simp, show (ixq 2 (xch 116)).toNatClampNeg = 4 by decide +kernel, up1_ne (by decide), up1_at]; rfl
              · rw [show (97 : Int32).toNatClampNeg = 97 by simp, show (ixq 2 (xch 97)).toNatClampNeg = 5 by decide +kernel, up1_at]; rfl
      · have z := q_nle z
        rw [(F2.2 1 80 (by decide +kernel)).1, on_j (by omega)] at z
        omega
    | succ t ih =>
      intro i h2 e I2 F2
      have oi := on_j (n := i) (by omega)
      have ki := on_k (n := i) (by omega)
      have vi : vp_in (Int32.ofNat i) 300 := on_in (by omega) (by decide)
      have g : ∀ a, off wzL a = true → h_i h2 a = h_i h a := fun a o => funext (fun k => fr_i F2 o k)
      have no : ¬ (h_i h 255 i = x1 ∧ h_i h 258 i = 3 ∧ h_i h 257 i / 1440 = day) → AW (m_X12_payOf (d + 7) 0 0) 0 0 128 [(0, .ref 1), (1, .int x1), (2, .int day), (3, .int q), (4, .int (cMt (h_i h 238) (h_i h 240) (ouM h q) x1 day (h_i h 1 63).toNatClampNeg)), (5, .int (cBl (h_i h 238) (h_i h 240) (caM_ h q) x1 day (h_i h 1 63).toNatClampNeg)), (6, .int (cTk (h_i h 255) (h_i h 258) (h_i h 257) (shM E b h q) x1 day 1 i)), (7, .int (cTk (h_i h 255) (h_i h 258) (h_i h 257) (shM E b h q) x1 day 0 i)), (8, .int (Int32.ofNat i + 1))] [] h2 (kI (fun r h' => Iv h' ∧ Fr wzL h h' ∧ r = wgMq E b h x1 day q)) := fun n => by
        have y := ih (i + 1) h2 (by omega) I2 F2
        rw [← on_s (by omega), show cTk (h_i h 255) (h_i h 258) (h_i h 257) (shM E b h q) x1 day 1 (i + 1) = cTk (h_i h 255) (h_i h 258) (h_i h 257) (shM E b h q) x1 day 1 i from cnq_n (fun u => n u.1), show cTk (h_i h 255) (h_i h 258) (h_i h 257) (shM E b h q) x1 day 0 (i + 1) = cTk (h_i h 255) (h_i h 258) (h_i h 257) (shM E b h q) x1 day 0 i from cnq_n (fun u => n u.1)] at y
        exact y
      refine t_X12_payOf_128 d h2 I2.1 _ _ _ _ _ _ _ _ _ ⟨fun z => ?_, fun _ => ⟨vi, ?_⟩⟩
      · have z := q_le.mp z
        rw [(F2.2 1 80 (by decide +kernel)).1, oi] at z
        omega
      · rw [ki, g 255 (by decide +kernel), g 257 (by decide +kernel), g 258 (by decide +kernel)]
        refine ⟨fun n => no (fun u => n u.1), fun c1 => ⟨vi, fun n => no (fun u => n u.2.2), fun c2 => ⟨vi, fun n => no (fun u => n u.2.1), fun c3 => Ci.mono (c_letM d I2 (PP F2) i (by omega) q) (fun r48 h46 k46 => ?_)⟩⟩⟩
        obtain ⟨I4, F4, e48⟩ := k46
        have e48 : r48 = shM E b h q i := by
          rw [e48, g 257 (by decide +kernel), g 261 (by decide +kernel)]
          rfl
        have y := ih (i + 1) h46 (by omega) I4 (F2.tr F4)
        rw [← on_s (by omega)] at y
        rw [e48]
        refine ⟨I4.1, fun n => ?_, fun o => ?_⟩
        · rw [show cTk (h_i h 255) (h_i h 258) (h_i h 257) (shM E b h q) x1 day 1 (i + 1) = cTk (h_i h 255) (h_i h 258) (h_i h 257) (shM E b h q) x1 day 1 i from cnq_n (fun u => n (u.2.mpr rfl)), show cTk (h_i h 255) (h_i h 258) (h_i h 257) (shM E b h q) x1 day 0 (i + 1) = cTk (h_i h 255) (h_i h 258) (h_i h 257) (shM E b h q) x1 day 0 i + 1 from cnq_y ⟨⟨c1, c3, c2⟩, fun u => absurd u n, fun u => absurd u (by decide)⟩] at y
          rw [Int32.add_zero]
          exact y
        · rw [show cTk (h_i h 255) (h_i h 258) (h_i h 257) (shM E b h q) x1 day 1 (i + 1) = cTk (h_i h 255) (h_i h 258) (h_i h 257) (shM E b h q) x1 day 1 i + 1 from cnq_y ⟨⟨c1, c3, c2⟩, fun _ => rfl, fun _ => o⟩, show cTk (h_i h 255) (h_i h 258) (h_i h 257) (shM E b h q) x1 day 0 (i + 1) = cTk (h_i h 255) (h_i h 258) (h_i h 257) (shM E b h q) x1 day 0 i from cnq_n (fun u => absurd (u.2.mp o) (by decide))] at y
          rw [Int32.add_zero]
          exact y
  -- the first loop: rows
  have l1 : ∀ (t i : Nat), i + t = (h_i h 1 63).toNatClampNeg → AW (m_X12_payOf (d + 7) 0 0) 0 0 9 [(0, .ref 1), (1, .int x1), (2, .int day), (3, .int q), (4, .int (cMt (h_i h 238) (h_i h 240) (ouM h q) x1 day i)), (5, .int (cBl (h_i h 238) (h_i h 240) (caM_ h q) x1 day i)), (6, .int (Int32.ofNat i))] [] h (kI (fun r h' => Iv h' ∧ Fr wzL h h' ∧ r = wgMq E b h x1 day q)) := by
    intro t
    induction t with
    | zero =>
      intro i e
      have ei : i = (h_i h 1 63).toNatClampNeg := by omega
      subst ei
      refine t_X12_payOf_9 d h I.1 _ _ _ _ _ _ _ ⟨fun _ => l2 (h_i h 1 80).toNatClampNeg 0 h (by omega) I (Fr.rf _ _), fun z => ?_⟩
      have z := q_nle z
      rw [on_j (by omega)] at z
      omega
    | succ t ih =>
      intro i e
      have oi := on_j (n := i) (by omega)
      have ki := on_k (n := i) (by omega)
      have vi : vp_in (Int32.ofNat i) 400 := on_in (by omega) (by decide)
      have y := ih (i + 1) (by omega)
      rw [← on_s (by omega)] at y
      have no : ¬ (h_i h 238 i = x1 ∧ h_i h 240 i / 1440 = day) → AW (m_X12_payOf (d + 7) 0 0) 0 0 9 [(0, .ref 1), (1, .int x1), (2, .int day), (3, .int q), (4, .int (cMt (h_i h 238) (h_i h 240) (ouM h q) x1 day i)), (5, .int (cBl (h_i h 238) (h_i h 240) (caM_ h q) x1 day i)), (6, .int (Int32.ofNat i + 1))] [] h (kI (fun r h' => Iv h' ∧ Fr wzL h h' ∧ r = wgMq E b h x1 day q)) := fun n => by
        rw [show cMt (h_i h 238) (h_i h 240) (ouM h q) x1 day (i + 1) = cMt (h_i h 238) (h_i h 240) (ouM h q) x1 day i from cnq_n (fun u => n u.1), show cBl (h_i h 238) (h_i h 240) (caM_ h q) x1 day (i + 1) = cBl (h_i h 238) (h_i h 240) (caM_ h q) x1 day i from cnq_n (fun u => n u.1)] at y
        exact y
      refine t_X12_payOf_9 d h I.1 _ _ _ _ _ _ _ ⟨fun z => ?_, fun _ => ⟨vi, ?_⟩⟩
      · have z := q_le.mp z
        rw [oi] at z
        omega
      · rw [ki]
        refine ⟨fun n => no (fun u => n u.1), fun c1 => ⟨vi, fun c2 => Ci.mono (c_soM d I _ q vi) (fun r8 h6 k6 => ?_), fun n => no (fun u => n u.2)⟩⟩
        obtain ⟨eh, e8⟩ := k6
        subst eh
        rw [ki] at e8
        have e8 : r8 = ouM h6 q i := e8
        rw [e8]
        -- what becomes of the two counts
        have st : ∀ (a m : Int32), (pMt (h_i h6 238) (h_i h6 240) (ouM h6 q) x1 day i → a = 1) → (¬ pMt (h_i h6 238) (h_i h6 240) (ouM h6 q) x1 day i → a = 0) → (pBl (h_i h6 238) (h_i h6 240) (caM_ h6 q) x1 day i → m = 1) → (¬ pBl (h_i h6 238) (h_i h6 240) (caM_ h6 q) x1 day i → m = 0) → AW (m_X12_payOf (d + 7) 0 0) 0 0 9 [(0, .ref 1), (1, .int x1), (2, .int day), (3, .int q), (4, .int (cMt (h_i h6 238) (h_i h6 240) (ouM h6 q) x1 day i + a)), (5, .int (cBl (h_i h6 238) (h_i h6 240) (caM_ h6 q) x1 day i + m)), (6, .int (Int32.ofNat i + 1))] [] h6 (kI (fun r h' => Iv h' ∧ Fr wzL h6 h' ∧ r = wgMq E b h6 x1 day q)) := fun a m a1 a0 m1 m0 => by
          have ea : cMt (h_i h6 238) (h_i h6 240) (ouM h6 q) x1 day (i + 1) = cMt (h_i h6 238) (h_i h6 240) (ouM h6 q) x1 day i + a := by
            by_cases z : pMt (h_i h6 238) (h_i h6 240) (ouM h6 q) x1 day i
            · rw [a1 z]; exact cnq_y z
            · rw [a0 z, Int32.add_zero]; exact cnq_n z
          have em : cBl (h_i h6 238) (h_i h6 240) (caM_ h6 q) x1 day (i + 1) = cBl (h_i h6 238) (h_i h6 240) (caM_ h6 q) x1 day i + m := by
            by_cases z : pBl (h_i h6 238) (h_i h6 240) (caM_ h6 q) x1 day i
            · rw [m1 z]; exact cnq_y z
            · rw [m0 z, Int32.add_zero]; exact cnq_n z
          rw [ea, em] at y
          exact y
        refine ⟨I.1, fun n2 => ?_, fun y2 => ?_⟩
        · have cm : caM_ h6 q i = -1 := if_neg n2
          have nb : ¬ pBl (h_i h6 238) (h_i h6 240) (caM_ h6 q) x1 day i := fun u => by
            have u2 := u.2
            rw [cm] at u2
            rcases u2 with z | z
            · exact absurd z (by decide)
            · exact absurd (by decide) z
          exact ⟨fun n1 => st 0 0 (fun u => absurd u.2 n1) (fun _ => rfl) (fun u => absurd u nb) (fun _ => rfl), fun y1 => st 1 0 (fun _ => rfl) (fun u => absurd ⟨⟨c1, c2⟩, y1⟩ u) (fun u => absurd u nb) (fun _ => rfl)⟩
        · refine Ci.mono (c_coM d I _ q vi) (fun r17 h15 k15 => ?_)
          obtain ⟨eh, e17⟩ := k15
          subst eh
          have cm : caM_ h15 q i = r17 := by rw [e17]; exact if_pos y2
          have n1 : ¬ ouM h15 q i = 1 := fun u => by rw [u] at y2; exact absurd y2 (by decide)
          have nm : ¬ pMt (h_i h15 238) (h_i h15 240) (ouM h15 q) x1 day i := fun u => n1 u.2
          have b1 : (r17 = 1 ∨ ¬ r17 < 5) → pBl (h_i h15 238) (h_i h15 240) (caM_ h15 q) x1 day i := fun u => ⟨⟨c1, c2⟩, by rw [cm]; exact u⟩
          have b0 : ¬ (r17 = 1 ∨ ¬ r17 < 5) → ¬ pBl (h_i h15 238) (h_i h15 240) (caM_ h15 q) x1 day i := fun n u => n (by have u2 := u.2; rw [cm] at u2; exact u2)
          refine ⟨I.1, fun _ => ⟨fun z => ?_, fun z => ⟨fun l => ?_, fun l => ?_⟩⟩, fun z => absurd z n1⟩
          · exact st 0 1 (fun u => absurd u nm) (fun _ => rfl) (fun _ => rfl) (fun u => absurd (b1 (Or.inl z)) u)
          · exact st 0 0 (fun u => absurd u nm) (fun _ => rfl) (fun u => absurd u (b0 (fun v => v.elim z (fun w => w l)))) (fun _ => rfl)
          · exact st 0 1 (fun u => absurd u nm) (fun _ => rfl) (fun _ => rfl) (fun u => absurd (b1 (Or.inr l)) u)
  exact t_X12_payOf d h x1 day q _ (l1 (h_i h 1 63).toNatClampNeg 0 (by omega))
/-! WAGES: both sides tell the same -/
def wgR : List Nat := [241, 242, 243, 245, 246, 247, 257, 261, 221, 222, 223, 224, 204, 205, 238, 240, 255, 258, 233, 234, 235, 44, 45, 231, 232]
theorem wgM_c {E : Enl} {b : Bl} {h h' : Hp_} (g : ∀ a ∈ wgR, h_i h' a = h_i h a) (f : ∀ k ∈ [29, 63, 64, 80], h_i h' 1 k = h_i h 1 k) (x1 day q : Int32) : wgMq E b h' x1 day q = wgMq E b h x1 day q := by
  have z : [44, 45, 231, 232].all (fun a => decide (a ∈ wgR)) = true := by decide
  have e1 : ouM h' q = ouM h q := by
    funext i
    unfold ouM
    rw [g 241 (by decide), g 242 (by decide)]
  have e2 : caM_ h' q = caM_ h q := by
    funext i
    unfold caM_ cauM
    rw [e1, g 245 (by decide), g 246 (by decide), g 247 (by decide), g 243 (by decide), f 64 (by decide)]
  have e3 : shM E b h' q = shM E b h q := by
    funext i
    unfold shM
    rw [g 257 (by decide), g 261 (by decide)]
  unfold wgMq lM6 fo1
  rw [e1, e2, e3, g 221 (by decide), g 222 (by decide), g 223 (by decide), g 224 (by decide), f 29 (by decide), f 63 (by decide), f 80 (by decide), g 204 (by decide), g 205 (by decide), g 238 (by decide), g 240 (by decide), g 255 (by decide), g 258 (by decide), g 257 (by decide), g 233 (by decide), g 234 (by decide), g 235 (by decide), CCp_r (fun a ha => g a (of_decide_eq_true (List.all_eq_true.mp z a ha)))]
theorem wgM_r {E : Enl} {b : Bl} {ws : List Nat} {h h' : Hp_} (f : Fr ws h h') (o : (wgR.all (fun a => off ws a) && [29, 63, 64, 80].all (fun k => !inw ws 1 k)) = true) (x1 day q : Int32) : wgMq E b h' x1 day q = wgMq E b h x1 day q := by
  rw [Bool.and_eq_true] at o
  refine wgM_c (fun a ha => funext (fun k => fr_i f (List.all_eq_true.mp o.1 a ha) k)) (fun k hk => ?_) x1 day q
  have z := List.all_eq_true.mp o.2 k hk
  rw [Bool.not_eq_true'] at z
  exact (f.2 1 k z).1
theorem wg_eq {h : Hp_} (I : Iv h) (x : ExM h) (K : ExK h) (C : ExC h) (W : ExWg h) (Nn : ExN h) {j : Nat} (hj : j < (h_i h 0 7).toNatClampNeg) (day q : Int32) : wgX (El h) h (401 + j) day q = wgMq (El h) (h_i h) h (Int32.ofNat j) day q := by
  have c14 := n14_in I
  have n14 := n_nat c14.1
  have m12 := Nn.1
  have rw_ := rwX_in I
  have r17 := (iq17 I).2
  have n17 := n_nat r17.1
  have kj : (Int32.ofNat j).toNatClampNeg = j := on_k (by omega)
  have fe : fo1 h day q = fob (h_i h 42) (h_i h 43) day q (h_i h 14 5).toNatClampNeg := by
    unfold fo1
    rw [W.1]
    exact fob_c _ (by omega) (fun k hk => W.2.1 k hk)
  have fb := fob_b (h_i h 42) (h_i h 43) day q (h_i h 14 5).toNatClampNeg (by omega)
  have e0 : h_i h (401 + j) 0 = Int32.ofNat j := (x.2.2.1 j hj).2.1
  have e1 : h_i h (401 + j) 1 = h_i h 204 j := K.2.2.2.2.2.2.1 j hj
  have e29 : h_i h 1 29 = h_i h 21 4 := K.1.2.2.2.1
  have e63 : h_i h 16 7 = h_i h 1 63 := x.1.2.2.1
  have e80 : h_i h 1 80 = h_i h 17 16 := K.1.1
  have rows : ∀ i, i < (h_i h 16 7).toNatClampNeg → ouX h q i = ouM h q i ∧ caX_ h q i = caM_ h q i ∧ h_i h 47 i = h_i h 238 i ∧ h_i h 49 i = h_i h 240 i := fun i hi => by
    have s := x.2.2.2.2.1 i hi
    have ki : (Int32.ofNat i).toNatClampNeg = i := on_k (by omega)
    have ce := cau_eq x C (Int32.ofNat i) q (by rw [ki]; exact hi)
    rw [ki] at ce
    exact ⟨stt_o q s.1, ce, s.2.1.1, s.2.1.2.2.1⟩
  have sig : ∀ i, i < (h_i h 17 16).toNatClampNeg → shX (El h) h q i = shM (El h) (h_i h) h q i ∧ h_i h 64 i = h_i h 255 i ∧ h_i h 67 i = h_i h 258 i ∧ h_i h 66 i = h_i h 257 i := fun i hi => by
    have s := K.2.2.1 i hi
    refine ⟨?_, s.1.1.symm, s.1.2.2.2.1.symm, s.1.2.2.1.symm⟩
    unfold shX shM
    rw [s.1.2.2.1]
    exact evB_c (n13_in I) (fun k hk => (K.gd hk).1) (fun t ht => (s.2 t ht).symm)
  unfold wgX wgMq
  refine congrArg clp (wgV_c fe.symm ?_ (fun t ht => ?_))
  · rcases fb with z | z
    · exact Or.inl z
    · have nz := n_nat z.1
      exact Or.inr ⟨z.1, (W.gd (by omega)).1⟩
  · unfold lX6 lM6
    rw [e0, e1, kj, e29, ← e63, e80, Nn.2.2.2 j hj]
    have a21 := I.2.1 21 4
    rw [show tf 21 4 = (0, 40) by decide +kernel] at a21
    have p21 : (h_i h 21 4).toInt ≤ 40 := a21.2
    have n21 := n_nat a21.1
    have w0 : rkv (h_i h 104) (h_i h 105) (h_i h 106) (h_i h 107) (Int32.ofNat j) day q (h_i h 21 4).toNatClampNeg 0 (h_i h 204 j) (-1) = rkv (h_i h 221) (h_i h 222) (h_i h 223) (h_i h 224) (Int32.ofNat j) day q (h_i h 21 4).toNatClampNeg 0 (h_i h 204 j) (-1) := rkv_eq K.2.2.2.2.1 _ _ _ _ (by omega)
    have w2 : cMt (h_i h 47) (h_i h 49) (ouX h q) (Int32.ofNat j) day (h_i h 16 7).toNatClampNeg = cMt (h_i h 238) (h_i h 240) (ouM h q) (Int32.ofNat j) day (h_i h 16 7).toNatClampNeg := cnq_c _ (fun i hi => by
      have r := rows i hi
      unfold pMt
      rw [r.1, r.2.2.1, r.2.2.2])
    have w3 : cBl (h_i h 47) (h_i h 49) (caX_ h q) (Int32.ofNat j) day (h_i h 16 7).toNatClampNeg = cBl (h_i h 238) (h_i h 240) (caM_ h q) (Int32.ofNat j) day (h_i h 16 7).toNatClampNeg := cnq_c _ (fun i hi => by
      have r := rows i hi
      unfold pBl
      rw [r.2.1, r.2.2.1, r.2.2.2])
    have w4 : ∀ x5, cTk (h_i h 64) (h_i h 67) (h_i h 66) (shX (El h) h q) (Int32.ofNat j) day x5 (h_i h 17 16).toNatClampNeg = cTk (h_i h 255) (h_i h 258) (h_i h 257) (shM (El h) (h_i h) h q) (Int32.ofNat j) day x5 (h_i h 17 16).toNatClampNeg := fun x5 => cnq_c _ (fun i hi => by
      have r := sig i hi
      unfold pTkq
      rw [r.1, r.2.1, r.2.2.1, r.2.2.2])
    rw [w0, w2, w3, w4, w4]
end
