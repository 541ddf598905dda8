/-! what a read sum or condition leaves -/
abbrev pd (h : Hp_) : Int := (h_i h 1 35).toInt
abbrev ps (h : Hp_) : Int := (h_i h 1 36).toInt
abbrev sN (h : Hp_) : Nat := (h_i h 1 36).toNatClampNeg
def Pq (h : Hp_) : Prop := h_i h 1 34 = -1 ∧ pa h ≤ pz h ∧ pd h ≤ 6 ∧ ps h ≤ 3 * pa h + 4
def Pe (s : Nat) (h h' : Hp_) : Prop := Iv h' ∧ Fr wzp h h' ∧ pd h' = pd h ∧ pa h ≤ pa h' ∧ (∀ k, k < sN h → h_i h' 226 k = h_i h 226 k) ∧ ps h ≤ ps h' ∧
  (h_i h' 1 34 = -1 → pa h' ≤ pz h ∧ pa h < pa h' ∧ ps h' ≤ ps h + 2 * (pa h' - pa h) ∧ ∃ K : Nat, (K : Int) ≤ pa h' - pa h ∧ PR s (h_i h' 226) (sN h) (sN h') K) ∧
  (¬ h_i h' 1 34 = -1 → pa h' + pd h ≤ pz h + 7 ∧ ps h' ≤ ps h + 2 * (pa h' - pa h) + 2)
theorem ps_in {h : Hp_} (I : Iv h) : rin (ps h) (0, 559) := by
  have := I.2.1 1 36
  rwa [show tf 1 36 = (0, 559) by decide +kernel] at this
theorem sN_i {h : Hp_} (I : Iv h) : (sN h : Int) = ps h := n_nat (ps_in I).1
theorem zf {ws : List Nat} {h h' : Hp_} (f : Fr ws h h') (o : inw ws 1 32 = false) : pz h' = pz h := by show (h_i h' 1 32).toInt = _; rw [(f.2 1 32 o).1]
/-- one operand more and its sign -/
theorem Pe.op {s : Nat} {h h2 h6 h9 h12 : Hp_} {x : Int32} (P : Pe s h h2) (w2 : h_i h2 1 34 = -1) (I2 : Iv h) (I6 : Iv h6) (F6 : Fr [1033] h2 h6) (a6 : pa h2 + 1 ≤ pa h6) (Q : Pe s h6 h9)
    (S : Iv h12 ∧ Fr [1036, 226999] h9 h12 ∧ (h_i h12 1 36).toInt = (h_i h9 1 36).toInt + 1 ∧ h_i h12 226 (h_i h9 1 36).toNatClampNeg = x ∧ ∀ k, k ≠ (h_i h9 1 36).toNatClampNeg → h_i h12 226 k = h_i h9 226 k) (hx : opc x = true) : Pe s h h12 := by
  obtain ⟨p1, p2, p3, p4, p5, p6, p7, p8⟩ := P
  obtain ⟨q1, q2, q3, q4, q5, q6, q7, q8⟩ := Q
  obtain ⟨s1, s2, s3, s4, s5⟩ := S
  obtain ⟨r1, r2, r3, K1, r4, r5⟩ := p7 w2
  have f35 : pd h6 = pd h2 := by show (h_i h6 1 35).toInt = _; rw [(F6.2 1 35 (by decide +kernel)).1]
  have f36 : h_i h6 1 36 = h_i h2 1 36 := (F6.2 1 36 (by decide +kernel)).1
  have f226 : ∀ k, h_i h6 226 k = h_i h2 226 k := fun k => fr_i F6 (by decide +kernel) k
  have z2 := zf p2 (by decide +kernel)
  have z6 := zf F6 (by decide +kernel)
  have e33 : pa h12 = pa h9 := by show (h_i h12 1 33).toInt = _; rw [(s2.2 1 33 (by decide +kernel)).1]
  have e34 : h_i h12 1 34 = h_i h9 1 34 := (s2.2 1 34 (by decide +kernel)).1
  have e35 : pd h12 = pd h9 := by show (h_i h12 1 35).toInt = _; rw [(s2.2 1 35 (by decide +kernel)).1]
  have e36 : ps h12 = ps h9 + 1 := s3
  have ps6 : ps h6 = ps h2 := by show (h_i h6 1 36).toInt = _; rw [f36]
  have sn6 : sN h6 = sN h2 := by show (h_i h6 1 36).toNatClampNeg = _; rw [f36]
  have n2 := sN_i p1
  have n9 := sN_i q1
  have n12 := sN_i s1
  have n0 := sN_i I2
  have sn12 : sN h12 = sN h9 + 1 := by omega
  refine ⟨s1, ((p2.tr (F6.more (by decide +kernel))).tr q2).tr (s2.more (by decide +kernel)), by omega, by omega, fun k hk => ?_, by omega, fun w => ?_, fun w => ?_⟩
  · rw [s5 k (by show k ≠ sN h9; omega), q5 k (by omega), f226, p5 k hk]
  · rw [e34] at w
    obtain ⟨t1, t2, t3, K2, t4, t5⟩ := q7 w
    refine ⟨by omega, by omega, by omega, max K1 (K2 + 1), by omega, ?_⟩
    rw [sn12]
    refine PR.bin (j := sN h2) (PR.same (fun k a b => ?_) r5) (m := sN h9) (k2 := K2) (PR.same (fun k a b => ?_) (by rw [← sn6]; exact t5)) (by rw [show h_i h12 226 (sN h9) = x from s4]; exact hx) (by omega) (by omega)
    · rw [s5 k (by show k ≠ sN h9; omega), q5 k (by omega), f226]
    · rw [s5 k (by show k ≠ sN h9; omega)]
  · rw [e34] at w
    obtain ⟨t1, t2⟩ := q8 w
    exact ⟨by omega, by omega⟩
/-- a look behind what was read -/
theorem Pe.lk {s : Nat} {h h2 h5 : Hp_} {r : Int32} (P : Pe s h h2) (I : Iv h) (L : Lk h2 r h5) : Pe s h h5 := by
  obtain ⟨p1, p2, p3, p4, p5, p6, p7, p8⟩ := P
  obtain ⟨l1, l2, l3, l4, l5⟩ := L
  have z2 := zf p2 (by decide +kernel)
  have e34 : h_i h5 1 34 = h_i h2 1 34 := (l2.2 1 34 (by decide +kernel)).1
  have e35 : pd h5 = pd h2 := by show (h_i h5 1 35).toInt = _; rw [(l2.2 1 35 (by decide +kernel)).1]
  have e36 : h_i h5 1 36 = h_i h2 1 36 := (l2.2 1 36 (by decide +kernel)).1
  have p36 : ps h5 = ps h2 := by show (h_i h5 1 36).toInt = _; rw [e36]
  have n36 : sN h5 = sN h2 := by show (h_i h5 1 36).toNatClampNeg = _; rw [e36]
  have f226 : h_i h5 226 = h_i h2 226 := funext (fun k => fr_i l2 (by decide +kernel) k)
  refine ⟨l1, p2.tr (l2.more (by decide +kernel)), by omega, by omega, fun k hk => by rw [f226]; exact p5 k hk, by omega, fun w => ?_, fun w => ?_⟩
  · rw [e34] at w
    obtain ⟨t1, t2, t3, K, t4, t5⟩ := p7 w
    refine ⟨by omega, by omega, by omega, K, by omega, ?_⟩
    rw [n36, f226]; exact t5
  · rw [e34] at w
    obtain ⟨t1, t2⟩ := p8 w
    have d0 : 0 ≤ pd h := (dp_in7 I).1
    have d7 : pd h ≤ 7 := (dp_in7 I).2
    exact ⟨by omega, by omega⟩
