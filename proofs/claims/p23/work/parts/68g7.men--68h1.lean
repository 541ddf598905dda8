section
/-! MEN: draw and ill -/
theorem dp_ev {cz : Int32} {M : Nat → Int32} : ∀ e ∈ (fDp cz M).2, e.1 = 1 ∨ e.1 = 2 := fun e he => by
  unfold fDp at he
  split at he
  · rw [(List.mem_replicate.mp he).2]
    exact Or.inr rfl
  · cases he
theorem dp_le {cz : Int32} {M : Nat → Int32} {w : Int32 → Int32 → Int32} {BL : Nat → List Sp3} {nb rw : Nat} (K : Km w BL nb rw M) (r4 : rw ≤ 400) : (fDp cz M).2 = [] ∨ (M 4 = 1 ∧ (M 11).toInt + ((fDp cz M).2.length : Int) ≤ (M 12).toInt) := by
  by_cases e : M 4 = 1
  · obtain ⟨i, x, L, q1, q2, q3⟩ := K.2 e
    have a := q3.2.2.1
    have b := q3.2.2.2.1
    have c := q3.2.2.2.2
    have s : (M 12 - M 11).toInt = (M 12).toInt - (M 11).toInt := tx_sub (by omega) (by omega)
    have n := n_nat (x := M 12 - M 11) (by omega)
    refine Or.inr ⟨e, ?_⟩
    unfold fDp
    rw [if_pos e]
    show _ + ((List.replicate (M 12 - M 11).toNatClampNeg ((2, cz) : Ev2)).length : Int) ≤ _
    rw [List.length_replicate]
    omega
  · refine Or.inl ?_
    unfold fDp
    rw [if_neg e]
theorem fHome_4 {n : Int32} {w : Int32 → Int32 → Int32} {M : Nat → Int32} : ¬ fHome n w M 4 = 1 := by
  unfold fHome
  split
  · exact fun e => absurd (show (2 : Int32) = 1 from e) (by decide)
  · exact fun e => absurd (show (0 : Int32) = 1 from e) (by decide)
theorem fDr_4 {n : Int32} {w : Int32 → Int32 → Int32} {M : Nat → Int32} (e4 : M 4 = 3) : ¬ fDr n w M 4 = 1 := by
  unfold fDr
  split
  · exact fun e => absurd (e4.symm.trans (show M 4 = 1 from e)) (by decide)
  · split
    · exact fun e => absurd (e4.symm.trans (show M 4 = 1 from e)) (by decide)
    · exact fHome_4
theorem fDw_4 {n : Int32} {w : Int32 → Int32 → Int32} {x2 x3 : Int32} {M : Nat → Int32} : ¬ (fDw n w x2 x3 M).1 4 = 1 := by
  unfold fDw
  show ¬ (if (fDp 3 M).1 6 = -1 then _ else _ : Nat → Int32) 4 = 1
  split
  · exact fDr_4 rfl
  · exact fun e => absurd (show (3 : Int32) = 1 from e) (by decide)
theorem fDw_0 {n : Int32} {w : Int32 → Int32 → Int32} {x2 x3 : Int32} {M : Nat → Int32} : (fDw n w x2 x3 M).1 0 = M 0 := by
  unfold fDw
  show (if (fDp 3 M).1 6 = -1 then _ else _ : Nat → Int32) 0 = M 0
  split
  · refine ((Rk.dr (m := 0)).1 0 (by decide)).trans ?_
    show (fDp 3 M).1 0 = M 0
    exact fDp_k (by decide) (by decide) (by decide)
  · show (fDp 3 M).1 0 = M 0
    exact fDp_k (by decide) (by decide) (by decide)
theorem km_dw {n : Int32} {w : Int32 → Int32 → Int32} {BL : Nat → List Sp3} {nb rw : Nat} {x2 x3 : Int32} {M : Nat → Int32} (W : WOk w) (K : Km w BL nb rw M) (p2 : 0 ≤ x2.toInt ∧ x2.toInt ≤ 15) (c2 : ¬ w (M 3) x2 = -1) : Km w BL nb rw (fDw n w x2 x3 M).1 := by
  have d3 : (fDp 3 M).1 3 = M 3 := fDp_k (by decide) (by decide) (by decide)
  have d5 : (fDp 3 M).1 5 = M 5 := fDp_k (by decide) (by decide) (by decide)
  have d6 : (fDp 3 M).1 6 = M 6 := fDp_k (by decide) (by decide) (by decide)
  obtain ⟨⟨a3, a5, a6, _, _, _, _, al⟩, _⟩ := K
  unfold fDw
  show Km w BL nb rw (if (fDp 3 M).1 6 = -1 then _ else _)
  by_cases c : (fDp 3 M).1 6 = -1
  · rw [if_pos c]
    rw [d6] at c
    rw [if_pos c] at al
    refine km_dr W ?_ ?_ ?_ rfl ?_ p2 ?_
    · show 0 ≤ ((fDp 3 M).1 3).toInt ∧ ((fDp 3 M).1 3).toInt ≤ 15
      rw [d3]
      exact a3
    · show (fDp 3 M).1 6 = -1
      rw [d6]
      exact c
    · show 0 ≤ ((fDp 3 M).1 5).toInt
      rw [d5]
      exact a5 c
    · show ¬ w ((fDp 3 M).1 3) ((fDp 3 M).1 5) = -1
      rw [d3, d5]
      exact al
    · show ¬ w ((fDp 3 M).1 3) x2 = -1
      rw [d3]
      exact c2
  · rw [if_neg c]
    rw [d6] at c
    rw [if_neg c] at al
    refine ⟨⟨?_, fun e => ?_, fun _ => ?_, fun e => absurd (show (3 : Int32) = 0 from e) (by decide), fun e => absurd (show (3 : Int32) = 4 from e) (by decide), fun e => absurd (show (3 : Int32) = 2 from e) (by decide), fun _ => ⟨p2, ?_, fun e => ?_⟩, ?_⟩, fun e => absurd (show (3 : Int32) = 1 from e) (by decide)⟩
    · show 0 ≤ ((fDp 3 M).1 3).toInt ∧ ((fDp 3 M).1 3).toInt ≤ 15
      rw [d3]
      exact a3
    · exact absurd (d6.symm.trans (show (fDp 3 M).1 6 = -1 from e)) c
    · show 0 ≤ ((fDp 3 M).1 6).toInt
      rw [d6]
      exact a6 c
    · show ¬ w ((fDp 3 M).1 3) x2 = -1
      rw [d3]
      exact c2
    · exact absurd (d6.symm.trans (show (fDp 3 M).1 6 = -1 from e)) c
    · show ¬ w ((fDp 3 M).1 3) (if (fDp 3 M).1 6 = -1 then (fDp 3 M).1 5 else (fDp 3 M).1 6) = -1
      rw [d6, if_neg c, d3]
      exact al
theorem km_il {w : Int32 → Int32 → Int32} {BL : Nat → List Sp3} {nb rw : Nat} {M : Nat → Int32} (W : WOk w) (K : Km w BL nb rw M) : Km w BL nb rw (fIl M).1 := by
  have d3 : (fDp 4 M).1 3 = M 3 := fDp_k (by decide) (by decide) (by decide)
  have a3 := K.1.1
  unfold fIl
  refine ⟨⟨?_, fun _ => ?_, fun e => absurd rfl e, fun e => absurd (show (4 : Int32) = 0 from e) (by decide), fun _ => ⟨rfl, ?_⟩, fun e => absurd (show (4 : Int32) = 2 from e) (by decide), fun e => absurd (show (4 : Int32) = 3 from e) (by decide), ?_⟩, fun e => absurd (show (4 : Int32) = 1 from e) (by decide)⟩
  · show 0 ≤ ((fDp 4 M).1 3).toInt ∧ ((fDp 4 M).1 3).toInt ≤ 15
    rw [d3]
    exact a3
  · exact a3.1
  · exact d3.symm
  · show ¬ w ((fDp 4 M).1 3) (if (-1 : Int32) = -1 then M 3 else -1) = -1
    rw [d3, if_pos rfl]
    exact W.2.1 _ a3
theorem km_fr {w : Int32 → Int32 → Int32} {BL : Nat → List Sp3} {nb rw : Nat} {M : Nat → Int32} (K : Km w BL nb rw M) (e4 : M 4 = 4) : Km w BL nb rw (fFree M) := by
  obtain ⟨a3, a5, a6, a0, a4, a2, aw, al⟩ := K.1
  have e6 := (a4 e4).1
  exact ⟨⟨a3, a5, a6, fun _ => ⟨e6, rfl⟩, fun e => absurd (show (0 : Int32) = 4 from e) (by decide), fun e => absurd (show (0 : Int32) = 2 from e) (by decide), fun e => absurd (show (0 : Int32) = 3 from e) (by decide), al⟩, fun e => absurd (show (0 : Int32) = 1 from e) (by decide)⟩
theorem rwX_in {h : Hp_} (I : Iv h) : (h_i h 16 7).toNatClampNeg ≤ 400 ∧ (((h_i h 16 7).toNatClampNeg : Nat) : Int) = (h_i h 16 7).toInt := by
  have rg := I.2.1 16 7
  rw [show tf 16 7 = (0, 400) by decide +kernel] at rg
  have a : 0 ≤ (h_i h 16 7).toInt := rg.1
  have b : (h_i h 16 7).toInt ≤ 400 := rg.2
  have n := n_nat a
  omega
/-- a man of the reference, as the class has him -/
theorem ExM.rp {h h1 : Hp_} (I : Iv h) (x : ExM h) (f : Fr wMx h h1) {x1 : Int32} (y : isN h1 x1) : (x1.toNatClampNeg < (h_i h 0 7).toNatClampNeg ∧ isM h x1) ∧ RMp x1.toNatClampNeg (h_i h (401 + x1.toNatClampNeg)) h1 ∧ h_i h (401 + x1.toNatClampNeg) 0 = x1 ∧ Km (wI h) (bL h) (h_i h 12 3).toNatClampNeg (h_i h 16 7).toNatClampNeg (h_i h (401 + x1.toNatClampNeg)) ∧ Opn h1 (h_i h (401 + x1.toNatClampNeg)) := by
  obtain ⟨y1, y2⟩ := y
  rw [(f.2 1 7 (by decide +kernel)).1, ← x.1.1] at y2
  have mm := menX_in I
  have nm := n_nat mm.1
  have nx := n_nat y1
  have hj : x1.toNatClampNeg < (h_i h 0 7).toNatClampNeg := by omega
  obtain ⟨K, e0, O⟩ := x.2.2.1 x1.toNatClampNeg hj
  have rr := rwX_in I
  refine ⟨⟨hj, y1, y2⟩, (x.2.2.2.1 _ hj).cg (fun a ha => fr_i f (List.all_eq_true.mp (show (206 :: mrL).all (fun a => off wMx a) = true by decide +kernel) a ha) _), e0.trans (on_of ⟨y1, by omega⟩), K, fun e4 => ?_⟩
  obtain ⟨i, q, L, q1, q2, q3⟩ := K.2 e4
  have q11 : 0 ≤ (h_i h (401 + x1.toNatClampNeg) 11).toInt := q3.2.2.1
  have qs : (h_i h (401 + x1.toNatClampNeg) 11).toInt + ((_ : Nat) : Int) = (h_i h (401 + x1.toNatClampNeg) 12).toInt := q3.2.2.2.1
  have q12 : (h_i h (401 + x1.toNatClampNeg) 12).toInt ≤ ((h_i h 16 7).toNatClampNeg : Int) := q3.2.2.2.2
  refine ⟨q11, by omega, by omega, fun k k1 k2 => ?_⟩
  have o := (O e4 k k1 k2).1
  have s := (x.2.2.2.2.1 k (by omega)).1
  rw [show h_i h 51 k = 0 from o] at s
  rw [fr_i f (by decide +kernel), fr_i f (by decide +kernel)]
  rcases s with s | s | s
  · exact s.2
  · exact absurd s.1 (by decide)
  · exact absurd s.1 (by decide)
theorem ExM.rk {h : Hp_} (I : Iv h) (x : ExM h) {x1 : Int32} (y : isM h x1) : (x1.toNatClampNeg < (h_i h 0 7).toNatClampNeg) ∧ (h_i h (401 + x1.toNatClampNeg) 4 = 1 → Rok h (h_i h (401 + x1.toNatClampNeg)) 0) := by
  have nm := n_nat (menX_in I).1
  have nx := n_nat y.1
  have hj : x1.toNatClampNeg < (h_i h 0 7).toNatClampNeg := by have := y.2; omega
  have rr := rwX_in I
  refine ⟨hj, fun e4 => ?_⟩
  obtain ⟨i, q, L, q1, q2, q3⟩ := (x.2.2.1 _ hj).1.2 e4
  have q11 : 0 ≤ (h_i h (401 + x1.toNatClampNeg) 11).toInt := q3.2.2.1
  have qs : (h_i h (401 + x1.toNatClampNeg) 11).toInt + ((_ : Nat) : Int) = (h_i h (401 + x1.toNatClampNeg) 12).toInt := q3.2.2.2.1
  have q12 : (h_i h (401 + x1.toNatClampNeg) 12).toInt ≤ ((h_i h 16 7).toNatClampNeg : Int) := q3.2.2.2.2
  exact ⟨q11, by show _ + ((0 : Nat) : Int) ≤ _; omega, by omega⟩
def DxX (x1 x2 x3 : Int32) (h : Hp_) (r : Int32) (h' : Hp_) : Prop := ((isM h x1 ∧ okDw h (h_i h (401 + x1.toNatClampNeg)) x2 x3) → r = 1 ∧ Sxm PU (401 + x1.toNatClampNeg) (h_i h 0 0) (fDw (h_i h 0 0) (wI h) x2 x3 (h_i h (401 + x1.toNatClampNeg))).1 (h_i h (401 + x1.toNatClampNeg) 11).toNatClampNeg (fDw (h_i h 0 0) (wI h) x2 x3 (h_i h (401 + x1.toNatClampNeg))).2 () h h') ∧ (¬ (isM h x1 ∧ okDw h (h_i h (401 + x1.toNatClampNeg)) x2 x3) → r = 0 ∧ h' = h)
theorem c_dwX (d : Nat) {h : Hp_} (I : Iv h) (x : ExM h) (x1 x2 x3 : Int32) : Ci (m_X11_draw (d + 5) 0 0) [.ref 0, .int x1, .int x2, .int x3] h (fun r h' => Iv h' ∧ Fr wMx h h' ∧ DxX x1 x2 x3 h r h') := by
  refine Ci.mono (c_dw pbU d I x.2.1 (b := ()) trivial x1 x2 x3 (fun y => (x.rk I y).2)) (fun r h' k => ?_)
  by_cases c : isM h x1 ∧ okDw h (h_i h (401 + x1.toNatClampNeg)) x2 x3
  · have z := k.1 c
    have hj := (x.rk I c.1).1
    have m12 := x.1.2.2.2
    exact ⟨z.2.1, gw_fr z.2.2.1 (by omega) (by omega) (by decide +kernel) (fun k => inw_row (by decide +kernel) k) (by decide +kernel), fun _ => z, fun n => absurd c n⟩
  · have z := k.2 c
    rw [z.2]
    exact ⟨I, Fr.rf _ _, fun n => absurd n c, fun _ => ⟨z.1, rfl⟩⟩
theorem isN_M {h h1 : Hp_} (x : ExM h) (f : Fr wMx h h1) {x1 : Int32} : isN h1 x1 ↔ isM h x1 := by
  unfold isN isM
  rw [(f.2 1 7 (by decide +kernel)).1, ← x.1.1]
theorem c_dwM (d : Nat) {h h1 : Hp_} (I1 : Iv h1) (I : Iv h) (x : ExM h) (R : ExR h) (f : Fr wMx h h1) (x1 x2 x3 : Int32) : Ci (m_X12_draw (d + 5) 0 0) [.ref 1, .int x1, .int x2, .int x3] h1 (DwP PU (fun _ _ b => b) x1 x2 x3 (h_i h (401 + x1.toNatClampNeg)) () h1) := by
  have R1 : ExP h1 := R.2.fr f (by decide +kernel)
  refine m_dw pmU d I1 R1 x1 x2 x3 (b := ()) trivial (h_i h (401 + x1.toNatClampNeg)) (fun y => ?_)
  obtain ⟨_, q1, q2, q3, q4⟩ := x.rp I f y
  have ew : wI h1 = wI h := wI_cg (funext (fun k => fr_i f (by decide +kernel) k))
  refine ⟨q1, q2, q3.1.2.1, q4, fun q e6 a => ?_⟩
  have al := q3.1.2.2.2.2.2.2.2
  rw [if_pos e6] at al
  rw [ew] at a ⊢
  exact (wok I R.2).2.2.2.1 _ _ _ al a
theorem ExM.dw {h h1 h2 : Hp_} {x1 x2 x3 r1 r2 : Int32} (I : Iv h) (x : ExM h) (R : ExR h) (f : Fr wMx h h1) (k1 : DxX x1 x2 x3 h r1 h1) (k2 : DwP PU (fun _ _ b => b) x1 x2 x3 (h_i h (401 + x1.toNatClampNeg)) () h1 r2 h2) : Iv h2 ∧ Fr mwR h1 h2 ∧ ExM h2 ∧ r1 = r2 := by
  have ew : wI h1 = wI h := wI_cg (funext (fun k => fr_i f (by decide +kernel) k))
  have e10 : h_i h1 1 0 = h_i h 0 0 := ((f.2 1 0 (by decide +kernel)).1).trans x.1.2.1.symm
  have pn : 0 ≤ (h_i h 0 0).toInt := by
    have rg := I.2.1 0 0
    rw [show tf 0 0 = (0, 20000) by decide +kernel] at rg
    exact rg.1
  unfold DwP at k2
  rw [e10, ew] at k2
  have ok : (isN h1 x1 ∧ (0 ≤ x2 ∧ x2 ≤ 15) ∧ (h_i h 0 0 ≤ x3 ∧ x3 ≤ 30000) ∧ ¬ wI h (h_i h (401 + x1.toNatClampNeg) 3) x2 = -1 ∧ ¬ h_i h (401 + x1.toNatClampNeg) 4 = 3 ∧ ¬ h_i h (401 + x1.toNatClampNeg) 4 = 4) ↔ (isM h x1 ∧ okDw h (h_i h (401 + x1.toNatClampNeg)) x2 x3) := by
    unfold okDw
    rw [isN_M x f, p15]
  rw [ok] at k2
  by_cases c : isM h x1 ∧ okDw h (h_i h (401 + x1.toNatClampNeg)) x2 x3
  · have z1 := k1.1 c
    have z2 := k2.1 c
    have hj := (x.rk I c.1).1
    have K := (x.2.2.1 _ hj).1
    have p2 := c.2.1
    have t16 : (16 : Int32).toInt = 16 := rfl
    have t0 : (0 : Int32).toInt = 0 := rfl
    have u1 := q_le.mp p2.1
    have u2 := q_lt.mp p2.2
    have z := x.ev hj z1.2 z2.2 (km_dw (wok I R.2) K ⟨by omega, by omega⟩ c.2.2.2.1) fDw_0 (dp_le (cz := 3) K (rwX_in I).1) fDw_4 dp_ev pn rfl
    exact ⟨z2.2.1, z.2.1, z.2.2, z1.1.trans z2.1.symm⟩
  · have z1 := k1.2 c
    have z2 := k2.2 c
    have e := z1.2
    subst e
    exact ⟨z2.2.1, z2.2.2.more (by decide +kernel), x.fr z2.2.2 (by decide +kernel), z1.1.trans z2.1.symm⟩
/-! MEN: ill -/
def IxX (x1 x2 : Int32) (h : Hp_) (r : Int32) (h' : Hp_) : Prop := ((isM h x1 ∧ ¬ h_i h (401 + x1.toNatClampNeg) 4 = 4 ∧ x2 = 1) → r = 1 ∧ Sxm PU (401 + x1.toNatClampNeg) (h_i h 0 0) (fIl (h_i h (401 + x1.toNatClampNeg))).1 (h_i h (401 + x1.toNatClampNeg) 11).toNatClampNeg (fIl (h_i h (401 + x1.toNatClampNeg))).2 () h h') ∧ ((isM h x1 ∧ h_i h (401 + x1.toNatClampNeg) 4 = 4 ∧ x2 = 0) → r = 1 ∧ Sxm PU (401 + x1.toNatClampNeg) (h_i h 0 0) (fFree (h_i h (401 + x1.toNatClampNeg))) (h_i h (401 + x1.toNatClampNeg) 11).toNatClampNeg [] () h h') ∧ (¬ (isM h x1 ∧ ((¬ h_i h (401 + x1.toNatClampNeg) 4 = 4 ∧ x2 = 1) ∨ (h_i h (401 + x1.toNatClampNeg) 4 = 4 ∧ x2 = 0))) → r = 0 ∧ h' = h)
theorem sx_fr {h h' : Hp_} {j : Nat} {n : Int32} {M' : Nat → Int32} {r : Nat} {E : List Ev2} (hj : j < 12) (z : Sxm PU (401 + j) n M' r E () h h') : Fr wMx h h' := gw_fr z.2.1 (by omega) (by omega) (by decide +kernel) (fun k => inw_row (by decide +kernel) k) (by decide +kernel)
theorem il_cs {P Q : Prop} {x2 : Int32} (b2 : x2 = 0 ∨ x2 = 1) : (P ∧ ¬ Q ∧ x2 = 1) ∨ (P ∧ Q ∧ x2 = 0) ∨ ¬ (P ∧ ((¬ Q ∧ x2 = 1) ∨ (Q ∧ x2 = 0))) := by
  by_cases p : P
  · by_cases q : Q
    · rcases b2 with e | e
      · exact Or.inr (Or.inl ⟨p, q, e⟩)
      · exact Or.inr (Or.inr (fun y => y.2.elim (fun z => z.1 q) (fun z => absurd (e.symm.trans z.2) (by decide))))
    · rcases b2 with e | e
      · exact Or.inr (Or.inr (fun y => y.2.elim (fun z => absurd (e.symm.trans z.2) (by decide)) (fun z => q z.1)))
      · exact Or.inl ⟨p, q, e⟩
  · exact Or.inr (Or.inr (fun y => p y.1))
theorem c_ilX (d : Nat) {h : Hp_} (I : Iv h) (x : ExM h) (x1 x2 : Int32) (b2 : x2 = 0 ∨ x2 = 1) : Ci (m_X11_ill (d + 3) 0 0) [.ref 0, .int x1, .int x2] h (fun r h' => Iv h' ∧ Fr wMx h h' ∧ IxX x1 x2 h r h') := by
  have m12 := x.1.2.2.2
  refine Ci.mono (c_il pbU d I x.2.1 (b := ()) trivial x1 x2 b2 (fun y => (x.rk I y).2)) (fun r h' k => ?_)
  rcases il_cs (P := isM h x1) (Q := h_i h (401 + x1.toNatClampNeg) 4 = 4) b2 with c | c | c
  · have z := k.1 c
    have hj := (x.rk I c.1).1
    exact ⟨z.2.1, sx_fr (by omega) z.2, k⟩
  · have z := k.2.1 c
    have hj := (x.rk I c.1).1
    exact ⟨z.2.1, sx_fr (by omega) z.2, k⟩
  · have z := k.2.2 c
    have e := z.2
    subst e
    exact ⟨I, Fr.rf _ _, k⟩
def IxM (x1 x2 : Int32) (M : Nat → Int32) (h : Hp_) (r : Int32) (h' : Hp_) : Prop := ((isN h x1 ∧ ¬ M 4 = 4 ∧ x2 = 1) → r = 1 ∧ Mx PU x1.toNatClampNeg (h_i h 1 0) (fIl M).1 (M 11).toNatClampNeg (fIl M).2 () h h') ∧ ((isN h x1 ∧ M 4 = 4 ∧ x2 = 0) → r = 1 ∧ Mx PU x1.toNatClampNeg (h_i h 1 0) (fFree M) (M 11).toNatClampNeg [] () h h') ∧ (¬ (isN h x1 ∧ ((¬ M 4 = 4 ∧ x2 = 1) ∨ (M 4 = 4 ∧ x2 = 0))) → r = 0 ∧ h' = h)
theorem c_ilM (d : Nat) {h h1 : Hp_} (I1 : Iv h1) (I : Iv h) (x : ExM h) (f : Fr wMx h h1) (x1 x2 : Int32) (b2 : x2 = 0 ∨ x2 = 1) : Ci (m_X12_ill (d + 2) 0 0) [.ref 1, .int x1, .int x2] h1 (IxM x1 x2 (h_i h (401 + x1.toNatClampNeg)) h1) := by
  refine m_il pmU d I1 x1 x2 b2 (b := ()) trivial (h_i h (401 + x1.toNatClampNeg)) (fun y => ?_)
  obtain ⟨_, q1, q2, q3, q4⟩ := x.rp I f y
  exact ⟨q1, q2, q3.1.2.2.2.2.1, q4⟩
theorem ExM.il {h h1 h2 : Hp_} {x1 x2 r1 r2 : Int32} (I : Iv h) (x : ExM h) (R : ExR h) (f : Fr wMx h h1) (b2 : x2 = 0 ∨ x2 = 1) (I1 : Iv h1) (k1 : IxX x1 x2 h r1 h1) (k2 : IxM x1 x2 (h_i h (401 + x1.toNatClampNeg)) h1 r2 h2) : Iv h2 ∧ Fr mwR h1 h2 ∧ ExM h2 ∧ r1 = r2 := by
  have e10 : h_i h1 1 0 = h_i h 0 0 := ((f.2 1 0 (by decide +kernel)).1).trans x.1.2.1.symm
  have pn : 0 ≤ (h_i h 0 0).toInt := by
    have rg := I.2.1 0 0
    rw [show tf 0 0 = (0, 20000) by decide +kernel] at rg
    exact rg.1
  unfold IxM at k2
  rw [e10, isN_M x f] at k2
  rcases il_cs (P := isM h x1) (Q := h_i h (401 + x1.toNatClampNeg) 4 = 4) b2 with c | c | c
  · have z1 := k1.1 c
    have z2 := k2.1 c
    have hj := (x.rk I c.1).1
    have K := (x.2.2.1 _ hj).1
    have z := x.ev hj z1.2 z2.2 (km_il (wok I R.2) K) (fDp_k (by decide) (by decide) (by decide)) (dp_le (cz := 4) K (rwX_in I).1) (fun e => absurd (show (4 : Int32) = 1 from e) (by decide)) dp_ev pn rfl
    exact ⟨z2.2.1, z.2.1, z.2.2, z1.1.trans z2.1.symm⟩
  · have z1 := k1.2.1 c
    have z2 := k2.2.1 c
    have hj := (x.rk I c.1).1
    have K := (x.2.2.1 _ hj).1
    have z := x.ev hj z1.2 z2.2 (km_fr K c.2.1) rfl (Or.inl rfl) (fun e => absurd (show (0 : Int32) = 1 from e) (by decide)) (fun e he => (by cases he)) pn rfl
    exact ⟨z2.2.1, z.2.1, z.2.2, z1.1.trans z2.1.symm⟩
  · have z1 := k1.2.2 c
    have z2 := k2.2.2 c
    have e := z1.2
    subst e
    have e := z2.2
    subst e
    exact ⟨I, Fr.rf _ _, x, z1.1.trans z2.1.symm⟩
/-! MEN: tick -/
section MEN
variable {β : Type}
/-- rows that are not given yet stay so -/
theorem po_man {lP : Nat → Int32 → (Nat → Int32) → β → β} {tB : Int32 → Int32 → β → β} {n : Int32} {w : Int32 → Int32 → Int32} {BL : Nat → List Sp3} {nb rw m : Nat} {own : Nat → Int32} {s : Pst β} (hl : ∀ k, k < nb → (BL k).length ≤ 150) (H : pI w BL nb rw own m s) {j : Nat} (hj : j < m) {k : Nat} (hk : rw ≤ k) : (pMan lP tB n w BL j s).2.1 k = s.2.1 k := by
  unfold pMan
  by_cases y : s.1 j 7 = n
  · rw [if_pos y]
    show rz Prod.fst (s.1 j 11).toNatClampNeg (pGo n w BL (s.1 j)).2 s.2.1 k = _
    refine rz_o _ _ _ _ _ ?_
    by_cases y1 : s.1 j 4 = 1
    · obtain ⟨i', _, _, b8, hd, e9, _, r0, r1, r2⟩ := kmb_x hl ((H j hj).1.2 y1)
      have n11 := n_nat r0
      have ll : (pGo n w BL (s.1 j)).2.length ≤ _ := (Rk.go (n := n) (w := w) (x := (pX BL (s.1 j)).1) (L := (pX BL (s.1 j)).2) (M := s.1 j)).2.2.1
      right
      omega
    · have e : (pGo n w BL (s.1 j)).2 = [] := fGo_e y1
      rw [e]
      show k < _ ∨ _ + 0 ≤ k
      omega
  · rw [if_neg y]
theorem po_men {lP : Nat → Int32 → (Nat → Int32) → β → β} {tB : Int32 → Int32 → β → β} {n : Int32} {w : Int32 → Int32 → Int32} {BL : Nat → List Sp3} {nb rw m : Nat} {own : Nat → Int32} (W : WOk w) (hb : ∀ k x, k < nb → x ∈ BL k → stR x) (hl : ∀ k, k < nb → (BL k).length ≤ 150) (r4 : rw ≤ 400) (p0 : 0 ≤ n.toInt) (m12 : m ≤ 12) {k : Nat} (hk : rw ≤ k) : ∀ (j : Nat) {s : Pst β}, j ≤ m → pI w BL nb rw own m s → (pMen lP tB n w BL j s).2.1 k = s.2.1 k
  | 0, _, _, _ => rfl
  | j + 1, _, hj, H => (po_man hl (pI_men W hb hl r4 p0 m12 j (by omega) H) (by omega) hk).trans (po_men W hb hl r4 p0 m12 hk j (by omega) H)
theorem po_tk {lP : Nat → Int32 → (Nat → Int32) → β → β} {tB : Int32 → Int32 → β → β} {nB : Int32 → (Nat → Int32) → β → β} {n : Int32} {w : Int32 → Int32 → Int32} {BL : Nat → List Sp3} {nb rw m : Nat} {own : Nat → Int32} (W : WOk w) (hb : ∀ k x, k < nb → x ∈ BL k → stR x) (hl : ∀ k, k < nb → (BL k).length ≤ 150) (r4 : rw ≤ 400) (p0 : 0 ≤ n.toInt ∧ n.toInt ≤ 20000) (m12 : m ≤ 12) {k : Nat} (hk : rw ≤ k) : ∀ (i : Nat) {s : Pst β}, i ≤ 20000 → pI w BL nb rw own m s → (pTk lP tB nB w BL m n i s).2.1 k = s.2.1 k
  | 0, _, _, _ => rfl
  | i + 1, s, hi, H => (po_men W hb hl r4 (by rw [tx_add (by rw [on_j (by omega)]; omega) (by rw [on_j (by omega)]; omega), on_j (by omega)]; omega) m12 hk m (s := pOv nB (n + Int32.ofNat i) (pTk lP tB nB w BL m n i s)) (Nat.le_refl _) (pI_tk W hb hl r4 p0 m12 i (by omega) H)).trans (po_tk W hb hl r4 p0 m12 hk i (by omega) H)
theorem tm_man {lP : Nat → Int32 → (Nat → Int32) → β → β} {tB : Int32 → Int32 → β → β} {n : Int32} {w : Int32 → Int32 → Int32} {BL : Nat → List Sp3} {s : Pst β} {j k : Nat} {N : Int} (h : ¬ s.2.1 k = 0 → (s.2.2.1 k).toInt ≤ N) (l : N ≤ n.toInt) : ¬ (pMan lP tB n w BL j s).2.1 k = 0 → ((pMan lP tB n w BL j s).2.2.1 k).toInt ≤ n.toInt := by
  unfold pMan
  by_cases y : s.1 j 7 = n
  · rw [if_pos y]
    exact tm_rz h l
  · rw [if_neg y]
    exact fun ne => Int.le_trans (h ne) l
theorem tm_men {lP : Nat → Int32 → (Nat → Int32) → β → β} {tB : Int32 → Int32 → β → β} {n : Int32} {w : Int32 → Int32 → Int32} {BL : Nat → List Sp3} {k : Nat} {N : Int} (l : N ≤ n.toInt) : ∀ (j : Nat) {s : Pst β}, (¬ s.2.1 k = 0 → (s.2.2.1 k).toInt ≤ N) → ¬ (pMen lP tB n w BL j s).2.1 k = 0 → ((pMen lP tB n w BL j s).2.2.1 k).toInt ≤ n.toInt
  | 0, _, h => fun ne => Int.le_trans (h ne) l
  | j + 1, _, h => tm_man (tm_men l j h) (Int.le_refl _)
theorem tm_tk {lP : Nat → Int32 → (Nat → Int32) → β → β} {tB : Int32 → Int32 → β → β} {nB : Int32 → (Nat → Int32) → β → β} {n : Int32} {w : Int32 → Int32 → Int32} {BL : Nat → List Sp3} {m k : Nat} (p0 : 0 ≤ n.toInt ∧ n.toInt ≤ 20000) : ∀ (i : Nat) {s : Pst β}, i ≤ 20000 → (¬ s.2.1 k = 0 → (s.2.2.1 k).toInt ≤ n.toInt) → ¬ (pTk lP tB nB w BL m n i s).2.1 k = 0 → ((pTk lP tB nB w BL m n i s).2.2.1 k).toInt ≤ n.toInt + (i : Int)
  | 0, s, _, h => fun ne => by
    have z : (s.2.2.1 k).toInt ≤ n.toInt := h ne
    show (s.2.2.1 k).toInt ≤ n.toInt + ((0 : Nat) : Int)
    omega
  | i + 1, s, hi, h => fun ne => by
    have e : (n + Int32.ofNat (i + 1)).toInt = n.toInt + ((i + 1 : Nat) : Int) := by rw [tx_add (by rw [on_j (by omega)]; omega) (by rw [on_j (by omega)]; omega), on_j (by omega)]
    have z := tm_men (lP := lP) (tB := tB) (n := n + Int32.ofNat (i + 1)) (w := w) (BL := BL) (k := k) (N := n.toInt + (i : Int)) (by rw [e]; omega) m (s := pOv nB (n + Int32.ofNat i) (pTk lP tB nB w BL m n i s)) (tm_tk p0 i (by omega) h) ne
    rw [e] at z
    exact z
end MEN
abbrev lU : Nat → Int32 → (Nat → Int32) → Unit → Unit := fun _ _ _ b => b
abbrev tU : Int32 → Int32 → Unit → Unit := fun _ _ b => b
abbrev nU : Int32 → (Nat → Int32) → Unit → Unit := fun _ _ b => b
def B35 (h : Hp_) : Prop := ∀ k, k < (h_i h 12 3).toNatClampNeg → h_i h 35 k = h_i h 227 k
theorem ExM.m {h : Hp_} (I : Iv h) (x : ExM h) : h_i h 0 7 = Int32.ofNat (h_i h 0 7).toNatClampNeg := (on_of ⟨(menX_in I).1, by have := (menX_in I).2; omega⟩).symm
theorem c_tkU (d : Nat) {h : Hp_} (I : Iv h) (x : ExM h) (R : ExR h) (S : ExS h) (B : B35 h) (x1 : Int32) {c N : Nat} (hc : h_r h 0 15 = some c) (hs : h_sh h c = some (3, N)) (hN : N ≤ 20000) : ∃ mc ms N', N' ≤ 20000 ∧ hcost mc ms N N' ∧ Ci (m_X11_tick (d + 8) mc ms) [.ref 0, .int x1] h (Tkx PU lU tU nU (h_i h 0 7).toNatClampNeg N' (sX h) x1 h) := c_tkX (PB := PU) (lP := lU) (tB := tU) (nB := nU) pbU ⟨fun _ _ _ _ _ _ _ _ _ _ => trivial, fun _ _ _ _ _ _ _ => trivial⟩ d I ⟨R.2, S, B, x.2.1, x.m I, x.1.2.2.2, x.2.2.1⟩ ⟨fun _ _ => rfl, ⟨rfl, rfl, rfl⟩, trivial⟩ (fun _ _ _ _ _ _ _ => rfl) (fun _ _ _ _ _ => rfl) x1 hc hs hN
theorem c_tmU (d : Nat) {h h1 : Hp_} (I1 : Iv h1) (J1 : J2 h1) (I : Iv h) (x : ExM h) (R : ExR h) (S : ExS h) (e42 : h_i h 12 3 = h_i h 1 42) (f : Mf wsX h h1) (x1 : Int32) : Ci (m_X12_tick (d + 10) 0 0) [.ref 1, .int x1] h1 (Tkm PU lU tU nU (h_i h 0 7).toNatClampNeg (h_i h 16 7).toNatClampNeg (sX h) x1 h1) := by
  have rr : ∀ a, 200 ≤ a → a < 300 → h_i h1 a = h_i h a := fun a p q => funext (fun k => f.2.1 a p q k)
  have ew : wI h1 = wI h := wI_cg (funext (fun k => (f.2.2.2 30 k (Or.inl (by decide)) (off_inw (by decide +kernel) k)).1))
  have eb : bL h1 = bL h := bL_cg (rr 227 (by decide) (by decide)) (rr 228 (by decide) (by decide)) (rr 229 (by decide) (by decide)) (rr 230 (by decide) (by decide))
  have es : ∀ k, sB h1 k = sB h k := fun k => by
    funext i
    unfold sB
    rw [rr 228 (by decide) (by decide), rr 229 (by decide) (by decide), rr 230 (by decide) (by decide)]
  refine c_tkM (PM := PU) (lP := lU) (tB := tU) (nB := nU) pmU d I1 J1 (fun _ _ _ _ _ _ _ _ => trivial) ⟨R.2.mf f (by decide +kernel), fun k hk i hi => ?_, ?_, x.1.2.2.2, (rwX_in I).1, h_i h 47, ?_⟩ ⟨fun j hj => (x.2.2.2.1 j hj).cg (fun a ha => ?_), fun k hk => ?_, trivial⟩ (fun _ _ _ _ _ _ _ => rfl) (fun _ _ _ _ _ => rfl) x1
  · rw [f.1 42, ← e42] at hk
    rw [rr 227 (by decide) (by decide)] at hi
    rw [es]
    exact (S k hk i hi).2
  · rw [f.1 7, ← x.1.1]
    exact x.m I
  · rw [ew, eb, f.1 42, ← e42]
    exact x.2.2.1
  · have z : ∀ a ∈ 206 :: mrL, 200 ≤ a ∧ a < 300 := by decide
    exact f.2.1 a (z a ha).1 (z a ha).2 j
  · rw [rr 241 (by decide) (by decide), rr 242 (by decide) (by decide), rr 243 (by decide) (by decide)]
    exact (x.2.2.2.2.1 k hk).1
theorem ExM.tk {h h1 h2 : Hp_} {x1 r1 r2 : Int32} {N' : Nat} (I : Iv h) (x : ExM h) (R : ExR h) (S : ExS h) (k1 : Tkx PU lU tU nU (h_i h 0 7).toNatClampNeg N' (sX h) x1 h r1 h1) (k2 : Tkm PU lU tU nU (h_i h 0 7).toNatClampNeg (h_i h 16 7).toNatClampNeg (sX h) x1 h1 r2 h2) : ExM h2 := by
  have f := k1.1.2.1
  have rr : ∀ a, 200 ≤ a → a < 300 → h_i h1 a = h_i h a := fun a p q => funext (fun k => f.2.1 a p q k)
  have ew : wI h1 = wI h := wI_cg (funext (fun k => (f.2.2.2 30 k (Or.inl (by decide)) (off_inw (by decide +kernel) k)).1))
  have eb : bL h1 = bL h := bL_cg (rr 227 (by decide) (by decide)) (rr 228 (by decide) (by decide)) (rr 229 (by decide) (by decide)) (rr 230 (by decide) (by decide))
  have e10 : h_i h1 1 0 = h_i h 0 0 := (f.1 0).trans x.1.2.1.symm
  have rg := I.2.1 0 0
  rw [show tf 0 0 = (0, 20000) by decide +kernel] at rg
  have g0 : 0 ≤ (h_i h 0 0).toInt := rg.1
  have g1 : (h_i h 0 0).toInt ≤ 20000 := rg.2
  have m12 := x.1.2.2.2
  by_cases o : okt (h_i h 0 0) x1
  · obtain ⟨a1, a2, a3⟩ := k1.2.1 o
    obtain ⟨b1, b2, b3⟩ := k2.2.1 (by rw [e10]; exact o)
    rw [e10, ew, eb] at b3
    rw [e10] at b1
    have x0 := q_le.mp o.1.1
    have x5 := q_le.mp o.1.2
    have t0 : (0 : Int32).toInt = 0 := rfl
    have t5 : (1500 : Int32).toInt = 1500 := rfl
    have nx := n_nat (x := x1) (by omega)
    have rw4 := (rwX_in I).1
    have W := wok I R.2
    have P := pI_tk (lP := lU) (tB := tU) (nB := nU) W (bL_hb S) (bL_hl I _) rw4 ⟨g0, g1⟩ m12 x1.toNatClampNeg (by omega) x.2.2.1
    have O := fun k (hk : (h_i h 16 7).toNatClampNeg ≤ k) => po_tk (lP := lU) (tB := tU) (nB := nU) W (bL_hb S) (bL_hl I _) rw4 ⟨g0, g1⟩ m12 hk x1.toNatClampNeg (by omega) x.2.2.1
    have TM := fun k (hk : k < (h_i h 16 7).toNatClampNeg) => tm_tk (lP := lU) (tB := tU) (nB := nU) (w := wI h) (BL := bL h) (m := (h_i h 0 7).toNatClampNeg) (k := k) ⟨g0, g1⟩ x1.toNatClampNeg (s := sX h) (by omega) (x.2.2.2.2.1 k hk).2.2
    generalize pTk lU tU nU (wI h) (bL h) (h_i h 0 7).toNatClampNeg (h_i h 0 0) x1.toNatClampNeg (sX h) = s at a2 b3 P O TM
    have c1 : ∀ a k, a < 200 → inw (0 :: 15 :: wgM) a k = false → inw wtM a k = false → h_i h2 a k = h_i h a k := fun a k l p q => ((b2.2 a k q).1).trans (a3 a k l p)
    have cr : ∀ a, a < 200 → off (0 :: 15 :: wgM) a = true → off wtM a = true → h_i h2 a = h_i h a := fun a l p q => funext (fun k => c1 a k l (off_inw p k) (off_inw q k))
    have dr : ∀ a, 200 ≤ a → a < 300 → off wtM a = true → h_i h2 a = h_i h a := fun a p q o => (funext (fun k => fr_i b2 o k)).trans (rr a p q)
    have e2 : ∀ a, off wtM a = true → h_i h2 a = h_i h1 a := fun a o => funext (fun k => fr_i b2 o k)
    have n07 : h_i h2 0 7 = h_i h 0 7 := c1 0 7 (by decide) (by decide +kernel) (by decide +kernel)
    have n17 : h_i h2 1 7 = h_i h 1 7 := ((b2.2 1 7 (by decide +kernel)).1).trans (f.1 7)
    have nr : h_i h2 16 7 = h_i h 16 7 := c1 16 7 (by decide) (by decide +kernel) (by decide +kernel)
    have n63 : h_i h2 1 63 = h_i h 1 63 := ((b2.2 1 63 (by decide +kernel)).1).trans (f.1 63)
    have n3 : h_i h2 12 3 = h_i h 12 3 := c1 12 3 (by decide) (by decide +kernel) (by decide +kernel)
    have cm : ∀ l, l < 12 → h_i h2 (401 + l) = h_i h1 (401 + l) := fun l hl => funext (fun k => (b2.2 (401 + l) k (by
      rw [inw_ce (b := 401) ((cn_man hl).trans (by decide))]
      exact off_inw (by decide +kernel) k)).1)
    refine ⟨⟨by rw [n07, n17]; exact x.1.1, ?_, by rw [nr, n63]; exact x.1.2.2.1, by rw [n07]; exact m12⟩, fun k hk => ?_, ?_, fun l hl => ?_, fun k hk => ?_, fun k hk h4 => ?_⟩
    · rw [(b2.2 0 0 (by decide +kernel)).1, a1, b1]
    · rw [(b2.2 15 k (off_inw (by decide +kernel) k)).2.2, (f.2.2.2 15 k (Or.inl (by decide)) (off_inw (by decide +kernel) k)).2]
      exact x.2.1 k (by rw [n07] at hk; exact hk)
    · rw [wI_cg (cr 30 (by decide) (by decide +kernel) (by decide +kernel)), bL_cg (dr 227 (by decide) (by decide) (by decide +kernel)) (dr 228 (by decide) (by decide) (by decide +kernel)) (dr 229 (by decide) (by decide) (by decide +kernel)) (dr 230 (by decide) (by decide) (by decide +kernel)), n3, nr, cr 47 (by decide) (by decide +kernel) (by decide +kernel), n07]
      exact P.cs (fun j hj => (cm j (by omega)).trans (a2.1 j hj)) ((e2 51 (by decide +kernel)).trans a2.2.1.1)
    · rw [n07] at hl
      rw [cm l (by omega), a2.1 l hl]
      exact b3.1 l hl
    · rw [nr] at hk
      have q := x.2.2.2.2.1 k hk
      rw [e2 51 (by decide +kernel), e2 52 (by decide +kernel), e2 53 (by decide +kernel), a2.2.1.1, a2.2.1.2.1, a2.2.1.2.2, cr 47 (by decide) (by decide +kernel) (by decide +kernel), cr 48 (by decide) (by decide +kernel) (by decide +kernel), cr 49 (by decide) (by decide +kernel) (by decide +kernel), cr 50 (by decide) (by decide +kernel) (by decide +kernel), dr 238 (by decide) (by decide) (by decide +kernel), dr 239 (by decide) (by decide) (by decide +kernel), dr 240 (by decide) (by decide) (by decide +kernel), dr 244 (by decide) (by decide) (by decide +kernel)]
      refine ⟨b3.2.1 k hk, q.2.1, fun ne => ?_⟩
      have z := TM k hk ne
      rw [(b2.2 0 0 (by decide +kernel)).1, a1, tx_add (by have := o.2; omega) (by have := o.2; omega)]
      omega
    · rw [nr] at hk
      rw [e2 51 (by decide +kernel), a2.2.1.1, O k hk]
      exact x.2.2.2.2.2 k hk h4
  · rw [k2.2.2 (by rw [e10]; exact o), k1.2.2 o]
    exact x
/-! MEN: begin -/
theorem mP_l (h : Hp_) (k : Nat) : ∀ n i : Nat, mP (h_i h 228) k n i = mts ((List.range' i n).map (sB h k))
  | 0, _ => rfl
  | n + 1, i => by
    show (if h_i h 228 (150 * k + i) = 2 then 1 else 0) + mP (h_i h 228) k n (i + 1) = _
    rw [mP_l h k n (i + 1), List.range'_succ]
    rfl
theorem mP_b (h : Hp_) (k : Nat) : mP (h_i h 228) k (h_i h 227 k).toNatClampNeg 0 = mts (bL h k) := by
  rw [mP_l]
  unfold bL
  rw [List.range_eq_range']
theorem bs_x {h : Hp_} (I : Iv h) (S : ExS h) (B : ExB h) (x2 : Int32) (b2 : 0 ≤ x2.toInt ∧ x2.toInt < (h_i h 12 3).toInt) : Stb h x2 0 (bL h x2.toNatClampNeg) ∧ h_i h 35 x2.toNatClampNeg = Int32.ofNat (bL h x2.toNatClampNeg).length ∧ (h_i h 36 x2.toNatClampNeg).toInt = (mts (bL h x2.toNatClampNeg) : Int) := by
  have b3 := x12_in I
  have n3 := n_nat b3.1
  have nx := n_nat b2.1
  have z := z227 I x2.toNatClampNeg
  have q := B x2.toNatClampNeg (by omega)
  refine ⟨⟨⟨b2.1, by omega⟩, ?_, fun k x e => ?_⟩, ?_, ?_⟩
  · rw [bL_l]
    omega
  · have lk : k < (bL h x2.toNatClampNeg).length := (List.getElem?_eq_some_iff.mp e).1
    rw [bL_l] at lk
    rw [bL_g lk] at e
    rw [← Option.some.inj e, Nat.zero_add]
    exact S _ (by omega) _ lk
  · rw [q.1, bL_l]
    exact (of_nat32 (by omega)).symm
  · rw [q.2, mP_b]
def wBx : List Nat := 14 :: 401999 :: (wwR ++ wgM)
def BgK (x1 x2 : Int32) (h : Hp_) : Prop := isM h x1 ∧ (0 ≤ x2.toInt ∧ x2.toInt < (h_i h 12 3).toInt) ∧ h_i h (401 + x1.toNatClampNeg) 4 = 0 ∧ (h_i h 16 7).toInt + (mts (bL h x2.toNatClampNeg) : Int) ≤ 400
def BgF (x1 x2 : Int32) (h : Hp_) : (Nat → Int32) × List Ev2 := fBg (h_i h 0 0) (wI h) x2 (h_i h 16 7).toNatClampNeg ((h_i h 16 7).toNatClampNeg + mts (bL h x2.toNatClampNeg)) (bL h x2.toNatClampNeg) (h_i h (401 + x1.toNatClampNeg))
def BgX (x1 x2 : Int32) (h : Hp_) (r : Int32) (h' : Hp_) : Prop := (BgK x1 x2 h → r = 1 ∧ Bxm PU (401 + x1.toNatClampNeg) x1 (h_i h 0 0) (BgF x1 x2 h).1 (h_i h 16 7).toNatClampNeg (ptL (bL h x2.toNatClampNeg)) (BgF x1 x2 h).2 () h h') ∧ (¬ BgK x1 x2 h → r = 0 ∧ h' = h)
theorem c_bgX (d : Nat) {h : Hp_} (I : Iv h) (x : ExM h) (S : ExS h) (B : ExB h) (x1 x2 : Int32) : Ci (m_X11_begin (d + 6) 0 0) [.ref 0, .int x1, .int x2] h (fun r h' => Iv h' ∧ Fr wBx h h' ∧ BgX x1 x2 h r h') := by
  have m12 := x.1.2.2.2
  refine Ci.mono (c_bg (PB := PU) pbU d I x.2.1 (b := ()) trivial x1 x2 (fun y => ?_) (bL h x2.toNatClampNeg) (bs_x I S B x2)) (fun r h' k => ?_)
  · have hj := (x.rk I y).1
    have mm := menX_in I
    have y2 := y.2
    exact (x.2.2.1 _ hj).2.1.trans (on_of ⟨y.1, by omega⟩)
  · by_cases c : BgK x1 x2 h
    · have z := k.1 c
      have hj := (x.rk I c.1).1
      exact ⟨z.2.1, gw_fr z.2.2.1 (by omega) (by omega) (by decide +kernel) (fun k => inw_row (by decide +kernel) k) (by decide +kernel), fun _ => z, fun n => absurd c n⟩
    · have z := k.2 c
      have e := z.2
      subst e
      exact ⟨I, Fr.rf _ _, fun n => absurd n c, fun _ => z⟩
theorem bg_k {h h1 : Hp_} (f : Fr wBx h h1) (o : h_i h1 16 7 = h_i h 16 7 ∨ True) : wI h1 = wI h ∧ bL h1 = bL h ∧ (∀ k, sB h1 k = sB h k) ∧ (∀ k, h_i h1 1 k = h_i h 1 k) ∧ ∀ a, 200 ≤ a → a < 300 → h_i h1 a = h_i h a := by
  have rr : ∀ a, 200 ≤ a → a < 300 → h_i h1 a = h_i h a := fun a p q => by
    have z : ∀ i, i < 100 → off wBx (200 + i) = true := fun i hi => List.all_eq_true.mp (show (List.range 100).all (fun i => off wBx (200 + i)) = true by decide +kernel) i (List.mem_range.mpr hi)
    have y := z (a - 200) (by omega)
    rw [show 200 + (a - 200) = a by omega] at y
    exact funext (fun k => fr_i f y k)
  refine ⟨wI_cg (funext (fun k => fr_i f (by decide +kernel) k)), bL_cg (rr 227 (by decide) (by decide)) (rr 228 (by decide) (by decide)) (rr 229 (by decide) (by decide)) (rr 230 (by decide) (by decide)), fun k => ?_, fun k => fr_i f (by decide +kernel) k, rr⟩
  funext i
  unfold sB
  rw [rr 228 (by decide) (by decide), rr 229 (by decide) (by decide), rr 230 (by decide) (by decide)]
def BgM (x1 x2 : Int32) (h h1 : Hp_) (r : Int32) (h' : Hp_) : Prop := (BgK x1 x2 h → r = 1 ∧ Bym PU x1.toNatClampNeg x1 (h_i h 0 0) (BgF x1 x2 h).1 (h_i h 16 7).toNatClampNeg (ptL (bL h x2.toNatClampNeg)) (BgF x1 x2 h).2 () h1 h') ∧ (¬ BgK x1 x2 h → r = 0 ∧ h' = h1)
theorem c_bgM (d : Nat) {h h1 : Hp_} (I1 : Iv h1) (I : Iv h) (x : ExM h) (R : ExR h) (S : ExS h) (e42 : h_i h 12 3 = h_i h 1 42) (f : Fr wBx h h1) (x1 x2 : Int32) : Ci (m_X12_begin (d + 4) 0 0) [.ref 1, .int x1, .int x2] h1 (BgM x1 x2 h h1) := by
  obtain ⟨ew, eb, es, e1, rr⟩ := bg_k f (Or.inr trivial)
  have R1 : ExP h1 := R.2.fr f (by decide +kernel)
  have b3 := x12_in I
  have n3 := n_nat b3.1
  have iN : isN h1 x1 ↔ isM h x1 := by
    unfold isN isM
    rw [e1, ← x.1.1]
  have K := m_bg (PM := PU) pmU d I1 R1 x1 x2 (b := ()) trivial (h_i h (401 + x1.toNatClampNeg)) (fun y => ?_) (bL h x2.toNatClampNeg) (fun b2 => ?_)
  · rw [ew, e1, e1, e1, ← e42, ← x.1.2.1, ← x.1.2.2.1, iN] at K
    exact K
  · have y := iN.mp y
    have hj := (x.rk I y).1
    have mm := menX_in I
    have y2 := y.2
    have a := (x.2.2.1 _ hj).1.1
    refine ⟨(x.2.2.2.1 _ hj).cg (fun a ha => ?_), (x.2.2.1 _ hj).2.1.trans (on_of ⟨y.1, by omega⟩), a.2.2.2.1, a.2.1⟩
    have z : ∀ a ∈ 206 :: mrL, 200 ≤ a ∧ a < 300 := by decide
    rw [rr a (z a ha).1 (z a ha).2]
  · rw [e1, ← e42] at b2
    have nx := n_nat b2.1
    have z := z227 I x2.toNatClampNeg
    rw [rr 227 (by decide) (by decide), rr 228 (by decide) (by decide)]
    refine ⟨⟨⟨b2.1, by omega⟩, ?_, fun k q e => ?_⟩, ?_, mP_b h _⟩
    · rw [bL_l]
      omega
    · have lk : k < (bL h x2.toNatClampNeg).length := (List.getElem?_eq_some_iff.mp e).1
      rw [bL_l] at lk
      rw [bL_g lk] at e
      rw [← Option.some.inj e, Nat.zero_add, es]
      exact ⟨rfl, (S _ (by omega) _ lk).2⟩
    · rw [bL_l]
      exact (of_nat32 (by omega)).symm
theorem ExM.bg {h h1 h2 : Hp_} {x1 x2 r1 r2 : Int32} (I : Iv h) (x : ExM h) (R : ExR h) (S : ExS h) (I1 : Iv h1) (f : Fr wBx h h1) (k1 : BgX x1 x2 h r1 h1) (k2 : BgM x1 x2 h h1 r2 h2) : Iv h2 ∧ Fr mwB h1 h2 ∧ ExM h2 ∧ r1 = r2 := by
  by_cases c : BgK x1 x2 h
  case neg =>
    have z1 := k1.2 c
    have z2 := k2.2 c
    have e := z1.2
    subst e
    have e := z2.2
    subst e
    exact ⟨I, Fr.rf _ _, x, z1.1.trans z2.1.symm⟩
  obtain ⟨ea, z1⟩ := k1.1 c
  obtain ⟨eb, z2⟩ := k2.1 c
  obtain ⟨cM, cB, c4, cR⟩ := c
  refine ⟨z2.1, z2.2.1.1, ?_, ea.trans eb.symm⟩
  obtain ⟨ew, ebL, es, e1, rr⟩ := bg_k f (Or.inr trivial)
  have hj := (x.rk I cM).1
  have m12 := x.1.2.2.2
  have r4 := rwX_in I
  have mm := menX_in I
  have y2 := cM.2
  have b3 := x12_in I
  have n3 := n_nat b3.1
  have nx := n_nat cB.1
  have z227' := z227 I x2.toNatClampNeg
  have ej : x1 = Int32.ofNat x1.toNatClampNeg := (on_of ⟨cM.1, by omega⟩).symm
  have pn : 0 ≤ (h_i h 0 0).toInt := by
    have rg := I.2.1 0 0
    rw [show tf 0 0 = (0, 20000) by decide +kernel] at rg
    exact rg.1
  have f2 : Fr mwB h1 h2 := z2.2.1.1
  have W := wok I R.2
  have K0 := (x.2.2.1 _ hj).1.1
  have e6 := (K0.2.2.2.1 c4).1
  have al := K0.2.2.2.2.2.2.2
  have Rs := Rk.st (n := h_i h 0 0) (w := wI h) (bL h x2.toNatClampNeg) (up1 (up1 (up1 (up1 (up1 (up1 (h_i h (401 + x1.toNatClampNeg)) 4 1) 8 x2) 9 0) 10 (h_i h 0 0)) 11 (Int32.ofNat (h_i h 16 7).toNatClampNeg)) 12 (Int32.ofNat ((h_i h 16 7).toNatClampNeg + mts (bL h x2.toNatClampNeg))))
  have Ks := km_st (n := h_i h 0 0) (nb := (h_i h 12 3).toNatClampNeg) (rw := (h_i h 16 7).toNatClampNeg + mts (bL h x2.toNatClampNeg)) (BL := bL h) W (bL h x2.toNatClampNeg) (up1 (up1 (up1 (up1 (up1 (up1 (h_i h (401 + x1.toNatClampNeg)) 4 1) 8 x2) 9 0) 10 (h_i h 0 0)) 11 (Int32.ofNat (h_i h 16 7).toNatClampNeg)) 12 (Int32.ofNat ((h_i h 16 7).toNatClampNeg + mts (bL h x2.toNatClampNeg)))) 0 (fun y hy => bL_hb S _ y (by omega) hy) rfl e6 (K0.2.1 e6) K0.1 (by rw [if_pos e6] at al; exact al) ⟨cB.1, by show x2.toNatClampNeg < _; omega⟩ List.drop_zero rfl (by rw [bL_l]; omega) (by show 0 ≤ (Int32.ofNat _).toInt; rw [on_j (by omega)]; omega) (by show (Int32.ofNat _).toInt + _ = (Int32.ofNat _).toInt; rw [on_j (by omega), on_j (by omega)]; omega) (by show (Int32.ofNat _).toInt ≤ _; rw [on_j (by omega)]; omega) (by omega)
  have eF : BgF x1 x2 h = fSt (h_i h 0 0) (wI h) (bL h x2.toNatClampNeg) (up1 (up1 (up1 (up1 (up1 (up1 (h_i h (401 + x1.toNatClampNeg)) 4 1) 8 x2) 9 0) 10 (h_i h 0 0)) 11 (Int32.ofNat (h_i h 16 7).toNatClampNeg)) 12 (Int32.ofNat ((h_i h 16 7).toNatClampNeg + mts (bL h x2.toNatClampNeg)))) := rfl
  rw [← eF] at Rs Ks
  have F11 : (BgF x1 x2 h).1 11 = Int32.ofNat (h_i h 16 7).toNatClampNeg + Int32.ofNat (BgF x1 x2 h).2.length := Rs.2.2.2.1
  have F12 : (BgF x1 x2 h).1 12 = Int32.ofNat ((h_i h 16 7).toNatClampNeg + mts (bL h x2.toNatClampNeg)) := Rs.1 12 (by decide)
  have F0 : (BgF x1 x2 h).1 0 = h_i h (401 + x1.toNatClampNeg) 0 := Rs.1 0 (by decide)
  have FE := Rs.2.1
  have FL : (BgF x1 x2 h).2.length ≤ mts (bL h x2.toNatClampNeg) := Rs.2.2.1
  generalize BgF x1 x2 h = F at z1 z2 Ks F11 F12 F0 FE FL
  have ql := ptL_l (bL h x2.toNatClampNeg)
  generalize ptL (bL h x2.toNatClampNeg) = Q at z1 z2 ql
  have i1 : ∀ a k, inw wBx a k = false → inw mwB a k = false → h_i h2 a k = h_i h a k := fun a k o1 o2 => ((f2.2 a k o2).1).trans (f.2 a k o1).1
  have q1 : ∀ a, off wBx a = true → off mwB a = true → h_i h2 a = h_i h a := fun a o1 o2 => funext (fun k => i1 a k (off_inw o1 k) (off_inw o2 k))
  have e2 : ∀ a, off mwB a = true → h_i h2 a = h_i h1 a := fun a o => funext (fun k => fr_i f2 o k)
  have n07 : h_i h2 0 7 = h_i h 0 7 := i1 0 7 (by decide +kernel) (by decide +kernel)
  have n17 : h_i h2 1 7 = h_i h 1 7 := i1 1 7 (by decide +kernel) (by decide +kernel)
  have n00 : h_i h2 0 0 = h_i h 0 0 := i1 0 0 (by decide +kernel) (by decide +kernel)
  have n10 : h_i h2 1 0 = h_i h 1 0 := i1 1 0 (by decide +kernel) (by decide +kernel)
  have n3' : h_i h2 12 3 = h_i h 12 3 := i1 12 3 (by decide +kernel) (by decide +kernel)
  have nr : h_i h2 16 7 = Int32.ofNat ((h_i h 16 7).toNatClampNeg + Q.length) := ((f2.2 16 7 (by decide +kernel)).1).trans z1.2.2.2.2.1
  have n63 : h_i h2 1 63 = Int32.ofNat ((h_i h 16 7).toNatClampNeg + Q.length) := z2.2.2.2.2.1
  have nr' : (h_i h2 16 7).toNatClampNeg = (h_i h 16 7).toNatClampNeg + mts (bL h x2.toNatClampNeg) := by rw [nr, ql, on_k (by omega)]
  have c2 : ∀ l, l < 12 → h_i h2 (401 + l) = h_i h1 (401 + l) := fun l hl => funext (fun k => (f2.2 (401 + l) k (by
    rw [inw_ce (b := 401) ((cn_man hl).trans (by decide))]
    exact off_inw (by decide +kernel) k)).1)
  have cj : h_i h2 (401 + x1.toNatClampNeg) = F.1 := (c2 _ (by omega)).trans z1.2.2.1
  have co : ∀ l, l < 12 → l ≠ x1.toNatClampNeg → h_i h2 (401 + l) = h_i h (401 + l) := fun l hl ne => (c2 l hl).trans (funext (fun k => z1.2.1.i (401 + l) k (by omega) (by
    rw [inw_ce (b := 401) ((cn_man hl).trans (by decide))]
    exact off_inw (by decide +kernel) k)))
  have g47 := (e2 47 (by decide +kernel)).trans z1.2.2.2.1.1
  have g48 := (e2 48 (by decide +kernel)).trans z1.2.2.2.1.2.1
  have g49 := (e2 49 (by decide +kernel)).trans z1.2.2.2.1.2.2.1
  have g50 := (e2 50 (by decide +kernel)).trans z1.2.2.2.1.2.2.2
  have g51 := (e2 51 (by decide +kernel)).trans z1.2.2.2.2.2.1.1
  have g52 := (e2 52 (by decide +kernel)).trans z1.2.2.2.2.2.1.2.1
  have g53 := (e2 53 (by decide +kernel)).trans z1.2.2.2.2.2.1.2.2
  have g238 := z2.2.2.2.1.1
  have g239 := z2.2.2.2.1.2.1
  have g240 := z2.2.2.2.1.2.2.1
  have g244 := z2.2.2.2.1.2.2.2
  have g241 := z2.2.2.2.2.2.1.1
  have g242 := z2.2.2.2.2.2.1.2.1
  have g243 := z2.2.2.2.2.2.1.2.2
  rw [rr 238 (by decide) (by decide)] at g238
  rw [rr 239 (by decide) (by decide)] at g239
  rw [rr 240 (by decide) (by decide)] at g240
  rw [rr 244 (by decide) (by decide)] at g244
  rw [rr 241 (by decide) (by decide)] at g241
  rw [rr 242 (by decide) (by decide)] at g242
  rw [rr 243 (by decide) (by decide)] at g243
  refine ⟨⟨by rw [n07, n17]; exact x.1.1, by rw [n00, n10]; exact x.1.2.1, by rw [nr, n63], by rw [n07]; exact m12⟩, fun k hk => ?_, ?_, fun l hl => ?_, fun k hk => ?_, fun k hk h4 => ?_⟩
  · rw [(f2.2 15 k (off_inw (by decide +kernel) k)).2.2, (f.2 15 k (off_inw (by decide +kernel) k)).2.2]
    exact x.2.1 k (by rw [n07] at hk; exact hk)
  · rw [wI_cg (q1 30 (by decide +kernel) (by decide +kernel)), bL_cg (q1 227 (by decide +kernel) (by decide +kernel)) (q1 228 (by decide +kernel) (by decide +kernel)) (q1 229 (by decide +kernel) (by decide +kernel)) (q1 230 (by decide +kernel) (by decide +kernel)), n3', nr', n07, g47]
    intro l hl
    by_cases el : l = x1.toNatClampNeg
    · subst el
      show Km (wI h) (bL h) _ _ (h_i h2 (401 + x1.toNatClampNeg)) ∧ h_i h2 (401 + x1.toNatClampNeg) 0 = _ ∧ (h_i h2 (401 + x1.toNatClampNeg) 4 = 1 → ∀ k : Nat, (h_i h2 (401 + x1.toNatClampNeg) 11).toInt ≤ (k : Int) → (k : Int) < (h_i h2 (401 + x1.toNatClampNeg) 12).toInt → h_i h2 51 k = 0 ∧ _)
      rw [cj, g51]
      refine ⟨Ks, F0.trans (x.2.2.1 _ hj).2.1, fun _ k a b => ?_⟩
      rw [F11, tx_add (by rw [on_j (by omega), on_j (by omega)]; omega) (by rw [on_j (by omega), on_j (by omega)]; omega), on_j (by omega), on_j (by omega)] at a
      rw [F12, on_j (by omega)] at b
      refine ⟨?_, ?_⟩
      · rw [rz_o _ _ _ _ _ (Or.inr (by omega))]
        exact x.2.2.2.2.2 k (by omega) (by omega)
      · obtain ⟨e, he, _⟩ := rz_at (fun _ => x1) Q (h_i h 16 7).toNatClampNeg (h_i h 47) (k := k) (by omega) (by omega)
        rw [he]
        exact ej
    · obtain ⟨a, b, d⟩ := x.2.2.1.mo (rw' := (h_i h 16 7).toNatClampNeg + mts (bL h x2.toNatClampNeg)) (fun _ _ z => z) (Nat.le_refl _) (fun _ _ => rfl) (Nat.le_add_right _ _) (fun _ _ => rfl) l hl
      obtain ⟨a0, _, _⟩ := x.2.2.1 l hl
      show Km (wI h) (bL h) _ _ (h_i h2 (401 + l)) ∧ h_i h2 (401 + l) 0 = _ ∧ (h_i h2 (401 + l) 4 = 1 → ∀ k : Nat, (h_i h2 (401 + l) 11).toInt ≤ (k : Int) → (k : Int) < (h_i h2 (401 + l) 12).toInt → h_i h2 51 k = 0 ∧ _)
      rw [co l (by omega) el, g51]
      refine ⟨a, b, fun e k k1 k2 => ?_⟩
      obtain ⟨i, y, L, s1, s2, s3⟩ := a0.2 e
      have s12 : (h_i h (401 + l) 12).toInt ≤ ((h_i h 16 7).toNatClampNeg : Int) := s3.2.2.2.2
      have dd := d e k k1 k2
      rw [rz_o _ _ _ _ _ (Or.inl (by omega)), rz_o _ _ _ _ _ (Or.inl (by omega))]
      exact dd
  · rw [n07] at hl
    by_cases el : l = x1.toNatClampNeg
    · rw [el, cj]
      exact z2.2.2.1
    · rw [co l (by omega) el]
      refine ((x.2.2.2.1 l hl).cg (h' := h1) (fun a ha => ?_)).cg (fun a ha => ?_)
      · have z : ∀ a ∈ 206 :: mrL, 200 ≤ a ∧ a < 300 := by decide
        rw [rr a (z a ha).1 (z a ha).2]
      · rcases List.mem_cons.mp ha with e | e
        · rw [e]
          exact fr_i f2 (by decide +kernel) l
        · exact z2.2.1.2 a e l el
  · rw [nr'] at hk
    rw [g47, g48, g49, g50, g51, g52, g53, g238, g239, g240, g241, g242, g243, g244]
    by_cases ck : k < (h_i h 16 7).toNatClampNeg
    · have q := x.2.2.2.2.1 k ck
      rw [rz_o _ _ _ _ _ (Or.inl ck), rz_o _ _ _ _ _ (Or.inl ck), rz_o _ _ _ _ _ (Or.inl ck), rz_o _ _ _ _ _ (Or.inl ck), rz_o _ _ _ _ _ (Or.inl ck), rz_o _ _ _ _ _ (Or.inl ck), rz_o _ _ _ _ _ (Or.inl ck), rz_o _ _ _ _ _ (Or.inl ck), rz_o _ _ _ _ _ (Or.inl ck), rz_o _ _ _ _ _ (Or.inl ck), rz_o _ _ _ _ _ (Or.inl ck), rq_o _ _ _ _ _ (Or.inl ck), rq_o _ _ _ _ _ (Or.inl ck), rq_o _ _ _ _ _ (Or.inl ck), rz_o _ _ _ _ _ (Or.inl ck), rz_o _ _ _ _ _ (Or.inl ck), n00]
      exact q
    · obtain ⟨a1, h1a, h1b⟩ := rz_at (fun _ => x1) Q (h_i h 16 7).toNatClampNeg (h_i h 47) (k := k) (by omega) (by omega)
      obtain ⟨a2, h2a, h2b⟩ := rz_at Prod.fst Q (h_i h 16 7).toNatClampNeg (h_i h 48) (k := k) (by omega) (by omega)
      obtain ⟨a3, h3a, h3b⟩ := rz_at (fun e => h_i h 0 0 + e.2) Q (h_i h 16 7).toNatClampNeg (h_i h 49) (k := k) (by omega) (by omega)
      obtain ⟨a4, h4a, h4b⟩ := rz_at (fun _ => h_i h 0 0) Q (h_i h 16 7).toNatClampNeg (h_i h 50) (k := k) (by omega) (by omega)
      obtain ⟨a5, h5a, _⟩ := rz_at (fun _ => (-1 : Int32)) Q (h_i h 16 7).toNatClampNeg (h_i h 241) (k := k) (by omega) (by omega)
      obtain ⟨a6, h6a, _⟩ := rz_at (fun _ => (-1 : Int32)) Q (h_i h 16 7).toNatClampNeg (h_i h 242) (k := k) (by omega) (by omega)
      have o51 := x.2.2.2.2.2 k (by omega) (by omega)
      refine ⟨stt_ev pn FE (Or.inl ⟨o51, h5a, h6a⟩) (fun _ _ => o51), ⟨?_, ?_, ?_, ?_⟩, by rw [n00]; exact tm_rz (N := (h_i h 0 0).toInt) (fun y => absurd o51 y) (Int.le_refl _)⟩
      · rw [h1a, h1b]
      · rw [h2a, h2b]
      · rw [h3a, h3b]
      · rw [h4a, h4b]
  · rw [nr'] at hk
    rw [g51, rz_o _ _ _ _ _ (Or.inr (by omega))]
    exact x.2.2.2.2.2 k (by omega) (by omega)
/-! MEN: path, beat, constable -/
def mqS : List Nat := [47, 48, 49, 50, 51, 52, 53, 206, 208, 209, 210, 211, 212, 213, 214, 215, 216, 217, 218, 219, 238, 239, 240, 241, 242, 243, 244, 248]
theorem mqS_m : ∀ a ∈ 206 :: mrL, a ∈ mqS := by decide
theorem ExM.cg2 {h h' : Hp_} (x : ExM h) (n : ∀ q ∈ [(0, 7), (1, 7), (0, 0), (1, 0), (16, 7), (1, 63)], h_i h' q.1 q.2 = h_i h q.1 q.2) (r : ∀ a ∈ mqS, h_i h' a = h_i h a) (f : ∀ k, h_r h' 15 k = h_r h 15 k) (c : ∀ j, j < 12 → h_i h' (401 + j) = h_i h (401 + j)) (hw : ∀ a b, ¬ wI h a b = -1 → ¬ wI h' a b = -1) (hb : (h_i h 12 3).toNatClampNeg ≤ (h_i h' 12 3).toNatClampNeg) (hB : ∀ k, k < (h_i h 12 3).toNatClampNeg → bL h' k = bL h k) : ExM h' := by
  have n07 : h_i h' 0 7 = h_i h 0 7 := n (0, 7) (by decide)
  have n17 : h_i h' 1 7 = h_i h 1 7 := n (1, 7) (by decide)
  have n00 : h_i h' 0 0 = h_i h 0 0 := n (0, 0) (by decide)
  have n10 : h_i h' 1 0 = h_i h 1 0 := n (1, 0) (by decide)
  have nr : h_i h' 16 7 = h_i h 16 7 := n (16, 7) (by decide)
  have n63 : h_i h' 1 63 = h_i h 1 63 := n (1, 63) (by decide)
  have m12 := x.1.2.2.2
  have r51 := r 51 (by decide)
  refine ⟨⟨by rw [n07, n17]; exact x.1.1, by rw [n00, n10]; exact x.1.2.1, by rw [nr, n63]; exact x.1.2.2.1, by rw [n07]; exact m12⟩, fun k hk => by rw [f k]; exact x.2.1 k (by rw [n07] at hk; exact hk), ?_, fun j hj => ?_, fun k hk => ?_, fun k hk h4 => ?_⟩
  · rw [nr, r 47 (by decide), n07]
    exact (x.2.2.1.mo hw hb hB (Nat.le_refl _) (fun _ _ => rfl)).cs (fun j hj => c j (by omega)) r51
  · rw [n07] at hj
    rw [c j (by omega)]
    exact (x.2.2.2.1 j hj).cg (fun a ha => congrFun (r a (mqS_m a ha)) j)
  · rw [nr] at hk
    rw [r51, r 52 (by decide), r 53 (by decide), r 241 (by decide), r 242 (by decide), r 243 (by decide), r 47 (by decide), r 48 (by decide), r 49 (by decide), r 50 (by decide), r 238 (by decide), r 239 (by decide), r 240 (by decide), r 244 (by decide), n00]
    exact x.2.2.2.2.1 k hk
  · rw [nr] at hk
    rw [r51]
    exact x.2.2.2.2.2 k hk h4
def exoN (ws : List Nat) : Bool := [(0, 7), (1, 7), (0, 0), (1, 0), (16, 7), (1, 63)].all (fun q => !inw ws q.1 q.2) && mqS.all (fun a => off ws a) && off ws 15 && off ws 401
/-- two frames, and what else changes -/
theorem ExM.f2 {w1 w2 : List Nat} {h h1 h2 : Hp_} (x : ExM h) (f1 : Fr w1 h h1) (f2 : Fr w2 h1 h2) (o1 : exoN w1 = true) (o2 : exoN w2 = true) (hw : ∀ a b, ¬ wI h a b = -1 → ¬ wI h2 a b = -1) (hb : (h_i h 12 3).toNatClampNeg ≤ (h_i h2 12 3).toNatClampNeg) (hB : ∀ k, k < (h_i h 12 3).toNatClampNeg → bL h2 k = bL h k) : ExM h2 := by
  unfold exoN at o1 o2
  simp only [Bool.and_eq_true] at o1 o2
  refine x.cg2 (fun q hq => ?_) (fun a ha => (funext (fun k => fr_i f2 (List.all_eq_true.mp o2.1.1.2 a ha) k)).trans (funext (fun k => fr_i f1 (List.all_eq_true.mp o1.1.1.2 a ha) k))) (fun k => ((f2.2 15 k (off_inw o2.1.2 k)).2.2).trans (f1.2 15 k (off_inw o1.1.2 k)).2.2) (fun j hj => funext (fun k => ((f2.2 (401 + j) k ?_).1).trans (f1.2 (401 + j) k ?_).1)) hw hb hB
  · have z1 := List.all_eq_true.mp o1.1.1.1 q hq
    have z2 := List.all_eq_true.mp o2.1.1.1 q hq
    rw [Bool.not_eq_true'] at z1 z2
    exact ((f2.2 q.1 q.2 z2).1).trans (f1.2 q.1 q.2 z1).1
  · rw [inw_ce (b := 401) ((cn_man hj).trans (by decide))]
    exact off_inw o2.2 k
  · rw [inw_ce (b := 401) ((cn_man hj).trans (by decide))]
    exact off_inw o1.2 k
theorem ExM.pt {h h1 h2 : Hp_} {x1 x2 x3 r1 r2 : Int32} (I : Iv h) (I2 : Iv h2) (x : ExM h) (R : ExR h) (k1 : PtX x1 x2 x3 h r1 h1) (k2 : PtM x1 x2 x3 h1 r2 h2) : ExM h2 := by
  have R2 := (R.pt I k1 k2).1
  have f1 := k1.1
  have f2 := k2.1
  have eE1 : eE h1 = eE h := by
    unfold eE
    rw [show h_i h1 200 = h_i h 200 from funext (fun k => fr_i f1 (by decide +kernel) k), show h_i h1 201 = h_i h 201 from funext (fun k => fr_i f1 (by decide +kernel) k), show h_i h1 202 = h_i h 202 from funext (fun k => fr_i f1 (by decide +kernel) k)]
  have eN1 : eN h1 = eN h := by
    unfold eN
    rw [(f1.2 1 6 (by decide +kernel)).1]
  refine x.f2 f1 f2 (by decide +kernel) (by decide +kernel) (fun a b y => (wI_y I2 R2.2).mpr ?_) (by rw [(f2.2 12 3 (by decide +kernel)).1, (f1.2 12 3 (by decide +kernel)).1]; exact Nat.le_refl _) (fun k _ => ?_)
  · obtain ⟨ya, yb, k, t, w⟩ := (wI_y I R.2).mp y
    refine ⟨ya, yb, k, t, ?_⟩
    by_cases o : okPn (h_i h1 1 6) x1 x2 x3
    · obtain ⟨e, n⟩ := k2.2.2.1 o
      rw [e, n, eE1, eN1]
      exact wkq_mo (Nat.le_succ _) (fun i hi => by
        unfold exE
        rw [if_neg (by omega)]) k _ t w
    · rw [k2.2.2.2 o, eE1, eN1]
      exact w
  · have e : ∀ a, off [10001, 30999] a = true → off [1006, 200999, 201999, 202999] a = true → h_i h2 a = h_i h a := fun a o1 o2 => (funext (fun k => fr_i f2 o2 k)).trans (funext (fun k => fr_i f1 o1 k))
    rw [bL_cg (e 227 (by decide +kernel) (by decide +kernel)) (e 228 (by decide +kernel) (by decide +kernel)) (e 229 (by decide +kernel) (by decide +kernel)) (e 230 (by decide +kernel) (by decide +kernel))]
theorem ExM.bt {N : Nat} {h h1 h2 : Hp_} {r1 r2 : Int32} (T : LiT N h) (x : ExM h) (k1 : Iv h1 ∧ Fr wbx h h1 ∧ Btx h r1 h1) (k2 : (Iv h2 ∧ J2 h2) ∧ Btm (h_i h 31) (xn h) h1 r2 h2) : ExM h2 := by
  obtain ⟨I1, F1, kn, ky⟩ := k1
  obtain ⟨⟨I2, JJ⟩, F2, c8, mn, my⟩ := k2
  have a42 : h_i h1 1 42 = h_i h 12 3 := (F1.2 1 42 (by decide +kernel)).1.trans T.r2.symm
  rw [a42] at mn my
  have b123 : h_i h2 12 3 = h_i h1 12 3 := (F2.2 12 3 (by decide +kernel)).1
  have f227 : ∀ k, h_i h1 227 k = h_i h 227 k := fun k => fr_i F1 (by decide +kernel) k
  have f228 : ∀ k, h_i h1 228 k = h_i h 228 k := fun k => fr_i F1 (by decide +kernel) k
  have f229 : ∀ k, h_i h1 229 k = h_i h 229 k := fun k => fr_i F1 (by decide +kernel) k
  have f230 : ∀ k, h_i h1 230 k = h_i h 230 k := fun k => fr_i F1 (by decide +kernel) k
  have bb1 : bB h1 = 150 * (h_i h 12 3).toNatClampNeg := by
    show 150 * (h_i h1 1 42).toNatClampNeg = _
    rw [a42]
  have b3 := x12_in T.1
  have n3 := n_nat b3.1
  have t1 : (1 : Int32).toInt = 1 := rfl
  have w227 : ∀ k, k < (h_i h 12 3).toNatClampNeg → h_i h2 227 k = h_i h 227 k := fun k hk => by
    by_cases o : okB (h_i h 31) (xn h) (h_i h 12 3)
    · rw [(my o).2.2.2.1 k, if_neg (by omega), f227]
    · rw [(mn o).2.2.2 k, f227]
  have ew : wI h2 = wI h := wI_cg ((funext (fun k => fr_i F2 (by decide +kernel) k)).trans (funext (fun k => fr_i F1 (by decide +kernel) k)))
  refine x.f2 F1 F2 (by decide +kernel) (by decide +kernel) (fun a b y => by rw [ew]; exact y) ?_ (fun k hk => ?_)
  · rw [b123]
    by_cases o : okB (h_i h 31) (xn h) (h_i h 12 3)
    · have ex : (h_i h 12 3 + 1).toInt = (h_i h 12 3).toInt + 1 := tx_add (by rw [t1]; omega) (by rw [t1]; omega)
      have n4 := n_nat (x := h_i h 12 3 + 1) (by omega)
      rw [(ky o).2.1]
      omega
    · rw [(kn o).2.1]
      exact Nat.le_refl _
  · unfold bL
    rw [w227 k hk]
    refine List.map_congr_left (fun i hi => ?_)
    have hi := List.mem_range.mp hi
    have zk := (z227 T.1 k).1
    have cc := c8 (150 * k + i) (by rw [bb1]; omega)
    unfold sB
    rw [cc.1, cc.2.1, cc.2.2, f228, f229, f230]
theorem okc_m {m x1 x2 x3 : Int32} (b : 0 ≤ m.toInt ∧ m.toInt ≤ 12) : okc m x1 x2 x3 ↔ okm m x1 x2 x3 := by
  have t12 : (12 : Int32).toInt = 12 := rfl
  have t15 : (15 : Int32).toInt = 15 := rfl
  have t16 : (16 : Int32).toInt = 16 := rfl
  refine ⟨fun o => ⟨o.1, o.2.1, p15.mp o.2.2.1, fun e => by have := q_lt.mp o.2.2.2; rw [e] at this; omega⟩, fun o => ⟨o.1, o.2.1, p15.mpr o.2.2.1, q_lt.mpr ?_⟩⟩
  rcases Int.lt_or_le m.toInt 12 with u | u
  · omega
  · exact absurd (Int32.toInt_inj.mp (by omega)) o.2.2.2
theorem ExM.cn {h h1 h2 : Hp_} {x1 x2 x3 r1 r2 : Int32} (I : Iv h) (x : ExM h) (R : ExR h) (k1 : Cy x1 x2 x3 h r1 h1 ∧ CyA x1 x2 x3 h h1) (k2 : ocm (h_i h1 1 7) x1 x2 x3 r2 (h_i h2 1 7) ∧ CwA x1 x2 x3 h1 h2) : ExM h2 ∧ r1 = r2 := by
  obtain ⟨ky, ka, kn⟩ := k1
  obtain ⟨km, kb, kc⟩ := k2
  have mm := menX_in I
  have nm := n_nat mm.1
  have e17 : h_i h1 1 7 = h_i h 0 7 := (ky.1.2.1.1 7).trans x.1.1.symm
  rw [e17] at km kb kc
  have oe := okc_m (x1 := x1) (x2 := x2) (x3 := x3) mm
  by_cases o : okc (h_i h 0 7) x1 x2 x3
  case neg =>
    have eh := kn o
    subst eh
    have eh := kc (fun y => o (oe.mpr y))
    subst eh
    refine ⟨x, ?_⟩
    rcases ky.2.1 with p | p
    · exact absurd p.1 o
    · rcases km with q | q
      · exact absurd (oe.mpr q.1) o
      · exact p.2.1.trans q.2.1.symm
  have o' := oe.mp o
  obtain ⟨aN, aO, a0⟩ := ka o
  obtain ⟨bN, _, f2, bO⟩ := kb o'
  have t12 : (12 : Int32).toInt = 12 := rfl
  have t1 : (1 : Int32).toInt = 1 := rfl
  have lt := q_lt.mp o.2.2.2
  have ex : (h_i h 0 7 + 1).toInt = (h_i h 0 7).toInt + 1 := tx_add (by rw [t1]; omega) (by rw [t1]; omega)
  have n1 := n_nat (x := h_i h 0 7 + 1) (by omega)
  have e07 : h_i h1 0 7 = h_i h 0 7 + 1 := by
    rcases ky.2.1 with p | p
    · exact p.2.2
    · exact absurd o p.1
  have er1 : r1 = h_i h 0 7 := by
    rcases ky.2.1 with p | p
    · exact p.2.1
    · exact absurd o p.1
  have em : h_i h2 1 7 = h_i h 0 7 + 1 ∧ r2 = h_i h 0 7 := by
    rcases km with p | p
    · exact ⟨p.2.2, p.2.1⟩
    · exact absurd o' p.1
  refine ⟨?_, er1.trans em.2.symm⟩
  have m07 : (h_i h 0 7 + 1).toNatClampNeg = (h_i h 0 7).toNatClampNeg + 1 := by omega
  have i2 : ∀ a, off wcM a = true → h_i h2 a = h_i h1 a := fun a q => funext (fun k => fr_i f2 q k)
  have n07 : h_i h2 0 7 = h_i h 0 7 + 1 := ((f2.2 0 7 (by decide +kernel)).1).trans e07
  have ia : ∀ a, a ≠ 0 → a < 401 → off wcM a = true → h_i h2 a = h_i h a := fun a n l q => (i2 a q).trans (aO a (by omega) n)
  have nr : h_i h2 16 7 = h_i h 16 7 := congrFun (ia 16 (by decide) (by decide) (by decide +kernel)) 7
  have n63 : h_i h2 1 63 = h_i h 1 63 := ((f2.2 1 63 (by decide +kernel)).1).trans (ky.1.2.1.1 63)
  have n3 : h_i h2 12 3 = h_i h 12 3 := congrFun (ia 12 (by decide) (by decide) (by decide +kernel)) 3
  have c2 : ∀ l, l < 12 → h_i h2 (401 + l) = h_i h1 (401 + l) := fun l hl => funext (fun k => (f2.2 (401 + l) k (by
    rw [inw_ce (b := 401) ((cn_man hl).trans (by decide))]
    exact off_inw (by decide +kernel) k)).1)
  have cz := ky.2.2.2
  have n00 : h_i h2 0 0 = h_i h 0 0 := ((f2.2 0 0 (by decide +kernel)).1).trans (a0 0 (by decide))
  refine ⟨⟨by rw [n07, em.1], ?_, by rw [nr, n63]; exact x.1.2.2.1, by rw [n07]; omega⟩, fun k hk => ?_, ?_, fun l hl => ?_, fun k hk => ?_, fun k hk h4 => ?_⟩
  · rw [(f2.2 0 0 (by decide +kernel)).1, a0 0 (by decide), (f2.2 1 0 (by decide +kernel)).1, ky.1.2.1.1 0]
    exact x.1.2.1
  · rw [n07, ex] at hk
    rw [(f2.2 15 k (off_inw (by decide +kernel) k)).2.2]
    by_cases e : k = (h_i h 0 7).toNatClampNeg
    · rw [e]
      exact (cz.1 o).1
    · rw [(cz.2 k (Or.inl e)).1]
      exact x.2.1 k (by omega)
  · rw [wI_cg (ia 30 (by decide) (by decide) (by decide +kernel)), bL_cg (ia 227 (by decide) (by decide) (by decide +kernel)) (ia 228 (by decide) (by decide) (by decide +kernel)) (ia 229 (by decide) (by decide) (by decide +kernel)) (ia 230 (by decide) (by decide) (by decide +kernel)), n3, nr, ia 47 (by decide) (by decide) (by decide +kernel), n07, m07]
    intro l hl
    show Km (wI h) (bL h) _ _ (h_i h2 (401 + l)) ∧ h_i h2 (401 + l) 0 = _ ∧ (h_i h2 (401 + l) 4 = 1 → ∀ k : Nat, (h_i h2 (401 + l) 11).toInt ≤ (k : Int) → (k : Int) < (h_i h2 (401 + l) 12).toInt → h_i h2 51 k = 0 ∧ _)
    rw [ia 51 (by decide) (by decide) (by decide +kernel), c2 l (by omega)]
    by_cases e : l = (h_i h 0 7).toNatClampNeg
    · rw [e, aN]
      have p3 := p15.mp o.2.2.1
      have t15 : (15 : Int32).toInt = 15 := rfl
      have t0 : (0 : Int32).toInt = 0 := rfl
      have u1 := q_le.mp p3.1
      have u2 := q_le.mp p3.2
      have p3' : 0 ≤ x3.toInt ∧ x3.toInt ≤ 15 := ⟨by omega, by omega⟩
      refine ⟨⟨⟨p3', fun _ => p3'.1, fun y => absurd rfl y, fun _ => ⟨rfl, rfl⟩, fun y => absurd (show (0 : Int32) = 4 from y) (by decide), fun y => absurd (show (0 : Int32) = 2 from y) (by decide), fun y => absurd (show (0 : Int32) = 3 from y) (by decide), ?_⟩, fun y => absurd (show (0 : Int32) = 1 from y) (by decide)⟩, x.m I, fun y => absurd (show (0 : Int32) = 1 from y) (by decide)⟩
      show ¬ wI h x3 (if (-1 : Int32) = -1 then x3 else -1) = -1
      rw [if_pos rfl]
      exact (wok I R.2).2.1 _ p3'
    · rw [aO (401 + l) (by omega) (by omega)]
      exact x.2.2.1 l (by omega)
  · rw [n07, m07] at hl
    rw [c2 l (by omega)]
    by_cases e : l = (h_i h 0 7).toNatClampNeg
    · rw [e, aN]
      exact bN
    · rw [aO (401 + l) (by omega) (by omega)]
      refine (x.2.2.2.1 l (by omega)).cg (fun a ha => ?_)
      have z : ∀ a ∈ 206 :: mrL, 200 ≤ a ∧ a < 300 := by decide
      have za := z a ha
      rw [bO a l (by omega) e, aO a (by omega) (by omega)]
  · rw [nr] at hk
    rw [ia 51 (by decide) (by decide) (by decide +kernel), ia 52 (by decide) (by decide) (by decide +kernel), ia 53 (by decide) (by decide) (by decide +kernel), ia 241 (by decide) (by decide) (by decide +kernel), ia 242 (by decide) (by decide) (by decide +kernel), ia 243 (by decide) (by decide) (by decide +kernel), ia 47 (by decide) (by decide) (by decide +kernel), ia 48 (by decide) (by decide) (by decide +kernel), ia 49 (by decide) (by decide) (by decide +kernel), ia 50 (by decide) (by decide) (by decide +kernel), ia 238 (by decide) (by decide) (by decide +kernel), ia 239 (by decide) (by decide) (by decide +kernel), ia 240 (by decide) (by decide) (by decide +kernel), ia 244 (by decide) (by decide) (by decide +kernel), n00]
    exact x.2.2.2.2.1 k hk
  · rw [nr] at hk
    rw [ia 51 (by decide) (by decide) (by decide +kernel)]
    exact x.2.2.2.2.2 k hk h4
theorem exM_F : ExM HF := by
  have e7 : h_i HF 0 7 = 0 := by decide +kernel
  have er : h_i HF 16 7 = 0 := by decide +kernel
  have z : (0 : Int32).toNatClampNeg = 0 := rfl
  have z2 : (0 : Int32).toInt = 0 := rfl
  refine ⟨⟨by decide +kernel, by decide +kernel, by decide +kernel, by rw [e7, z]; omega⟩, fun k hk => ?_, fun j hj => ?_, fun j hj => ?_, fun k hk => ?_, fun k _ h4 => ?_⟩
  · rw [e7, z2] at hk
    omega
  · rw [e7, z] at hj
    omega
  · rw [e7, z] at hj
    omega
  · rw [er, z] at hk
    omega
  · exact eq_of_beq (List.all_eq_true.mp (show (List.range 400).all (fun k => h_i HF 51 k == 0) = true by decide +kernel) k (List.mem_range.mpr h4))
end
section
/-! what the readers put down: tokens (sort, argument), behind what is found -/
abbrev Tk2 : Type := Int32 × Int32
abbrev Rcf (α : Type) : Type := Nat → Bool × Nat × List α
abbrev Rce : Type := Rcf Tk2
def k2pre {α : Type} (E : List α) (R : Bool × Nat × List α) : Bool × Nat × List α := (R.1, R.2.1, E ++ R.2.2)
def k2app (R : Bool × Nat × List Tk2) (E : List Tk2) : Bool × Nat × List Tk2 := (R.1, R.2.1, R.2.2 ++ E)
theorem k2pre_0 {α : Type} (R : Bool × Nat × List α) : k2pre [] R = R := rfl
theorem k2pre_a {α : Type} (E F : List α) (R : Bool × Nat × List α) : k2pre E (k2pre F R) = k2pre (E ++ F) R := by
  unfold k2pre
  rw [List.append_assoc]
def k2sq {α : Type} (f g : Rcf α) : Rcf α := fun a => if (f a).1 = true then k2pre (f a).2.2 (g (f a).2.1) else f a
def k2lp {α : Type} (b : Nat → Int32) (n : Nat) (sp : Int32 → Bool) (op : Int32 → List α) (f : Rcf α) : Nat → Rcf α
  | 0, a => (true, ska b n a, [])
  | k + 1, a => if sp (skv b n a) = true then (if (f (ska b n a + 1)).1 = true then k2pre ((f (ska b n a + 1)).2.2 ++ op (skv b n a)) (k2lp b n sp op f k (f (ska b n a + 1)).2.1) else f (ska b n a + 1)) else (true, ska b n a, [])
/-- blanks ahead don't matter -/
def Cne {α : Type} (b : Nat → Int32) (n : Nat) (f : Rcf α) : Prop := ∀ a, f (ska b n a) = f a
/-- the place behind lies further on; no more tokens than signs -/
def Fwe (b : Nat → Int32) (n : Nat) (f : Rce) : Prop := ∀ a, (f a).1 = true → ska b n a < (f a).2.1 ∧ (f a).2.1 ≤ n ∧ ska b n (f a).2.1 = (f a).2.1 ∧ (f a).2.2.length + ska b n a ≤ (f a).2.1
/-- the same of one that may find nothing -/
def Fwz (b : Nat → Int32) (n : Nat) (f : Rce) : Prop := ∀ p, ska b n p = p → p ≤ n → (f p).1 = true → p ≤ (f p).2.1 ∧ (f p).2.1 ≤ n ∧ ska b n (f p).2.1 = (f p).2.1 ∧ (f p).2.2.length + p ≤ (f p).2.1
/-- what it finds is what the other finds -/
def Pje {α : Type} (f : Rcf α) (g : Rcg) : Prop := ∀ a, (f a).1 = (g a).1 ∧ (f a).2.1 = (g a).2
theorem Pje.sq {α : Type} {f g : Rcf α} {f' g' : Rcg} (p : Pje f f') (q : Pje g g') : Pje (k2sq f g) (sqr f' g') := fun a => by
  unfold k2sq sqr
  rw [(p a).1, (p a).2]
  by_cases c : (f' a).1 = true
  · rw [if_pos c, if_pos c]
    exact q _
  · rw [if_neg c, if_neg c]
    exact p a
theorem Pje.lp {α : Type} {b : Nat → Int32} {n : Nat} {sp : Int32 → Bool} {op : Int32 → List α} {f : Rcf α} {f' : Rcg} (p : Pje f f') : ∀ k : Nat, Pje (k2lp b n sp op f k) (lpr b n sp f' k)
  | 0 => fun _ => ⟨rfl, rfl⟩
  | k + 1 => fun a => by
    unfold k2lp lpr
    by_cases c : sp (skv b n a) = true
    · rw [if_pos c, if_pos c, (p (ska b n a + 1)).1, (p (ska b n a + 1)).2]
      by_cases d : (f' (ska b n a + 1)).1 = true
      · rw [if_pos d, if_pos d]
        exact Pje.lp p k _
      · rw [if_neg d, if_neg d]
        exact p _
    · rw [if_neg c, if_neg c]
      exact ⟨rfl, rfl⟩
theorem Cne.sq {α : Type} {b : Nat → Int32} {n : Nat} {f g : Rcf α} (h : Cne b n f) : Cne b n (k2sq f g) := fun a => by
  unfold k2sq
  rw [h a]
theorem Cne.lp {α : Type} {b : Nat → Int32} {n : Nat} {sp : Int32 → Bool} {op : Int32 → List α} {f : Rcf α} (k : Nat) : Cne b n (k2lp b n sp op f k) := fun a => by
  cases k with
  | zero =>
    show (true, ska b n (ska b n a), []) = (true, ska b n a, [])
    rw [ska_i]
  | succ k =>
    show (if sp (skv b n (ska b n a)) = true then (if (f (ska b n (ska b n a) + 1)).1 = true then k2pre ((f (ska b n (ska b n a) + 1)).2.2 ++ op (skv b n (ska b n a))) (k2lp b n sp op f k (f (ska b n (ska b n a) + 1)).2.1) else f (ska b n (ska b n a) + 1)) else (true, ska b n (ska b n a), [])) = _
    rw [ska_i, skv_i]
    rfl
theorem k2sq_a {α : Type} (f g k : Rcf α) : k2sq (k2sq f g) k = k2sq f (k2sq g k) := funext (fun a => by
  unfold k2sq
  by_cases c : (f a).1 = true
  · rw [if_pos c, if_pos c]
    by_cases d : (g (f a).2.1).1 = true
    · show (if (g (f a).2.1).1 = true then k2pre ((f a).2.2 ++ (g (f a).2.1).2.2) (k (g (f a).2.1).2.1) else _) = _
      rw [if_pos d, if_pos d, k2pre_a]
    · show (if (g (f a).2.1).1 = true then _ else k2pre (f a).2.2 (g (f a).2.1)) = _
      rw [if_neg d, if_neg d]
  · rw [if_neg c, if_neg c, if_neg c])
theorem Fwe.sq {b : Nat → Int32} {n : Nat} {f g : Rce} (hf : Fwe b n f) (hg : Fwz b n g) : Fwe b n (k2sq f g) := fun a h => by
  unfold k2sq at h ⊢
  by_cases c : (f a).1 = true
  · rw [if_pos c] at h ⊢
    have q := hf a c
    have r := hg _ q.2.2.1 q.2.1 h
    refine ⟨?_, r.2.1, r.2.2.1, ?_⟩
    · show ska b n a < (g (f a).2.1).2.1
      omega
    · show ((f a).2.2 ++ (g (f a).2.1).2.2).length + ska b n a ≤ (g (f a).2.1).2.1
      rw [List.length_append]
      omega
  · rw [if_neg c] at h
    exact absurd h c
theorem Fwz.sq {b : Nat → Int32} {n : Nat} {f g : Rce} (hf : Fwz b n f) (hg : Fwz b n g) : Fwz b n (k2sq f g) := fun p e l h => by
  unfold k2sq at h ⊢
  by_cases c : (f p).1 = true
  · rw [if_pos c] at h ⊢
    have q := hf p e l c
    have r := hg _ q.2.2.1 q.2.1 h
    refine ⟨?_, r.2.1, r.2.2.1, ?_⟩
    · show p ≤ (g (f p).2.1).2.1
      omega
    · show ((f p).2.2 ++ (g (f p).2.1).2.2).length + p ≤ (g (f p).2.1).2.1
      rw [List.length_append]
      omega
  · rw [if_neg c] at h
    exact absurd h c
theorem Fwe.z {b : Nat → Int32} {n : Nat} {f : Rce} (hf : Fwe b n f) : Fwz b n f := fun p e _ h => by
  have q := hf p h
  rw [e] at q
  exact ⟨by omega, q.2.1, q.2.2.1, q.2.2.2⟩
theorem Fwz.lp {b : Nat → Int32} {n : Nat} {sp : Int32 → Bool} {op : Int32 → List Tk2} {f : Rce} (ho : ∀ c, (op c).length ≤ 1) (hf : Fwe b n f) : ∀ k : Nat, Fwz b n (k2lp b n sp op f k)
  | 0 => fun p e l _ => by
    show p ≤ ska b n p ∧ ska b n p ≤ n ∧ ska b n (ska b n p) = ska b n p ∧ 0 + p ≤ ska b n p
    rw [e]
    exact ⟨Nat.le_refl _, l, e, by omega⟩
  | k + 1 => fun p e l h => by
    unfold k2lp at h ⊢
    by_cases c : sp (skv b n p) = true
    · rw [if_pos c] at h ⊢
      by_cases d : (f (ska b n p + 1)).1 = true
      · rw [if_pos d] at h ⊢
        have q := hf _ d
        have g := ska_ge (b := b) (n := n) (a := ska b n p + 1)
        have r := Fwz.lp (op := op) (sp := sp) ho hf k _ q.2.2.1 q.2.1 h
        have o := ho (skv b n p)
        rw [e] at q g r ⊢
        refine ⟨?_, r.2.1, r.2.2.1, ?_⟩
        · show p ≤ (k2lp b n sp op f k (f (p + 1)).2.1).2.1
          omega
        · show (((f (p + 1)).2.2 ++ op (skv b n p)) ++ (k2lp b n sp op f k (f (p + 1)).2.1).2.2).length + p ≤ (k2lp b n sp op f k (f (p + 1)).2.1).2.1
          rw [List.length_append, List.length_append]
          omega
      · rw [if_neg d] at h
        exact absurd h d
    · rw [if_neg c]
      show p ≤ ska b n p ∧ ska b n p ≤ n ∧ ska b n (ska b n p) = ska b n p ∧ 0 + p ≤ ska b n p
      rw [e]
      exact ⟨Nat.le_refl _, l, e, by omega⟩
/-! the grammar, with tokens -/
def k2ex (b : Nat → Int32) (n : Nat) (c : Int32) : Rce := fun a => if skv b n a = c then (true, ska b n (ska b n a + 1), []) else (false, ska b n a, [])
def k2on (b : Nat → Int32) (n : Nat) (sp : Int32 → Bool) : Rce := fun a => if sp (skv b n a) = true then (true, ska b n (ska b n a + 1), [(1, skv b n a)]) else (false, ska b n a, [])
def k2nv (b : Nat → Int32) (n a : Nat) : Int32 := (nml b n 4 0 (ska b n a)).2.2
def k2at (b : Nat → Int32) (n : Nat) (lt : Int32 → Bool) (z : Bool) (f : Rce) : Rce := fun a => if dgb (skv b n a) = true then ((nm0 b n a).1, (nm0 b n a).2, [(0, k2nv b n a)]) else if skv b n a = 91 then (if z = true then (false, ska b n a, []) else k2sq f (k2ex b n 93) (ska b n a + 1)) else k2on b n lt a
def k2tm (b : Nat → Int32) (n : Nat) (f : Rce) : Rce := k2sq f (k2lp b n (isq 42) (fun _ => [(7, 0)]) f 160)
def pmo (c : Int32) : List Tk2 := if c = 43 then [(5, 0)] else [(6, 0)]
def k2sm (b : Nat → Int32) (n : Nat) (f : Rce) : Rce := k2sq (k2tm b n f) (k2lp b n pmb pmo (k2tm b n f) 160)
def k2ss (b : Nat → Int32) (n : Nat) (lt : Int32 → Bool) : Nat → Rce
  | 0 => k2sm b n (k2at b n lt true (fun a => (false, a, [])))
  | r + 1 => k2sm b n (k2at b n lt false (k2ss b n lt r))
def cpo (c : Int32) : Tk2 := if c = 61 then (8, 0) else if c = 60 then (9, 0) else (10, 0)
def k2cm (b : Nat → Int32) (n : Nat) (f : Rce) : Rce := fun a => if sgb (skv b n a) = true then k2app (f (ska b n a + 1)) [cpo (skv b n a)] else (false, ska b n a, [])
def k2mu (b : Nat → Int32) (n : Nat) (u : Rce) : Rce := k2lp b n (isq 38) (fun _ => [(11, 0)]) u 160
def k2pt (b : Nat → Int32) (n : Nat) (u : Rce) : Rce := k2sq u (k2mu b n u)
def k2mp (b : Nat → Int32) (n : Nat) (u : Rce) : Rce := k2sq (k2mu b n u) (k2lp b n (isq 124) (fun _ => [(12, 0)]) (k2pt b n u) 160)
def k2cd (b : Nat → Int32) (n : Nat) (u : Rce) : Rce := k2sq u (k2mp b n u)
def k2un (b : Nat → Int32) (n : Nat) (lt : Int32 → Bool) : Nat → Rce
  | 0 => fun a => if skv b n a = 33 ∨ skv b n a = 40 then (false, ska b n a, []) else k2sq (k2ss b n lt 0) (k2cm b n (k2ss b n lt 0)) a
  | r + 1 => fun a => if skv b n a = 33 then k2app (k2un b n lt r (ska b n a + 1)) [(2, 0)] else if skv b n a = 40 then k2sq (k2cd b n (k2un b n lt r)) (k2ex b n 41) (ska b n a + 1) else k2sq (k2ss b n lt (r + 1)) (k2cm b n (k2ss b n lt (r + 1))) a
/-! they find what the recognizers find -/
theorem Pje.ex {b : Nat → Int32} {n : Nat} {c : Int32} : Pje (k2ex b n c) (exr b n c) := fun a => by
  unfold k2ex exr
  split <;> exact ⟨rfl, rfl⟩
theorem Pje.on {b : Nat → Int32} {n : Nat} {sp : Int32 → Bool} : Pje (k2on b n sp) (onr b n sp) := fun a => by
  unfold k2on onr
  split <;> exact ⟨rfl, rfl⟩
theorem Pje.at {b : Nat → Int32} {n : Nat} {lt : Int32 → Bool} {z : Bool} {f : Rce} {f' : Rcg} (p : Pje f f') : Pje (k2at b n lt z f) (atm b n lt z f') := fun a => by
  unfold k2at atm
  by_cases c : dgb (skv b n a) = true
  · rw [if_pos c, if_pos c]
    exact ⟨rfl, rfl⟩
  · rw [if_neg c, if_neg c]
    by_cases d : skv b n a = 91
    · rw [if_pos d, if_pos d]
      by_cases e : z = true
      · rw [if_pos e, if_pos e]
        exact ⟨rfl, rfl⟩
      · rw [if_neg e, if_neg e]
        exact (p.sq Pje.ex) _
    · rw [if_neg d, if_neg d]
      exact Pje.on _
theorem Pje.tm {b : Nat → Int32} {n : Nat} {f : Rce} {f' : Rcg} (p : Pje f f') : Pje (k2tm b n f) (trm b n f') := p.sq (p.lp 160)
theorem Pje.sm {b : Nat → Int32} {n : Nat} {f : Rce} {f' : Rcg} (p : Pje f f') : Pje (k2sm b n f) (smm b n f') := (p.tm).sq ((p.tm).lp 160)
theorem Pje.ss {b : Nat → Int32} {n : Nat} {lt : Int32 → Bool} : ∀ r : Nat, Pje (k2ss b n lt r) (sms b n lt r)
  | 0 => Pje.sm (Pje.at (fun _ => ⟨rfl, rfl⟩))
  | r + 1 => Pje.sm (Pje.at (Pje.ss r))
theorem Pje.cm {b : Nat → Int32} {n : Nat} {f : Rce} {f' : Rcg} (p : Pje f f') : Pje (k2cm b n f) (cmq b n f') := fun a => by
  unfold k2cm cmq
  by_cases c : sgb (skv b n a) = true
  · rw [if_pos c, if_pos c]
    exact p _
  · rw [if_neg c, if_neg c]
    exact ⟨rfl, rfl⟩
theorem Pje.mu {b : Nat → Int32} {n : Nat} {u : Rce} {u' : Rcg} (p : Pje u u') : Pje (k2mu b n u) (mun b n u') := p.lp 160
theorem Pje.pt {b : Nat → Int32} {n : Nat} {u : Rce} {u' : Rcg} (p : Pje u u') : Pje (k2pt b n u) (prt b n u') := p.sq p.mu
theorem Pje.mp {b : Nat → Int32} {n : Nat} {u : Rce} {u' : Rcg} (p : Pje u u') : Pje (k2mp b n u) (mpt b n u') := (p.mu).sq ((p.pt).lp 160)
theorem Pje.cd {b : Nat → Int32} {n : Nat} {u : Rce} {u' : Rcg} (p : Pje u u') : Pje (k2cd b n u) (cnd b n u') := p.sq p.mp
theorem Pje.un {b : Nat → Int32} {n : Nat} {lt : Int32 → Bool} : ∀ r : Nat, Pje (k2un b n lt r) (unt b n lt r)
  | 0 => fun a => by
    unfold k2un unt
    by_cases c : skv b n a = 33 ∨ skv b n a = 40
    · rw [if_pos c, if_pos c]
      exact ⟨rfl, rfl⟩
    · rw [if_neg c, if_neg c]
      exact ((Pje.ss 0).sq ((Pje.ss 0).cm)) _
  | r + 1 => fun a => by
    unfold k2un unt
    by_cases c : skv b n a = 33
    · rw [if_pos c, if_pos c]
      exact Pje.un r _
    · rw [if_neg c, if_neg c]
      by_cases d : skv b n a = 40
      · rw [if_pos d, if_pos d]
        exact ((Pje.un r).cd.sq Pje.ex) _
      · rw [if_neg d, if_neg d]
        exact ((Pje.ss (r + 1)).sq ((Pje.ss (r + 1)).cm)) _
/-! blanks ahead don't matter -/
theorem Cne.ex {b : Nat → Int32} {n : Nat} {c : Int32} : Cne b n (k2ex b n c) := fun a => by
  unfold k2ex
  rw [skv_i, ska_i]
theorem Cne.on {b : Nat → Int32} {n : Nat} {sp : Int32 → Bool} : Cne b n (k2on b n sp) := fun a => by
  unfold k2on
  rw [skv_i, ska_i]
theorem Cne.at {b : Nat → Int32} {n : Nat} {lt : Int32 → Bool} {z : Bool} {f : Rce} : Cne b n (k2at b n lt z f) := fun a => by
  unfold k2at k2nv
  rw [skv_i, ska_i, nm0_c, Cne.on a]
theorem Cne.ss {b : Nat → Int32} {n : Nat} {lt : Int32 → Bool} (r : Nat) : Cne b n (k2ss b n lt r) := by
  cases r with
  | zero => exact Cne.sq (Cne.sq Cne.at)
  | succ r => exact Cne.sq (Cne.sq Cne.at)
theorem Cne.cm {b : Nat → Int32} {n : Nat} {f : Rce} : Cne b n (k2cm b n f) := fun a => by
  unfold k2cm
  rw [skv_i, ska_i]
theorem Cne.un {b : Nat → Int32} {n : Nat} {lt : Int32 → Bool} (r : Nat) : Cne b n (k2un b n lt r) := fun a => by
  cases r with
  | zero =>
    unfold k2un
    rw [skv_i, ska_i, Cne.sq (Cne.ss 0) a]
  | succ r =>
    unfold k2un
    rw [skv_i, ska_i, Cne.sq (Cne.ss (r + 1)) a]
theorem Cne.mp {b : Nat → Int32} {n : Nat} {u : Rce} : Cne b n (k2mp b n u) := Cne.sq (Cne.lp 160)
theorem Cne.cd {b : Nat → Int32} {n : Nat} {u : Rce} (h : Cne b n u) : Cne b n (k2cd b n u) := Cne.sq h
theorem k2pt_a {b : Nat → Int32} {n : Nat} (u : Rce) : k2cd b n u = k2sq (k2pt b n u) (k2lp b n (isq 124) (fun _ => [(12, 0)]) (k2pt b n u) 160) := by
  unfold k2cd k2mp
  rw [← k2sq_a]
  rfl
/-! how far they go -/
theorem Fwe.ex {b : Nat → Int32} {n : Nat} {c : Int32} (hc : ¬ c = -1) : Fwe b n (k2ex b n c) := fun a h => by
  unfold k2ex at h ⊢
  by_cases q : skv b n a = c
  · rw [if_pos q] at h ⊢
    have z := nxt_f (skv_l (by rw [q]; exact hc))
    exact ⟨z.1, z.2.1, z.2.2, by show 0 + ska b n a ≤ ska b n (ska b n a + 1); have := z.1; omega⟩
  · rw [if_neg q] at h
    exact absurd h (by simp)
theorem Fwe.on {b : Nat → Int32} {n : Nat} {sp : Int32 → Bool} (hc : sp (-1) = false) : Fwe b n (k2on b n sp) := fun a h => by
  unfold k2on at h ⊢
  by_cases q : sp (skv b n a) = true
  · rw [if_pos q] at h ⊢
    have z := nxt_f (skv_l (fun e => by rw [e, hc] at q; exact absurd q (by decide)))
    exact ⟨z.1, z.2.1, z.2.2, by show 1 + ska b n a ≤ ska b n (ska b n a + 1); have := z.1; omega⟩
  · rw [if_neg q] at h
    exact absurd h (by simp)
/-- from one sign further on -/
theorem Fwe.st {b : Nat → Int32} {n : Nat} {f : Rce} (hf : Fwe b n f) {a : Nat} (h : (f (ska b n a + 1)).1 = true) : ska b n a < (f (ska b n a + 1)).2.1 ∧ (f (ska b n a + 1)).2.1 ≤ n ∧ ska b n (f (ska b n a + 1)).2.1 = (f (ska b n a + 1)).2.1 ∧ (f (ska b n a + 1)).2.2.length + (ska b n a + 1) ≤ (f (ska b n a + 1)).2.1 := by
  have q := hf _ h
  have g := ska_ge (b := b) (n := n) (a := ska b n a + 1)
  exact ⟨by omega, q.2.1, q.2.2.1, by omega⟩
theorem Fwe.at {b : Nat → Int32} {n : Nat} {lt : Int32 → Bool} {z : Bool} {f : Rce} (hl : lt (-1) = false) (hf : z = false → Fwe b n f) : Fwe b n (k2at b n lt z f) := fun a h => by
  unfold k2at at h ⊢
  by_cases c : dgb (skv b n a) = true
  · rw [if_pos c] at h ⊢
    have q := nm0_f (b := b) (n := n) a h
    refine ⟨q.1, q.2.1, q.2.2, ?_⟩
    show 1 + ska b n a ≤ (nm0 b n a).2
    have := q.1
    omega
  · rw [if_neg c] at h ⊢
    by_cases d : skv b n a = 91
    · rw [if_pos d] at h ⊢
      by_cases e : z = true
      · rw [if_pos e] at h
        exact absurd h (by simp)
      · rw [if_neg e] at h ⊢
        have k := ((hf (by simpa using e)).sq (Fwe.ex (c := 93) (by decide)).z).st h
        exact ⟨k.1, k.2.1, k.2.2.1, by omega⟩
    · rw [if_neg d] at h ⊢
      exact Fwe.on hl a h
theorem Fwe.tm {b : Nat → Int32} {n : Nat} {f : Rce} (hf : Fwe b n f) : Fwe b n (k2tm b n f) := hf.sq (Fwz.lp (fun _ => Nat.le_refl _) hf 160)
theorem pmo_1 (c : Int32) : (pmo c).length ≤ 1 := by
  unfold pmo
  split <;> exact Nat.le_refl _
theorem Fwe.sm {b : Nat → Int32} {n : Nat} {f : Rce} (hf : Fwe b n f) : Fwe b n (k2sm b n f) := (hf.tm).sq (Fwz.lp pmo_1 hf.tm 160)
theorem Fwe.ss {b : Nat → Int32} {n : Nat} {lt : Int32 → Bool} (hl : lt (-1) = false) : ∀ r : Nat, Fwe b n (k2ss b n lt r)
  | 0 => Fwe.sm (Fwe.at hl (fun e => absurd e (by decide)))
  | r + 1 => Fwe.sm (Fwe.at hl (fun _ => Fwe.ss hl r))
theorem Fwe.cm {b : Nat → Int32} {n : Nat} {f : Rce} (hf : Fwe b n f) : Fwe b n (k2cm b n f) := fun a h => by
  unfold k2cm at h ⊢
  by_cases c : sgb (skv b n a) = true
  · rw [if_pos c] at h ⊢
    have k := hf.st h
    refine ⟨k.1, k.2.1, k.2.2.1, ?_⟩
    show ((f (ska b n a + 1)).2.2 ++ [cpo (skv b n a)]).length + ska b n a ≤ (f (ska b n a + 1)).2.1
    rw [List.length_append]
    show (f (ska b n a + 1)).2.2.length + 1 + ska b n a ≤ _
    omega
  · rw [if_neg c] at h
    exact absurd h (by simp)
theorem Fwz.mu {b : Nat → Int32} {n : Nat} {u : Rce} (hu : Fwe b n u) : Fwz b n (k2mu b n u) := Fwz.lp (fun _ => Nat.le_refl _) hu 160
theorem Fwe.pt {b : Nat → Int32} {n : Nat} {u : Rce} (hu : Fwe b n u) : Fwe b n (k2pt b n u) := hu.sq (Fwz.mu hu)
theorem Fwz.mp {b : Nat → Int32} {n : Nat} {u : Rce} (hu : Fwe b n u) : Fwz b n (k2mp b n u) := (Fwz.mu hu).sq (Fwz.lp (fun _ => Nat.le_refl _) hu.pt 160)
theorem Fwe.cd {b : Nat → Int32} {n : Nat} {u : Rce} (hu : Fwe b n u) : Fwe b n (k2cd b n u) := hu.sq (Fwz.mp hu)
theorem Fwe.un {b : Nat → Int32} {n : Nat} {lt : Int32 → Bool} (hl : lt (-1) = false) : ∀ r : Nat, Fwe b n (k2un b n lt r)
  | 0 => fun a h => by
    unfold k2un at h ⊢
    by_cases c : skv b n a = 33 ∨ skv b n a = 40
    · rw [if_pos c] at h
      exact absurd h (by simp)
    · rw [if_neg c] at h ⊢
      exact ((Fwe.ss hl 0).sq (Fwe.ss hl 0).cm.z) a h
  | r + 1 => fun a h => by
    unfold k2un at h ⊢
    by_cases c : skv b n a = 33
    · rw [if_pos c] at h ⊢
      have k := (Fwe.un hl r).st h
      refine ⟨k.1, k.2.1, k.2.2.1, ?_⟩
      show ((k2un b n lt r (ska b n a + 1)).2.2 ++ [(2, 0)]).length + ska b n a ≤ (k2un b n lt r (ska b n a + 1)).2.1
      rw [List.length_append]
      show (k2un b n lt r (ska b n a + 1)).2.2.length + 1 + ska b n a ≤ _
      omega
    · rw [if_neg c] at h ⊢
      by_cases d : skv b n a = 40
      · rw [if_pos d] at h ⊢
        have k := ((Fwe.un hl r).cd.sq (Fwe.ex (c := 41) (by decide)).z).st h
        exact ⟨k.1, k.2.1, k.2.2.1, by omega⟩
      · rw [if_neg d] at h ⊢
        exact ((Fwe.ss hl (r + 1)).sq (Fwe.ss hl (r + 1)).cm.z) a h
/-! tokens: what stands on the pile behind them (false: a number, true: yes or no) -/
def ty1 (t : Tk2) (s : List Bool) : Option (List Bool) :=
  if t.1 = 0 ∨ t.1 = 1 then some (false :: s)
  else if t.1 = 2 then (match s with | true :: s => some (true :: s) | _ => none)
  else if t.1 = 5 ∨ t.1 = 6 ∨ t.1 = 7 then (match s with | false :: false :: s => some (false :: s) | _ => none)
  else if t.1 = 8 ∨ t.1 = 9 ∨ t.1 = 10 then (match s with | false :: false :: s => some (true :: s) | _ => none)
  else if t.1 = 11 ∨ t.1 = 12 then (match s with | true :: true :: s => some (true :: s) | _ => none)
  else none
def tyL : List Tk2 → List Bool → Option (List Bool)
  | [], s => some s
  | t :: E, s => match ty1 t s with | some s' => tyL E s' | none => none
theorem tyL_a : ∀ (E F : List Tk2) (s s' : List Bool), tyL E s = some s' → tyL (E ++ F) s = tyL F s'
  | [], F, s, s', h => by
    have h : some s = some s' := h
    rw [Option.some.inj h]
    rfl
  | t :: E, F, s, s', h => by
    show (match ty1 t s with | some s' => tyL (E ++ F) s' | none => none) = _
    have h : (match ty1 t s with | some s' => tyL E s' | none => none) = some s' := h
    cases e : ty1 t s with
    | none =>
      rw [e] at h
      cases h
    | some q =>
      rw [e] at h
      exact tyL_a E F q s' h
/-- these tokens put one thing of the kind down -/
def Put1 (y : Bool) (E : List Tk2) : Prop := ∀ s, tyL E s = some (y :: s)
def Wty (y : Bool) (f : Rce) : Prop := ∀ a, (f a).1 = true → Put1 y (f a).2.2
/-- these take one thing and put one of the same kind -/
def Swp (y : Bool) (E : List Tk2) : Prop := ∀ s, tyL E (y :: s) = some (y :: s)
def Wsw (y : Bool) (f : Rce) : Prop := ∀ a, (f a).1 = true → Swp y (f a).2.2
theorem Put1.sw {y : Bool} {E F : List Tk2} (p : Put1 y E) (q : Swp y F) : Put1 y (E ++ F) := fun s => by
  rw [tyL_a E F s _ (p s)]
  exact q s
theorem Swp.sw {y : Bool} {E F : List Tk2} (p : Swp y E) (q : Swp y F) : Swp y (E ++ F) := fun s => by
  rw [tyL_a E F _ _ (p s)]
  exact q s
theorem Wty.sq {y : Bool} {f g : Rce} (p : Wty y f) (q : Wsw y g) : Wty y (k2sq f g) := fun a h => by
  unfold k2sq at h ⊢
  by_cases c : (f a).1 = true
  · rw [if_pos c] at h ⊢
    exact (p a c).sw (q _ h)
  · rw [if_neg c] at h
    exact absurd h c
theorem Wsw.sq {y : Bool} {f g : Rce} (p : Wsw y f) (q : Wsw y g) : Wsw y (k2sq f g) := fun a h => by
  unfold k2sq at h ⊢
  by_cases c : (f a).1 = true
  · rw [if_pos c] at h ⊢
    exact (p a c).sw (q _ h)
  · rw [if_neg c] at h
    exact absurd h c
theorem Wsw.lp {b : Nat → Int32} {n : Nat} {sp : Int32 → Bool} {op : Int32 → List Tk2} {y : Bool} {f : Rce} (p : Wty y f) (o : ∀ c s, tyL (op c) (y :: y :: s) = some (y :: s)) : ∀ k : Nat, Wsw y (k2lp b n sp op f k)
  | 0 => fun _ _ _ => rfl
  | k + 1 => fun a h => by
    unfold k2lp at h ⊢
    by_cases c : sp (skv b n a) = true
    · rw [if_pos c] at h ⊢
      by_cases d : (f (ska b n a + 1)).1 = true
      · rw [if_pos d] at h ⊢
        have z := Wsw.lp (b := b) (n := n) (sp := sp) p o k _ h
        intro s
        show tyL (((f (ska b n a + 1)).2.2 ++ op (skv b n a)) ++ _) (y :: s) = some (y :: s)
        rw [tyL_a _ _ (y :: s) (y :: s) (by rw [tyL_a _ _ _ _ (p _ d (y :: s))]; exact o _ s)]
        exact z s
      · rw [if_neg d] at h
        exact absurd h d
    · rw [if_neg c]
      exact fun _ => rfl
theorem Wty.on {b : Nat → Int32} {n : Nat} {sp : Int32 → Bool} : Wty false (k2on b n sp) := fun a h => by
  unfold k2on at h ⊢
  by_cases q : sp (skv b n a) = true
  · rw [if_pos q]
    exact fun _ => rfl
  · rw [if_neg q] at h
    exact absurd h (by simp)
theorem Wsw.ex {b : Nat → Int32} {n : Nat} {c : Int32} {y : Bool} : Wsw y (k2ex b n c) := fun a h => by
  unfold k2ex at h ⊢
  by_cases q : skv b n a = c
  · rw [if_pos q]
    exact fun _ => rfl
  · rw [if_neg q] at h
    exact absurd h (by simp)
theorem Wty.at {b : Nat → Int32} {n : Nat} {lt : Int32 → Bool} {z : Bool} {f : Rce} (hf : z = false → Wty false f) : Wty false (k2at b n lt z f) := fun a h => by
  unfold k2at at h ⊢
  by_cases c : dgb (skv b n a) = true
  · rw [if_pos c]
    exact fun _ => rfl
  · rw [if_neg c] at h ⊢
    by_cases d : skv b n a = 91
    · rw [if_pos d] at h ⊢
      by_cases e : z = true
      · rw [if_pos e] at h
        exact absurd h (by simp)
      · rw [if_neg e] at h ⊢
        exact (hf (by simpa using e)).sq Wsw.ex _ h
    · rw [if_neg d] at h ⊢
      exact Wty.on a h
theorem Wty.tm {b : Nat → Int32} {n : Nat} {f : Rce} (p : Wty false f) : Wty false (k2tm b n f) := p.sq (Wsw.lp p (fun _ _ => rfl) 160)
theorem Wty.sm {b : Nat → Int32} {n : Nat} {f : Rce} (p : Wty false f) : Wty false (k2sm b n f) := p.tm.sq (Wsw.lp p.tm (fun c s => by
  unfold pmo
  split <;> rfl) 160)
theorem Wty.ss {b : Nat → Int32} {n : Nat} {lt : Int32 → Bool} : ∀ r : Nat, Wty false (k2ss b n lt r)
  | 0 => Wty.sm (Wty.at (fun e => absurd e (by decide)))
  | r + 1 => Wty.sm (Wty.at (fun _ => Wty.ss r))
/-- a number, and a comparison with another -/
def Wcp (f : Rce) : Prop := ∀ a, (f a).1 = true → ∀ s, tyL (f a).2.2 (false :: s) = some (true :: s)
theorem Wcp.cm {b : Nat → Int32} {n : Nat} {f : Rce} (p : Wty false f) : Wcp (k2cm b n f) := fun a h s => by
  unfold k2cm at h ⊢
  by_cases c : sgb (skv b n a) = true
  · rw [if_pos c] at h ⊢
    show tyL ((f (ska b n a + 1)).2.2 ++ [cpo (skv b n a)]) (false :: s) = some (true :: s)
    rw [tyL_a _ _ _ _ (p _ h (false :: s))]
    unfold cpo
    split
    · rfl
    · split <;> rfl
  · rw [if_neg c] at h
    exact absurd h (by simp)
theorem Wty.cp {f g : Rce} (p : Wty false f) (q : Wcp g) : Wty true (k2sq f g) := fun a h => by
  unfold k2sq at h ⊢
  by_cases c : (f a).1 = true
  · rw [if_pos c] at h ⊢
    intro s
    show tyL ((f a).2.2 ++ (g (f a).2.1).2.2) s = _
    rw [tyL_a _ _ _ _ (p a c s)]
    exact q _ h s
  · rw [if_neg c] at h
    exact absurd h c
theorem Wcp.sw {f g : Rce} (p : Wcp f) (q : Wsw true g) : Wcp (k2sq f g) := fun a h s => by
  unfold k2sq at h ⊢
  by_cases c : (f a).1 = true
  · rw [if_pos c] at h ⊢
    show tyL ((f a).2.2 ++ (g (f a).2.1).2.2) (false :: s) = _
    rw [tyL_a _ _ _ _ (p a c s)]
    exact q _ h s
  · rw [if_neg c] at h
    exact absurd h c
theorem Wsw.mu {b : Nat → Int32} {n : Nat} {u : Rce} (p : Wty true u) : Wsw true (k2mu b n u) := Wsw.lp p (fun _ _ => rfl) 160
theorem Wty.pt {b : Nat → Int32} {n : Nat} {u : Rce} (p : Wty true u) : Wty true (k2pt b n u) := p.sq (Wsw.mu p)
theorem Wsw.mp {b : Nat → Int32} {n : Nat} {u : Rce} (p : Wty true u) : Wsw true (k2mp b n u) := (Wsw.mu p).sq (Wsw.lp p.pt (fun _ _ => rfl) 160)
theorem Wty.cd {b : Nat → Int32} {n : Nat} {u : Rce} (p : Wty true u) : Wty true (k2cd b n u) := p.sq (Wsw.mp p)
theorem Wty.un {b : Nat → Int32} {n : Nat} {lt : Int32 → Bool} : ∀ r : Nat, Wty true (k2un b n lt r)
  | 0 => fun a h => by
    unfold k2un at h ⊢
    by_cases c : skv b n a = 33 ∨ skv b n a = 40
    · rw [if_pos c] at h
      exact absurd h (by simp)
    · rw [if_neg c] at h ⊢
      exact (Wty.ss 0).cp (Wcp.cm (Wty.ss 0)) a h
  | r + 1 => fun a h => by
    unfold k2un at h ⊢
    by_cases c : skv b n a = 33
    · rw [if_pos c] at h ⊢
      exact Put1.sw (Wty.un r _ h) (fun _ => rfl)
    · rw [if_neg c] at h ⊢
      by_cases d : skv b n a = 40
      · rw [if_pos d] at h ⊢
        exact (Wty.un r).cd.sq Wsw.ex _ h
      · rw [if_neg d] at h ⊢
        exact (Wty.ss (r + 1)).cp (Wcp.cm (Wty.ss (r + 1))) a h
/-! letters of a token: only such as the sort has; numbers are small -/
def tkO (lt : Int32 → Bool) (t : Tk2) : Prop := (t.1 = 1 → lt t.2 = true) ∧ (t.1 = 0 → 0 ≤ t.2.toInt ∧ t.2.toInt ≤ 9999) ∧ (¬ t.1 = 0 → ¬ t.1 = 1 → t.2 = 0) ∧ (t.1 = 0 ∨ t.1 = 1 ∨ t.1 = 2 ∨ t.1 = 5 ∨ t.1 = 6 ∨ t.1 = 7 ∨ t.1 = 8 ∨ t.1 = 9 ∨ t.1 = 10 ∨ t.1 = 11 ∨ t.1 = 12)
def Otk (lt : Int32 → Bool) (f : Rce) : Prop := ∀ a, (f a).1 = true → ∀ t ∈ (f a).2.2, tkO lt t
theorem tkO_op {lt : Int32 → Bool} {o : Int32} (h : o = 2 ∨ o = 5 ∨ o = 6 ∨ o = 7 ∨ o = 8 ∨ o = 9 ∨ o = 10 ∨ o = 11 ∨ o = 12) : tkO lt (o, 0) := by
  refine ⟨fun e => ?_, fun e => ?_, fun _ _ => rfl, Or.inr (Or.inr h)⟩
  · have e : o = 1 := e
    rw [e] at h
    exact absurd h (by decide)
  · have e : o = 0 := e
    rw [e] at h
    exact absurd h (by decide)
theorem Otk.sq {lt : Int32 → Bool} {f g : Rce} (p : Otk lt f) (q : Otk lt g) : Otk lt (k2sq f g) := fun a h => by
  unfold k2sq at h ⊢
  by_cases c : (f a).1 = true
  · rw [if_pos c] at h ⊢
    intro t ht
    rcases List.mem_append.mp ht with z | z
    · exact p a c t z
    · exact q _ h t z
  · rw [if_neg c] at h
    exact absurd h c
theorem Otk.lp {b : Nat → Int32} {n : Nat} {sp : Int32 → Bool} {op : Int32 → List Tk2} {lt : Int32 → Bool} {f : Rce} (p : Otk lt f) (o : ∀ c, ∀ t ∈ op c, tkO lt t) : ∀ k : Nat, Otk lt (k2lp b n sp op f k)
  | 0 => fun _ _ t ht => by cases ht
  | k + 1 => fun a h => by
    unfold k2lp at h ⊢
    by_cases c : sp (skv b n a) = true
    · rw [if_pos c] at h ⊢
      by_cases d : (f (ska b n a + 1)).1 = true
      · rw [if_pos d] at h ⊢
        intro t ht
        rcases List.mem_append.mp ht with z | z
        · rcases List.mem_append.mp z with z | z
          · exact p _ d t z
          · exact o _ t z
        · exact Otk.lp p o k _ h t z
      · rw [if_neg d] at h
        exact absurd h d
    · rw [if_neg c]
      exact fun t ht => by cases ht
theorem Otk.ex {b : Nat → Int32} {n : Nat} {c : Int32} {lt : Int32 → Bool} : Otk lt (k2ex b n c) := fun a h => by
  unfold k2ex at h ⊢
  by_cases q : skv b n a = c
  · rw [if_pos q]
    exact fun t ht => by cases ht
  · rw [if_neg q] at h
    exact absurd h (by simp)
theorem Otk.on {b : Nat → Int32} {n : Nat} {lt : Int32 → Bool} : Otk lt (k2on b n lt) := fun a h => by
  unfold k2on at h ⊢
  by_cases q : lt (skv b n a) = true
  · rw [if_pos q]
    intro t ht
    rw [List.mem_singleton.mp ht]
    exact ⟨fun _ => q, fun e => absurd (show (1 : Int32) = 0 from e) (by decide), fun _ e => absurd rfl e, Or.inr (Or.inl rfl)⟩
  · rw [if_neg q] at h
    exact absurd h (by simp)
theorem Otk.at {b : Nat → Int32} {n : Nat} {lt : Int32 → Bool} {z : Bool} {f : Rce} (hf : z = false → Otk lt f) : Otk lt (k2at b n lt z f) := fun a h => by
  unfold k2at at h ⊢
  by_cases c : dgb (skv b n a) = true
  · rw [if_pos c] at h ⊢
    intro t ht
    rw [List.mem_singleton.mp ht]
    refine ⟨fun e => absurd (show (0 : Int32) = 1 from e) (by decide), fun _ => ?_, fun e => absurd rfl e, Or.inl rfl⟩
    have d : (nml b n 4 0 (ska b n a)).1 = true := by
      have h : (nm0 b n a).1 = true := h
      unfold nm0 at h
      rw [if_pos c] at h
      by_cases d : (nml b n 4 0 (ska b n a)).1 = true
      · exact d
      · rw [if_neg d] at h
        exact absurd h (by simp)
    have v := nml_v (b := b) (n := n) 4 0 (ska b n a) 0 (by decide) (by decide) (by decide) d
    have p : (((0 + 1) * 10 ^ 4 : Nat) : Int) = 10000 := by decide
    rw [p] at v
    exact ⟨v.1, by show (nml b n 4 0 (ska b n a)).2.2.toInt ≤ 9999; omega⟩
  · rw [if_neg c] at h ⊢
    by_cases d : skv b n a = 91
    · rw [if_pos d] at h ⊢
      by_cases e : z = true
      · rw [if_pos e] at h
        exact absurd h (by simp)
      · rw [if_neg e] at h ⊢
        exact (hf (by simpa using e)).sq Otk.ex _ h
    · rw [if_neg d] at h ⊢
      exact Otk.on a h
theorem tkO_1 {lt : Int32 → Bool} {o : Int32} (h : o = 2 ∨ o = 5 ∨ o = 6 ∨ o = 7 ∨ o = 8 ∨ o = 9 ∨ o = 10 ∨ o = 11 ∨ o = 12) : ∀ t ∈ [((o, 0) : Tk2)], tkO lt t := fun t ht => by
  rw [List.mem_singleton.mp ht]
  exact tkO_op h
theorem Otk.tm {b : Nat → Int32} {n : Nat} {lt : Int32 → Bool} {f : Rce} (p : Otk lt f) : Otk lt (k2tm b n f) := p.sq (Otk.lp p (fun _ => tkO_1 (by decide)) 160)
theorem Otk.sm {b : Nat → Int32} {n : Nat} {lt : Int32 → Bool} {f : Rce} (p : Otk lt f) : Otk lt (k2sm b n f) := p.tm.sq (Otk.lp p.tm (fun c => by
  unfold pmo
  split
  · exact tkO_1 (by decide)
  · exact tkO_1 (by decide)) 160)
theorem Otk.ss {b : Nat → Int32} {n : Nat} {lt : Int32 → Bool} : ∀ r : Nat, Otk lt (k2ss b n lt r)
  | 0 => Otk.sm (Otk.at (fun e => absurd e (by decide)))
  | r + 1 => Otk.sm (Otk.at (fun _ => Otk.ss r))
theorem Otk.cm {b : Nat → Int32} {n : Nat} {lt : Int32 → Bool} {f : Rce} (p : Otk lt f) : Otk lt (k2cm b n f) := fun a h => by
  unfold k2cm at h ⊢
  by_cases c : sgb (skv b n a) = true
  · rw [if_pos c] at h ⊢
    intro t ht
    rcases List.mem_append.mp ht with z | z
    · exact p _ h t z
    · rw [List.mem_singleton.mp z]
      unfold cpo
      split
      · exact tkO_op (by decide)
      · split
        · exact tkO_op (by decide)
        · exact tkO_op (by decide)
  · rw [if_neg c] at h
    exact absurd h (by simp)
theorem Otk.mu {b : Nat → Int32} {n : Nat} {lt : Int32 → Bool} {u : Rce} (p : Otk lt u) : Otk lt (k2mu b n u) := Otk.lp p (fun _ => tkO_1 (by decide)) 160
theorem Otk.pt {b : Nat → Int32} {n : Nat} {lt : Int32 → Bool} {u : Rce} (p : Otk lt u) : Otk lt (k2pt b n u) := p.sq p.mu
theorem Otk.mp {b : Nat → Int32} {n : Nat} {lt : Int32 → Bool} {u : Rce} (p : Otk lt u) : Otk lt (k2mp b n u) := p.mu.sq (Otk.lp p.pt (fun _ => tkO_1 (by decide)) 160)
theorem Otk.cd {b : Nat → Int32} {n : Nat} {lt : Int32 → Bool} {u : Rce} (p : Otk lt u) : Otk lt (k2cd b n u) := p.sq p.mp
theorem Otk.un {b : Nat → Int32} {n : Nat} {lt : Int32 → Bool} : ∀ r : Nat, Otk lt (k2un b n lt r)
  | 0 => fun a h => by
    unfold k2un at h ⊢
    by_cases c : skv b n a = 33 ∨ skv b n a = 40
    · rw [if_pos c] at h
      exact absurd h (by simp)
    · rw [if_neg c] at h ⊢
      exact (Otk.ss 0).sq (Otk.cm (Otk.ss 0)) a h
  | r + 1 => fun a h => by
    unfold k2un at h ⊢
    by_cases c : skv b n a = 33
    · rw [if_pos c] at h ⊢
      intro t ht
      rcases List.mem_append.mp ht with z | z
      · exact Otk.un r _ h t z
      · exact tkO_1 (by decide) t z
    · rw [if_neg c] at h ⊢
      by_cases d : skv b n a = 40
      · rw [if_pos d] at h ⊢
        exact (Otk.un r).cd.sq Otk.ex _ h
      · rw [if_neg d] at h ⊢
        exact (Otk.ss (r + 1)).sq (Otk.cm (Otk.ss (r + 1))) a h
/-! the class's reader, with what it puts down -/
abbrev xc (h : Hp_) : Nat := (h_i h 11 9).toNatClampNeg
theorem x9_in {h : Hp_} (I : Iv h) : 0 ≤ (h_i h 11 9).toInt ∧ (h_i h 11 9).toInt ≤ 164 := by
  have rg := I.2.1 11 9
  rw [show tf 11 9 = (0, 164) by decide +kernel] at rg
  exact ⟨rg.1, rg.2⟩
theorem xc_i {h : Hp_} (I : Iv h) : (xc h : Int) = (h_i h 11 9).toInt := n_nat (x9_in I).1
def pk4 (o x : Int32) : Int32 := o ||| (x <<< ((4 : Int32) &&& 31))
def tkx (s : Nat) (t : Tk2) : Int32 := pk4 t.1 (if t.1 = 1 then ixq s (xch t.2) else t.2)
/-- from h0 to h these ints came behind the code -/
def Cdx (h0 h : Hp_) (E : List Int32) : Prop := xc h = xc h0 + E.length ∧ (∀ k, k < xc h0 → h_i h 33 k = h_i h0 33 k) ∧ ∀ i v, E[i]? = some v → h_i h 33 (xc h0 + i) = v
theorem Cdx.rf (h : Hp_) : Cdx h h [] := ⟨rfl, fun _ _ => rfl, fun i v e => by cases e⟩
theorem Cdx.tr {h0 h1 h2 : Hp_} {E F : List Int32} (a : Cdx h0 h1 E) (c : Cdx h1 h2 F) : Cdx h0 h2 (E ++ F) := by
  refine ⟨by rw [c.1, a.1, List.length_append]; omega, fun k hk => (c.2.1 k (by rw [a.1]; omega)).trans (a.2.1 k hk), fun i v e => ?_⟩
  by_cases l : i < E.length
  · rw [List.getElem?_append_left l] at e
    rw [c.2.1 _ (by rw [a.1]; omega)]
    exact a.2.2 i v e
  · rw [List.getElem?_append_right (by omega)] at e
    have z := c.2.2 _ v e
    rw [a.1, show xc h0 + E.length + (i - E.length) = xc h0 + i by omega] at z
    exact z
theorem Cdx.fr {h0 h h' : Hp_} {E : List Int32} {ws : List Nat} (a : Cdx h0 h E) (f : Fr ws h h') (o : (off ws 33 && !inw ws 11 9) = true) : Cdx h0 h' E := by
  rw [Bool.and_eq_true, Bool.not_eq_true'] at o
  refine ⟨?_, fun k hk => (fr_i f o.1 k).trans (a.2.1 k hk), fun i v e => (fr_i f o.1 _).trans (a.2.2 i v e)⟩
  show (h_i h' 11 9).toNatClampNeg = _
  rw [(f.2 11 9 o.2).1]
  exact a.1
theorem Cdx.f0 {h h' : Hp_} {ws : List Nat} (f : Fr ws h h') (o : (off ws 33 && !inw ws 11 9) = true) : Cdx h h' [] := (Cdx.rf h).fr f o
/-- room in the code -/
def Cbx (b : Nat → Int32) (n : Nat) (h : Hp_) : Prop := xc h ≤ ska b n (xa h) + 1
def Fxe (b : Nat → Int32) (n s : Nat) (T : Bool × Nat × List Tk2) (h0 : Hp_) (r : Int32) (h : Hp_) : Prop := (r = 1 ∧ T.1 = true ∧ ska b n (xa h) = T.2.1 ∧ h_i h 11 3 = h_i h0 11 3 ∧ Cdx h0 h (T.2.2.map (tkx s))) ∨ (r = 0 ∧ T.1 = false ∧ h_i h 11 3 = Int32.ofNat T.2.1)
def Sxe (b : Nat → Int32) (n s : Nat) (T : Bool × Nat × List Tk2) (g : Rce) (h0 : Hp_) (x : Int32) (h : Hp_) : Prop := (x = 1 ∧ (∃ E : List Tk2, T = k2pre E (g (xa h)) ∧ Cdx h0 h (E.map (tkx s)) ∧ E.length + ska b n (xa h0) ≤ ska b n (xa h)) ∧ h_i h 11 3 = h_i h0 11 3) ∨ (x = 0 ∧ T.1 = false ∧ h_i h 11 3 = Int32.ofNat T.2.1)
def Xe (b : Nat → Int32) (n s : Nat) (T : Bool × Nat × List Tk2) (h : Hp_) (r : Int32) (h' : Hp_) : Prop := Iv h' ∧ Fr wzx h h' ∧ Fxe b n s T h r h'
theorem Fxe.z {b : Nat → Int32} {n s : Nat} {T : Bool × Nat × List Tk2} {h0 : Hp_} {r : Int32} {h : Hp_} (F : Fxe b n s T h0 r h) : r = 0 ∨ r = 1 := F.elim (fun y => Or.inr y.1) (fun y => Or.inl y.1)
theorem Fxe.n {b : Nat → Int32} {n s : Nat} {T : Bool × Nat × List Tk2} {h0 : Hp_} {r : Int32} {h : Hp_} (F : Fxe b n s T h0 r h) (e : r = 0) : Fxe b n s T h0 0 h := by
  rcases F with F | F
  · rw [e] at F
    exact absurd F.1 (by decide)
  · exact Or.inr ⟨rfl, F.2⟩
theorem Fxe.y {b : Nat → Int32} {n s : Nat} {T : Bool × Nat × List Tk2} {h0 : Hp_} {r : Int32} {h : Hp_} (F : Fxe b n s T h0 r h) (e : ¬ r = 0) : Fxe b n s T h0 1 h := by
  rcases F with F | F
  · exact Or.inl ⟨rfl, F.2⟩
  · exact absurd F.1 e
theorem Fxe.ok {b : Nat → Int32} {n s : Nat} {T : Bool × Nat × List Tk2} {h0 : Hp_} {r : Int32} {h : Hp_} (F : Fxe b n s T h0 r h) (e : ¬ r = 0) : T.1 = true ∧ ska b n (xa h) = T.2.1 ∧ h_i h 11 3 = h_i h0 11 3 ∧ Cdx h0 h (T.2.2.map (tkx s)) := by
  rcases F with F | F
  · exact F.2
  · exact absurd F.1 e
/-- the same by the recognizer -/
theorem Fxe.q {b : Nat → Int32} {n s : Nat} {T : Bool × Nat × List Tk2} {h0 : Hp_} {r : Int32} {h : Hp_} (F : Fxe b n s T h0 r h) : Fxq b n (T.1, T.2.1) h0 r h := by
  rcases F with F | F
  · exact Or.inl ⟨F.1, F.2.1, F.2.2.1, F.2.2.2.1⟩
  · exact Or.inr F
theorem Fxe.mv {b : Nat → Int32} {n s : Nat} {T : Bool × Nat × List Tk2} {h0 : Hp_} {r : Int32} {h h' : Hp_} (F : Fxe b n s T h0 r h) {ws : List Nat} (f : Fr ws h h') (o : (!inw ws 11 2 && !inw ws 11 3) = true) (o2 : (off ws 33 && !inw ws 11 9) = true) : Fxe b n s T h0 r h' := by
  rw [Bool.and_eq_true, Bool.not_eq_true', Bool.not_eq_true'] at o
  have e2 : h_i h' 11 2 = h_i h 11 2 := (f.2 11 2 o.1).1
  have e3 : h_i h' 11 3 = h_i h 11 3 := (f.2 11 3 o.2).1
  rcases F with F | F
  · refine Or.inl ⟨F.1, F.2.1, ?_, by rw [e3]; exact F.2.2.2.1, F.2.2.2.2.fr f o2⟩
    show ska b n (h_i h' 11 2).toNatClampNeg = _
    rw [e2]
    exact F.2.2.1
  · exact Or.inr ⟨F.1, F.2.1, by rw [e3]; exact F.2.2⟩
theorem Fxe.b {b : Nat → Int32} {n s : Nat} {T : Bool × Nat × List Tk2} {h0 h1 : Hp_} {r : Int32} {h : Hp_} (F : Fxe b n s T h0 r h) (e : h_i h0 11 3 = h_i h1 11 3) (c : Cdx h1 h0 []) : Fxe b n s T h1 r h := by
  rcases F with F | F
  · exact Or.inl ⟨F.1, F.2.1, F.2.2.1, F.2.2.2.1.trans e, c.tr F.2.2.2.2⟩
  · exact Or.inr F
theorem sqe {b : Nat → Int32} {n s : Nat} {f g : Rce} {h0 : Hp_} {r : Int32} {h : Hp_} (c : Cne b n g) (fw : Fwe b n f) (F : Fxe b n s (f (xa h0)) h0 r h) : Sxe b n s (k2sq f g (xa h0)) g h0 r h := by
  rcases F with F | F
  · refine Or.inl ⟨F.1, ⟨(f (xa h0)).2.2, ?_, F.2.2.2.2, ?_⟩, F.2.2.2.1⟩
    · unfold k2sq
      rw [if_pos F.2.1, ← F.2.2.1, c]
    · rw [F.2.2.1]
      exact (fw _ F.2.1).2.2.2
  · have e : k2sq f g (xa h0) = f (xa h0) := by
      unfold k2sq
      exact if_neg (by rw [F.2.1]; decide)
    rw [e]
    exact Or.inr F
/-- the same of one that may find nothing -/
theorem sqez {b : Nat → Int32} {n s : Nat} {f g : Rce} {h0 : Hp_} {r : Int32} {h : Hp_} (c : Cne b n g) (cf : Cne b n f) (ln : xa h0 ≤ n) (fw : Fwz b n f) (F : Fxe b n s (f (xa h0)) h0 r h) : Sxe b n s (k2sq f g (xa h0)) g h0 r h := by
  rcases F with F | F
  · refine Or.inl ⟨F.1, ⟨(f (xa h0)).2.2, ?_, F.2.2.2.2, ?_⟩, F.2.2.2.1⟩
    · unfold k2sq
      rw [if_pos F.2.1, ← F.2.2.1, c]
    · rw [F.2.2.1]
      have z := fw (ska b n (xa h0)) ska_i (ska_le ln) (by rw [cf]; exact F.2.1)
      rw [cf] at z
      exact z.2.2.2
  · have e : k2sq f g (xa h0) = f (xa h0) := by
      unfold k2sq
      exact if_neg (by rw [F.2.1]; decide)
    rw [e]
    exact Or.inr F
theorem sqe2 {b : Nat → Int32} {n s : Nat} {f g : Rce} {a : Nat} {h0 : Hp_} {r r2 : Int32} {h h2 : Hp_} (c : Cne b n g) (F : Fxe b n s (f a) h0 r h) (e : ¬ r = 0) (G : Fxe b n s (g (xa h)) h r2 h2) : Fxe b n s (k2sq f g a) h0 r2 h2 := by
  have k := F.ok e
  have e1 : k2sq f g a = k2pre (f a).2.2 (g (xa h)) := by
    unfold k2sq
    rw [if_pos k.1, ← k.2.1, c]
  rw [e1]
  rcases G with G | G
  · refine Or.inl ⟨G.1, G.2.1, G.2.2.1, G.2.2.2.1.trans k.2.2.1, ?_⟩
    show Cdx h0 h2 (((f a).2.2 ++ (g (xa h)).2.2).map (tkx s))
    rw [List.map_append]
    exact k.2.2.2.tr G.2.2.2.2
  · exact Or.inr G
theorem sqen {b : Nat → Int32} {n s : Nat} {f g : Rce} {a : Nat} {h0 : Hp_} {r : Int32} {h : Hp_} (F : Fxe b n s (f a) h0 r h) (e : r = 0) : Fxe b n s (k2sq f g a) h0 0 h := by
  have k := F.n e
  rcases k with k | k
  · exact absurd k.1 (by decide)
  · have e1 : k2sq f g a = f a := by
      unfold k2sq
      exact if_neg (by rw [k.2.1]; decide)
    rw [e1]
    exact Or.inr k
theorem Sxe.z {b : Nat → Int32} {n s : Nat} {T : Bool × Nat × List Tk2} {g : Rce} {h0 : Hp_} {x : Int32} {h : Hp_} (F : Sxe b n s T g h0 x h) : x = 0 ∨ x = 1 := F.elim (fun y => Or.inr y.1) (fun y => Or.inl y.1)
theorem Sxe.n {b : Nat → Int32} {n s : Nat} {T : Bool × Nat × List Tk2} {g : Rce} {h0 : Hp_} {x : Int32} {h : Hp_} (F : Sxe b n s T g h0 x h) (e : x = 0) : Fxe b n s T h0 x h := by
  rcases F with F | F
  · rw [e] at F
    exact absurd F.1 (by decide)
  · exact Or.inr F
theorem Sxe.ok {b : Nat → Int32} {n s : Nat} {T : Bool × Nat × List Tk2} {g : Rce} {h0 : Hp_} {x : Int32} {h : Hp_} (F : Sxe b n s T g h0 x h) (e : ¬ x = 0) : x = 1 ∧ (∃ E : List Tk2, T = k2pre E (g (xa h)) ∧ Cdx h0 h (E.map (tkx s)) ∧ E.length + ska b n (xa h0) ≤ ska b n (xa h)) ∧ h_i h 11 3 = h_i h0 11 3 := by
  rcases F with F | F
  · exact F
  · exact absurd F.1 e
theorem Sxe.cb {b : Nat → Int32} {n s : Nat} {T : Bool × Nat × List Tk2} {g : Rce} {h0 : Hp_} {x : Int32} {h : Hp_} (F : Sxe b n s T g h0 x h) (e : ¬ x = 0) (c : Cbx b n h0) : Cbx b n h := by
  obtain ⟨_, ⟨E, _, k, l⟩, _⟩ := F.ok e
  have z := k.1
  rw [List.length_map] at z
  unfold Cbx at c ⊢
  omega
theorem Fxe.cb {b : Nat → Int32} {n s : Nat} {f : Rce} {h0 : Hp_} {r : Int32} {h : Hp_} (F : Fxe b n s (f (xa h0)) h0 r h) (e : ¬ r = 0) (fw : Fwe b n f) (c : Cbx b n h0) : Cbx b n h := by
  obtain ⟨k1, k2, _, k4⟩ := F.ok e
  have z := k4.1
  rw [List.length_map] at z
  have q := (fw _ k1).2.2.2
  unfold Cbx at c ⊢
  omega
theorem le0 {b : Nat → Int32} {n s : Nat} {T : Bool × Nat × List Tk2} {sp : Int32 → Bool} {op : Int32 → List Tk2} {f : Rce} {h0 : Hp_} {x : Int32} {h : Hp_} (F : Sxe b n s T (k2lp b n sp op f 0) h0 x h) : Fxe b n s T h0 x h := by
  rcases F with ⟨e, ⟨E, e1, c, l⟩, e3⟩ | F
  · refine Or.inl ⟨e, by rw [e1]; rfl, by rw [e1]; rfl, e3, ?_⟩
    rw [e1]
    show Cdx h0 h ((E ++ []).map (tkx s))
    rw [List.append_nil]
    exact c
  · exact Or.inr F
theorem lex {b : Nat → Int32} {n s k : Nat} {T : Bool × Nat × List Tk2} {sp : Int32 → Bool} {op : Int32 → List Tk2} {f : Rce} {h0 : Hp_} {x r : Int32} {h h5 : Hp_} (F : Sxe b n s T (k2lp b n sp op f (k + 1)) h0 x h) (w : ¬ x = 0) (L : Pk b n h r h5) (ns : sp r = false) : Fxe b n s T h0 x h5 := by
  obtain ⟨e, ⟨E, e1, c, l⟩, e3⟩ := F.ok w
  have e2 : k2lp b n sp op f (k + 1) (xa h) = (true, ska b n (xa h), []) := by
    unfold k2lp
    exact if_neg (by rw [← L.2.2.2, ns]; decide)
  rw [e2] at e1
  refine Or.inl ⟨e, by rw [e1]; rfl, by rw [e1, L.i, L.2.2.1]; rfl, by rw [(L.2.1.2 11 3 (by decide +kernel)).1]; exact e3, ?_⟩
  rw [e1]
  show Cdx h0 h5 ((E ++ []).map (tkx s))
  rw [List.append_nil]
  exact c.fr L.2.1 (by decide +kernel)
theorem les {b : Nat → Int32} {n s k : Nat} {T : Bool × Nat × List Tk2} {sp : Int32 → Bool} {op : Int32 → List Tk2} {f : Rce} {h0 : Hp_} {x r r9 : Int32} {h h6 h9 : Hp_} (ho : (op r).length ≤ 1) (fw : Fwe b n f) (F : Sxe b n s T (k2lp b n sp op f (k + 1)) h0 x h) (w : ¬ x = 0) (er : r = skv b n (xa h)) (ys : sp r = true) (e6 : h_i h6 11 3 = h_i h 11 3) (c6 : Cdx h h6 []) (G : Fxe b n s (k2app (f (ska b n (xa h) + 1)) (op r)) h6 r9 h9) : Sxe b n s T (k2lp b n sp op f k) h0 r9 h9 := by
  obtain ⟨_, ⟨E, e1, c, l⟩, e3⟩ := F.ok w
  have e2 : k2lp b n sp op f (k + 1) (xa h) = if (f (ska b n (xa h) + 1)).1 = true then k2pre ((f (ska b n (xa h) + 1)).2.2 ++ op r) (k2lp b n sp op f k (f (ska b n (xa h) + 1)).2.1) else f (ska b n (xa h) + 1) := by
    rw [er]
    show (if sp (skv b n (xa h)) = true then _ else _) = _
    rw [if_pos (by rw [← er]; exact ys)]
  rw [e2] at e1
  rcases G with ⟨g1, g2, g3, g4, g5⟩ | ⟨g1, g2, g3⟩
  · have g2 : (f (ska b n (xa h) + 1)).1 = true := g2
    have g3 : ska b n (xa h9) = (f (ska b n (xa h) + 1)).2.1 := g3
    rw [if_pos g2, ← g3, Cne.lp k, k2pre_a] at e1
    refine Or.inl ⟨g1, ⟨_, e1, ?_, ?_⟩, (g4.trans e6).trans e3⟩
    · rw [List.map_append]
      exact c.tr (c6.tr g5)
    · have q := (fw.st g2).2.2.2
      rw [List.length_append, List.length_append, g3]
      omega
  · have g2 : (f (ska b n (xa h) + 1)).1 = false := g2
    rw [if_neg (by rw [g2]; decide)] at e1
    refine Or.inr ⟨g1, by rw [e1]; exact g2, ?_⟩
    rw [e1]
    exact g3
theorem Sxe.mv {b : Nat → Int32} {n s : Nat} {T : Bool × Nat × List Tk2} {g : Rce} {h0 : Hp_} {x : Int32} {h h' : Hp_} (F : Sxe b n s T g h0 x h) {ws : List Nat} (f : Fr ws h h') (o : (!inw ws 11 2 && !inw ws 11 3) = true) (o2 : (off ws 33 && !inw ws 11 9) = true) : Sxe b n s T g h0 x h' := by
  rw [Bool.and_eq_true, Bool.not_eq_true', Bool.not_eq_true'] at o
  have e2 : xa h' = xa h := by
    show (h_i h' 11 2).toNatClampNeg = _
    rw [(f.2 11 2 o.1).1]
  have e3 : h_i h' 11 3 = h_i h 11 3 := (f.2 11 3 o.2).1
  rcases F with ⟨q, ⟨E, e1, c, l⟩, g3⟩ | F
  · exact Or.inl ⟨q, ⟨E, by rw [e2]; exact e1, c.fr f o2, by rw [e2]; exact l⟩, by rw [e3]; exact g3⟩
  · exact Or.inr ⟨F.1, F.2.1, by rw [e3]; exact F.2.2⟩
/-- room behind a look, and one sign further -/
theorem Cbx.pk {b : Nat → Int32} {n : Nat} {h h1 : Hp_} {r : Int32} (c : Cbx b n h) (L : Pk b n h r h1) : Cbx b n h1 := by
  have e : xc h1 = xc h := by
    show (h_i h1 11 9).toNatClampNeg = _
    rw [(L.2.1.2 11 9 (by decide +kernel)).1]
  unfold Cbx at c ⊢
  rw [L.i, L.2.2.1, e]
  exact c
theorem Cbx.nx {b : Nat → Int32} {n : Nat} {h h6 : Hp_} (c : Cbx b n h) (F6 : Fr [11002] h h6) (a6 : xa h6 = ska b n (xa h) + 1) : Cbx b n h6 := by
  have e : xc h6 = xc h := by
    show (h_i h6 11 9).toNatClampNeg = _
    rw [(F6.2 11 9 (by decide +kernel)).1]
  have g := ska_ge (b := b) (n := n) (a := ska b n (xa h) + 1)
  unfold Cbx at c ⊢
  rw [a6, e]
  omega
theorem Cbx.em {b : Nat → Int32} {n s : Nat} {f : Rce} {h : Hp_} (I : Iv h) (t : Tx b n s h) (c : Cbx b n h) (fw : Fwe b n f) (y : (f (xa h)).1 = true) : xc h + (f (xa h)).2.2.length < 164 := by
  have q := fw _ y
  have ni := xn_i I
  rw [t.2.1] at ni
  have z1 := (x1_in I).2
  unfold Cbx at c
  omega
theorem c_eme (d : Nat) {h : Hp_} (I : Iv h) (x1 x2 : Int32) (l : xc h < 164) : Ci (m_X8_emit (d + 1) 0 0) [.ref 11, .int x1, .int x2] h (fun r h' => Iv h' ∧ Fr [11009, 33999] h h' ∧ r = Int32.ofNat (xc h) ∧ Cdx h h' [pk4 x1 x2]) := by
  have t1 : (1 : Int32).toInt = 1 := rfl
  have t164 : (164 : Int32).toInt = 164 := rfl
  have b9 := x9_in I
  have ci := xc_i I
  have ex : (h_i h 11 9 + 1).toInt = (h_i h 11 9).toInt + 1 := tx_add (by rw [t1]; omega) (by rw [t1]; omega)
  refine t_X8_emit d h I.1 x1 x2 _ ⟨fun _ => t_X10_pack d h x1 x2 _ ⟨I.1, dp_in (lo := 0) (hi := 163) ⟨b9.1, by show _ ≤ (163 : Int); omega⟩ (by decide) (by decide), ?_, ?_, ?_, ?_⟩, fun z => ?_⟩
  · exact (tr_ 33 (by decide +kernel) I _ _ (by decide) (by decide)).im (by rw [show tf 11 9 = (0, 164) by decide +kernel]; exact ⟨by omega, by omega⟩) (by decide)
  · exact ((Fr.rf _ _).im (inw_row (by decide +kernel) _)).im (by decide +kernel)
  · have z : ((h_i h 11 9 + 1) - 1).toInt = (h_i h 11 9).toInt := by
      rw [tx_sub (by rw [t1]; omega) (by rw [t1]; omega), t1, ex]
      omega
    rw [Int32.toInt_inj.mp z]
    exact (of_nat32 b9.1).symm
  · refine ⟨?_, fun k hk => ?_, fun i v e => ?_⟩
    · show (h_i (h_im _ 11 9 _) 11 9).toNatClampNeg = xc h + 1
      rw [im_at]
      have k := n_nat (x := h_i h 11 9 + 1) (by omega)
      omega
    · have hk' : k < (h_i h 11 9).toNatClampNeg := hk
      rw [im_ne (by decide), h_i_im, if_neg (fun y => by have z : k = (h_i h 11 9).toNatClampNeg := y.2; omega)]
    · cases i with
      | zero =>
        have e : some (pk4 x1 x2) = some v := e
        rw [im_ne (by decide)]
        show h_i (h_im h 33 (xc h) _) 33 (xc h + 0) = v
        rw [Nat.add_zero, im_at, ← Option.some.inj e]
        rfl
      | succ i => cases e
  · have z := q_nlt z
    omega
/-- a token more, behind what was found -/
theorem c_emq (d : Nat) {b : Nat → Int32} {n s : Nat} {T : Bool × Nat × List Tk2} {h0 h : Hp_} {r : Int32} (I : Iv h) (F : Fxe b n s T h0 r h) (l : T.1 = true → xc h0 + T.2.2.length < 164) (t : Tk2) (x : Int32) (ex : T.1 = true → pk4 t.1 x = tkx s t) (b1 : 0 ≤ t.1.toInt ∧ t.1.toInt ≤ 12) (b2 : -1 ≤ x.toInt ∧ x.toInt ≤ 9999) : Ci (m_X8_emit (d + 1) 0 0) [.ref 11, .int t.1, .int x] h (fun _ h' => Iv h' ∧ Fr [11009, 33999] h h' ∧ Fxe b n s (k2app T [t]) h0 r h') := by
  rcases F with F | F
  · have z := F.2.2.2.2.1
    rw [List.length_map] at z
    have lh : xc h < 164 := by have := l F.2.1; omega
    refine Ci.mono (c_eme d I t.1 x lh) (fun r2 h' k => ⟨k.1, k.2.1, Or.inl ⟨F.1, F.2.1, ?_, ?_, ?_⟩⟩)
    · show ska b n (h_i h' 11 2).toNatClampNeg = T.2.1
      rw [(k.2.1.2 11 2 (by decide +kernel)).1]
      exact F.2.2.1
    · rw [(k.2.1.2 11 3 (by decide +kernel)).1]
      exact F.2.2.2.1
    · show Cdx h0 h' ((T.2.2 ++ [t]).map (tkx s))
      rw [List.map_append]
      have c := k.2.2.2
      rw [ex F.2.1] at c
      exact F.2.2.2.2.tr c
  · exact Ci.mono (c_em d I t.1 x b1 b2) (fun r2 h' k => ⟨k.1, k.2.1, Or.inr ⟨F.1, F.2.1, by rw [(k.2.1.2 11 3 (by decide +kernel)).1]; exact F.2.2⟩⟩)
/-! the class: sums and conditions, with what they put down -/
def Rxe (b : Nat → Int32) (n s : Nat) (S : Rce) (C : Nat → Hp_ → (Int32 → Hp_ → Prop) → Prop) : Prop := ∀ (d : Nat) (h : Hp_), Iv h → Tx b n s h → Cbx b n h → C d h (fun r h' => Xe b n s (S (xa h)) h r h')
theorem Xe.t {b : Nat → Int32} {n s : Nat} {T : Bool × Nat × List Tk2} {h h' : Hp_} {r : Int32} (X : Xe b n s T h r h') (t : Tx b n s h) : Tx b n s h' := t.fr X.2.1 (by decide +kernel)
theorem c_fle {b : Nat → Int32} {n s : Nat} (d : Nat) {h h4 : Hp_} {r3 : Int32} (L : Pk b n h r3 h4) {T : Bool × Nat × List Tk2} (e : T = (false, ska b n (xa h), [])) : Ci (m_X8_fail (d + 0) 0 0) [.ref 11] h4 (fun r h' => Wf h' ∧ ((r = 0 ∨ r = 1) ∧ Xe b n s T h r h')) := by
  refine Ci.mono (c_fl d L.1) (fun r2 h2 k => ⟨k.2.1.1, Or.inl k.1, k.2.1, (L.2.1.more (by decide +kernel)).tr (k.2.2.1.more (by decide +kernel)), Or.inr ⟨k.1, ?_, ?_⟩⟩)
  · rw [e]
  · rw [e, k.2.2.2, L.2.2.1]
theorem c_exe (d : Nat) {b : Nat → Int32} {n s : Nat} {h : Hp_} (I : Iv h) (t : Tx b n s h) (x : Int32) (hx : ¬ x = -1) : Ci (m_X8_expect (d + 1) 0 0) [.ref 11, .int x] h (fun r h' => Xe b n s (k2ex b n x (xa h)) h r h') := by
  refine t_X8_expect d h I.1 x _ (Ci.mono (c_pk d I t) (fun r h1 L => ⟨L.1.1, fun er => ?_, fun nr => c_fle d L ?_⟩))
  · obtain ⟨I6, F6, a6⟩ := nxx I t L (by rw [er]; exact hx)
    have e : k2ex b n x (xa h) = (true, ska b n (ska b n (xa h) + 1), []) := by
      unfold k2ex
      rw [if_pos (by rw [← L.2.2.2]; exact er)]
    rw [e]
    exact ⟨I6, F6.more (by decide +kernel), Or.inl ⟨rfl, rfl, by rw [a6], (F6.2 11 3 (by decide +kernel)).1, Cdx.f0 F6 (by decide +kernel)⟩⟩
  · unfold k2ex
    rw [if_neg (by rw [← L.2.2.2]; exact nr)]
theorem c_ratoe {b : Nat → Int32} {n s : Nat} (hs : s = 1 ∨ s = 2) (e : Nat) (x1 : Int32) (z : Bool) (f : Rce) (hz : z = true ↔ ¬ x1 < 6) (B : x1 < 6 → Rxe b n s f (fun d h K => Ci (m_X8_readSum (d + e + 53) 0 0) [.ref 11, .int (x1 + 1)] h K)) : Rxe b n s (k2at b n (ltb s) z f) (fun d h K => Ci (m_X8_readAtom (d + e + 61) 0 0) [.ref 11, .int x1] h K) := by
  intro d h I t cb
  have s4 : s < 4 := by omega
  have ni := xn_i I
  rw [t.2.1] at ni
  have z1 := (x1_in I).2
  have ai := xa_i I
  have a2 := (x2_in I).2
  refine t_X8_readAtom (d + e) h I.1 x1 _ (Ci.mono (c_pk (d + e) I t) (fun r3 h1 L => ⟨L.1.1, Ci.mono (c_dgx (d + e) h1 r3) (fun r6 h4 q => ?_)⟩))
  obtain ⟨eh, q⟩ := q
  subst eh
  have t4 : Tx b n s h4 := t.fr L.2.1 (by decide +kernel)
  have F4 : Fr wzx h h4 := L.2.1.more (by decide +kernel)
  have e3 : h_i h4 11 3 = h_i h 11 3 := fw3 L.2.1 (by decide +kernel)
  have rm : xc h < 164 ∨ n < ska b n (xa h) := by
    unfold Cbx at cb
    omega
  refine ⟨L.1.1, fun r0 => ?_, fun r1 => ?_⟩
  · have nd : ¬ dgb (skv b n (xa h)) = true := by
      rw [← L.2.2.2]
      rcases q with q | q
      · rw [r0] at q
        exact absurd q.1 (by decide)
      · exact q.2
    refine ⟨fun n91 => ⟨fun nm => ?_, fun em => c_fle (d + e) L ?_⟩, fun e91 => ⟨fun lt => ?_, fun nlt => c_fle (d + e) L ?_⟩⟩
    · have bb := L.in I t nm
      have il := ix_let bb
      have ir := ix_rng bb s4
      have lt : (0 ≤ ixq s (xch r3)) ↔ ltb s r3 = true := by
        rcases hs with u | u <;> subst u
        · exact il.1
        · exact il.2.1
      have ea : k2at b n (ltb s) z f (xa h) = k2on b n (ltb s) (xa h) := by
        unfold k2at
        rw [if_neg nd, if_neg (by rw [← L.2.2.2]; exact n91)]
      refine ⟨s, s4, t4.2.2, Ci.mono (c_ix1f (d + e) s s4 h4 (xch r3)) (fun r15 h13 k => ?_)⟩
      obtain ⟨er, eh⟩ := k
      subst eh
      subst er
      refine ⟨L.1.1, fun p => ?_, fun np => c_fle (d + e) L ?_⟩
      · obtain ⟨I6, F6, a6⟩ := nxx I t L nm
        have l := skv_l (b := b) (n := n) (a := xa h) (by rw [← L.2.2.2]; exact nm)
        have lc : xc h < 164 := by omega
        have e2 : k2at b n (ltb s) z f (xa h) = k2app (true, ska b n (ska b n (xa h) + 1), []) [(1, r3)] := by
          rw [ea]
          unfold k2on
          rw [if_pos (by rw [← L.2.2.2]; exact lt.mp p), ← L.2.2.2]
          rfl
        have G : Fxe b n s (true, ska b n (ska b n (xa h) + 1), []) h 1 (h_im h13 11 2 ((h_i h13 11 2) + 1)) := Or.inl ⟨rfl, rfl, by rw [a6], fw3 F6 (by decide +kernel), Cdx.f0 F6 (by decide +kernel)⟩
        rw [e2]
        exact Ci.mono (c_emq (d + e) I6 G (fun _ => lc) (1, r3) (ixq s (xch r3)) (fun _ => rfl) (show 0 ≤ (1 : Int32).toInt ∧ (1 : Int32).toInt ≤ 12 from by decide) ⟨ir.1, by omega⟩) (fun r19 h17 k => ⟨k.1.1, k.1, (F6.more (by decide +kernel)).tr (k.2.1.more (by decide +kernel)), k.2.2⟩)
      · rw [ea]
        unfold k2on
        exact if_neg (by rw [← L.2.2.2]; exact fun y => np (lt.mpr y))
    · unfold k2at
      rw [if_neg nd, if_neg (by rw [← L.2.2.2]; exact n91)]
      unfold k2on
      refine if_neg ?_
      rw [← L.2.2.2, em]
      rcases hs with u | u <;> subst u <;> decide
    · have ea : k2at b n (ltb s) z f (xa h) = k2sq f (k2ex b n 93) (ska b n (xa h) + 1) := by
        unfold k2at
        rw [if_neg nd, if_pos (by rw [← L.2.2.2]; exact e91), if_neg (fun y => hz.mp y lt)]
      obtain ⟨I6, F6, a6⟩ := nxx I t L (by rw [e91]; decide)
      refine Ci.mono (B lt d _ I6 (t.fr F6 (by decide +kernel)) (cb.nx F6 a6)) (fun r32 h30 X => ?_)
      have G := X.2.2
      rw [a6] at G
      have g3 := fw3 F6 (by decide +kernel)
      have c6 : Cdx h _ [] := Cdx.f0 F6 (by decide +kernel)
      have FX : Fr wzx h h30 := (F6.more (by decide +kernel)).tr X.2.1
      have t30 : Tx b n s h30 := t.fr FX (by decide +kernel)
      refine ⟨X.1.1, fun y0 => ⟨X.1, FX, ?_⟩, fun y1 => Ci.mono (c_exe (d + e) X.1 t30 93 (by decide)) (fun r36 h34 Y => ⟨Y.1.1, fun w0 => ⟨Y.1, FX.tr Y.2.1, ?_⟩, fun w1 => ⟨Y.1, FX.tr Y.2.1, ?_⟩⟩)⟩
      · rw [ea]
        exact (sqen (g := k2ex b n 93) G y0).b g3 c6
      · rw [ea]
        exact ((sqe2 Cne.ex G y1 Y.2.2).n w0).b g3 c6
      · rw [ea]
        exact ((sqe2 Cne.ex G y1 Y.2.2).y w1).b g3 c6
    · unfold k2at
      rw [if_neg nd, if_pos (by rw [← L.2.2.2]; exact e91), if_pos (hz.mpr nlt)]
  · have yd : dgb (skv b n (xa h)) = true := by
      rw [← L.2.2.2]
      rcases q with q | q
      · exact q.2
      · exact absurd q.1 r1
    have lc : xc h < 164 := by have := (dgb_l yd).1; omega
    have ea : k2at b n (ltb s) z f (xa h) = k2app ((nm0 b n (xa h)).1, (nm0 b n (xa h)).2, []) [(0, k2nv b n (xa h))] := by
      unfold k2at
      rw [if_pos yd]
      rfl
    have n0 := nmr_0 (b := b) (n := n) (a := xa h4)
    have nc : nm0 b n (xa h4) = nm0 b n (xa h) := by rw [L.2.2.1, nm0_c]
    rw [nc] at n0
    have cd4 : Cdx h h4 [] := Cdx.f0 L.2.1 (by decide +kernel)
    rw [ea]
    refine Ci.mono (c_rn (d + e) L.1 t4 0 9999) (fun r44 h42 N => ?_)
    have FX : Fr wzx h h42 := F4.tr (N.2.1.more (by decide +kernel))
    have cd42 : Cdx h h42 [] := cd4.fr N.2.1 (by decide +kernel)
    rcases N.2.2 with M | M
    · have v := nmr_b M.1
      have er : r44 = k2nv b n (xa h) := by
        have v2 := M.2.1
        unfold nmr at v2
        have M1 := M.1
        unfold nmr at M1
        rw [L.2.2.1, skv_i, ska_i, if_pos yd] at v2 M1
        by_cases c1 : (nml b n 4 0 (ska b n (xa h))).1 = true
        · rw [if_pos c1] at v2 M1
          by_cases c2 : (0 : Int32) ≤ (nml b n 4 0 (ska b n (xa h))).2.2 ∧ (nml b n 4 0 (ska b n (xa h))).2.2 ≤ 9999
          · rw [if_pos c2] at v2
            exact v2
          · rw [if_neg c2] at M1
            exact absurd M1 (by simp)
        · rw [if_neg c1] at M1
          exact absurd M1 (by simp)
      rw [← M.2.1] at v
      have v0 := q_le.mp v.1
      have v1 := q_le.mp v.2
      have o0 : (0 : Int32).toInt = 0 := rfl
      have o9 : (9999 : Int32).toInt = 9999 := rfl
      have G : Fxe b n s ((nm0 b n (xa h)).1, (nm0 b n (xa h)).2, []) h 1 h42 := Or.inl ⟨rfl, by show (nm0 b n (xa h)).1 = true; rw [← n0.1]; exact M.1, by show _ = (nm0 b n (xa h)).2; rw [← n0.2]; exact M.2.2.1, M.2.2.2.trans e3, cd42⟩
      refine ⟨N.1.1, Ci.mono (c_emq (d + e) N.1 G (fun _ => lc) (0, k2nv b n (xa h)) r44 (fun _ => by rw [er]; rfl) (show 0 ≤ (0 : Int32).toInt ∧ (0 : Int32).toInt ≤ 12 from by decide) ⟨by omega, by omega⟩) (fun r47 h45 k => ⟨k.1.1, fun em => ?_, fun nm => ⟨k.1, FX.tr (k.2.1.more (by decide +kernel)), k.2.2⟩⟩)⟩
      rw [em] at v0
      exact absurd v0 (by decide)
    · have G : Fxe b n s ((nm0 b n (xa h)).1, (nm0 b n (xa h)).2, []) h 0 h42 := Or.inr ⟨rfl, by show (nm0 b n (xa h)).1 = false; rw [← n0.1]; exact M.1, by show _ = Int32.ofNat (nm0 b n (xa h)).2; rw [← n0.2]; exact M.2.2⟩
      have nf : (nm0 b n (xa h)).1 = false := by rw [← n0.1]; exact M.1
      exact ⟨N.1.1, Ci.mono (c_emq (d + e) N.1 G (fun y => absurd (nf.symm.trans y) (by decide)) (0, k2nv b n (xa h)) r44 (fun y => absurd (nf.symm.trans y) (by decide)) (show 0 ≤ (0 : Int32).toInt ∧ (0 : Int32).toInt ≤ 12 from by decide) (by rw [M.2.1]; decide)) (fun r47 h45 k => ⟨k.1.1, fun em => ⟨k.1, FX.tr (k.2.1.more (by decide +kernel)), k.2.2⟩, fun nm => absurd M.2.1 nm⟩)⟩
theorem c_rtere {b : Nat → Int32} {n s : Nat} (e : Nat) (x1 : Int32) (f : Rce) (fw : Fwe b n f) (A : Rxe b n s f (fun d h K => Ci (m_X8_readAtom (d + e + 51) 0 0) [.ref 11, .int x1] h K)) : Rxe b n s (k2tm b n f) (fun d h K => Ci (m_X8_readTerm (d + e + 52) 0 0) [.ref 11, .int x1] h K) := by
  intro d h I t cb
  have lp : ∀ (k : Nat) (x2 x3 : Int32) (h2 : Hp_), x3.toInt + k = 160 → Iv h2 → Fr wzx h h2 → Sxe b n s (k2tm b n f (xa h)) (k2lp b n (isq 42) (fun _ => [(7, 0)]) f k) h x2 h2 → AW (m_X8_readTerm (d + e + 52) 0 0) 0 0 8 [(0, .ref 11), (1, .int x1), (2, .int x2), (3, .int x3)] [] h2 (kI (fun r h' => Xe b n s (k2tm b n f (xa h)) h r h')) := by
    intro k
    induction k with
    | zero =>
      intro x2 x3 h2 m I2 F2 S
      exact t_X8_readTerm_8 (d + e) h2 I2.1 x1 x2 x3 _ ⟨fun _ => ⟨S.z, I2, F2, le0 S⟩, fun z => absurd ((x160 m).1 rfl) z⟩
    | succ k ih =>
      intro x2 x3 h2 m I2 F2 S
      have t2 : Tx b n s h2 := t.fr F2 (by decide +kernel)
      refine t_X8_readTerm_8 (d + e) h2 I2.1 x1 x2 x3 _ ⟨fun z => absurd z ((x160 m).2 (by omega)), fun _ => ⟨fun y0 => ⟨S.z, I2, F2, S.n y0⟩, fun y1 => Ci.mono (c_pk (d + e) I2 t2) (fun r h5 L => ⟨L.1.1, fun nr => ⟨S.z, L.1, F2.tr (L.2.1.more (by decide +kernel)), lex S y1 L (decide_eq_false nr)⟩, fun er => ?_⟩)⟩⟩
      obtain ⟨I6, F6, a6⟩ := nxx I2 t2 L (by rw [er]; decide)
      have t6 := t2.fr F6 (by decide +kernel)
      have cb6 := (S.cb y1 cb).nx F6 a6
      refine Ci.mono (A d _ I6 t6 cb6) (fun r15 h13 X => ⟨X.1.1, Ci.mono (c_emq (d + e) X.1 X.2.2 (fun y => cb6.em I6 t6 fw y) (7, 0) 0 (fun _ => rfl) (by decide) (by decide)) (fun r18 h16 k2 => ⟨k2.1.1, ?_⟩)⟩)
      have G := k2.2.2
      rw [a6] at G
      exact ih r15 (x3 + 1) h16 (x161 m) k2.1 ((F2.tr ((F6.more (by decide +kernel)).tr X.2.1)).tr (k2.2.1.more (by decide +kernel))) (les (Nat.le_refl _) fw S y1 L.2.2.2 (decide_eq_true er) (fw3 F6 (by decide +kernel)) (Cdx.f0 F6 (by decide +kernel)) G)
  exact t_X8_readTerm (d + e) h I.1 x1 _ (Ci.mono (A d h I t cb) (fun r3 h1 X => ⟨X.1.1, lp 160 r3 0 h1 (by decide) X.1 X.2.1 (sqe (f := f) (Cne.lp 160) fw X.2.2)⟩))
theorem c_rsume {b : Nat → Int32} {n s : Nat} (e : Nat) (x1 : Int32) (f : Rce) (fw : Fwe b n f) (A : Rxe b n s (k2tm b n f) (fun d h K => Ci (m_X8_readTerm (d + e + 52) 0 0) [.ref 11, .int x1] h K)) : Rxe b n s (k2sm b n f) (fun d h K => Ci (m_X8_readSum (d + e + 53) 0 0) [.ref 11, .int x1] h K) := by
  intro d h I t cb
  have lp : ∀ (k : Nat) (x2 x3 : Int32) (h2 : Hp_), x3.toInt + k = 160 → Iv h2 → Fr wzx h h2 → Sxe b n s (k2sm b n f (xa h)) (k2lp b n pmb pmo (k2tm b n f) k) h x2 h2 → AW (m_X8_readSum (d + e + 53) 0 0) 0 0 8 [(0, .ref 11), (1, .int x1), (2, .int x2), (3, .int x3)] [] h2 (kI (fun r h' => Xe b n s (k2sm b n f (xa h)) h r h')) := by
    intro k
    induction k with
    | zero =>
      intro x2 x3 h2 m I2 F2 S
      exact t_X8_readSum_8 (d + e) h2 I2.1 x1 x2 x3 _ ⟨fun _ => ⟨S.z, I2, F2, le0 S⟩, fun z => absurd ((x160 m).1 rfl) z⟩
    | succ k ih =>
      intro x2 x3 h2 m I2 F2 S
      have t2 : Tx b n s h2 := t.fr F2 (by decide +kernel)
      have go : ¬ x2 = 0 → ∀ (o : Int32) (r : Int32) (h5 : Hp_), 0 ≤ o.toInt ∧ o.toInt ≤ 12 → pmo r = [(o, 0)] → ¬ o = 1 → Pk b n h2 r h5 → pmb r = true → ¬ r = -1 → Ci (m_X8_readTerm (d + e + 52) 0 0) [.ref 11, .int x1] (h_im h5 11 2 ((h_i h5 11 2) + 1)) (fun r18 h16 => Wf h16 ∧ (Ci (m_X8_emit (d + e + 1) 0 0) [.ref 11, .int o, .int 0] h16 (fun _ h19 => Wf h19 ∧ (AW (m_X8_readSum (d + e + 53) 0 0) 0 0 8 [(0, .ref 11), (1, .int x1), (2, .int r18), (3, .int (x3 + 1))] [] h19 (kI (fun r h' => Xe b n s (k2sm b n f (xa h)) h r h')))))) := fun y1 o r h5 ob eo o1 L pr nr => by
        obtain ⟨I6, F6, a6⟩ := nxx I2 t2 L nr
        have t6 := t2.fr F6 (by decide +kernel)
        have cb6 := (S.cb y1 cb).nx F6 a6
        refine Ci.mono (A d _ I6 t6 cb6) (fun r15 h13 X => ⟨X.1.1, Ci.mono (c_emq (d + e) X.1 X.2.2 (fun y => cb6.em I6 t6 fw.tm y) (o, 0) 0 (fun _ => by unfold tkx; rw [if_neg o1]) ob (by decide)) (fun r18 h16 k2 => ⟨k2.1.1, ?_⟩)⟩)
        have G := k2.2.2
        rw [a6, ← eo] at G
        exact ih r15 (x3 + 1) h16 (x161 m) k2.1 ((F2.tr ((F6.more (by decide +kernel)).tr X.2.1)).tr (k2.2.1.more (by decide +kernel))) (les (pmo_1 r) fw.tm S y1 L.2.2.2 pr (fw3 F6 (by decide +kernel)) (Cdx.f0 F6 (by decide +kernel)) G)
      refine t_X8_readSum_8 (d + e) h2 I2.1 x1 x2 x3 _ ⟨fun z => absurd z ((x160 m).2 (by omega)), fun _ => ⟨fun y0 => ⟨S.z, I2, F2, S.n y0⟩, fun y1 => Ci.mono (c_pk (d + e) I2 t2) (fun r h5 L => ⟨L.1.1, fun e43 => ?_, fun n43 => ?_⟩)⟩⟩
      · refine Ci.mono (c_pk (d + e) L.1 (t2.fr L.2.1 (by decide +kernel))) (fun r14 h12 M => ?_)
        have LM := L.tr M
        exact ⟨M.1.1, fun ne => absurd (LM.2.trans e43) ne, fun _ => go y1 5 r h12 (by decide) (by rw [e43]; rfl) (by decide) LM.1 (by rw [e43]; decide) (by rw [e43]; decide)⟩
      · refine Ci.mono (c_pk (d + e) L.1 (t2.fr L.2.1 (by decide +kernel))) (fun r14 h12 M => ?_)
        have LM := L.tr M
        refine ⟨M.1.1, fun n45 => ⟨S.z, M.1, F2.tr (LM.1.2.1.more (by decide +kernel)), lex S y1 LM.1 (decide_eq_false (fun y => y.elim n43 (fun z => n45 (LM.2.trans z))))⟩, fun e45 => ?_⟩
        refine Ci.mono (c_pk (d + e) M.1 (t2.fr LM.1.2.1 (by decide +kernel))) (fun r35 h33 N => ?_)
        have LN := LM.1.tr N
        have e45' : r = 45 := LM.2.symm.trans e45
        exact ⟨N.1.1, fun _ => go y1 6 r h33 (by decide) (by rw [e45']; rfl) (by decide) LN.1 (by rw [e45']; decide) (by rw [e45']; decide), fun y => absurd (LN.2.symm.trans y) n43⟩
  exact t_X8_readSum (d + e) h I.1 x1 _ (Ci.mono (A d h I t cb) (fun r3 h1 X => ⟨X.1.1, lp 160 r3 0 h1 (by decide) X.1 X.2.1 (sqe (f := k2tm b n f) (Cne.lp 160) fw.tm X.2.2)⟩))
/-- sums at every depth -/
theorem e_sums {b : Nat → Int32} {n s : Nat} (hs : s = 1 ∨ s = 2) : ∀ (r : Nat), r ≤ 6 → Rxe b n s (k2ss b n (ltb s) r) (fun d h K => Ci (m_X8_readSum (d + 10 * (r + 1) + 53) 0 0) [.ref 11, .int (Int32.ofNat (6 - r))] h K)
  | 0, _ => fun d h I t cb => c_rsume 10 (Int32.ofNat (6 - 0)) (k2at b n (ltb s) true (fun a => (false, a, []))) (Fwe.at (ltb_m hs) (fun e => absurd e (by decide))) (c_rtere 10 (Int32.ofNat (6 - 0)) (k2at b n (ltb s) true (fun a => (false, a, []))) (Fwe.at (ltb_m hs) (fun e => absurd e (by decide))) (fun d h I t cb => by
    have q : Ci (m_X8_readAtom (d + 0 + 61) 0 0) [.ref 11, .int (Int32.ofNat (6 - 0))] h (fun q h' => Xe b n s (k2at b n (ltb s) true (fun a => (false, a, [])) (xa h)) h q h') := c_ratoe hs 0 (Int32.ofNat (6 - 0)) true (fun a => (false, a, [])) (by decide) (fun y => absurd y (by decide)) d h I t cb
    rw [show d + 0 + 61 = d + 10 + 51 by omega] at q
    exact q)) d h I t cb
  | r + 1, hr => fun d h I t cb => by
    have o : (Int32.ofNat (6 - (r + 1))).toInt = ((6 - (r + 1) : Nat) : Int) := on_j (by omega)
    have o6 : (6 : Int32).toInt = 6 := rfl
    have o1 : (1 : Int32).toInt = 1 := rfl
    have ex : Int32.ofNat (6 - (r + 1)) + 1 = Int32.ofNat (6 - r) := by
      refine Int32.toInt_inj.mp ?_
      rw [tx_add (by rw [o1]; omega) (by rw [o1]; omega), o1, o, on_j (by omega)]
      omega
    have lt : Int32.ofNat (6 - (r + 1)) < 6 := q_lt.mpr (by rw [o, o6]; omega)
    have B : Rxe b n s (k2ss b n (ltb s) r) (fun d h K => Ci (m_X8_readSum (d + 10 * (r + 1) + 53) 0 0) [.ref 11, .int (Int32.ofNat (6 - (r + 1)) + 1)] h K) := by
      rw [ex]
      exact e_sums hs r (by omega)
    have fw : Fwe b n (k2at b n (ltb s) false (k2ss b n (ltb s) r)) := Fwe.at (ltb_m hs) (fun _ => Fwe.ss (ltb_m hs) r)
    have k := c_rsume (10 * (r + 1 + 1)) (Int32.ofNat (6 - (r + 1))) (k2at b n (ltb s) false (k2ss b n (ltb s) r)) fw (c_rtere (10 * (r + 1 + 1)) (Int32.ofNat (6 - (r + 1))) (k2at b n (ltb s) false (k2ss b n (ltb s) r)) fw (fun d h I t cb => by
      have q : Ci (m_X8_readAtom (d + 10 * (r + 1) + 61) 0 0) [.ref 11, .int (Int32.ofNat (6 - (r + 1)))] h (fun q h' => Xe b n s (k2at b n (ltb s) false (k2ss b n (ltb s) r) (xa h)) h q h') := c_ratoe hs (10 * (r + 1)) (Int32.ofNat (6 - (r + 1))) false _ ⟨fun y => absurd y (by decide), fun y => absurd lt y⟩ (fun _ => B) d h I t cb
      rw [show d + 10 * (r + 1) + 61 = d + 10 * (r + 1 + 1) + 51 by omega] at q
      exact q)) d h I t cb
    exact k
theorem c_rcme {b : Nat → Int32} {n s : Nat} (e : Nat) (x1 : Int32) (f : Rce) (fw : Fwe b n f) (A : Rxe b n s f (fun d h K => Ci (m_X8_readSum (d + e + 53) 0 0) [.ref 11, .int x1] h K)) : Rxe b n s (k2cm b n f) (fun d h K => Ci (m_X8_readComparison (d + e + 54) 0 0) [.ref 11, .int x1] h K) := by
  intro d h I t cb
  refine t_X8_readComparison (d + e) h I.1 x1 _ (Ci.mono (c_pk (d + e) I t) (fun r3 h1 L => ⟨L.1.1, Ci.mono (c_cpx (d + e) h1 r3) (fun r6 h4 q => ?_)⟩))
  obtain ⟨eh, q⟩ := q
  subst eh
  refine ⟨L.1.1, fun r1 => ?_, fun r0 => c_fle (d + e) L ?_⟩
  · have q : sgb r3 = true ∧ ¬ r3 = -1 := by
      rcases q with q | q
      · exact q.2
      · exact absurd q.1 r1
    obtain ⟨I6, F6, a6⟩ := nxx I t L q.2
    have t6 := t.fr F6 (by decide +kernel)
    have cb6 := cb.nx F6 a6
    refine Ci.mono (A d _ I6 t6 cb6) (fun r10 h8 X => ?_)
    have FX : Fr wzx h h8 := (F6.more (by decide +kernel)).tr X.2.1
    have go : ∀ o : Int32, 0 ≤ o.toInt ∧ o.toInt ≤ 12 → ¬ o = 1 → cpo r3 = (o, 0) → Ci (m_X8_emit (d + e + 1) 0 0) [.ref 11, .int o, .int 0] h8 (fun _ h13 => Wf h13 ∧ ((r10 = 0 ∨ r10 = 1) ∧ (Xe b n s (k2cm b n f (xa h)) h r10 h13))) := fun o ob o1 eo => Ci.mono (c_emq (d + e) X.1 X.2.2 (fun y => cb6.em I6 t6 fw y) (o, 0) 0 (fun _ => by unfold tkx; rw [if_neg o1]) ob (by decide)) (fun _ h13 k => ⟨k.1.1, X.2.2.z, k.1, FX.tr (k.2.1.more (by decide +kernel)), by
      have G := k.2.2
      rw [a6] at G
      have ea : k2cm b n f (xa h) = k2app (f (ska b n (xa h) + 1)) [(o, 0)] := by
        unfold k2cm
        rw [if_pos (by rw [← L.2.2.2]; exact q.1), ← L.2.2.2, eo]
      rw [ea]
      exact G.b (fw3 F6 (by decide +kernel)) (Cdx.f0 F6 (by decide +kernel))⟩)
    refine ⟨X.1.1, fun n61 => ⟨fun n60 => go 10 (by decide) (by decide) ?_, fun e60 => go 9 (by decide) (by decide) ?_⟩, fun e61 => go 8 (by decide) (by decide) ?_⟩
    · unfold cpo
      rw [if_neg n61, if_neg n60]
    · unfold cpo
      rw [if_neg n61, if_pos e60]
    · unfold cpo
      rw [if_pos e61]
  · unfold k2cm
    refine if_neg ?_
    rw [← L.2.2.2]
    rcases q with q | q
    · exact absurd r0 q.1
    · rw [q.2]
      decide
theorem c_rmue {b : Nat → Int32} {n s : Nat} (e : Nat) (x1 : Int32) (u : Rce) (fw : Fwe b n u) (A : Rxe b n s u (fun d h K => Ci (m_X8_readUnit (d + e + 55) 0 0) [.ref 11, .int x1] h K)) : Rxe b n s (k2mu b n u) (fun d h K => Ci (m_X8_readMoreUnits (d + e + 56) 0 0) [.ref 11, .int x1] h K) := by
  intro d h I t cb
  have lp : ∀ (k : Nat) (x2 x3 : Int32) (h2 : Hp_), x3.toInt + k = 160 → Iv h2 → Fr wzx h h2 → Sxe b n s (k2mu b n u (xa h)) (k2lp b n (isq 38) (fun _ => [(11, 0)]) u k) h x2 h2 → AW (m_X8_readMoreUnits (d + e + 56) 0 0) 0 0 4 [(0, .ref 11), (1, .int x1), (2, .int x2), (3, .int x3)] [] h2 (kI (fun r h' => Xe b n s (k2mu b n u (xa h)) h r h')) := by
    intro k
    induction k with
    | zero =>
      intro x2 x3 h2 m I2 F2 S
      exact t_X8_readMoreUnits_4 (d + e) h2 I2.1 x1 x2 x3 _ ⟨fun _ => ⟨S.z, I2, F2, le0 S⟩, fun z => absurd ((x160 m).1 rfl) z⟩
    | succ k ih =>
      intro x2 x3 h2 m I2 F2 S
      have t2 : Tx b n s h2 := t.fr F2 (by decide +kernel)
      refine t_X8_readMoreUnits_4 (d + e) h2 I2.1 x1 x2 x3 _ ⟨fun z => absurd z ((x160 m).2 (by omega)), fun _ => ⟨fun y0 => ⟨S.z, I2, F2, S.n y0⟩, fun y1 => Ci.mono (c_pk (d + e) I2 t2) (fun r h5 L => ⟨L.1.1, fun nr => ⟨S.z, L.1, F2.tr (L.2.1.more (by decide +kernel)), lex S y1 L (decide_eq_false nr)⟩, fun er => ?_⟩)⟩⟩
      obtain ⟨I6, F6, a6⟩ := nxx I2 t2 L (by rw [er]; decide)
      have t6 := t2.fr F6 (by decide +kernel)
      have cb6 := (S.cb y1 cb).nx F6 a6
      refine Ci.mono (A d _ I6 t6 cb6) (fun r15 h13 X => ⟨X.1.1, Ci.mono (c_emq (d + e) X.1 X.2.2 (fun y => cb6.em I6 t6 fw y) (11, 0) 0 (fun _ => rfl) (by decide) (by decide)) (fun r18 h16 k2 => ⟨k2.1.1, ?_⟩)⟩)
      have G := k2.2.2
      rw [a6] at G
      exact ih r15 (x3 + 1) h16 (x161 m) k2.1 ((F2.tr ((F6.more (by decide +kernel)).tr X.2.1)).tr (k2.2.1.more (by decide +kernel))) (les (Nat.le_refl _) fw S y1 L.2.2.2 (decide_eq_true er) (fw3 F6 (by decide +kernel)) (Cdx.f0 F6 (by decide +kernel)) G)
  exact t_X8_readMoreUnits (d + e) h x1 _ (lp 160 1 0 h (by decide) I (Fr.rf _ _) (Or.inl ⟨rfl, ⟨[], rfl, Cdx.rf h, by show 0 + _ ≤ _; omega⟩, rfl⟩))
theorem xa_n {b : Nat → Int32} {n s : Nat} {h : Hp_} {T : Bool × Nat × List Tk2} {h0 : Hp_} {r : Int32} (F : Fxe b n s T h0 r h) (e : ¬ r = 0) (l : T.2.1 ≤ n) : xa h ≤ n := by
  have k := (F.ok e).2.1
  have g := ska_ge (b := b) (n := n) (a := xa h)
  omega
theorem c_rmpe {b : Nat → Int32} {n s : Nat} (e : Nat) (x1 : Int32) (u : Rce) (fw : Fwe b n u) (A : Rxe b n s u (fun d h K => Ci (m_X8_readUnit (d + e + 55) 0 0) [.ref 11, .int x1] h K)) (d : Nat) (h : Hp_) (I : Iv h) (t : Tx b n s h) (cb : Cbx b n h) (ln : xa h ≤ n) : Ci (m_X8_readMoreParts (d + e + 57) 0 0) [.ref 11, .int x1] h (fun r h' => Xe b n s (k2mp b n u (xa h)) h r h') := by
  have M := c_rmue e x1 u fw A
  have lp : ∀ (k : Nat) (x2 x3 : Int32) (h2 : Hp_), x3.toInt + k = 160 → Iv h2 → Fr wzx h h2 → Sxe b n s (k2mp b n u (xa h)) (k2lp b n (isq 124) (fun _ => [(12, 0)]) (k2pt b n u) k) h x2 h2 → AW (m_X8_readMoreParts (d + e + 57) 0 0) 0 0 8 [(0, .ref 11), (1, .int x1), (2, .int x2), (3, .int x3)] [] h2 (kI (fun r h' => Xe b n s (k2mp b n u (xa h)) h r h')) := by
    intro k
    induction k with
    | zero =>
      intro x2 x3 h2 m I2 F2 S
      exact t_X8_readMoreParts_8 (d + e) h2 I2.1 x1 x2 x3 _ ⟨fun _ => ⟨S.z, I2, F2, le0 S⟩, fun z => absurd ((x160 m).1 rfl) z⟩
    | succ k ih =>
      intro x2 x3 h2 m I2 F2 S
      have t2 : Tx b n s h2 := t.fr F2 (by decide +kernel)
      refine t_X8_readMoreParts_8 (d + e) h2 I2.1 x1 x2 x3 _ ⟨fun z => absurd z ((x160 m).2 (by omega)), fun _ => ⟨fun y0 => ⟨S.z, I2, F2, S.n y0⟩, fun y1 => Ci.mono (c_pk (d + e) I2 t2) (fun r h5 L => ⟨L.1.1, fun nr => ⟨S.z, L.1, F2.tr (L.2.1.more (by decide +kernel)), lex S y1 L (decide_eq_false nr)⟩, fun er => ?_⟩)⟩⟩
      obtain ⟨I6, F6, a6⟩ := nxx I2 t2 L (by rw [er]; decide)
      have t6 : Tx b n s (h_im h5 11 2 ((h_i h5 11 2) + 1)) := t2.fr F6 (by decide +kernel)
      have cb6 := (S.cb y1 cb).nx F6 a6
      have em : ∀ (w : Int32) (h13 : Hp_), Iv h13 → Fr wzx h2 h13 → Fxe b n s (k2pt b n u (xa (h_im h5 11 2 ((h_i h5 11 2) + 1)))) (h_im h5 11 2 ((h_i h5 11 2) + 1)) w h13 → Ci (m_X8_emit (d + e + 1) 0 0) [.ref 11, .int 12, .int 0] h13 (fun _ h17 => Wf h17 ∧ (AW (m_X8_readMoreParts (d + e + 57) 0 0) 0 0 8 [(0, .ref 11), (1, .int x1), (2, .int w), (3, .int (x3 + 1))] [] h17 (kI (fun r h' => Xe b n s (k2mp b n u (xa h)) h r h')))) := fun w h13 I13 F13 G => Ci.mono (c_emq (d + e) I13 G (fun y => cb6.em I6 t6 fw.pt y) (12, 0) 0 (fun _ => rfl) (by decide) (by decide)) (fun r18 h16 k2 => ⟨k2.1.1, by
        have G := k2.2.2
        rw [a6] at G
        exact ih w (x3 + 1) h16 (x161 m) k2.1 ((F2.tr F13).tr (k2.2.1.more (by decide +kernel))) (les (Nat.le_refl _) fw.pt S y1 L.2.2.2 (decide_eq_true er) (fw3 F6 (by decide +kernel)) (Cdx.f0 F6 (by decide +kernel)) G)⟩)
      refine Ci.mono (A d _ I6 t6 cb6) (fun r15 h13 X => ?_)
      have G := X.2.2
      have F13 : Fr wzx h2 h13 := (F6.more (by decide +kernel)).tr X.2.1
      refine ⟨X.1.1, fun y => em 0 h13 X.1 F13 (sqen (g := k2mu b n u) G y), fun ny => Ci.mono (M d h13 X.1 (X.t t6) (G.cb ny fw cb6)) (fun r22 h20 Y => ⟨Y.1.1, fun w0 => em 0 h20 Y.1 (F13.tr Y.2.1) ((sqe2 (Cne.lp 160) G ny Y.2.2).n w0), fun w1 => em 1 h20 Y.1 (F13.tr Y.2.1) ((sqe2 (Cne.lp 160) G ny Y.2.2).y w1)⟩)⟩
  exact t_X8_readMoreParts (d + e) h I.1 x1 _ (Ci.mono (M d h I t cb) (fun r3 h1 X => ⟨X.1.1, lp 160 r3 0 h1 (by decide) X.1 X.2.1 (sqez (f := k2mu b n u) (Cne.lp 160) (Cne.lp 160) ln (Fwz.mu fw) X.2.2)⟩))
theorem c_rcde {b : Nat → Int32} {n s : Nat} (e : Nat) (x1 : Int32) (u : Rce) (fw : Fwe b n u) (A : Rxe b n s u (fun d h K => Ci (m_X8_readUnit (d + e + 55) 0 0) [.ref 11, .int x1] h K)) : Rxe b n s (k2cd b n u) (fun d h K => Ci (m_X8_readCondition (d + e + 58) 0 0) [.ref 11, .int x1] h K) := by
  intro d h I t cb
  exact t_X8_readCondition (d + e) h I.1 x1 _ (Ci.mono (A d h I t cb) (fun r3 h1 X => ⟨X.1.1, fun y0 => ⟨X.1, X.2.1, sqen (g := k2mp b n u) X.2.2 y0⟩, fun y1 => Ci.mono (c_rmpe e x1 u fw A d h1 X.1 (X.t t) (X.2.2.cb y1 fw cb) (xa_n X.2.2 y1 (fw _ (X.2.2.ok y1).1).2.1)) (fun r7 h5 Y => ⟨Y.1.1, fun w0 => ⟨Y.1, X.2.1.tr Y.2.1, (sqe2 Cne.mp X.2.2 y1 Y.2.2).n w0⟩, fun w1 => ⟨Y.1, X.2.1.tr Y.2.1, (sqe2 Cne.mp X.2.2 y1 Y.2.2).y w1⟩⟩)⟩))
/-- units at every depth -/
theorem e_units {b : Nat → Int32} {n s : Nat} (hs : s = 1 ∨ s = 2) : ∀ (r : Nat), r ≤ 6 → Rxe b n s (k2un b n (ltb s) r) (fun d h K => Ci (m_X8_readUnit (d + 10 * (r + 2) + 55) 0 0) [.ref 11, .int (Int32.ofNat (6 - r))] h K) := by
  intro r
  induction r with
  | zero =>
    intro _ d h I t cb
    have S := e_sums (b := b) (n := n) hs 0 (by omega)
    have fs : Fwe b n (k2ss b n (ltb s) 0) := Fwe.ss (ltb_m hs) 0
    have C := c_rcme 10 _ _ fs S
    have tree := t_X8_readUnit (d + 10) h I.1 (Int32.ofNat (6 - 0)) (fun q h' => Xe b n s (k2un b n (ltb s) 0 (xa h)) h q h') (Ci.mono (c_pk (d + 10) I t) (fun r3 h1 L => ?_))
    · rw [show d + 10 + 65 = d + 10 * (0 + 2) + 55 by omega] at tree
      exact tree
    have bad : (r3 = 33 ∨ r3 = 40) → k2un b n (ltb s) 0 (xa h) = (false, ska b n (xa h), []) := fun y => by
      unfold k2un
      exact if_pos (by rw [← L.2.2.2]; exact y)
    refine ⟨L.1.1, fun e33 => ⟨fun y => absurd y (by decide), fun _ => c_fle (d + 10) L (bad (Or.inl e33))⟩, fun n33 => ⟨fun e40 => ⟨fun y => absurd y (by decide), fun _ => c_fle (d + 10) L (bad (Or.inr e40))⟩, fun n40 => ?_⟩⟩
    have ea : k2un b n (ltb s) 0 (xa h) = k2sq (k2ss b n (ltb s) 0) (k2cm b n (k2ss b n (ltb s) 0)) (xa h1) := by
      unfold k2un
      rw [if_neg (by rw [← L.2.2.2]; exact fun y => y.elim n33 n40), L.2.2.1, Cne.sq (Cne.ss 0)]
    have t1 : Tx b n s h1 := t.fr L.2.1 (by decide +kernel)
    have g3 : h_i h1 11 3 = h_i h 11 3 := fw3 L.2.1 (by decide +kernel)
    have c1 : Cdx h h1 [] := Cdx.f0 L.2.1 (by decide +kernel)
    have F1 : Fr wzx h h1 := L.2.1.more (by decide +kernel)
    rw [ea]
    exact Ci.mono (S d h1 L.1 t1 (cb.pk L)) (fun r50 h48 X => ⟨X.1.1, fun y0 => ⟨X.1, F1.tr X.2.1, (sqen (g := k2cm b n (k2ss b n (ltb s) 0)) X.2.2 y0).b g3 c1⟩, fun y1 => Ci.mono (C d h48 X.1 (X.t t1) (X.2.2.cb y1 fs (cb.pk L))) (fun r54 h52 Y => ⟨Y.1.1, fun w0 => ⟨Y.1, (F1.tr X.2.1).tr Y.2.1, ((sqe2 Cne.cm X.2.2 y1 Y.2.2).n w0).b g3 c1⟩, fun w1 => ⟨Y.1, (F1.tr X.2.1).tr Y.2.1, ((sqe2 Cne.cm X.2.2 y1 Y.2.2).y w1).b g3 c1⟩⟩)⟩)
  | succ r ih =>
    intro hr d h I t cb
    have o : (Int32.ofNat (6 - (r + 1))).toInt = ((6 - (r + 1) : Nat) : Int) := on_j (by omega)
    have o6 : (6 : Int32).toInt = 6 := rfl
    have o1 : (1 : Int32).toInt = 1 := rfl
    have ex : Int32.ofNat (6 - (r + 1)) + 1 = Int32.ofNat (6 - r) := by
      refine Int32.toInt_inj.mp ?_
      rw [tx_add (by rw [o1]; omega) (by rw [o1]; omega), o1, o, on_j (by omega)]
      omega
    have lt : Int32.ofNat (6 - (r + 1)) < 6 := q_lt.mpr (by rw [o, o6]; omega)
    have S := e_sums (b := b) (n := n) hs (r + 1) hr
    have fs : Fwe b n (k2ss b n (ltb s) (r + 1)) := Fwe.ss (ltb_m hs) (r + 1)
    have fu : Fwe b n (k2un b n (ltb s) r) := Fwe.un (ltb_m hs) r
    have C := c_rcme _ _ _ fs S
    have U : Rxe b n s (k2un b n (ltb s) r) (fun d h K => Ci (m_X8_readUnit (d + 10 * (r + 2) + 55) 0 0) [.ref 11, .int (Int32.ofNat (6 - (r + 1)) + 1)] h K) := by
      rw [ex]
      exact ih (by omega)
    have D := c_rcde _ _ _ fu U
    have tree := t_X8_readUnit (d + 10 * (r + 2)) h I.1 (Int32.ofNat (6 - (r + 1))) (fun q h' => Xe b n s (k2un b n (ltb s) (r + 1) (xa h)) h q h') (Ci.mono (c_pk (d + 10 * (r + 2)) I t) (fun r3 h1 L => ?_))
    · rw [show d + 10 * (r + 2) + 65 = d + 10 * (r + 1 + 2) + 55 by omega] at tree
      exact tree
    have F1 : Fr wzx h h1 := L.2.1.more (by decide +kernel)
    refine ⟨L.1.1, fun e33 => ⟨fun _ => ⟨fun _ => ?_, fun e40 => absurd (e33.symm.trans e40) (by decide)⟩, fun y => absurd lt y⟩, fun n33 => ⟨fun e40 => ⟨fun _ => ⟨fun n40 => absurd e40 n40, fun _ => ?_⟩, fun y => absurd lt y⟩, fun n40 => ?_⟩⟩
    · have ea : k2un b n (ltb s) (r + 1) (xa h) = k2app (k2un b n (ltb s) r (ska b n (xa h) + 1)) [(2, 0)] := by
        show (if skv b n (xa h) = 33 then k2app (k2un b n (ltb s) r (ska b n (xa h) + 1)) [(2, 0)] else _) = _
        exact if_pos (by rw [← L.2.2.2]; exact e33)
      obtain ⟨I6, F6, a6⟩ := nxx I t L (by rw [e33]; decide)
      have t6 := t.fr F6 (by decide +kernel)
      have cb6 := cb.nx F6 a6
      refine Ci.mono (U d _ I6 t6 cb6) (fun r9 h7 X => ?_)
      refine ⟨X.1.1, Ci.mono (c_emq (d + 10 * (r + 2)) X.1 X.2.2 (fun y => cb6.em I6 t6 fu y) (2, 0) 0 (fun _ => rfl) (by decide) (by decide)) (fun _ h10 k => ⟨k.1.1, X.2.2.z, k.1, ((F6.more (by decide +kernel)).tr X.2.1).tr (k.2.1.more (by decide +kernel)), ?_⟩)⟩
      have G := k.2.2
      rw [a6, ← ea] at G
      exact G.b (fw3 F6 (by decide +kernel)) (Cdx.f0 F6 (by decide +kernel))
    · have ea : k2un b n (ltb s) (r + 1) (xa h) = k2sq (k2cd b n (k2un b n (ltb s) r)) (k2ex b n 41) (ska b n (xa h) + 1) := by
        show (if skv b n (xa h) = 33 then _ else if skv b n (xa h) = 40 then k2sq (k2cd b n (k2un b n (ltb s) r)) (k2ex b n 41) (ska b n (xa h) + 1) else _) = _
        rw [if_neg (by rw [← L.2.2.2]; exact n33), if_pos (by rw [← L.2.2.2]; exact e40)]
      obtain ⟨I6, F6, a6⟩ := nxx I t L (by rw [e40]; decide)
      refine Ci.mono (D d _ I6 (t.fr F6 (by decide +kernel)) (cb.nx F6 a6)) (fun r16 h14 X => ?_)
      have G := X.2.2
      rw [a6] at G
      have g3 := fw3 F6 (by decide +kernel)
      have c6 : Cdx h _ [] := Cdx.f0 F6 (by decide +kernel)
      have FX : Fr wzx h h14 := (F6.more (by decide +kernel)).tr X.2.1
      rw [ea]
      exact ⟨X.1.1, fun y0 => ⟨X.1, FX, (sqen (g := k2ex b n 41) G y0).b g3 c6⟩, fun y1 => Ci.mono (c_exe (d + 10 * (r + 2)) X.1 (t.fr FX (by decide +kernel)) 41 (by decide)) (fun r20 h18 Y => ⟨Y.1.1, fun w0 => ⟨Y.1, FX.tr Y.2.1, ((sqe2 Cne.ex G y1 Y.2.2).n w0).b g3 c6⟩, fun w1 => ⟨Y.1, FX.tr Y.2.1, ((sqe2 Cne.ex G y1 Y.2.2).y w1).b g3 c6⟩⟩)⟩
    · have ea : k2un b n (ltb s) (r + 1) (xa h) = k2sq (k2ss b n (ltb s) (r + 1)) (k2cm b n (k2ss b n (ltb s) (r + 1))) (xa h1) := by
        show (if skv b n (xa h) = 33 then _ else if skv b n (xa h) = 40 then _ else k2sq (k2ss b n (ltb s) (r + 1)) (k2cm b n (k2ss b n (ltb s) (r + 1))) (xa h)) = _
        rw [if_neg (by rw [← L.2.2.2]; exact n33), if_neg (by rw [← L.2.2.2]; exact n40), L.2.2.1, Cne.sq (Cne.ss (r + 1))]
      have t1 : Tx b n s h1 := t.fr L.2.1 (by decide +kernel)
      have g3 : h_i h1 11 3 = h_i h 11 3 := fw3 L.2.1 (by decide +kernel)
      have c1 : Cdx h h1 [] := Cdx.f0 L.2.1 (by decide +kernel)
      rw [ea]
      exact Ci.mono (S d h1 L.1 t1 (cb.pk L)) (fun r50 h48 X => ⟨X.1.1, fun y0 => ⟨X.1, F1.tr X.2.1, (sqen (g := k2cm b n (k2ss b n (ltb s) (r + 1))) X.2.2 y0).b g3 c1⟩, fun y1 => Ci.mono (C d h48 X.1 (X.t t1) (X.2.2.cb y1 fs (cb.pk L))) (fun r54 h52 Y => ⟨Y.1.1, fun w0 => ⟨Y.1, (F1.tr X.2.1).tr Y.2.1, ((sqe2 Cne.cm X.2.2 y1 Y.2.2).n w0).b g3 c1⟩, fun w1 => ⟨Y.1, (F1.tr X.2.1).tr Y.2.1, ((sqe2 Cne.cm X.2.2 y1 Y.2.2).y w1).b g3 c1⟩⟩)⟩)
end
