section
/-! MEN: draw and ill -/
theorem dp_ev {cz : Int32} {M : Nat → Int32} : ∀ e ∈ (fDp cz M).2, e.1 = 1 ∨ e.1 = 2 := fun e he => by
  unfold fDp at he
  split at he
  · rw [(List.mem_replicate.mp he).2]
    exact Or.inr rfl
  · cases he
theorem dp_le {cz : Int32} {M : Nat → Int32} {w : Int32 → Int32 → Int32} {BL : Nat → List Sp3} {nb rw : Nat} (K : Km w BL nb rw M) (r4 : rw ≤ 400) : (fDp cz M).2 = [] ∨ (M 4 = 1 ∧ (M 11).toInt + ((fDp cz M).2.length : Int) ≤ (M 12).toInt) := by
  by_cases e : M 4 = 1
  · obtain ⟨i, x, L, q1, q2, q3⟩ := K.2 e
    have a := q3.2.2.1
    have b := q3.2.2.2.1
    have c := q3.2.2.2.2
    have s : (M 12 - M 11).toInt = (M 12).toInt - (M 11).toInt := tx_sub (by omega) (by omega)
    have n := n_nat (x := M 12 - M 11) (by omega)
    refine Or.inr ⟨e, ?_⟩
    unfold fDp
    rw [if_pos e]
    show _ + ((List.replicate (M 12 - M 11).toNatClampNeg ((2, cz) : Ev2)).length : Int) ≤ _
    rw [List.length_replicate]
    omega
  · refine Or.inl ?_
    unfold fDp
    rw [if_neg e]
theorem fHome_4 {n : Int32} {w : Int32 → Int32 → Int32} {M : Nat → Int32} : ¬ fHome n w M 4 = 1 := by
  unfold fHome
  split
  · exact fun e => absurd (show (2 : Int32) = 1 from e) (by decide)
  · exact fun e => absurd (show (0 : Int32) = 1 from e) (by decide)
theorem fDr_4 {n : Int32} {w : Int32 → Int32 → Int32} {M : Nat → Int32} (e4 : M 4 = 3) : ¬ fDr n w M 4 = 1 := by
  unfold fDr
  split
  · exact fun e => absurd (e4.symm.trans (show M 4 = 1 from e)) (by decide)
  · split
    · exact fun e => absurd (e4.symm.trans (show M 4 = 1 from e)) (by decide)
    · exact fHome_4
theorem fDw_4 {n : Int32} {w : Int32 → Int32 → Int32} {x2 x3 : Int32} {M : Nat → Int32} : ¬ (fDw n w x2 x3 M).1 4 = 1 := by
  unfold fDw
  show ¬ (if (fDp 3 M).1 6 = -1 then _ else _ : Nat → Int32) 4 = 1
  split
  · exact fDr_4 rfl
  · exact fun e => absurd (show (3 : Int32) = 1 from e) (by decide)
theorem fDw_0 {n : Int32} {w : Int32 → Int32 → Int32} {x2 x3 : Int32} {M : Nat → Int32} : (fDw n w x2 x3 M).1 0 = M 0 := by
  unfold fDw
  show (if (fDp 3 M).1 6 = -1 then _ else _ : Nat → Int32) 0 = M 0
  split
  · refine ((Rk.dr (m := 0)).1 0 (by decide)).trans ?_
    show (fDp 3 M).1 0 = M 0
    exact fDp_k (by decide) (by decide) (by decide)
  · show (fDp 3 M).1 0 = M 0
    exact fDp_k (by decide) (by decide) (by decide)
theorem km_dw {n : Int32} {w : Int32 → Int32 → Int32} {BL : Nat → List Sp3} {nb rw : Nat} {x2 x3 : Int32} {M : Nat → Int32} (W : WOk w) (K : Km w BL nb rw M) (p2 : 0 ≤ x2.toInt ∧ x2.toInt ≤ 15) (c2 : ¬ w (M 3) x2 = -1) : Km w BL nb rw (fDw n w x2 x3 M).1 := by
  have d3 : (fDp 3 M).1 3 = M 3 := fDp_k (by decide) (by decide) (by decide)
  have d5 : (fDp 3 M).1 5 = M 5 := fDp_k (by decide) (by decide) (by decide)
  have d6 : (fDp 3 M).1 6 = M 6 := fDp_k (by decide) (by decide) (by decide)
  obtain ⟨⟨a3, a5, a6, _, _, _, _, al⟩, _⟩ := K
  unfold fDw
  show Km w BL nb rw (if (fDp 3 M).1 6 = -1 then _ else _)
  by_cases c : (fDp 3 M).1 6 = -1
  · rw [if_pos c]
    rw [d6] at c
    rw [if_pos c] at al
    refine km_dr W ?_ ?_ ?_ rfl ?_ p2 ?_
    · show 0 ≤ ((fDp 3 M).1 3).toInt ∧ ((fDp 3 M).1 3).toInt ≤ 15
      rw [d3]
      exact a3
    · show (fDp 3 M).1 6 = -1
      rw [d6]
      exact c
    · show 0 ≤ ((fDp 3 M).1 5).toInt
      rw [d5]
      exact a5 c
    · show ¬ w ((fDp 3 M).1 3) ((fDp 3 M).1 5) = -1
      rw [d3, d5]
      exact al
    · show ¬ w ((fDp 3 M).1 3) x2 = -1
      rw [d3]
      exact c2
  · rw [if_neg c]
    rw [d6] at c
    rw [if_neg c] at al
    refine ⟨⟨?_, fun e => ?_, fun _ => ?_, fun e => absurd (show (3 : Int32) = 0 from e) (by decide), fun e => absurd (show (3 : Int32) = 4 from e) (by decide), fun e => absurd (show (3 : Int32) = 2 from e) (by decide), fun _ => ⟨p2, ?_, fun e => ?_⟩, ?_⟩, fun e => absurd (show (3 : Int32) = 1 from e) (by decide)⟩
    · show 0 ≤ ((fDp 3 M).1 3).toInt ∧ ((fDp 3 M).1 3).toInt ≤ 15
      rw [d3]
      exact a3
    · exact absurd (d6.symm.trans (show (fDp 3 M).1 6 = -1 from e)) c
    · show 0 ≤ ((fDp 3 M).1 6).toInt
      rw [d6]
      exact a6 c
    · show ¬ w ((fDp 3 M).1 3) x2 = -1
      rw [d3]
      exact c2
    · exact absurd (d6.symm.trans (show (fDp 3 M).1 6 = -1 from e)) c
    · show ¬ w ((fDp 3 M).1 3) (if (fDp 3 M).1 6 = -1 then (fDp 3 M).1 5 else (fDp 3 M).1 6) = -1
      rw [d6, if_neg c, d3]
      exact al
theorem km_il {w : Int32 → Int32 → Int32} {BL : Nat → List Sp3} {nb rw : Nat} {M : Nat → Int32} (W : WOk w) (K : Km w BL nb rw M) : Km w BL nb rw (fIl M).1 := by
  have d3 : (fDp 4 M).1 3 = M 3 := fDp_k (by decide) (by decide) (by decide)
  have a3 := K.1.1
  unfold fIl
  refine ⟨⟨?_, fun _ => ?_, fun e => absurd rfl e, fun e => absurd (show (4 : Int32) = 0 from e) (by decide), fun _ => ⟨rfl, ?_⟩, fun e => absurd (show (4 : Int32) = 2 from e) (by decide), fun e => absurd (show (4 : Int32) = 3 from e) (by decide), ?_⟩, fun e => absurd (show (4 : Int32) = 1 from e) (by decide)⟩
  · show 0 ≤ ((fDp 4 M).1 3).toInt ∧ ((fDp 4 M).1 3).toInt ≤ 15
    rw [d3]
    exact a3
  · exact a3.1
  · exact d3.symm
  · show ¬ w ((fDp 4 M).1 3) (if (-1 : Int32) = -1 then M 3 else -1) = -1
    rw [d3, if_pos rfl]
    exact W.2.1 _ a3
theorem km_fr {w : Int32 → Int32 → Int32} {BL : Nat → List Sp3} {nb rw : Nat} {M : Nat → Int32} (K : Km w BL nb rw M) (e4 : M 4 = 4) : Km w BL nb rw (fFree M) := by
  obtain ⟨a3, a5, a6, a0, a4, a2, aw, al⟩ := K.1
  have e6 := (a4 e4).1
  exact ⟨⟨a3, a5, a6, fun _ => ⟨e6, rfl⟩, fun e => absurd (show (0 : Int32) = 4 from e) (by decide), fun e => absurd (show (0 : Int32) = 2 from e) (by decide), fun e => absurd (show (0 : Int32) = 3 from e) (by decide), al⟩, fun e => absurd (show (0 : Int32) = 1 from e) (by decide)⟩
theorem rwX_in {h : Hp_} (I : Iv h) : (h_i h 16 7).toNatClampNeg ≤ 400 ∧ (((h_i h 16 7).toNatClampNeg : Nat) : Int) = (h_i h 16 7).toInt := by
  have rg := I.2.1 16 7
  rw [show tf 16 7 = (0, 400) by decide +kernel] at rg
  have a : 0 ≤ (h_i h 16 7).toInt := rg.1
  have b : (h_i h 16 7).toInt ≤ 400 := rg.2
  have n := n_nat a
  omega
/-- a man of the reference, as the class has him -/
theorem ExM.rp {h h1 : Hp_} (I : Iv h) (x : ExM h) (f : Fr wMx h h1) {x1 : Int32} (y : isN h1 x1) : (x1.toNatClampNeg < (h_i h 0 7).toNatClampNeg ∧ isM h x1) ∧ RMp x1.toNatClampNeg (h_i h (401 + x1.toNatClampNeg)) h1 ∧ h_i h (401 + x1.toNatClampNeg) 0 = x1 ∧ Km (wI h) (bL h) (h_i h 12 3).toNatClampNeg (h_i h 16 7).toNatClampNeg (h_i h (401 + x1.toNatClampNeg)) ∧ Opn h1 (h_i h (401 + x1.toNatClampNeg)) := by
  obtain ⟨y1, y2⟩ := y
  rw [(f.2 1 7 (by decide +kernel)).1, ← x.1.1] at y2
  have mm := menX_in I
  have nm := n_nat mm.1
  have nx := n_nat y1
  have hj : x1.toNatClampNeg < (h_i h 0 7).toNatClampNeg := by omega
  obtain ⟨K, e0, O⟩ := x.2.2.1 x1.toNatClampNeg hj
  have rr := rwX_in I
  refine ⟨⟨hj, y1, y2⟩, (x.2.2.2.1 _ hj).cg (fun a ha => fr_i f (List.all_eq_true.mp (show (206 :: mrL).all (fun a => off wMx a) = true by decide +kernel) a ha) _), e0.trans (on_of ⟨y1, by omega⟩), K, fun e4 => ?_⟩
  obtain ⟨i, q, L, q1, q2, q3⟩ := K.2 e4
  have q11 : 0 ≤ (h_i h (401 + x1.toNatClampNeg) 11).toInt := q3.2.2.1
  have qs : (h_i h (401 + x1.toNatClampNeg) 11).toInt + ((_ : Nat) : Int) = (h_i h (401 + x1.toNatClampNeg) 12).toInt := q3.2.2.2.1
  have q12 : (h_i h (401 + x1.toNatClampNeg) 12).toInt ≤ ((h_i h 16 7).toNatClampNeg : Int) := q3.2.2.2.2
  refine ⟨q11, by omega, by omega, fun k k1 k2 => ?_⟩
  have o := (O e4 k k1 k2).1
  have s := (x.2.2.2.2.1 k (by omega)).1
  rw [show h_i h 51 k = 0 from o] at s
  rw [fr_i f (by decide +kernel), fr_i f (by decide +kernel)]
  rcases s with s | s | s
  · exact s.2
  · exact absurd s.1 (by decide)
  · exact absurd s.1 (by decide)
theorem ExM.rk {h : Hp_} (I : Iv h) (x : ExM h) {x1 : Int32} (y : isM h x1) : (x1.toNatClampNeg < (h_i h 0 7).toNatClampNeg) ∧ (h_i h (401 + x1.toNatClampNeg) 4 = 1 → Rok h (h_i h (401 + x1.toNatClampNeg)) 0) := by
  have nm := n_nat (menX_in I).1
  have nx := n_nat y.1
  have hj : x1.toNatClampNeg < (h_i h 0 7).toNatClampNeg := by have := y.2; omega
  have rr := rwX_in I
  refine ⟨hj, fun e4 => ?_⟩
  obtain ⟨i, q, L, q1, q2, q3⟩ := (x.2.2.1 _ hj).1.2 e4
  have q11 : 0 ≤ (h_i h (401 + x1.toNatClampNeg) 11).toInt := q3.2.2.1
  have qs : (h_i h (401 + x1.toNatClampNeg) 11).toInt + ((_ : Nat) : Int) = (h_i h (401 + x1.toNatClampNeg) 12).toInt := q3.2.2.2.1
  have q12 : (h_i h (401 + x1.toNatClampNeg) 12).toInt ≤ ((h_i h 16 7).toNatClampNeg : Int) := q3.2.2.2.2
  exact ⟨q11, by show _ + ((0 : Nat) : Int) ≤ _; omega, by omega⟩
noncomputable def DxX (x1 x2 x3 : Int32) (h : Hp_) (r : Int32) (h' : Hp_) : Prop := ((isM h x1 ∧ okDw h (h_i h (401 + x1.toNatClampNeg)) x2 x3) → r = 1 ∧ Sxm PU (401 + x1.toNatClampNeg) (h_i h 0 0) (fDw (h_i h 0 0) (wI h) x2 x3 (h_i h (401 + x1.toNatClampNeg))).1 (h_i h (401 + x1.toNatClampNeg) 11).toNatClampNeg (fDw (h_i h 0 0) (wI h) x2 x3 (h_i h (401 + x1.toNatClampNeg))).2 () h h') ∧ (¬ (isM h x1 ∧ okDw h (h_i h (401 + x1.toNatClampNeg)) x2 x3) → r = 0 ∧ h' = h)
theorem isN_M {h h1 : Hp_} (x : ExM h) (f : Fr wMx h h1) {x1 : Int32} : isN h1 x1 ↔ isM h x1 := by
  unfold isN isM
  rw [(f.2 1 7 (by decide +kernel)).1, ← x.1.1]
theorem ExM.dw {h h1 h2 : Hp_} {x1 x2 x3 r1 r2 : Int32} (I : Iv h) (x : ExM h) (R : ExR h) (f : Fr wMx h h1) (k1 : DxX x1 x2 x3 h r1 h1) (k2 : DwP PU (fun _ _ b => b) x1 x2 x3 (h_i h (401 + x1.toNatClampNeg)) () h1 r2 h2) : Iv h2 ∧ Fr mwR h1 h2 ∧ ExM h2 ∧ r1 = r2 := by
  have ew : wI h1 = wI h := wI_cg (funext (fun k => fr_i f (by decide +kernel) k))
  have e10 : h_i h1 1 0 = h_i h 0 0 := ((f.2 1 0 (by decide +kernel)).1).trans x.1.2.1.symm
  have pn : 0 ≤ (h_i h 0 0).toInt := by
    have rg := I.2.1 0 0
    rw [show tf 0 0 = (0, 20000) by decide +kernel] at rg
    exact rg.1
  unfold DwP at k2
  rw [e10, ew] at k2
  have ok : (isN h1 x1 ∧ (0 ≤ x2 ∧ x2 ≤ 15) ∧ (h_i h 0 0 ≤ x3 ∧ x3 ≤ 30000) ∧ ¬ wI h (h_i h (401 + x1.toNatClampNeg) 3) x2 = -1 ∧ ¬ h_i h (401 + x1.toNatClampNeg) 4 = 3 ∧ ¬ h_i h (401 + x1.toNatClampNeg) 4 = 4) ↔ (isM h x1 ∧ okDw h (h_i h (401 + x1.toNatClampNeg)) x2 x3) := by
    unfold okDw
    rw [isN_M x f, p15]
  rw [ok] at k2
  by_cases c : isM h x1 ∧ okDw h (h_i h (401 + x1.toNatClampNeg)) x2 x3
  · have z1 := k1.1 c
    have z2 := k2.1 c
    have hj := (x.rk I c.1).1
    have K := (x.2.2.1 _ hj).1
    have p2 := c.2.1
    have t16 : (16 : Int32).toInt = 16 := rfl
    have t0 : (0 : Int32).toInt = 0 := rfl
    have u1 := q_le.mp p2.1
    have u2 := q_lt.mp p2.2
    have z := x.ev hj z1.2 z2.2 (km_dw (wok I R.2) K ⟨by omega, by omega⟩ c.2.2.2.1) fDw_0 (dp_le (cz := 3) K (rwX_in I).1) fDw_4 dp_ev pn rfl
    exact ⟨z2.2.1, z.2.1, z.2.2, z1.1.trans z2.1.symm⟩
  · have z1 := k1.2 c
    have z2 := k2.2 c
    have e := z1.2
    subst e
    exact ⟨z2.2.1, z2.2.2.more (by decide +kernel), x.fr z2.2.2 (by decide +kernel), z1.1.trans z2.1.symm⟩
/-! MEN: ill -/
noncomputable def IxX (x1 x2 : Int32) (h : Hp_) (r : Int32) (h' : Hp_) : Prop := ((isM h x1 ∧ ¬ h_i h (401 + x1.toNatClampNeg) 4 = 4 ∧ x2 = 1) → r = 1 ∧ Sxm PU (401 + x1.toNatClampNeg) (h_i h 0 0) (fIl (h_i h (401 + x1.toNatClampNeg))).1 (h_i h (401 + x1.toNatClampNeg) 11).toNatClampNeg (fIl (h_i h (401 + x1.toNatClampNeg))).2 () h h') ∧ ((isM h x1 ∧ h_i h (401 + x1.toNatClampNeg) 4 = 4 ∧ x2 = 0) → r = 1 ∧ Sxm PU (401 + x1.toNatClampNeg) (h_i h 0 0) (fFree (h_i h (401 + x1.toNatClampNeg))) (h_i h (401 + x1.toNatClampNeg) 11).toNatClampNeg [] () h h') ∧ (¬ (isM h x1 ∧ ((¬ h_i h (401 + x1.toNatClampNeg) 4 = 4 ∧ x2 = 1) ∨ (h_i h (401 + x1.toNatClampNeg) 4 = 4 ∧ x2 = 0))) → r = 0 ∧ h' = h)
theorem sx_fr {h h' : Hp_} {j : Nat} {n : Int32} {M' : Nat → Int32} {r : Nat} {E : List Ev2} (hj : j < 12) (z : Sxm PU (401 + j) n M' r E () h h') : Fr wMx h h' := gw_fr z.2.1 (by omega) (by omega) (by decide +kernel) (fun k => inw_row (by decide +kernel) k) (by decide +kernel)
theorem il_cs {P Q : Prop} {x2 : Int32} (b2 : x2 = 0 ∨ x2 = 1) : (P ∧ ¬ Q ∧ x2 = 1) ∨ (P ∧ Q ∧ x2 = 0) ∨ ¬ (P ∧ ((¬ Q ∧ x2 = 1) ∨ (Q ∧ x2 = 0))) := by
  by_cases p : P
  · by_cases q : Q
    · rcases b2 with e | e
      · exact Or.inr (Or.inl ⟨p, q, e⟩)
      · exact Or.inr (Or.inr (fun y => y.2.elim (fun z => z.1 q) (fun z => absurd (e.symm.trans z.2) (by decide))))
    · rcases b2 with e | e
      · exact Or.inr (Or.inr (fun y => y.2.elim (fun z => absurd (e.symm.trans z.2) (by decide)) (fun z => q z.1)))
      · exact Or.inl ⟨p, q, e⟩
  · exact Or.inr (Or.inr (fun y => p y.1))
noncomputable def IxM (x1 x2 : Int32) (M : Nat → Int32) (h : Hp_) (r : Int32) (h' : Hp_) : Prop := ((isN h x1 ∧ ¬ M 4 = 4 ∧ x2 = 1) → r = 1 ∧ Mx PU x1.toNatClampNeg (h_i h 1 0) (fIl M).1 (M 11).toNatClampNeg (fIl M).2 () h h') ∧ ((isN h x1 ∧ M 4 = 4 ∧ x2 = 0) → r = 1 ∧ Mx PU x1.toNatClampNeg (h_i h 1 0) (fFree M) (M 11).toNatClampNeg [] () h h') ∧ (¬ (isN h x1 ∧ ((¬ M 4 = 4 ∧ x2 = 1) ∨ (M 4 = 4 ∧ x2 = 0))) → r = 0 ∧ h' = h)
theorem ExM.il {h h1 h2 : Hp_} {x1 x2 r1 r2 : Int32} (I : Iv h) (x : ExM h) (R : ExR h) (f : Fr wMx h h1) (b2 : x2 = 0 ∨ x2 = 1) (I1 : Iv h1) (k1 : IxX x1 x2 h r1 h1) (k2 : IxM x1 x2 (h_i h (401 + x1.toNatClampNeg)) h1 r2 h2) : Iv h2 ∧ Fr mwR h1 h2 ∧ ExM h2 ∧ r1 = r2 := by
  have e10 : h_i h1 1 0 = h_i h 0 0 := ((f.2 1 0 (by decide +kernel)).1).trans x.1.2.1.symm
  have pn : 0 ≤ (h_i h 0 0).toInt := by
    have rg := I.2.1 0 0
    rw [show tf 0 0 = (0, 20000) by decide +kernel] at rg
    exact rg.1
  unfold IxM at k2
  rw [e10, isN_M x f] at k2
  rcases il_cs (P := isM h x1) (Q := h_i h (401 + x1.toNatClampNeg) 4 = 4) b2 with c | c | c
  · have z1 := k1.1 c
    have z2 := k2.1 c
    have hj := (x.rk I c.1).1
    have K := (x.2.2.1 _ hj).1
    have z := x.ev hj z1.2 z2.2 (km_il (wok I R.2) K) (fDp_k (by decide) (by decide) (by decide)) (dp_le (cz := 4) K (rwX_in I).1) (fun e => absurd (show (4 : Int32) = 1 from e) (by decide)) dp_ev pn rfl
    exact ⟨z2.2.1, z.2.1, z.2.2, z1.1.trans z2.1.symm⟩
  · have z1 := k1.2.1 c
    have z2 := k2.2.1 c
    have hj := (x.rk I c.1).1
    have K := (x.2.2.1 _ hj).1
    have z := x.ev hj z1.2 z2.2 (km_fr K c.2.1) rfl (Or.inl rfl) (fun e => absurd (show (0 : Int32) = 1 from e) (by decide)) (fun e he => (by cases he)) pn rfl
    exact ⟨z2.2.1, z.2.1, z.2.2, z1.1.trans z2.1.symm⟩
  · have z1 := k1.2.2 c
    have z2 := k2.2.2 c
    have e := z1.2
    subst e
    have e := z2.2
    subst e
    exact ⟨I, Fr.rf _ _, x, z1.1.trans z2.1.symm⟩
/-! MEN: tick -/
section MEN
variable {β : Type}
/-- rows that are not given yet stay so -/
theorem po_man {lP : Nat → Int32 → (Nat → Int32) → β → β} {tB : Int32 → Int32 → β → β} {n : Int32} {w : Int32 → Int32 → Int32} {BL : Nat → List Sp3} {nb rw m : Nat} {own : Nat → Int32} {s : Pst β} (hl : ∀ k, k < nb → (BL k).length ≤ 150) (H : pI w BL nb rw own m s) {j : Nat} (hj : j < m) {k : Nat} (hk : rw ≤ k) : (pMan lP tB n w BL j s).2.1 k = s.2.1 k := by
  unfold pMan
  by_cases y : s.1 j 7 = n
  · rw [if_pos y]
    show rz Prod.fst (s.1 j 11).toNatClampNeg (pGo n w BL (s.1 j)).2 s.2.1 k = _
    refine rz_o _ _ _ _ _ ?_
    by_cases y1 : s.1 j 4 = 1
    · obtain ⟨i', _, _, b8, hd, e9, _, r0, r1, r2⟩ := kmb_x hl ((H j hj).1.2 y1)
      have n11 := n_nat r0
      have ll : (pGo n w BL (s.1 j)).2.length ≤ _ := (Rk.go (n := n) (w := w) (x := (pX BL (s.1 j)).1) (L := (pX BL (s.1 j)).2) (M := s.1 j)).2.2.1
      right
      omega
    · have e : (pGo n w BL (s.1 j)).2 = [] := fGo_e y1
      rw [e]
      show k < _ ∨ _ + 0 ≤ k
      omega
  · rw [if_neg y]
theorem po_men {lP : Nat → Int32 → (Nat → Int32) → β → β} {tB : Int32 → Int32 → β → β} {n : Int32} {w : Int32 → Int32 → Int32} {BL : Nat → List Sp3} {nb rw m : Nat} {own : Nat → Int32} (W : WOk w) (hb : ∀ k x, k < nb → x ∈ BL k → stR x) (hl : ∀ k, k < nb → (BL k).length ≤ 150) (r4 : rw ≤ 400) (p0 : 0 ≤ n.toInt) (m12 : m ≤ 12) {k : Nat} (hk : rw ≤ k) : ∀ (j : Nat) {s : Pst β}, j ≤ m → pI w BL nb rw own m s → (pMen lP tB n w BL j s).2.1 k = s.2.1 k
  | 0, _, _, _ => rfl
  | j + 1, _, hj, H => (po_man hl (pI_men W hb hl r4 p0 m12 j (by omega) H) (by omega) hk).trans (po_men W hb hl r4 p0 m12 hk j (by omega) H)
theorem po_tk {lP : Nat → Int32 → (Nat → Int32) → β → β} {tB : Int32 → Int32 → β → β} {nB : Int32 → (Nat → Int32) → β → β} {n : Int32} {w : Int32 → Int32 → Int32} {BL : Nat → List Sp3} {nb rw m : Nat} {own : Nat → Int32} (W : WOk w) (hb : ∀ k x, k < nb → x ∈ BL k → stR x) (hl : ∀ k, k < nb → (BL k).length ≤ 150) (r4 : rw ≤ 400) (p0 : 0 ≤ n.toInt ∧ n.toInt ≤ 20000) (m12 : m ≤ 12) {k : Nat} (hk : rw ≤ k) : ∀ (i : Nat) {s : Pst β}, i ≤ 20000 → pI w BL nb rw own m s → (pTk lP tB nB w BL m n i s).2.1 k = s.2.1 k
  | 0, _, _, _ => rfl
  | i + 1, s, hi, H => (po_men W hb hl r4 (by rw [tx_add (by rw [on_j (by omega)]; omega) (by rw [on_j (by omega)]; omega), on_j (by omega)]; omega) m12 hk m (s := pOv nB (n + Int32.ofNat i) (pTk lP tB nB w BL m n i s)) (Nat.le_refl _) (pI_tk W hb hl r4 p0 m12 i (by omega) H)).trans (po_tk W hb hl r4 p0 m12 hk i (by omega) H)
theorem tm_man {lP : Nat → Int32 → (Nat → Int32) → β → β} {tB : Int32 → Int32 → β → β} {n : Int32} {w : Int32 → Int32 → Int32} {BL : Nat → List Sp3} {s : Pst β} {j k : Nat} {N : Int} (h : ¬ s.2.1 k = 0 → (s.2.2.1 k).toInt ≤ N) (l : N ≤ n.toInt) : ¬ (pMan lP tB n w BL j s).2.1 k = 0 → ((pMan lP tB n w BL j s).2.2.1 k).toInt ≤ n.toInt := by
  unfold pMan
  by_cases y : s.1 j 7 = n
  · rw [if_pos y]
    exact tm_rz h l
  · rw [if_neg y]
    exact fun ne => Int.le_trans (h ne) l
theorem tm_men {lP : Nat → Int32 → (Nat → Int32) → β → β} {tB : Int32 → Int32 → β → β} {n : Int32} {w : Int32 → Int32 → Int32} {BL : Nat → List Sp3} {k : Nat} {N : Int} (l : N ≤ n.toInt) : ∀ (j : Nat) {s : Pst β}, (¬ s.2.1 k = 0 → (s.2.2.1 k).toInt ≤ N) → ¬ (pMen lP tB n w BL j s).2.1 k = 0 → ((pMen lP tB n w BL j s).2.2.1 k).toInt ≤ n.toInt
  | 0, _, h => fun ne => Int.le_trans (h ne) l
  | j + 1, _, h => tm_man (tm_men l j h) (Int.le_refl _)
theorem tm_tk {lP : Nat → Int32 → (Nat → Int32) → β → β} {tB : Int32 → Int32 → β → β} {nB : Int32 → (Nat → Int32) → β → β} {n : Int32} {w : Int32 → Int32 → Int32} {BL : Nat → List Sp3} {m k : Nat} (p0 : 0 ≤ n.toInt ∧ n.toInt ≤ 20000) : ∀ (i : Nat) {s : Pst β}, i ≤ 20000 → (¬ s.2.1 k = 0 → (s.2.2.1 k).toInt ≤ n.toInt) → ¬ (pTk lP tB nB w BL m n i s).2.1 k = 0 → ((pTk lP tB nB w BL m n i s).2.2.1 k).toInt ≤ n.toInt + (i : Int)
  | 0, s, _, h => fun ne => by
    have z : (s.2.2.1 k).toInt ≤ n.toInt := h ne
    show (s.2.2.1 k).toInt ≤ n.toInt + ((0 : Nat) : Int)
    omega
  | i + 1, s, hi, h => fun ne => by
    have e : (n + Int32.ofNat (i + 1)).toInt = n.toInt + ((i + 1 : Nat) : Int) := by rw [tx_add (by rw [on_j (by omega)]; omega) (by rw [on_j (by omega)]; omega), on_j (by omega)]
    have z := tm_men (lP := lP) (tB := tB) (n := n + Int32.ofNat (i + 1)) (w := w) (BL := BL) (k := k) (N := n.toInt + (i : Int)) (by rw [e]; omega) m (s := pOv nB (n + Int32.ofNat i) (pTk lP tB nB w BL m n i s)) (tm_tk p0 i (by omega) h) ne
    rw [e] at z
    exact z
end MEN
noncomputable abbrev lU : Nat → Int32 → (Nat → Int32) → Unit → Unit := fun _ _ _ b => b
noncomputable abbrev tU : Int32 → Int32 → Unit → Unit := fun _ _ b => b
noncomputable abbrev nU : Int32 → (Nat → Int32) → Unit → Unit := fun _ _ b => b
noncomputable def B35 (h : Hp_) : Prop := ∀ k, k < (h_i h 12 3).toNatClampNeg → h_i h 35 k = h_i h 227 k
theorem ExM.m {h : Hp_} (I : Iv h) (x : ExM h) : h_i h 0 7 = Int32.ofNat (h_i h 0 7).toNatClampNeg := (on_of ⟨(menX_in I).1, by have := (menX_in I).2; omega⟩).symm
theorem ExM.tk {h h1 h2 : Hp_} {x1 r1 r2 : Int32} {N' : Nat} (I : Iv h) (x : ExM h) (R : ExR h) (S : ExS h) (k1 : Tkx PU lU tU nU (h_i h 0 7).toNatClampNeg N' (sX h) x1 h r1 h1) (k2 : Tkm PU lU tU nU (h_i h 0 7).toNatClampNeg (h_i h 16 7).toNatClampNeg (sX h) x1 h1 r2 h2) : ExM h2 := by
  have f := k1.1.2.1
  have rr : ∀ a, 200 ≤ a → a < 300 → h_i h1 a = h_i h a := fun a p q => funext (fun k => f.2.1 a p q k)
  have ew : wI h1 = wI h := wI_cg (funext (fun k => (f.2.2.2 30 k (Or.inl (by decide)) (off_inw (by decide +kernel) k)).1))
  have eb : bL h1 = bL h := bL_cg (rr 227 (by decide) (by decide)) (rr 228 (by decide) (by decide)) (rr 229 (by decide) (by decide)) (rr 230 (by decide) (by decide))
  have e10 : h_i h1 1 0 = h_i h 0 0 := (f.1 0).trans x.1.2.1.symm
  have rg := I.2.1 0 0
  rw [show tf 0 0 = (0, 20000) by decide +kernel] at rg
  have g0 : 0 ≤ (h_i h 0 0).toInt := rg.1
  have g1 : (h_i h 0 0).toInt ≤ 20000 := rg.2
  have m12 := x.1.2.2.2
  by_cases o : okt (h_i h 0 0) x1
  · obtain ⟨a1, a2, a3⟩ := k1.2.1 o
    obtain ⟨b1, b2, b3⟩ := k2.2.1 (by rw [e10]; exact o)
    rw [e10, ew, eb] at b3
    rw [e10] at b1
    have x0 := q_le.mp o.1.1
    have x5 := q_le.mp o.1.2
    have t0 : (0 : Int32).toInt = 0 := rfl
    have t5 : (1500 : Int32).toInt = 1500 := rfl
    have nx := n_nat (x := x1) (by omega)
    have rw4 := (rwX_in I).1
    have W := wok I R.2
    have P := pI_tk (lP := lU) (tB := tU) (nB := nU) W (bL_hb S) (bL_hl I _) rw4 ⟨g0, g1⟩ m12 x1.toNatClampNeg (by omega) x.2.2.1
    have O := fun k (hk : (h_i h 16 7).toNatClampNeg ≤ k) => po_tk (lP := lU) (tB := tU) (nB := nU) W (bL_hb S) (bL_hl I _) rw4 ⟨g0, g1⟩ m12 hk x1.toNatClampNeg (by omega) x.2.2.1
    have TM := fun k (hk : k < (h_i h 16 7).toNatClampNeg) => tm_tk (lP := lU) (tB := tU) (nB := nU) (w := wI h) (BL := bL h) (m := (h_i h 0 7).toNatClampNeg) (k := k) ⟨g0, g1⟩ x1.toNatClampNeg (s := sX h) (by omega) (x.2.2.2.2.1 k hk).2.2
    generalize pTk lU tU nU (wI h) (bL h) (h_i h 0 7).toNatClampNeg (h_i h 0 0) x1.toNatClampNeg (sX h) = s at a2 b3 P O TM
    have c1 : ∀ a k, a < 200 → inw (0 :: 15 :: wgM) a k = false → inw wtM a k = false → h_i h2 a k = h_i h a k := fun a k l p q => ((b2.2 a k q).1).trans (a3 a k l p)
    have cr : ∀ a, a < 200 → off (0 :: 15 :: wgM) a = true → off wtM a = true → h_i h2 a = h_i h a := fun a l p q => funext (fun k => c1 a k l (off_inw p k) (off_inw q k))
    have dr : ∀ a, 200 ≤ a → a < 300 → off wtM a = true → h_i h2 a = h_i h a := fun a p q o => (funext (fun k => fr_i b2 o k)).trans (rr a p q)
    have e2 : ∀ a, off wtM a = true → h_i h2 a = h_i h1 a := fun a o => funext (fun k => fr_i b2 o k)
    have n07 : h_i h2 0 7 = h_i h 0 7 := c1 0 7 (by decide) (by decide +kernel) (by decide +kernel)
    have n17 : h_i h2 1 7 = h_i h 1 7 := ((b2.2 1 7 (by decide +kernel)).1).trans (f.1 7)
    have nr : h_i h2 16 7 = h_i h 16 7 := c1 16 7 (by decide) (by decide +kernel) (by decide +kernel)
    have n63 : h_i h2 1 63 = h_i h 1 63 := ((b2.2 1 63 (by decide +kernel)).1).trans (f.1 63)
    have n3 : h_i h2 12 3 = h_i h 12 3 := c1 12 3 (by decide) (by decide +kernel) (by decide +kernel)
    have cm : ∀ l, l < 12 → h_i h2 (401 + l) = h_i h1 (401 + l) := fun l hl => funext (fun k => (b2.2 (401 + l) k (by
      rw [inw_ce (b := 401) ((cn_man hl).trans (by decide))]
      exact off_inw (by decide +kernel) k)).1)
    refine ⟨⟨by rw [n07, n17]; exact x.1.1, ?_, by rw [nr, n63]; exact x.1.2.2.1, by rw [n07]; exact m12⟩, fun k hk => ?_, ?_, fun l hl => ?_, fun k hk => ?_, fun k hk h4 => ?_⟩
    · rw [(b2.2 0 0 (by decide +kernel)).1, a1, b1]
    · rw [(b2.2 15 k (off_inw (by decide +kernel) k)).2.2, (f.2.2.2 15 k (Or.inl (by decide)) (off_inw (by decide +kernel) k)).2]
      exact x.2.1 k (by rw [n07] at hk; exact hk)
    · rw [wI_cg (cr 30 (by decide) (by decide +kernel) (by decide +kernel)), bL_cg (dr 227 (by decide) (by decide) (by decide +kernel)) (dr 228 (by decide) (by decide) (by decide +kernel)) (dr 229 (by decide) (by decide) (by decide +kernel)) (dr 230 (by decide) (by decide) (by decide +kernel)), n3, nr, cr 47 (by decide) (by decide +kernel) (by decide +kernel), n07]
      exact P.cs (fun j hj => (cm j (by omega)).trans (a2.1 j hj)) ((e2 51 (by decide +kernel)).trans a2.2.1.1)
    · rw [n07] at hl
      rw [cm l (by omega), a2.1 l hl]
      exact b3.1 l hl
    · rw [nr] at hk
      have q := x.2.2.2.2.1 k hk
      rw [e2 51 (by decide +kernel), e2 52 (by decide +kernel), e2 53 (by decide +kernel), a2.2.1.1, a2.2.1.2.1, a2.2.1.2.2, cr 47 (by decide) (by decide +kernel) (by decide +kernel), cr 48 (by decide) (by decide +kernel) (by decide +kernel), cr 49 (by decide) (by decide +kernel) (by decide +kernel), cr 50 (by decide) (by decide +kernel) (by decide +kernel), dr 238 (by decide) (by decide) (by decide +kernel), dr 239 (by decide) (by decide) (by decide +kernel), dr 240 (by decide) (by decide) (by decide +kernel), dr 244 (by decide) (by decide) (by decide +kernel)]
      refine ⟨b3.2.1 k hk, q.2.1, fun ne => ?_⟩
      have z := TM k hk ne
      rw [(b2.2 0 0 (by decide +kernel)).1, a1, tx_add (by have := o.2; omega) (by have := o.2; omega)]
      omega
    · rw [nr] at hk
      rw [e2 51 (by decide +kernel), a2.2.1.1, O k hk]
      exact x.2.2.2.2.2 k hk h4
  · rw [k2.2.2 (by rw [e10]; exact o), k1.2.2 o]
    exact x
/-! MEN: begin -/
theorem mP_l (h : Hp_) (k : Nat) : ∀ n i : Nat, mP (h_i h 228) k n i = mts ((List.range' i n).map (sB h k))
  | 0, _ => rfl
  | n + 1, i => by
    show (if h_i h 228 (150 * k + i) = 2 then 1 else 0) + mP (h_i h 228) k n (i + 1) = _
    rw [mP_l h k n (i + 1), List.range'_succ]
    rfl
theorem mP_b (h : Hp_) (k : Nat) : mP (h_i h 228) k (h_i h 227 k).toNatClampNeg 0 = mts (bL h k) := by
  rw [mP_l]
  unfold bL
  rw [List.range_eq_range']
theorem bs_x {h : Hp_} (I : Iv h) (S : ExS h) (B : ExB h) (x2 : Int32) (b2 : 0 ≤ x2.toInt ∧ x2.toInt < (h_i h 12 3).toInt) : Stb h x2 0 (bL h x2.toNatClampNeg) ∧ h_i h 35 x2.toNatClampNeg = Int32.ofNat (bL h x2.toNatClampNeg).length ∧ (h_i h 36 x2.toNatClampNeg).toInt = (mts (bL h x2.toNatClampNeg) : Int) := by
  have b3 := x12_in I
  have n3 := n_nat b3.1
  have nx := n_nat b2.1
  have z := z227 I x2.toNatClampNeg
  have q := B x2.toNatClampNeg (by omega)
  refine ⟨⟨⟨b2.1, by omega⟩, ?_, fun k x e => ?_⟩, ?_, ?_⟩
  · rw [bL_l]
    omega
  · have lk : k < (bL h x2.toNatClampNeg).length := (List.getElem?_eq_some_iff.mp e).1
    rw [bL_l] at lk
    rw [bL_g lk] at e
    rw [← Option.some.inj e, Nat.zero_add]
    exact S _ (by omega) _ lk
  · rw [q.1, bL_l]
    exact (of_nat32 (by omega)).symm
  · rw [q.2, mP_b]
noncomputable def wBx : List Nat := 14 :: 401999 :: (wwR ++ wgM)
noncomputable def BgK (x1 x2 : Int32) (h : Hp_) : Prop := isM h x1 ∧ (0 ≤ x2.toInt ∧ x2.toInt < (h_i h 12 3).toInt) ∧ h_i h (401 + x1.toNatClampNeg) 4 = 0 ∧ (h_i h 16 7).toInt + (mts (bL h x2.toNatClampNeg) : Int) ≤ 400
noncomputable def BgF (x1 x2 : Int32) (h : Hp_) : (Nat → Int32) × List Ev2 := fBg (h_i h 0 0) (wI h) x2 (h_i h 16 7).toNatClampNeg ((h_i h 16 7).toNatClampNeg + mts (bL h x2.toNatClampNeg)) (bL h x2.toNatClampNeg) (h_i h (401 + x1.toNatClampNeg))
noncomputable def BgX (x1 x2 : Int32) (h : Hp_) (r : Int32) (h' : Hp_) : Prop := (BgK x1 x2 h → r = 1 ∧ Bxm PU (401 + x1.toNatClampNeg) x1 (h_i h 0 0) (BgF x1 x2 h).1 (h_i h 16 7).toNatClampNeg (ptL (bL h x2.toNatClampNeg)) (BgF x1 x2 h).2 () h h') ∧ (¬ BgK x1 x2 h → r = 0 ∧ h' = h)
theorem bg_k {h h1 : Hp_} (f : Fr wBx h h1) (o : h_i h1 16 7 = h_i h 16 7 ∨ True) : wI h1 = wI h ∧ bL h1 = bL h ∧ (∀ k, sB h1 k = sB h k) ∧ (∀ k, h_i h1 1 k = h_i h 1 k) ∧ ∀ a, 200 ≤ a → a < 300 → h_i h1 a = h_i h a := by
  have rr : ∀ a, 200 ≤ a → a < 300 → h_i h1 a = h_i h a := fun a p q => by
    have z : ∀ i, i < 100 → off wBx (200 + i) = true := fun i hi => List.all_eq_true.mp (show (List.range 100).all (fun i => off wBx (200 + i)) = true by decide +kernel) i (List.mem_range.mpr hi)
    have y := z (a - 200) (by omega)
    rw [show 200 + (a - 200) = a by omega] at y
    exact funext (fun k => fr_i f y k)
  refine ⟨wI_cg (funext (fun k => fr_i f (by decide +kernel) k)), bL_cg (rr 227 (by decide) (by decide)) (rr 228 (by decide) (by decide)) (rr 229 (by decide) (by decide)) (rr 230 (by decide) (by decide)), fun k => ?_, fun k => fr_i f (by decide +kernel) k, rr⟩
  funext i
  unfold sB
  rw [rr 228 (by decide) (by decide), rr 229 (by decide) (by decide), rr 230 (by decide) (by decide)]
noncomputable def BgM (x1 x2 : Int32) (h h1 : Hp_) (r : Int32) (h' : Hp_) : Prop := (BgK x1 x2 h → r = 1 ∧ Bym PU x1.toNatClampNeg x1 (h_i h 0 0) (BgF x1 x2 h).1 (h_i h 16 7).toNatClampNeg (ptL (bL h x2.toNatClampNeg)) (BgF x1 x2 h).2 () h1 h') ∧ (¬ BgK x1 x2 h → r = 0 ∧ h' = h1)
theorem ExM.bg {h h1 h2 : Hp_} {x1 x2 r1 r2 : Int32} (I : Iv h) (x : ExM h) (R : ExR h) (S : ExS h) (I1 : Iv h1) (f : Fr wBx h h1) (k1 : BgX x1 x2 h r1 h1) (k2 : BgM x1 x2 h h1 r2 h2) : Iv h2 ∧ Fr mwB h1 h2 ∧ ExM h2 ∧ r1 = r2 := by
  by_cases c : BgK x1 x2 h
  case neg =>
    have z1 := k1.2 c
    have z2 := k2.2 c
    have e := z1.2
    subst e
    have e := z2.2
    subst e
    exact ⟨I, Fr.rf _ _, x, z1.1.trans z2.1.symm⟩
  obtain ⟨ea, z1⟩ := k1.1 c
  obtain ⟨eb, z2⟩ := k2.1 c
  obtain ⟨cM, cB, c4, cR⟩ := c
  refine ⟨z2.1, z2.2.1.1, ?_, ea.trans eb.symm⟩
  obtain ⟨ew, ebL, es, e1, rr⟩ := bg_k f (Or.inr trivial)
  have hj := (x.rk I cM).1
  have m12 := x.1.2.2.2
  have r4 := rwX_in I
  have mm := menX_in I
  have y2 := cM.2
  have b3 := x12_in I
  have n3 := n_nat b3.1
  have nx := n_nat cB.1
  have z227' := z227 I x2.toNatClampNeg
  have ej : x1 = Int32.ofNat x1.toNatClampNeg := (on_of ⟨cM.1, by omega⟩).symm
  have pn : 0 ≤ (h_i h 0 0).toInt := by
    have rg := I.2.1 0 0
    rw [show tf 0 0 = (0, 20000) by decide +kernel] at rg
    exact rg.1
  have f2 : Fr mwB h1 h2 := z2.2.1.1
  have W := wok I R.2
  have K0 := (x.2.2.1 _ hj).1.1
  have e6 := (K0.2.2.2.1 c4).1
  have al := K0.2.2.2.2.2.2.2
  have Rs := Rk.st (n := h_i h 0 0) (w := wI h) (bL h x2.toNatClampNeg) (up1 (up1 (up1 (up1 (up1 (up1 (h_i h (401 + x1.toNatClampNeg)) 4 1) 8 x2) 9 0) 10 (h_i h 0 0)) 11 (Int32.ofNat (h_i h 16 7).toNatClampNeg)) 12 (Int32.ofNat ((h_i h 16 7).toNatClampNeg + mts (bL h x2.toNatClampNeg))))
  have Ks := km_st (n := h_i h 0 0) (nb := (h_i h 12 3).toNatClampNeg) (rw := (h_i h 16 7).toNatClampNeg + mts (bL h x2.toNatClampNeg)) (BL := bL h) W (bL h x2.toNatClampNeg) (up1 (up1 (up1 (up1 (up1 (up1 (h_i h (401 + x1.toNatClampNeg)) 4 1) 8 x2) 9 0) 10 (h_i h 0 0)) 11 (Int32.ofNat (h_i h 16 7).toNatClampNeg)) 12 (Int32.ofNat ((h_i h 16 7).toNatClampNeg + mts (bL h x2.toNatClampNeg)))) 0 (fun y hy => bL_hb S _ y (by omega) hy) rfl e6 (K0.2.1 e6) K0.1 (by rw [if_pos e6] at al; exact al) ⟨cB.1, by show x2.toNatClampNeg < _; omega⟩ List.drop_zero rfl (by rw [bL_l]; omega) (by show 0 ≤ (Int32.ofNat _).toInt; rw [on_j (by omega)]; omega) (by show (Int32.ofNat _).toInt + _ = (Int32.ofNat _).toInt; rw [on_j (by omega), on_j (by omega)]; omega) (by show (Int32.ofNat _).toInt ≤ _; rw [on_j (by omega)]; omega) (by omega)
  have eF : BgF x1 x2 h = fSt (h_i h 0 0) (wI h) (bL h x2.toNatClampNeg) (up1 (up1 (up1 (up1 (up1 (up1 (h_i h (401 + x1.toNatClampNeg)) 4 1) 8 x2) 9 0) 10 (h_i h 0 0)) 11 (Int32.ofNat (h_i h 16 7).toNatClampNeg)) 12 (Int32.ofNat ((h_i h 16 7).toNatClampNeg + mts (bL h x2.toNatClampNeg)))) := rfl
  rw [← eF] at Rs Ks
  have F11 : (BgF x1 x2 h).1 11 = Int32.ofNat (h_i h 16 7).toNatClampNeg + Int32.ofNat (BgF x1 x2 h).2.length := Rs.2.2.2.1
  have F12 : (BgF x1 x2 h).1 12 = Int32.ofNat ((h_i h 16 7).toNatClampNeg + mts (bL h x2.toNatClampNeg)) := Rs.1 12 (by decide)
  have F0 : (BgF x1 x2 h).1 0 = h_i h (401 + x1.toNatClampNeg) 0 := Rs.1 0 (by decide)
  have FE := Rs.2.1
  have FL : (BgF x1 x2 h).2.length ≤ mts (bL h x2.toNatClampNeg) := Rs.2.2.1
  generalize BgF x1 x2 h = F at z1 z2 Ks F11 F12 F0 FE FL
  have ql := ptL_l (bL h x2.toNatClampNeg)
  generalize ptL (bL h x2.toNatClampNeg) = Q at z1 z2 ql
  have i1 : ∀ a k, inw wBx a k = false → inw mwB a k = false → h_i h2 a k = h_i h a k := fun a k o1 o2 => ((f2.2 a k o2).1).trans (f.2 a k o1).1
  have q1 : ∀ a, off wBx a = true → off mwB a = true → h_i h2 a = h_i h a := fun a o1 o2 => funext (fun k => i1 a k (off_inw o1 k) (off_inw o2 k))
  have e2 : ∀ a, off mwB a = true → h_i h2 a = h_i h1 a := fun a o => funext (fun k => fr_i f2 o k)
  have n07 : h_i h2 0 7 = h_i h 0 7 := i1 0 7 (by decide +kernel) (by decide +kernel)
  have n17 : h_i h2 1 7 = h_i h 1 7 := i1 1 7 (by decide +kernel) (by decide +kernel)
  have n00 : h_i h2 0 0 = h_i h 0 0 := i1 0 0 (by decide +kernel) (by decide +kernel)
  have n10 : h_i h2 1 0 = h_i h 1 0 := i1 1 0 (by decide +kernel) (by decide +kernel)
  have n3' : h_i h2 12 3 = h_i h 12 3 := i1 12 3 (by decide +kernel) (by decide +kernel)
  have nr : h_i h2 16 7 = Int32.ofNat ((h_i h 16 7).toNatClampNeg + Q.length) := ((f2.2 16 7 (by decide +kernel)).1).trans z1.2.2.2.2.1
  have n63 : h_i h2 1 63 = Int32.ofNat ((h_i h 16 7).toNatClampNeg + Q.length) := z2.2.2.2.2.1.1
  have nr' : (h_i h2 16 7).toNatClampNeg = (h_i h 16 7).toNatClampNeg + mts (bL h x2.toNatClampNeg) := by rw [nr, ql, on_k (by omega)]
  have c2 : ∀ l, l < 12 → h_i h2 (401 + l) = h_i h1 (401 + l) := fun l hl => funext (fun k => (f2.2 (401 + l) k (by
    rw [inw_ce (b := 401) ((cn_man hl).trans (by decide))]
    exact off_inw (by decide +kernel) k)).1)
  have cj : h_i h2 (401 + x1.toNatClampNeg) = F.1 := (c2 _ (by omega)).trans z1.2.2.1
  have co : ∀ l, l < 12 → l ≠ x1.toNatClampNeg → h_i h2 (401 + l) = h_i h (401 + l) := fun l hl ne => (c2 l hl).trans (funext (fun k => z1.2.1.i (401 + l) k (by omega) (by
    rw [inw_ce (b := 401) ((cn_man hl).trans (by decide))]
    exact off_inw (by decide +kernel) k)))
  have g47 := (e2 47 (by decide +kernel)).trans z1.2.2.2.1.1
  have g48 := (e2 48 (by decide +kernel)).trans z1.2.2.2.1.2.1
  have g49 := (e2 49 (by decide +kernel)).trans z1.2.2.2.1.2.2.1
  have g50 := (e2 50 (by decide +kernel)).trans z1.2.2.2.1.2.2.2
  have g51 := (e2 51 (by decide +kernel)).trans z1.2.2.2.2.2.1.1
  have g52 := (e2 52 (by decide +kernel)).trans z1.2.2.2.2.2.1.2.1
  have g53 := (e2 53 (by decide +kernel)).trans z1.2.2.2.2.2.1.2.2
  have g238 := z2.2.2.2.1.1
  have g239 := z2.2.2.2.1.2.1
  have g240 := z2.2.2.2.1.2.2.1
  have g244 := z2.2.2.2.1.2.2.2
  have g241 := z2.2.2.2.2.2.1.1
  have g242 := z2.2.2.2.2.2.1.2.1
  have g243 := z2.2.2.2.2.2.1.2.2
  rw [rr 238 (by decide) (by decide)] at g238
  rw [rr 239 (by decide) (by decide)] at g239
  rw [rr 240 (by decide) (by decide)] at g240
  rw [rr 244 (by decide) (by decide)] at g244
  rw [rr 241 (by decide) (by decide)] at g241
  rw [rr 242 (by decide) (by decide)] at g242
  rw [rr 243 (by decide) (by decide)] at g243
  refine ⟨⟨by rw [n07, n17]; exact x.1.1, by rw [n00, n10]; exact x.1.2.1, by rw [nr, n63], by rw [n07]; exact m12⟩, fun k hk => ?_, ?_, fun l hl => ?_, fun k hk => ?_, fun k hk h4 => ?_⟩
  · rw [(f2.2 15 k (off_inw (by decide +kernel) k)).2.2, (f.2 15 k (off_inw (by decide +kernel) k)).2.2]
    exact x.2.1 k (by rw [n07] at hk; exact hk)
  · rw [wI_cg (q1 30 (by decide +kernel) (by decide +kernel)), bL_cg (q1 227 (by decide +kernel) (by decide +kernel)) (q1 228 (by decide +kernel) (by decide +kernel)) (q1 229 (by decide +kernel) (by decide +kernel)) (q1 230 (by decide +kernel) (by decide +kernel)), n3', nr', n07, g47]
    intro l hl
    by_cases el : l = x1.toNatClampNeg
    · subst el
      show Km (wI h) (bL h) _ _ (h_i h2 (401 + x1.toNatClampNeg)) ∧ h_i h2 (401 + x1.toNatClampNeg) 0 = _ ∧ (h_i h2 (401 + x1.toNatClampNeg) 4 = 1 → ∀ k : Nat, (h_i h2 (401 + x1.toNatClampNeg) 11).toInt ≤ (k : Int) → (k : Int) < (h_i h2 (401 + x1.toNatClampNeg) 12).toInt → h_i h2 51 k = 0 ∧ _)
      rw [cj, g51]
      refine ⟨Ks, F0.trans (x.2.2.1 _ hj).2.1, fun _ k a b => ?_⟩
      rw [F11, tx_add (by rw [on_j (by omega), on_j (by omega)]; omega) (by rw [on_j (by omega), on_j (by omega)]; omega), on_j (by omega), on_j (by omega)] at a
      rw [F12, on_j (by omega)] at b
      refine ⟨?_, ?_⟩
      · rw [rz_o _ _ _ _ _ (Or.inr (by omega))]
        exact x.2.2.2.2.2 k (by omega) (by omega)
      · obtain ⟨e, he, _⟩ := rz_at (fun _ => x1) Q (h_i h 16 7).toNatClampNeg (h_i h 47) (k := k) (by omega) (by omega)
        rw [he]
        exact ej
    · obtain ⟨a, b, d⟩ := x.2.2.1.mo (rw' := (h_i h 16 7).toNatClampNeg + mts (bL h x2.toNatClampNeg)) (fun _ _ z => z) (Nat.le_refl _) (fun _ _ => rfl) (Nat.le_add_right _ _) (fun _ _ => rfl) l hl
      obtain ⟨a0, _, _⟩ := x.2.2.1 l hl
      show Km (wI h) (bL h) _ _ (h_i h2 (401 + l)) ∧ h_i h2 (401 + l) 0 = _ ∧ (h_i h2 (401 + l) 4 = 1 → ∀ k : Nat, (h_i h2 (401 + l) 11).toInt ≤ (k : Int) → (k : Int) < (h_i h2 (401 + l) 12).toInt → h_i h2 51 k = 0 ∧ _)
      rw [co l (by omega) el, g51]
      refine ⟨a, b, fun e k k1 k2 => ?_⟩
      obtain ⟨i, y, L, s1, s2, s3⟩ := a0.2 e
      have s12 : (h_i h (401 + l) 12).toInt ≤ ((h_i h 16 7).toNatClampNeg : Int) := s3.2.2.2.2
      have dd := d e k k1 k2
      rw [rz_o _ _ _ _ _ (Or.inl (by omega)), rz_o _ _ _ _ _ (Or.inl (by omega))]
      exact dd
  · rw [n07] at hl
    by_cases el : l = x1.toNatClampNeg
    · rw [el, cj]
      exact z2.2.2.1
    · rw [co l (by omega) el]
      refine ((x.2.2.2.1 l hl).cg (h' := h1) (fun a ha => ?_)).cg (fun a ha => ?_)
      · have z : ∀ a ∈ 206 :: mrL, 200 ≤ a ∧ a < 300 := by decide
        rw [rr a (z a ha).1 (z a ha).2]
      · rcases List.mem_cons.mp ha with e | e
        · rw [e]
          exact fr_i f2 (by decide +kernel) l
        · exact z2.2.1.2 a e l el
  · rw [nr'] at hk
    rw [g47, g48, g49, g50, g51, g52, g53, g238, g239, g240, g241, g242, g243, g244]
    by_cases ck : k < (h_i h 16 7).toNatClampNeg
    · have q := x.2.2.2.2.1 k ck
      rw [rz_o _ _ _ _ _ (Or.inl ck), rz_o _ _ _ _ _ (Or.inl ck), rz_o _ _ _ _ _ (Or.inl ck), rz_o _ _ _ _ _ (Or.inl ck), rz_o _ _ _ _ _ (Or.inl ck), rz_o _ _ _ _ _ (Or.inl ck), rz_o _ _ _ _ _ (Or.inl ck), rz_o _ _ _ _ _ (Or.inl ck), rz_o _ _ _ _ _ (Or.inl ck), rz_o _ _ _ _ _ (Or.inl ck), rz_o _ _ _ _ _ (Or.inl ck), rq_o _ _ _ _ _ (Or.inl ck), rq_o _ _ _ _ _ (Or.inl ck), rq_o _ _ _ _ _ (Or.inl ck), rz_o _ _ _ _ _ (Or.inl ck), rz_o _ _ _ _ _ (Or.inl ck), n00]
      exact q
    · obtain ⟨a1, h1a, h1b⟩ := rz_at (fun _ => x1) Q (h_i h 16 7).toNatClampNeg (h_i h 47) (k := k) (by omega) (by omega)
      obtain ⟨a2, h2a, h2b⟩ := rz_at Prod.fst Q (h_i h 16 7).toNatClampNeg (h_i h 48) (k := k) (by omega) (by omega)
      obtain ⟨a3, h3a, h3b⟩ := rz_at (fun e => h_i h 0 0 + e.2) Q (h_i h 16 7).toNatClampNeg (h_i h 49) (k := k) (by omega) (by omega)
      obtain ⟨a4, h4a, h4b⟩ := rz_at (fun _ => h_i h 0 0) Q (h_i h 16 7).toNatClampNeg (h_i h 50) (k := k) (by omega) (by omega)
      obtain ⟨a5, h5a, _⟩ := rz_at (fun _ => (-1 : Int32)) Q (h_i h 16 7).toNatClampNeg (h_i h 241) (k := k) (by omega) (by omega)
      obtain ⟨a6, h6a, _⟩ := rz_at (fun _ => (-1 : Int32)) Q (h_i h 16 7).toNatClampNeg (h_i h 242) (k := k) (by omega) (by omega)
      have o51 := x.2.2.2.2.2 k (by omega) (by omega)
      refine ⟨stt_ev pn FE (Or.inl ⟨o51, h5a, h6a⟩) (fun _ _ => o51), ⟨?_, ?_, ?_, ?_⟩, by rw [n00]; exact tm_rz (N := (h_i h 0 0).toInt) (fun y => absurd o51 y) (Int.le_refl _)⟩
      · rw [h1a, h1b]
      · rw [h2a, h2b]
      · rw [h3a, h3b]
      · rw [h4a, h4b]
  · rw [nr'] at hk
    rw [g51, rz_o _ _ _ _ _ (Or.inr (by omega))]
    exact x.2.2.2.2.2 k (by omega) (by omega)
/-! MEN: path, beat, constable -/
noncomputable def mqS : List Nat := [47, 48, 49, 50, 51, 52, 53, 206, 208, 209, 210, 211, 212, 213, 214, 215, 216, 217, 218, 219, 238, 239, 240, 241, 242, 243, 244, 248]
theorem mqS_m : ∀ a ∈ 206 :: mrL, a ∈ mqS := by decide
theorem ExM.cg2 {h h' : Hp_} (x : ExM h) (n : ∀ q ∈ [(0, 7), (1, 7), (0, 0), (1, 0), (16, 7), (1, 63)], h_i h' q.1 q.2 = h_i h q.1 q.2) (r : ∀ a ∈ mqS, h_i h' a = h_i h a) (f : ∀ k, h_r h' 15 k = h_r h 15 k) (c : ∀ j, j < 12 → h_i h' (401 + j) = h_i h (401 + j)) (hw : ∀ a b, ¬ wI h a b = -1 → ¬ wI h' a b = -1) (hb : (h_i h 12 3).toNatClampNeg ≤ (h_i h' 12 3).toNatClampNeg) (hB : ∀ k, k < (h_i h 12 3).toNatClampNeg → bL h' k = bL h k) : ExM h' := by
  have n07 : h_i h' 0 7 = h_i h 0 7 := n (0, 7) (by decide)
  have n17 : h_i h' 1 7 = h_i h 1 7 := n (1, 7) (by decide)
  have n00 : h_i h' 0 0 = h_i h 0 0 := n (0, 0) (by decide)
  have n10 : h_i h' 1 0 = h_i h 1 0 := n (1, 0) (by decide)
  have nr : h_i h' 16 7 = h_i h 16 7 := n (16, 7) (by decide)
  have n63 : h_i h' 1 63 = h_i h 1 63 := n (1, 63) (by decide)
  have m12 := x.1.2.2.2
  have r51 := r 51 (by decide)
  refine ⟨⟨by rw [n07, n17]; exact x.1.1, by rw [n00, n10]; exact x.1.2.1, by rw [nr, n63]; exact x.1.2.2.1, by rw [n07]; exact m12⟩, fun k hk => by rw [f k]; exact x.2.1 k (by rw [n07] at hk; exact hk), ?_, fun j hj => ?_, fun k hk => ?_, fun k hk h4 => ?_⟩
  · rw [nr, r 47 (by decide), n07]
    exact (x.2.2.1.mo hw hb hB (Nat.le_refl _) (fun _ _ => rfl)).cs (fun j hj => c j (by omega)) r51
  · rw [n07] at hj
    rw [c j (by omega)]
    exact (x.2.2.2.1 j hj).cg (fun a ha => congrFun (r a (mqS_m a ha)) j)
  · rw [nr] at hk
    rw [r51, r 52 (by decide), r 53 (by decide), r 241 (by decide), r 242 (by decide), r 243 (by decide), r 47 (by decide), r 48 (by decide), r 49 (by decide), r 50 (by decide), r 238 (by decide), r 239 (by decide), r 240 (by decide), r 244 (by decide), n00]
    exact x.2.2.2.2.1 k hk
  · rw [nr] at hk
    rw [r51]
    exact x.2.2.2.2.2 k hk h4
noncomputable def exoN (ws : List Nat) : Bool := [(0, 7), (1, 7), (0, 0), (1, 0), (16, 7), (1, 63)].all (fun q => !inw ws q.1 q.2) && mqS.all (fun a => off ws a) && off ws 15 && off ws 401
/-- two frames, and what else changes -/
theorem ExM.f2 {w1 w2 : List Nat} {h h1 h2 : Hp_} (x : ExM h) (f1 : Fr w1 h h1) (f2 : Fr w2 h1 h2) (o1 : exoN w1 = true) (o2 : exoN w2 = true) (hw : ∀ a b, ¬ wI h a b = -1 → ¬ wI h2 a b = -1) (hb : (h_i h 12 3).toNatClampNeg ≤ (h_i h2 12 3).toNatClampNeg) (hB : ∀ k, k < (h_i h 12 3).toNatClampNeg → bL h2 k = bL h k) : ExM h2 := by
  unfold exoN at o1 o2
  simp only [Bool.and_eq_true] at o1 o2
  refine x.cg2 (fun q hq => ?_) (fun a ha => (funext (fun k => fr_i f2 (List.all_eq_true.mp o2.1.1.2 a ha) k)).trans (funext (fun k => fr_i f1 (List.all_eq_true.mp o1.1.1.2 a ha) k))) (fun k => ((f2.2 15 k (off_inw o2.1.2 k)).2.2).trans (f1.2 15 k (off_inw o1.1.2 k)).2.2) (fun j hj => funext (fun k => ((f2.2 (401 + j) k ?_).1).trans (f1.2 (401 + j) k ?_).1)) hw hb hB
  · have z1 := List.all_eq_true.mp o1.1.1.1 q hq
    have z2 := List.all_eq_true.mp o2.1.1.1 q hq
    rw [Bool.not_eq_true'] at z1 z2
    exact ((f2.2 q.1 q.2 z2).1).trans (f1.2 q.1 q.2 z1).1
  · rw [inw_ce (b := 401) ((cn_man hj).trans (by decide))]
    exact off_inw o2.2 k
  · rw [inw_ce (b := 401) ((cn_man hj).trans (by decide))]
    exact off_inw o1.2 k
theorem ExM.pt {h h1 h2 : Hp_} {x1 x2 x3 r1 r2 : Int32} (I : Iv h) (I2 : Iv h2) (x : ExM h) (R : ExR h) (k1 : PtX x1 x2 x3 h r1 h1) (k2 : PtM x1 x2 x3 h1 r2 h2) : ExM h2 := by
  have R2 := (R.pt I k1 k2).1
  have f1 := k1.1
  have f2 := k2.1
  have eE1 : eE h1 = eE h := by
    unfold eE
    rw [show h_i h1 200 = h_i h 200 from funext (fun k => fr_i f1 (by decide +kernel) k), show h_i h1 201 = h_i h 201 from funext (fun k => fr_i f1 (by decide +kernel) k), show h_i h1 202 = h_i h 202 from funext (fun k => fr_i f1 (by decide +kernel) k)]
  have eN1 : eN h1 = eN h := by
    unfold eN
    rw [(f1.2 1 6 (by decide +kernel)).1]
  refine x.f2 f1 f2 (by decide +kernel) (by decide +kernel) (fun a b y => (wI_y I2 R2.2).mpr ?_) (by rw [(f2.2 12 3 (by decide +kernel)).1, (f1.2 12 3 (by decide +kernel)).1]; exact Nat.le_refl _) (fun k _ => ?_)
  · obtain ⟨ya, yb, k, t, w⟩ := (wI_y I R.2).mp y
    refine ⟨ya, yb, k, t, ?_⟩
    by_cases o : okPn (h_i h1 1 6) x1 x2 x3
    · obtain ⟨e, n⟩ := k2.2.2.1 o
      rw [e, n, eE1, eN1]
      exact wkq_mo (Nat.le_succ _) (fun i hi => by
        unfold exE
        rw [if_neg (by omega)]) k _ t w
    · rw [k2.2.2.2 o, eE1, eN1]
      exact w
  · have e : ∀ a, off [10001, 30999] a = true → off [1006, 200999, 201999, 202999] a = true → h_i h2 a = h_i h a := fun a o1 o2 => (funext (fun k => fr_i f2 o2 k)).trans (funext (fun k => fr_i f1 o1 k))
    rw [bL_cg (e 227 (by decide +kernel) (by decide +kernel)) (e 228 (by decide +kernel) (by decide +kernel)) (e 229 (by decide +kernel) (by decide +kernel)) (e 230 (by decide +kernel) (by decide +kernel))]
theorem ExM.bt {N : Nat} {h h1 h2 : Hp_} {r1 r2 : Int32} (T : LiT N h) (x : ExM h) (k1 : Iv h1 ∧ Fr wbx h h1 ∧ Btx h r1 h1) (k2 : (Iv h2 ∧ J2 h2) ∧ Btm (h_i h 31) (xn h) h1 r2 h2) : ExM h2 := by
  obtain ⟨I1, F1, kn, ky⟩ := k1
  obtain ⟨⟨I2, JJ⟩, F2, c8, mn, my⟩ := k2
  have a42 : h_i h1 1 42 = h_i h 12 3 := (F1.2 1 42 (by decide +kernel)).1.trans T.r2.symm
  rw [a42] at mn my
  have b123 : h_i h2 12 3 = h_i h1 12 3 := (F2.2 12 3 (by decide +kernel)).1
  have f227 : ∀ k, h_i h1 227 k = h_i h 227 k := fun k => fr_i F1 (by decide +kernel) k
  have f228 : ∀ k, h_i h1 228 k = h_i h 228 k := fun k => fr_i F1 (by decide +kernel) k
  have f229 : ∀ k, h_i h1 229 k = h_i h 229 k := fun k => fr_i F1 (by decide +kernel) k
  have f230 : ∀ k, h_i h1 230 k = h_i h 230 k := fun k => fr_i F1 (by decide +kernel) k
  have bb1 : bB h1 = 150 * (h_i h 12 3).toNatClampNeg := by
    show 150 * (h_i h1 1 42).toNatClampNeg = _
    rw [a42]
  have b3 := x12_in T.1
  have n3 := n_nat b3.1
  have t1 : (1 : Int32).toInt = 1 := rfl
  have w227 : ∀ k, k < (h_i h 12 3).toNatClampNeg → h_i h2 227 k = h_i h 227 k := fun k hk => by
    by_cases o : okB (h_i h 31) (xn h) (h_i h 12 3)
    · rw [(my o).2.2.2.1 k, if_neg (by omega), f227]
    · rw [(mn o).2.2.2 k, f227]
  have ew : wI h2 = wI h := wI_cg ((funext (fun k => fr_i F2 (by decide +kernel) k)).trans (funext (fun k => fr_i F1 (by decide +kernel) k)))
  refine x.f2 F1 F2 (by decide +kernel) (by decide +kernel) (fun a b y => by rw [ew]; exact y) ?_ (fun k hk => ?_)
  · rw [b123]
    by_cases o : okB (h_i h 31) (xn h) (h_i h 12 3)
    · have ex : (h_i h 12 3 + 1).toInt = (h_i h 12 3).toInt + 1 := tx_add (by rw [t1]; omega) (by rw [t1]; omega)
      have n4 := n_nat (x := h_i h 12 3 + 1) (by omega)
      rw [(ky o).2.1]
      omega
    · rw [(kn o).2.1]
      exact Nat.le_refl _
  · unfold bL
    rw [w227 k hk]
    refine List.map_congr_left (fun i hi => ?_)
    have hi := List.mem_range.mp hi
    have zk := (z227 T.1 k).1
    have cc := c8 (150 * k + i) (by rw [bb1]; omega)
    unfold sB
    rw [cc.1, cc.2.1, cc.2.2, f228, f229, f230]
theorem okc_m {m x1 x2 x3 : Int32} (b : 0 ≤ m.toInt ∧ m.toInt ≤ 12) : okc m x1 x2 x3 ↔ okm m x1 x2 x3 := by
  have t12 : (12 : Int32).toInt = 12 := rfl
  have t15 : (15 : Int32).toInt = 15 := rfl
  have t16 : (16 : Int32).toInt = 16 := rfl
  refine ⟨fun o => ⟨o.1, o.2.1, p15.mp o.2.2.1, fun e => by have := q_lt.mp o.2.2.2; rw [e] at this; omega⟩, fun o => ⟨o.1, o.2.1, p15.mpr o.2.2.1, q_lt.mpr ?_⟩⟩
  rcases Int.lt_or_le m.toInt 12 with u | u
  · omega
  · exact absurd (Int32.toInt_inj.mp (by omega)) o.2.2.2
theorem ExM.cn {h h1 h2 : Hp_} {x1 x2 x3 r1 r2 : Int32} (I : Iv h) (x : ExM h) (R : ExR h) (k1 : Cy x1 x2 x3 h r1 h1 ∧ CyA x1 x2 x3 h h1) (k2 : ocm (h_i h1 1 7) x1 x2 x3 r2 (h_i h2 1 7) ∧ CwA x1 x2 x3 h1 h2) : ExM h2 ∧ r1 = r2 := by
  obtain ⟨ky, ka, kn⟩ := k1
  obtain ⟨km, kb, kc⟩ := k2
  have mm := menX_in I
  have nm := n_nat mm.1
  have e17 : h_i h1 1 7 = h_i h 0 7 := (ky.1.2.1.1 7).trans x.1.1.symm
  rw [e17] at km kb kc
  have oe := okc_m (x1 := x1) (x2 := x2) (x3 := x3) mm
  by_cases o : okc (h_i h 0 7) x1 x2 x3
  case neg =>
    have eh := kn o
    subst eh
    have eh := kc (fun y => o (oe.mpr y))
    subst eh
    refine ⟨x, ?_⟩
    rcases ky.2.1 with p | p
    · exact absurd p.1 o
    · rcases km with q | q
      · exact absurd (oe.mpr q.1) o
      · exact p.2.1.trans q.2.1.symm
  have o' := oe.mp o
  obtain ⟨aN, aO, a0⟩ := ka o
  obtain ⟨bN, _, f2, bO⟩ := kb o'
  have t12 : (12 : Int32).toInt = 12 := rfl
  have t1 : (1 : Int32).toInt = 1 := rfl
  have lt := q_lt.mp o.2.2.2
  have ex : (h_i h 0 7 + 1).toInt = (h_i h 0 7).toInt + 1 := tx_add (by rw [t1]; omega) (by rw [t1]; omega)
  have n1 := n_nat (x := h_i h 0 7 + 1) (by omega)
  have e07 : h_i h1 0 7 = h_i h 0 7 + 1 := by
    rcases ky.2.1 with p | p
    · exact p.2.2
    · exact absurd o p.1
  have er1 : r1 = h_i h 0 7 := by
    rcases ky.2.1 with p | p
    · exact p.2.1
    · exact absurd o p.1
  have em : h_i h2 1 7 = h_i h 0 7 + 1 ∧ r2 = h_i h 0 7 := by
    rcases km with p | p
    · exact ⟨p.2.2, p.2.1⟩
    · exact absurd o' p.1
  refine ⟨?_, er1.trans em.2.symm⟩
  have m07 : (h_i h 0 7 + 1).toNatClampNeg = (h_i h 0 7).toNatClampNeg + 1 := by omega
  have i2 : ∀ a, off wcM a = true → h_i h2 a = h_i h1 a := fun a q => funext (fun k => fr_i f2 q k)
  have n07 : h_i h2 0 7 = h_i h 0 7 + 1 := ((f2.2 0 7 (by decide +kernel)).1).trans e07
  have ia : ∀ a, a ≠ 0 → a < 401 → off wcM a = true → h_i h2 a = h_i h a := fun a n l q => (i2 a q).trans (aO a (by omega) n)
  have nr : h_i h2 16 7 = h_i h 16 7 := congrFun (ia 16 (by decide) (by decide) (by decide +kernel)) 7
  have n63 : h_i h2 1 63 = h_i h 1 63 := ((f2.2 1 63 (by decide +kernel)).1).trans (ky.1.2.1.1 63)
  have n3 : h_i h2 12 3 = h_i h 12 3 := congrFun (ia 12 (by decide) (by decide) (by decide +kernel)) 3
  have c2 : ∀ l, l < 12 → h_i h2 (401 + l) = h_i h1 (401 + l) := fun l hl => funext (fun k => (f2.2 (401 + l) k (by
    rw [inw_ce (b := 401) ((cn_man hl).trans (by decide))]
    exact off_inw (by decide +kernel) k)).1)
  have cz := ky.2.2.2
  have n00 : h_i h2 0 0 = h_i h 0 0 := ((f2.2 0 0 (by decide +kernel)).1).trans (a0 0 (by decide))
  refine ⟨⟨by rw [n07, em.1], ?_, by rw [nr, n63]; exact x.1.2.2.1, by rw [n07]; omega⟩, fun k hk => ?_, ?_, fun l hl => ?_, fun k hk => ?_, fun k hk h4 => ?_⟩
  · rw [(f2.2 0 0 (by decide +kernel)).1, a0 0 (by decide), (f2.2 1 0 (by decide +kernel)).1, ky.1.2.1.1 0]
    exact x.1.2.1
  · rw [n07, ex] at hk
    rw [(f2.2 15 k (off_inw (by decide +kernel) k)).2.2]
    by_cases e : k = (h_i h 0 7).toNatClampNeg
    · rw [e]
      exact (cz.1 o).1
    · rw [(cz.2 k (Or.inl e)).1]
      exact x.2.1 k (by omega)
  · rw [wI_cg (ia 30 (by decide) (by decide) (by decide +kernel)), bL_cg (ia 227 (by decide) (by decide) (by decide +kernel)) (ia 228 (by decide) (by decide) (by decide +kernel)) (ia 229 (by decide) (by decide) (by decide +kernel)) (ia 230 (by decide) (by decide) (by decide +kernel)), n3, nr, ia 47 (by decide) (by decide) (by decide +kernel), n07, m07]
    intro l hl
    show Km (wI h) (bL h) _ _ (h_i h2 (401 + l)) ∧ h_i h2 (401 + l) 0 = _ ∧ (h_i h2 (401 + l) 4 = 1 → ∀ k : Nat, (h_i h2 (401 + l) 11).toInt ≤ (k : Int) → (k : Int) < (h_i h2 (401 + l) 12).toInt → h_i h2 51 k = 0 ∧ _)
    rw [ia 51 (by decide) (by decide) (by decide +kernel), c2 l (by omega)]
    by_cases e : l = (h_i h 0 7).toNatClampNeg
    · rw [e, aN]
      have p3 := p15.mp o.2.2.1
      have t15 : (15 : Int32).toInt = 15 := rfl
      have t0 : (0 : Int32).toInt = 0 := rfl
      have u1 := q_le.mp p3.1
      have u2 := q_le.mp p3.2
      have p3' : 0 ≤ x3.toInt ∧ x3.toInt ≤ 15 := ⟨by omega, by omega⟩
      refine ⟨⟨⟨p3', fun _ => p3'.1, fun y => absurd rfl y, fun _ => ⟨rfl, rfl⟩, fun y => absurd (show (0 : Int32) = 4 from y) (by decide), fun y => absurd (show (0 : Int32) = 2 from y) (by decide), fun y => absurd (show (0 : Int32) = 3 from y) (by decide), ?_⟩, fun y => absurd (show (0 : Int32) = 1 from y) (by decide)⟩, x.m I, fun y => absurd (show (0 : Int32) = 1 from y) (by decide)⟩
      show ¬ wI h x3 (if (-1 : Int32) = -1 then x3 else -1) = -1
      rw [if_pos rfl]
      exact (wok I R.2).2.1 _ p3'
    · rw [aO (401 + l) (by omega) (by omega)]
      exact x.2.2.1 l (by omega)
  · rw [n07, m07] at hl
    rw [c2 l (by omega)]
    by_cases e : l = (h_i h 0 7).toNatClampNeg
    · rw [e, aN]
      exact bN
    · rw [aO (401 + l) (by omega) (by omega)]
      refine (x.2.2.2.1 l (by omega)).cg (fun a ha => ?_)
      have z : ∀ a ∈ 206 :: mrL, 200 ≤ a ∧ a < 300 := by decide
      have za := z a ha
      rw [bO a l (by omega) e, aO a (by omega) (by omega)]
  · rw [nr] at hk
    rw [ia 51 (by decide) (by decide) (by decide +kernel), ia 52 (by decide) (by decide) (by decide +kernel), ia 53 (by decide) (by decide) (by decide +kernel), ia 241 (by decide) (by decide) (by decide +kernel), ia 242 (by decide) (by decide) (by decide +kernel), ia 243 (by decide) (by decide) (by decide +kernel), ia 47 (by decide) (by decide) (by decide +kernel), ia 48 (by decide) (by decide) (by decide +kernel), ia 49 (by decide) (by decide) (by decide +kernel), ia 50 (by decide) (by decide) (by decide +kernel), ia 238 (by decide) (by decide) (by decide +kernel), ia 239 (by decide) (by decide) (by decide +kernel), ia 240 (by decide) (by decide) (by decide +kernel), ia 244 (by decide) (by decide) (by decide +kernel), n00]
    exact x.2.2.2.2.1 k hk
  · rw [nr] at hk
    rw [ia 51 (by decide) (by decide) (by decide +kernel)]
    exact x.2.2.2.2.2 k hk h4
theorem exM_F : ExM HF := by
  have e7 : h_i HF 0 7 = 0 := by decide +kernel
  have er : h_i HF 16 7 = 0 := by decide +kernel
  have z : (0 : Int32).toNatClampNeg = 0 := rfl
  have z2 : (0 : Int32).toInt = 0 := rfl
  refine ⟨⟨by decide +kernel, by decide +kernel, by decide +kernel, by rw [e7, z]; omega⟩, fun k hk => ?_, fun j hj => ?_, fun j hj => ?_, fun k hk => ?_, fun k _ h4 => ?_⟩
  · rw [e7, z2] at hk
    omega
  · rw [e7, z] at hj
    omega
  · rw [e7, z] at hj
    omega
  · rw [er, z] at hk
    omega
  · exact eq_of_beq (List.all_eq_true.mp (show (List.range 400).all (fun k => h_i HF 51 k == 0) = true by decide +kernel) k (List.mem_range.mpr h4))
end
section
/-! what the readers put down: tokens (sort, argument), behind what is found -/
noncomputable abbrev Tk2 : Type := Int32 × Int32
noncomputable abbrev Rcf (α : Type) : Type := Nat → Bool × Nat × List α
noncomputable abbrev Rce : Type := Rcf Tk2
noncomputable def k2pre {α : Type} (E : List α) (R : Bool × Nat × List α) : Bool × Nat × List α := (R.1, R.2.1, E ++ R.2.2)
noncomputable def k2app (R : Bool × Nat × List Tk2) (E : List Tk2) : Bool × Nat × List Tk2 := (R.1, R.2.1, R.2.2 ++ E)
theorem k2pre_a {α : Type} (E F : List α) (R : Bool × Nat × List α) : k2pre E (k2pre F R) = k2pre (E ++ F) R := by
  unfold k2pre
  rw [List.append_assoc]
noncomputable def k2sq {α : Type} (f g : Rcf α) : Rcf α := fun a => if (f a).1 = true then k2pre (f a).2.2 (g (f a).2.1) else f a
noncomputable def k2lp {α : Type} (b : Nat → Int32) (n : Nat) (sp : Int32 → Bool) (op : Int32 → List α) (f : Rcf α) : Nat → Rcf α
  | 0, a => (true, ska b n a, [])
  | k + 1, a => if sp (skv b n a) = true then (if (f (ska b n a + 1)).1 = true then k2pre ((f (ska b n a + 1)).2.2 ++ op (skv b n a)) (k2lp b n sp op f k (f (ska b n a + 1)).2.1) else f (ska b n a + 1)) else (true, ska b n a, [])
/-- blanks ahead don't matter -/
noncomputable def Cne {α : Type} (b : Nat → Int32) (n : Nat) (f : Rcf α) : Prop := ∀ a, f (ska b n a) = f a
/-- the place behind lies further on; no more tokens than signs -/
noncomputable def Fwe (b : Nat → Int32) (n : Nat) (f : Rce) : Prop := ∀ a, (f a).1 = true → ska b n a < (f a).2.1 ∧ (f a).2.1 ≤ n ∧ ska b n (f a).2.1 = (f a).2.1 ∧ (f a).2.2.length + ska b n a ≤ (f a).2.1
/-- the same of one that may find nothing -/
noncomputable def Fwz (b : Nat → Int32) (n : Nat) (f : Rce) : Prop := ∀ p, ska b n p = p → p ≤ n → (f p).1 = true → p ≤ (f p).2.1 ∧ (f p).2.1 ≤ n ∧ ska b n (f p).2.1 = (f p).2.1 ∧ (f p).2.2.length + p ≤ (f p).2.1
/-- what it finds is what the other finds -/
noncomputable def Pje {α : Type} (f : Rcf α) (g : Rcg) : Prop := ∀ a, (f a).1 = (g a).1 ∧ (f a).2.1 = (g a).2
theorem Pje.sq {α : Type} {f g : Rcf α} {f' g' : Rcg} (p : Pje f f') (q : Pje g g') : Pje (k2sq f g) (sqr f' g') := fun a => by
  unfold k2sq sqr
  rw [(p a).1, (p a).2]
  by_cases c : (f' a).1 = true
  · rw [if_pos c, if_pos c]
    exact q _
  · rw [if_neg c, if_neg c]
    exact p a
theorem Pje.lp {α : Type} {b : Nat → Int32} {n : Nat} {sp : Int32 → Bool} {op : Int32 → List α} {f : Rcf α} {f' : Rcg} (p : Pje f f') : ∀ k : Nat, Pje (k2lp b n sp op f k) (lpr b n sp f' k)
  | 0 => fun _ => ⟨rfl, rfl⟩
  | k + 1 => fun a => by
    unfold k2lp lpr
    by_cases c : sp (skv b n a) = true
    · rw [if_pos c, if_pos c, (p (ska b n a + 1)).1, (p (ska b n a + 1)).2]
      by_cases d : (f' (ska b n a + 1)).1 = true
      · rw [if_pos d, if_pos d]
        exact Pje.lp p k _
      · rw [if_neg d, if_neg d]
        exact p _
    · rw [if_neg c, if_neg c]
      exact ⟨rfl, rfl⟩
theorem Cne.sq {α : Type} {b : Nat → Int32} {n : Nat} {f g : Rcf α} (h : Cne b n f) : Cne b n (k2sq f g) := fun a => by
  unfold k2sq
  rw [h a]
theorem Cne.lp {α : Type} {b : Nat → Int32} {n : Nat} {sp : Int32 → Bool} {op : Int32 → List α} {f : Rcf α} (k : Nat) : Cne b n (k2lp b n sp op f k) := fun a => by
  cases k with
  | zero =>
    show (true, ska b n (ska b n a), []) = (true, ska b n a, [])
    rw [ska_i]
  | succ k =>
    show (if sp (skv b n (ska b n a)) = true then (if (f (ska b n (ska b n a) + 1)).1 = true then k2pre ((f (ska b n (ska b n a) + 1)).2.2 ++ op (skv b n (ska b n a))) (k2lp b n sp op f k (f (ska b n (ska b n a) + 1)).2.1) else f (ska b n (ska b n a) + 1)) else (true, ska b n (ska b n a), [])) = _
    rw [ska_i, skv_i]
    rfl
theorem k2sq_a {α : Type} (f g k : Rcf α) : k2sq (k2sq f g) k = k2sq f (k2sq g k) := funext (fun a => by
  unfold k2sq
  by_cases c : (f a).1 = true
  · rw [if_pos c, if_pos c]
    by_cases d : (g (f a).2.1).1 = true
    · show (if (g (f a).2.1).1 = true then k2pre ((f a).2.2 ++ (g (f a).2.1).2.2) (k (g (f a).2.1).2.1) else _) = _
      rw [if_pos d, if_pos d, k2pre_a]
    · show (if (g (f a).2.1).1 = true then _ else k2pre (f a).2.2 (g (f a).2.1)) = _
      rw [if_neg d, if_neg d]
  · rw [if_neg c, if_neg c, if_neg c])
theorem Fwe.sq {b : Nat → Int32} {n : Nat} {f g : Rce} (hf : Fwe b n f) (hg : Fwz b n g) : Fwe b n (k2sq f g) := fun a h => by
  unfold k2sq at h ⊢
  by_cases c : (f a).1 = true
  · rw [if_pos c] at h ⊢
    have q := hf a c
    have r := hg _ q.2.2.1 q.2.1 h
    refine ⟨?_, r.2.1, r.2.2.1, ?_⟩
    · show ska b n a < (g (f a).2.1).2.1
      omega
    · show ((f a).2.2 ++ (g (f a).2.1).2.2).length + ska b n a ≤ (g (f a).2.1).2.1
      rw [List.length_append]
      omega
  · rw [if_neg c] at h
    exact absurd h c
theorem Fwz.sq {b : Nat → Int32} {n : Nat} {f g : Rce} (hf : Fwz b n f) (hg : Fwz b n g) : Fwz b n (k2sq f g) := fun p e l h => by
  unfold k2sq at h ⊢
  by_cases c : (f p).1 = true
  · rw [if_pos c] at h ⊢
    have q := hf p e l c
    have r := hg _ q.2.2.1 q.2.1 h
    refine ⟨?_, r.2.1, r.2.2.1, ?_⟩
    · show p ≤ (g (f p).2.1).2.1
      omega
    · show ((f p).2.2 ++ (g (f p).2.1).2.2).length + p ≤ (g (f p).2.1).2.1
      rw [List.length_append]
      omega
  · rw [if_neg c] at h
    exact absurd h c
theorem Fwe.z {b : Nat → Int32} {n : Nat} {f : Rce} (hf : Fwe b n f) : Fwz b n f := fun p e _ h => by
  have q := hf p h
  rw [e] at q
  exact ⟨by omega, q.2.1, q.2.2.1, q.2.2.2⟩
theorem Fwz.lp {b : Nat → Int32} {n : Nat} {sp : Int32 → Bool} {op : Int32 → List Tk2} {f : Rce} (ho : ∀ c, (op c).length ≤ 1) (hf : Fwe b n f) : ∀ k : Nat, Fwz b n (k2lp b n sp op f k)
  | 0 => fun p e l _ => by
    show p ≤ ska b n p ∧ ska b n p ≤ n ∧ ska b n (ska b n p) = ska b n p ∧ 0 + p ≤ ska b n p
    rw [e]
    exact ⟨Nat.le_refl _, l, e, by omega⟩
  | k + 1 => fun p e l h => by
    unfold k2lp at h ⊢
    by_cases c : sp (skv b n p) = true
    · rw [if_pos c] at h ⊢
      by_cases d : (f (ska b n p + 1)).1 = true
      · rw [if_pos d] at h ⊢
        have q := hf _ d
        have g := ska_ge (b := b) (n := n) (a := ska b n p + 1)
        have r := Fwz.lp (op := op) (sp := sp) ho hf k _ q.2.2.1 q.2.1 h
        have o := ho (skv b n p)
        rw [e] at q g r ⊢
        refine ⟨?_, r.2.1, r.2.2.1, ?_⟩
        · show p ≤ (k2lp b n sp op f k (f (p + 1)).2.1).2.1
          omega
        · show (((f (p + 1)).2.2 ++ op (skv b n p)) ++ (k2lp b n sp op f k (f (p + 1)).2.1).2.2).length + p ≤ (k2lp b n sp op f k (f (p + 1)).2.1).2.1
          rw [List.length_append, List.length_append]
          omega
      · rw [if_neg d] at h
        exact absurd h d
    · rw [if_neg c]
      show p ≤ ska b n p ∧ ska b n p ≤ n ∧ ska b n (ska b n p) = ska b n p ∧ 0 + p ≤ ska b n p
      rw [e]
      exact ⟨Nat.le_refl _, l, e, by omega⟩
/-! the grammar, with tokens -/
noncomputable def k2ex (b : Nat → Int32) (n : Nat) (c : Int32) : Rce := fun a => if skv b n a = c then (true, ska b n (ska b n a + 1), []) else (false, ska b n a, [])
noncomputable def k2on (b : Nat → Int32) (n : Nat) (sp : Int32 → Bool) : Rce := fun a => if sp (skv b n a) = true then (true, ska b n (ska b n a + 1), [(1, skv b n a)]) else (false, ska b n a, [])
noncomputable def k2nv (b : Nat → Int32) (n a : Nat) : Int32 := (nml b n 4 0 (ska b n a)).2.2
noncomputable def k2at (b : Nat → Int32) (n : Nat) (lt : Int32 → Bool) (z : Bool) (f : Rce) : Rce := fun a => if dgb (skv b n a) = true then ((nm0 b n a).1, (nm0 b n a).2, [(0, k2nv b n a)]) else if skv b n a = 91 then (if z = true then (false, ska b n a, []) else k2sq f (k2ex b n 93) (ska b n a + 1)) else k2on b n lt a
noncomputable def k2tm (b : Nat → Int32) (n : Nat) (f : Rce) : Rce := k2sq f (k2lp b n (isq 42) (fun _ => [(7, 0)]) f 160)
noncomputable def pmo (c : Int32) : List Tk2 := if c = 43 then [(5, 0)] else [(6, 0)]
noncomputable def k2sm (b : Nat → Int32) (n : Nat) (f : Rce) : Rce := k2sq (k2tm b n f) (k2lp b n pmb pmo (k2tm b n f) 160)
noncomputable def k2ss (b : Nat → Int32) (n : Nat) (lt : Int32 → Bool) : Nat → Rce
  | 0 => k2sm b n (k2at b n lt true (fun a => (false, a, [])))
  | r + 1 => k2sm b n (k2at b n lt false (k2ss b n lt r))
noncomputable def cpo (c : Int32) : Tk2 := if c = 61 then (8, 0) else if c = 60 then (9, 0) else (10, 0)
noncomputable def k2cm (b : Nat → Int32) (n : Nat) (f : Rce) : Rce := fun a => if sgb (skv b n a) = true then k2app (f (ska b n a + 1)) [cpo (skv b n a)] else (false, ska b n a, [])
noncomputable def k2mu (b : Nat → Int32) (n : Nat) (u : Rce) : Rce := k2lp b n (isq 38) (fun _ => [(11, 0)]) u 160
noncomputable def k2pt (b : Nat → Int32) (n : Nat) (u : Rce) : Rce := k2sq u (k2mu b n u)
noncomputable def k2mp (b : Nat → Int32) (n : Nat) (u : Rce) : Rce := k2sq (k2mu b n u) (k2lp b n (isq 124) (fun _ => [(12, 0)]) (k2pt b n u) 160)
noncomputable def k2cd (b : Nat → Int32) (n : Nat) (u : Rce) : Rce := k2sq u (k2mp b n u)
noncomputable def k2un (b : Nat → Int32) (n : Nat) (lt : Int32 → Bool) : Nat → Rce
  | 0 => fun a => if skv b n a = 33 ∨ skv b n a = 40 then (false, ska b n a, []) else k2sq (k2ss b n lt 0) (k2cm b n (k2ss b n lt 0)) a
  | r + 1 => fun a => if skv b n a = 33 then k2app (k2un b n lt r (ska b n a + 1)) [(2, 0)] else if skv b n a = 40 then k2sq (k2cd b n (k2un b n lt r)) (k2ex b n 41) (ska b n a + 1) else k2sq (k2ss b n lt (r + 1)) (k2cm b n (k2ss b n lt (r + 1))) a
/-! they find what the recognizers find -/
theorem Pje.ex {b : Nat → Int32} {n : Nat} {c : Int32} : Pje (k2ex b n c) (exr b n c) := fun a => by
  unfold k2ex exr
  split <;> exact ⟨rfl, rfl⟩
theorem Pje.on {b : Nat → Int32} {n : Nat} {sp : Int32 → Bool} : Pje (k2on b n sp) (onr b n sp) := fun a => by
  unfold k2on onr
  split <;> exact ⟨rfl, rfl⟩
theorem Pje.at {b : Nat → Int32} {n : Nat} {lt : Int32 → Bool} {z : Bool} {f : Rce} {f' : Rcg} (p : Pje f f') : Pje (k2at b n lt z f) (atm b n lt z f') := fun a => by
  unfold k2at atm
  by_cases c : dgb (skv b n a) = true
  · rw [if_pos c, if_pos c]
    exact ⟨rfl, rfl⟩
  · rw [if_neg c, if_neg c]
    by_cases d : skv b n a = 91
    · rw [if_pos d, if_pos d]
      by_cases e : z = true
      · rw [if_pos e, if_pos e]
        exact ⟨rfl, rfl⟩
      · rw [if_neg e, if_neg e]
        exact (p.sq Pje.ex) _
    · rw [if_neg d, if_neg d]
      exact Pje.on _
theorem Pje.tm {b : Nat → Int32} {n : Nat} {f : Rce} {f' : Rcg} (p : Pje f f') : Pje (k2tm b n f) (trm b n f') := p.sq (p.lp 160)
theorem Pje.sm {b : Nat → Int32} {n : Nat} {f : Rce} {f' : Rcg} (p : Pje f f') : Pje (k2sm b n f) (smm b n f') := (p.tm).sq ((p.tm).lp 160)
theorem Pje.ss {b : Nat → Int32} {n : Nat} {lt : Int32 → Bool} : ∀ r : Nat, Pje (k2ss b n lt r) (sms b n lt r)
  | 0 => Pje.sm (Pje.at (fun _ => ⟨rfl, rfl⟩))
  | r + 1 => Pje.sm (Pje.at (Pje.ss r))
theorem Pje.cm {b : Nat → Int32} {n : Nat} {f : Rce} {f' : Rcg} (p : Pje f f') : Pje (k2cm b n f) (cmq b n f') := fun a => by
  unfold k2cm cmq
  by_cases c : sgb (skv b n a) = true
  · rw [if_pos c, if_pos c]
    exact p _
  · rw [if_neg c, if_neg c]
    exact ⟨rfl, rfl⟩
theorem Pje.mu {b : Nat → Int32} {n : Nat} {u : Rce} {u' : Rcg} (p : Pje u u') : Pje (k2mu b n u) (mun b n u') := p.lp 160
theorem Pje.pt {b : Nat → Int32} {n : Nat} {u : Rce} {u' : Rcg} (p : Pje u u') : Pje (k2pt b n u) (prt b n u') := p.sq p.mu
theorem Pje.mp {b : Nat → Int32} {n : Nat} {u : Rce} {u' : Rcg} (p : Pje u u') : Pje (k2mp b n u) (mpt b n u') := (p.mu).sq ((p.pt).lp 160)
theorem Pje.cd {b : Nat → Int32} {n : Nat} {u : Rce} {u' : Rcg} (p : Pje u u') : Pje (k2cd b n u) (cnd b n u') := p.sq p.mp
theorem Pje.un {b : Nat → Int32} {n : Nat} {lt : Int32 → Bool} : ∀ r : Nat, Pje (k2un b n lt r) (unt b n lt r)
  | 0 => fun a => by
    unfold k2un unt
    by_cases c : skv b n a = 33 ∨ skv b n a = 40
    · rw [if_pos c, if_pos c]
      exact ⟨rfl, rfl⟩
    · rw [if_neg c, if_neg c]
      exact ((Pje.ss 0).sq ((Pje.ss 0).cm)) _
  | r + 1 => fun a => by
    unfold k2un unt
    by_cases c : skv b n a = 33
    · rw [if_pos c, if_pos c]
      exact Pje.un r _
    · rw [if_neg c, if_neg c]
      by_cases d : skv b n a = 40
      · rw [if_pos d, if_pos d]
        exact ((Pje.un r).cd.sq Pje.ex) _
      · rw [if_neg d, if_neg d]
        exact ((Pje.ss (r + 1)).sq ((Pje.ss (r + 1)).cm)) _
/-! blanks ahead don't matter -/
theorem Cne.ex {b : Nat → Int32} {n : Nat} {c : Int32} : Cne b n (k2ex b n c) := fun a => by
  unfold k2ex
  rw [skv_i, ska_i]
theorem Cne.on {b : Nat → Int32} {n : Nat} {sp : Int32 → Bool} : Cne b n (k2on b n sp) := fun a => by
  unfold k2on
  rw [skv_i, ska_i]
theorem Cne.at {b : Nat → Int32} {n : Nat} {lt : Int32 → Bool} {z : Bool} {f : Rce} : Cne b n (k2at b n lt z f) := fun a => by
  unfold k2at k2nv
  rw [skv_i, ska_i, nm0_c, Cne.on a]
theorem Cne.ss {b : Nat → Int32} {n : Nat} {lt : Int32 → Bool} (r : Nat) : Cne b n (k2ss b n lt r) := by
  cases r with
  | zero => exact Cne.sq (Cne.sq Cne.at)
  | succ r => exact Cne.sq (Cne.sq Cne.at)
theorem Cne.cm {b : Nat → Int32} {n : Nat} {f : Rce} : Cne b n (k2cm b n f) := fun a => by
  unfold k2cm
  rw [skv_i, ska_i]
theorem Cne.un {b : Nat → Int32} {n : Nat} {lt : Int32 → Bool} (r : Nat) : Cne b n (k2un b n lt r) := fun a => by
  cases r with
  | zero =>
    unfold k2un
    rw [skv_i, ska_i, Cne.sq (Cne.ss 0) a]
  | succ r =>
    unfold k2un
    rw [skv_i, ska_i, Cne.sq (Cne.ss (r + 1)) a]
theorem Cne.mp {b : Nat → Int32} {n : Nat} {u : Rce} : Cne b n (k2mp b n u) := Cne.sq (Cne.lp 160)
theorem Cne.cd {b : Nat → Int32} {n : Nat} {u : Rce} (h : Cne b n u) : Cne b n (k2cd b n u) := Cne.sq h
theorem k2pt_a {b : Nat → Int32} {n : Nat} (u : Rce) : k2cd b n u = k2sq (k2pt b n u) (k2lp b n (isq 124) (fun _ => [(12, 0)]) (k2pt b n u) 160) := by
  unfold k2cd k2mp
  rw [← k2sq_a]
  rfl
/-! how far they go -/
theorem Fwe.ex {b : Nat → Int32} {n : Nat} {c : Int32} (hc : ¬ c = -1) : Fwe b n (k2ex b n c) := fun a h => by
  unfold k2ex at h ⊢
  by_cases q : skv b n a = c
  · rw [if_pos q] at h ⊢
    have z := nxt_f (skv_l (by rw [q]; exact hc))
    exact ⟨z.1, z.2.1, z.2.2, by show 0 + ska b n a ≤ ska b n (ska b n a + 1); have := z.1; omega⟩
  · rw [if_neg q] at h
    exact absurd h (by simp)
theorem Fwe.on {b : Nat → Int32} {n : Nat} {sp : Int32 → Bool} (hc : sp (-1) = false) : Fwe b n (k2on b n sp) := fun a h => by
  unfold k2on at h ⊢
  by_cases q : sp (skv b n a) = true
  · rw [if_pos q] at h ⊢
    have z := nxt_f (skv_l (fun e => by rw [e, hc] at q; exact absurd q (by decide)))
    exact ⟨z.1, z.2.1, z.2.2, by show 1 + ska b n a ≤ ska b n (ska b n a + 1); have := z.1; omega⟩
  · rw [if_neg q] at h
    exact absurd h (by simp)
/-- from one sign further on -/
theorem Fwe.st {b : Nat → Int32} {n : Nat} {f : Rce} (hf : Fwe b n f) {a : Nat} (h : (f (ska b n a + 1)).1 = true) : ska b n a < (f (ska b n a + 1)).2.1 ∧ (f (ska b n a + 1)).2.1 ≤ n ∧ ska b n (f (ska b n a + 1)).2.1 = (f (ska b n a + 1)).2.1 ∧ (f (ska b n a + 1)).2.2.length + (ska b n a + 1) ≤ (f (ska b n a + 1)).2.1 := by
  have q := hf _ h
  have g := ska_ge (b := b) (n := n) (a := ska b n a + 1)
  exact ⟨by omega, q.2.1, q.2.2.1, by omega⟩
theorem Fwe.at {b : Nat → Int32} {n : Nat} {lt : Int32 → Bool} {z : Bool} {f : Rce} (hl : lt (-1) = false) (hf : z = false → Fwe b n f) : Fwe b n (k2at b n lt z f) := fun a h => by
  unfold k2at at h ⊢
  by_cases c : dgb (skv b n a) = true
  · rw [if_pos c] at h ⊢
    have q := nm0_f (b := b) (n := n) a h
    refine ⟨q.1, q.2.1, q.2.2, ?_⟩
    show 1 + ska b n a ≤ (nm0 b n a).2
    have := q.1
    omega
  · rw [if_neg c] at h ⊢
    by_cases d : skv b n a = 91
    · rw [if_pos d] at h ⊢
      by_cases e : z = true
      · rw [if_pos e] at h
        exact absurd h (by simp)
      · rw [if_neg e] at h ⊢
        have k := ((hf (by simpa using e)).sq (Fwe.ex (c := 93) (by decide)).z).st h
        exact ⟨k.1, k.2.1, k.2.2.1, by omega⟩
    · rw [if_neg d] at h ⊢
      exact Fwe.on hl a h
theorem Fwe.tm {b : Nat → Int32} {n : Nat} {f : Rce} (hf : Fwe b n f) : Fwe b n (k2tm b n f) := hf.sq (Fwz.lp (fun _ => Nat.le_refl _) hf 160)
theorem pmo_1 (c : Int32) : (pmo c).length ≤ 1 := by
  unfold pmo
  split <;> exact Nat.le_refl _
theorem Fwe.sm {b : Nat → Int32} {n : Nat} {f : Rce} (hf : Fwe b n f) : Fwe b n (k2sm b n f) := (hf.tm).sq (Fwz.lp pmo_1 hf.tm 160)
theorem Fwe.ss {b : Nat → Int32} {n : Nat} {lt : Int32 → Bool} (hl : lt (-1) = false) : ∀ r : Nat, Fwe b n (k2ss b n lt r)
  | 0 => Fwe.sm (Fwe.at hl (fun e => absurd e (by decide)))
  | r + 1 => Fwe.sm (Fwe.at hl (fun _ => Fwe.ss hl r))
theorem Fwe.cm {b : Nat → Int32} {n : Nat} {f : Rce} (hf : Fwe b n f) : Fwe b n (k2cm b n f) := fun a h => by
  unfold k2cm at h ⊢
  by_cases c : sgb (skv b n a) = true
  · rw [if_pos c] at h ⊢
    have k := hf.st h
    refine ⟨k.1, k.2.1, k.2.2.1, ?_⟩
    show ((f (ska b n a + 1)).2.2 ++ [cpo (skv b n a)]).length + ska b n a ≤ (f (ska b n a + 1)).2.1
    rw [List.length_append]
    show (f (ska b n a + 1)).2.2.length + 1 + ska b n a ≤ _
    omega
  · rw [if_neg c] at h
    exact absurd h (by simp)
theorem Fwz.mu {b : Nat → Int32} {n : Nat} {u : Rce} (hu : Fwe b n u) : Fwz b n (k2mu b n u) := Fwz.lp (fun _ => Nat.le_refl _) hu 160
theorem Fwe.pt {b : Nat → Int32} {n : Nat} {u : Rce} (hu : Fwe b n u) : Fwe b n (k2pt b n u) := hu.sq (Fwz.mu hu)
theorem Fwz.mp {b : Nat → Int32} {n : Nat} {u : Rce} (hu : Fwe b n u) : Fwz b n (k2mp b n u) := (Fwz.mu hu).sq (Fwz.lp (fun _ => Nat.le_refl _) hu.pt 160)
theorem Fwe.cd {b : Nat → Int32} {n : Nat} {u : Rce} (hu : Fwe b n u) : Fwe b n (k2cd b n u) := hu.sq (Fwz.mp hu)
theorem Fwe.un {b : Nat → Int32} {n : Nat} {lt : Int32 → Bool} (hl : lt (-1) = false) : ∀ r : Nat, Fwe b n (k2un b n lt r)
  | 0 => fun a h => by
    unfold k2un at h ⊢
    by_cases c : skv b n a = 33 ∨ skv b n a = 40
    · rw [if_pos c] at h
      exact absurd h (by simp)
    · rw [if_neg c] at h ⊢
      exact ((Fwe.ss hl 0).sq (Fwe.ss hl 0).cm.z) a h
  | r + 1 => fun a h => by
    unfold k2un at h ⊢
    by_cases c : skv b n a = 33
    · rw [if_pos c] at h ⊢
      have k := (Fwe.un hl r).st h
      refine ⟨k.1, k.2.1, k.2.2.1, ?_⟩
      show ((k2un b n lt r (ska b n a + 1)).2.2 ++ [(2, 0)]).length + ska b n a ≤ (k2un b n lt r (ska b n a + 1)).2.1
      rw [List.length_append]
      show (k2un b n lt r (ska b n a + 1)).2.2.length + 1 + ska b n a ≤ _
      omega
    · rw [if_neg c] at h ⊢
      by_cases d : skv b n a = 40
      · rw [if_pos d] at h ⊢
        have k := ((Fwe.un hl r).cd.sq (Fwe.ex (c := 41) (by decide)).z).st h
        exact ⟨k.1, k.2.1, k.2.2.1, by omega⟩
      · rw [if_neg d] at h ⊢
        exact ((Fwe.ss hl (r + 1)).sq (Fwe.ss hl (r + 1)).cm.z) a h
/-! tokens: what stands on the pile behind them (false: a number, true: yes or no) -/
noncomputable def ty1 (t : Tk2) (s : List Bool) : Option (List Bool) :=
  if t.1 = 0 ∨ t.1 = 1 then some (false :: s)
  else if t.1 = 2 then (match s with | true :: s => some (true :: s) | _ => none)
  else if t.1 = 5 ∨ t.1 = 6 ∨ t.1 = 7 then (match s with | false :: false :: s => some (false :: s) | _ => none)
  else if t.1 = 8 ∨ t.1 = 9 ∨ t.1 = 10 then (match s with | false :: false :: s => some (true :: s) | _ => none)
  else if t.1 = 11 ∨ t.1 = 12 then (match s with | true :: true :: s => some (true :: s) | _ => none)
  else none
noncomputable def tyL : List Tk2 → List Bool → Option (List Bool)
  | [], s => some s
  | t :: E, s => match ty1 t s with | some s' => tyL E s' | none => none
theorem tyL_a : ∀ (E F : List Tk2) (s s' : List Bool), tyL E s = some s' → tyL (E ++ F) s = tyL F s'
  | [], F, s, s', h => by
    have h : some s = some s' := h
    rw [Option.some.inj h]
    rfl
  | t :: E, F, s, s', h => by
    show (match ty1 t s with | some s' => tyL (E ++ F) s' | none => none) = _
    have h : (match ty1 t s with | some s' => tyL E s' | none => none) = some s' := h
    cases e : ty1 t s with
    | none =>
      rw [e] at h
      cases h
    | some q =>
      rw [e] at h
      exact tyL_a E F q s' h
/-- these tokens put one thing of the kind down -/
noncomputable def Put1 (y : Bool) (E : List Tk2) : Prop := ∀ s, tyL E s = some (y :: s)
noncomputable def Wty (y : Bool) (f : Rce) : Prop := ∀ a, (f a).1 = true → Put1 y (f a).2.2
/-- these take one thing and put one of the same kind -/
noncomputable def Swp (y : Bool) (E : List Tk2) : Prop := ∀ s, tyL E (y :: s) = some (y :: s)
noncomputable def Wsw (y : Bool) (f : Rce) : Prop := ∀ a, (f a).1 = true → Swp y (f a).2.2
theorem Put1.sw {y : Bool} {E F : List Tk2} (p : Put1 y E) (q : Swp y F) : Put1 y (E ++ F) := fun s => by
  rw [tyL_a E F s _ (p s)]
  exact q s
theorem Swp.sw {y : Bool} {E F : List Tk2} (p : Swp y E) (q : Swp y F) : Swp y (E ++ F) := fun s => by
  rw [tyL_a E F _ _ (p s)]
  exact q s
theorem Wty.sq {y : Bool} {f g : Rce} (p : Wty y f) (q : Wsw y g) : Wty y (k2sq f g) := fun a h => by
  unfold k2sq at h ⊢
  by_cases c : (f a).1 = true
  · rw [if_pos c] at h ⊢
    exact (p a c).sw (q _ h)
  · rw [if_neg c] at h
    exact absurd h c
theorem Wsw.sq {y : Bool} {f g : Rce} (p : Wsw y f) (q : Wsw y g) : Wsw y (k2sq f g) := fun a h => by
  unfold k2sq at h ⊢
  by_cases c : (f a).1 = true
  · rw [if_pos c] at h ⊢
    exact (p a c).sw (q _ h)
  · rw [if_neg c] at h
    exact absurd h c
theorem Wsw.lp {b : Nat → Int32} {n : Nat} {sp : Int32 → Bool} {op : Int32 → List Tk2} {y : Bool} {f : Rce} (p : Wty y f) (o : ∀ c s, tyL (op c) (y :: y :: s) = some (y :: s)) : ∀ k : Nat, Wsw y (k2lp b n sp op f k)
  | 0 => fun _ _ _ => rfl
  | k + 1 => fun a h => by
    unfold k2lp at h ⊢
    by_cases c : sp (skv b n a) = true
    · rw [if_pos c] at h ⊢
      by_cases d : (f (ska b n a + 1)).1 = true
      · rw [if_pos d] at h ⊢
        have z := Wsw.lp (b := b) (n := n) (sp := sp) p o k _ h
        intro s
        show tyL (((f (ska b n a + 1)).2.2 ++ op (skv b n a)) ++ _) (y :: s) = some (y :: s)
        rw [tyL_a _ _ (y :: s) (y :: s) (by rw [tyL_a _ _ _ _ (p _ d (y :: s))]; exact o _ s)]
        exact z s
      · rw [if_neg d] at h
        exact absurd h d
    · rw [if_neg c]
      exact fun _ => rfl
theorem Wty.on {b : Nat → Int32} {n : Nat} {sp : Int32 → Bool} : Wty false (k2on b n sp) := fun a h => by
  unfold k2on at h ⊢
  by_cases q : sp (skv b n a) = true
  · rw [if_pos q]
    exact fun _ => rfl
  · rw [if_neg q] at h
    exact absurd h (by simp)
theorem Wsw.ex {b : Nat → Int32} {n : Nat} {c : Int32} {y : Bool} : Wsw y (k2ex b n c) := fun a h => by
  unfold k2ex at h ⊢
  by_cases q : skv b n a = c
  · rw [if_pos q]
    exact fun _ => rfl
  · rw [if_neg q] at h
    exact absurd h (by simp)
theorem Wty.at {b : Nat → Int32} {n : Nat} {lt : Int32 → Bool} {z : Bool} {f : Rce} (hf : z = false → Wty false f) : Wty false (k2at b n lt z f) := fun a h => by
  unfold k2at at h ⊢
  by_cases c : dgb (skv b n a) = true
  · rw [if_pos c]
    exact fun _ => rfl
  · rw [if_neg c] at h ⊢
    by_cases d : skv b n a = 91
    · rw [if_pos d] at h ⊢
      by_cases e : z = true
      · rw [if_pos e] at h
        exact absurd h (by simp)
      · rw [if_neg e] at h ⊢
        exact (hf (by simpa using e)).sq Wsw.ex _ h
    · rw [if_neg d] at h ⊢
      exact Wty.on a h
theorem Wty.tm {b : Nat → Int32} {n : Nat} {f : Rce} (p : Wty false f) : Wty false (k2tm b n f) := p.sq (Wsw.lp p (fun _ _ => rfl) 160)
theorem Wty.sm {b : Nat → Int32} {n : Nat} {f : Rce} (p : Wty false f) : Wty false (k2sm b n f) := p.tm.sq (Wsw.lp p.tm (fun c s => by
  unfold pmo
  split <;> rfl) 160)
theorem Wty.ss {b : Nat → Int32} {n : Nat} {lt : Int32 → Bool} : ∀ r : Nat, Wty false (k2ss b n lt r)
  | 0 => Wty.sm (Wty.at (fun e => absurd e (by decide)))
  | r + 1 => Wty.sm (Wty.at (fun _ => Wty.ss r))
/-- a number, and a comparison with another -/
noncomputable def Wcp (f : Rce) : Prop := ∀ a, (f a).1 = true → ∀ s, tyL (f a).2.2 (false :: s) = some (true :: s)
theorem Wcp.cm {b : Nat → Int32} {n : Nat} {f : Rce} (p : Wty false f) : Wcp (k2cm b n f) := fun a h s => by
  unfold k2cm at h ⊢
  by_cases c : sgb (skv b n a) = true
  · rw [if_pos c] at h ⊢
    show tyL ((f (ska b n a + 1)).2.2 ++ [cpo (skv b n a)]) (false :: s) = some (true :: s)
    rw [tyL_a _ _ _ _ (p _ h (false :: s))]
    unfold cpo
    split
    · rfl
    · split <;> rfl
  · rw [if_neg c] at h
    exact absurd h (by simp)
theorem Wty.cp {f g : Rce} (p : Wty false f) (q : Wcp g) : Wty true (k2sq f g) := fun a h => by
  unfold k2sq at h ⊢
  by_cases c : (f a).1 = true
  · rw [if_pos c] at h ⊢
    intro s
    show tyL ((f a).2.2 ++ (g (f a).2.1).2.2) s = _
    rw [tyL_a _ _ _ _ (p a c s)]
    exact q _ h s
  · rw [if_neg c] at h
    exact absurd h c
theorem Wcp.sw {f g : Rce} (p : Wcp f) (q : Wsw true g) : Wcp (k2sq f g) := fun a h s => by
  unfold k2sq at h ⊢
  by_cases c : (f a).1 = true
  · rw [if_pos c] at h ⊢
    show tyL ((f a).2.2 ++ (g (f a).2.1).2.2) (false :: s) = _
    rw [tyL_a _ _ _ _ (p a c s)]
    exact q _ h s
  · rw [if_neg c] at h
    exact absurd h c
theorem Wsw.mu {b : Nat → Int32} {n : Nat} {u : Rce} (p : Wty true u) : Wsw true (k2mu b n u) := Wsw.lp p (fun _ _ => rfl) 160
theorem Wty.pt {b : Nat → Int32} {n : Nat} {u : Rce} (p : Wty true u) : Wty true (k2pt b n u) := p.sq (Wsw.mu p)
theorem Wsw.mp {b : Nat → Int32} {n : Nat} {u : Rce} (p : Wty true u) : Wsw true (k2mp b n u) := (Wsw.mu p).sq (Wsw.lp p.pt (fun _ _ => rfl) 160)
theorem Wty.cd {b : Nat → Int32} {n : Nat} {u : Rce} (p : Wty true u) : Wty true (k2cd b n u) := p.sq (Wsw.mp p)
theorem Wty.un {b : Nat → Int32} {n : Nat} {lt : Int32 → Bool} : ∀ r : Nat, Wty true (k2un b n lt r)
  | 0 => fun a h => by
    unfold k2un at h ⊢
    by_cases c : skv b n a = 33 ∨ skv b n a = 40
    · rw [if_pos c] at h
      exact absurd h (by simp)
    · rw [if_neg c] at h ⊢
      exact (Wty.ss 0).cp (Wcp.cm (Wty.ss 0)) a h
  | r + 1 => fun a h => by
    unfold k2un at h ⊢
    by_cases c : skv b n a = 33
    · rw [if_pos c] at h ⊢
      exact Put1.sw (Wty.un r _ h) (fun _ => rfl)
    · rw [if_neg c] at h ⊢
      by_cases d : skv b n a = 40
      · rw [if_pos d] at h ⊢
        exact (Wty.un r).cd.sq Wsw.ex _ h
      · rw [if_neg d] at h ⊢
        exact (Wty.ss (r + 1)).cp (Wcp.cm (Wty.ss (r + 1))) a h
/-! letters of a token: only such as the sort has; numbers are small -/
noncomputable def tkO (lt : Int32 → Bool) (t : Tk2) : Prop := (t.1 = 1 → lt t.2 = true) ∧ (t.1 = 0 → 0 ≤ t.2.toInt ∧ t.2.toInt ≤ 9999) ∧ (¬ t.1 = 0 → ¬ t.1 = 1 → t.2 = 0) ∧ (t.1 = 0 ∨ t.1 = 1 ∨ t.1 = 2 ∨ t.1 = 5 ∨ t.1 = 6 ∨ t.1 = 7 ∨ t.1 = 8 ∨ t.1 = 9 ∨ t.1 = 10 ∨ t.1 = 11 ∨ t.1 = 12)
noncomputable def Otk (lt : Int32 → Bool) (f : Rce) : Prop := ∀ a, (f a).1 = true → ∀ t ∈ (f a).2.2, tkO lt t
theorem tkO_op {lt : Int32 → Bool} {o : Int32} (h : o = 2 ∨ o = 5 ∨ o = 6 ∨ o = 7 ∨ o = 8 ∨ o = 9 ∨ o = 10 ∨ o = 11 ∨ o = 12) : tkO lt (o, 0) := by
  refine ⟨fun e => ?_, fun e => ?_, fun _ _ => rfl, Or.inr (Or.inr h)⟩
  · have e : o = 1 := e
    rw [e] at h
    exact absurd h (by decide)
  · have e : o = 0 := e
    rw [e] at h
    exact absurd h (by decide)
theorem Otk.sq {lt : Int32 → Bool} {f g : Rce} (p : Otk lt f) (q : Otk lt g) : Otk lt (k2sq f g) := fun a h => by
  unfold k2sq at h ⊢
  by_cases c : (f a).1 = true
  · rw [if_pos c] at h ⊢
    intro t ht
    rcases List.mem_append.mp ht with z | z
    · exact p a c t z
    · exact q _ h t z
  · rw [if_neg c] at h
    exact absurd h c
theorem Otk.lp {b : Nat → Int32} {n : Nat} {sp : Int32 → Bool} {op : Int32 → List Tk2} {lt : Int32 → Bool} {f : Rce} (p : Otk lt f) (o : ∀ c, ∀ t ∈ op c, tkO lt t) : ∀ k : Nat, Otk lt (k2lp b n sp op f k)
  | 0 => fun _ _ t ht => by cases ht
  | k + 1 => fun a h => by
    unfold k2lp at h ⊢
    by_cases c : sp (skv b n a) = true
    · rw [if_pos c] at h ⊢
      by_cases d : (f (ska b n a + 1)).1 = true
      · rw [if_pos d] at h ⊢
        intro t ht
        rcases List.mem_append.mp ht with z | z
        · rcases List.mem_append.mp z with z | z
          · exact p _ d t z
          · exact o _ t z
        · exact Otk.lp p o k _ h t z
      · rw [if_neg d] at h
        exact absurd h d
    · rw [if_neg c]
      exact fun t ht => by cases ht
theorem Otk.ex {b : Nat → Int32} {n : Nat} {c : Int32} {lt : Int32 → Bool} : Otk lt (k2ex b n c) := fun a h => by
  unfold k2ex at h ⊢
  by_cases q : skv b n a = c
  · rw [if_pos q]
    exact fun t ht => by cases ht
  · rw [if_neg q] at h
    exact absurd h (by simp)
theorem Otk.on {b : Nat → Int32} {n : Nat} {lt : Int32 → Bool} : Otk lt (k2on b n lt) := fun a h => by
  unfold k2on at h ⊢
  by_cases q : lt (skv b n a) = true
  · rw [if_pos q]
    intro t ht
    rw [List.mem_singleton.mp ht]
    exact ⟨fun _ => q, fun e => absurd (show (1 : Int32) = 0 from e) (by decide), fun _ e => absurd rfl e, Or.inr (Or.inl rfl)⟩
  · rw [if_neg q] at h
    exact absurd h (by simp)
theorem Otk.at {b : Nat → Int32} {n : Nat} {lt : Int32 → Bool} {z : Bool} {f : Rce} (hf : z = false → Otk lt f) : Otk lt (k2at b n lt z f) := fun a h => by
  unfold k2at at h ⊢
  by_cases c : dgb (skv b n a) = true
  · rw [if_pos c] at h ⊢
    intro t ht
    rw [List.mem_singleton.mp ht]
    refine ⟨fun e => absurd (show (0 : Int32) = 1 from e) (by decide), fun _ => ?_, fun e => absurd rfl e, Or.inl rfl⟩
    have d : (nml b n 4 0 (ska b n a)).1 = true := by
      have h : (nm0 b n a).1 = true := h
      unfold nm0 at h
      rw [if_pos c] at h
      by_cases d : (nml b n 4 0 (ska b n a)).1 = true
      · exact d
      · rw [if_neg d] at h
        exact absurd h (by simp)
    have v := nml_v (b := b) (n := n) 4 0 (ska b n a) 0 (by decide) (by decide) (by decide) d
    have p : (((0 + 1) * 10 ^ 4 : Nat) : Int) = 10000 := by decide
    rw [p] at v
    exact ⟨v.1, by show (nml b n 4 0 (ska b n a)).2.2.toInt ≤ 9999; omega⟩
  · rw [if_neg c] at h ⊢
    by_cases d : skv b n a = 91
    · rw [if_pos d] at h ⊢
      by_cases e : z = true
      · rw [if_pos e] at h
        exact absurd h (by simp)
      · rw [if_neg e] at h ⊢
        exact (hf (by simpa using e)).sq Otk.ex _ h
    · rw [if_neg d] at h ⊢
      exact Otk.on a h
theorem tkO_1 {lt : Int32 → Bool} {o : Int32} (h : o = 2 ∨ o = 5 ∨ o = 6 ∨ o = 7 ∨ o = 8 ∨ o = 9 ∨ o = 10 ∨ o = 11 ∨ o = 12) : ∀ t ∈ [((o, 0) : Tk2)], tkO lt t := fun t ht => by
  rw [List.mem_singleton.mp ht]
  exact tkO_op h
theorem Otk.tm {b : Nat → Int32} {n : Nat} {lt : Int32 → Bool} {f : Rce} (p : Otk lt f) : Otk lt (k2tm b n f) := p.sq (Otk.lp p (fun _ => tkO_1 (by decide)) 160)
theorem Otk.sm {b : Nat → Int32} {n : Nat} {lt : Int32 → Bool} {f : Rce} (p : Otk lt f) : Otk lt (k2sm b n f) := p.tm.sq (Otk.lp p.tm (fun c => by
  unfold pmo
  split
  · exact tkO_1 (by decide)
  · exact tkO_1 (by decide)) 160)
theorem Otk.ss {b : Nat → Int32} {n : Nat} {lt : Int32 → Bool} : ∀ r : Nat, Otk lt (k2ss b n lt r)
  | 0 => Otk.sm (Otk.at (fun e => absurd e (by decide)))
  | r + 1 => Otk.sm (Otk.at (fun _ => Otk.ss r))
theorem Otk.cm {b : Nat → Int32} {n : Nat} {lt : Int32 → Bool} {f : Rce} (p : Otk lt f) : Otk lt (k2cm b n f) := fun a h => by
  unfold k2cm at h ⊢
  by_cases c : sgb (skv b n a) = true
  · rw [if_pos c] at h ⊢
    intro t ht
    rcases List.mem_append.mp ht with z | z
    · exact p _ h t z
    · rw [List.mem_singleton.mp z]
      unfold cpo
      split
      · exact tkO_op (by decide)
      · split
        · exact tkO_op (by decide)
        · exact tkO_op (by decide)
  · rw [if_neg c] at h
    exact absurd h (by simp)
theorem Otk.mu {b : Nat → Int32} {n : Nat} {lt : Int32 → Bool} {u : Rce} (p : Otk lt u) : Otk lt (k2mu b n u) := Otk.lp p (fun _ => tkO_1 (by decide)) 160
theorem Otk.pt {b : Nat → Int32} {n : Nat} {lt : Int32 → Bool} {u : Rce} (p : Otk lt u) : Otk lt (k2pt b n u) := p.sq p.mu
theorem Otk.mp {b : Nat → Int32} {n : Nat} {lt : Int32 → Bool} {u : Rce} (p : Otk lt u) : Otk lt (k2mp b n u) := p.mu.sq (Otk.lp p.pt (fun _ => tkO_1 (by decide)) 160)
theorem Otk.cd {b : Nat → Int32} {n : Nat} {lt : Int32 → Bool} {u : Rce} (p : Otk lt u) : Otk lt (k2cd b n u) := p.sq p.mp
theorem Otk.un {b : Nat → Int32} {n : Nat} {lt : Int32 → Bool} : ∀ r : Nat, Otk lt (k2un b n lt r)
  | 0 => fun a h => by
    unfold k2un at h ⊢
    by_cases c : skv b n a = 33 ∨ skv b n a = 40
    · rw [if_pos c] at h
      exact absurd h (by simp)
    · rw [if_neg c] at h ⊢
      exact (Otk.ss 0).sq (Otk.cm (Otk.ss 0)) a h
  | r + 1 => fun a h => by
    unfold k2un at h ⊢
    by_cases c : skv b n a = 33
    · rw [if_pos c] at h ⊢
      intro t ht
      rcases List.mem_append.mp ht with z | z
      · exact Otk.un r _ h t z
      · exact tkO_1 (by decide) t z
    · rw [if_neg c] at h ⊢
      by_cases d : skv b n a = 40
      · rw [if_pos d] at h ⊢
        exact (Otk.un r).cd.sq Otk.ex _ h
      · rw [if_neg d] at h ⊢
        exact (Otk.ss (r + 1)).sq (Otk.cm (Otk.ss (r + 1))) a h
/-! the class's reader, with what it puts down -/
noncomputable abbrev xc (h : Hp_) : Nat := (h_i h 11 9).toNatClampNeg
theorem x9_in {h : Hp_} (I : Iv h) : 0 ≤ (h_i h 11 9).toInt ∧ (h_i h 11 9).toInt ≤ 164 := by
  have rg := I.2.1 11 9
  rw [show tf 11 9 = (0, 164) by decide +kernel] at rg
  exact ⟨rg.1, rg.2⟩
theorem xc_i {h : Hp_} (I : Iv h) : (xc h : Int) = (h_i h 11 9).toInt := n_nat (x9_in I).1
noncomputable def pk4 (o x : Int32) : Int32 := o ||| (x <<< ((4 : Int32) &&& 31))
noncomputable def tkx (s : Nat) (t : Tk2) : Int32 := pk4 t.1 (if t.1 = 1 then ixq s (xch t.2) else t.2)
/-- from h0 to h these ints came behind the code -/
noncomputable def Cdx (h0 h : Hp_) (E : List Int32) : Prop := xc h = xc h0 + E.length ∧ (∀ k, k < xc h0 → h_i h 33 k = h_i h0 33 k) ∧ ∀ i v, E[i]? = some v → h_i h 33 (xc h0 + i) = v
theorem Cdx.rf (h : Hp_) : Cdx h h [] := ⟨rfl, fun _ _ => rfl, fun i v e => by cases e⟩
theorem Cdx.tr {h0 h1 h2 : Hp_} {E F : List Int32} (a : Cdx h0 h1 E) (c : Cdx h1 h2 F) : Cdx h0 h2 (E ++ F) := by
  refine ⟨by rw [c.1, a.1, List.length_append]; omega, fun k hk => (c.2.1 k (by rw [a.1]; omega)).trans (a.2.1 k hk), fun i v e => ?_⟩
  by_cases l : i < E.length
  · rw [List.getElem?_append_left l] at e
    rw [c.2.1 _ (by rw [a.1]; omega)]
    exact a.2.2 i v e
  · rw [List.getElem?_append_right (by omega)] at e
    have z := c.2.2 _ v e
    rw [a.1, show xc h0 + E.length + (i - E.length) = xc h0 + i by omega] at z
    exact z
theorem Cdx.fr {h0 h h' : Hp_} {E : List Int32} {ws : List Nat} (a : Cdx h0 h E) (f : Fr ws h h') (o : (off ws 33 && !inw ws 11 9) = true) : Cdx h0 h' E := by
  rw [Bool.and_eq_true, Bool.not_eq_true'] at o
  refine ⟨?_, fun k hk => (fr_i f o.1 k).trans (a.2.1 k hk), fun i v e => (fr_i f o.1 _).trans (a.2.2 i v e)⟩
  show (h_i h' 11 9).toNatClampNeg = _
  rw [(f.2 11 9 o.2).1]
  exact a.1
theorem Cdx.f0 {h h' : Hp_} {ws : List Nat} (f : Fr ws h h') (o : (off ws 33 && !inw ws 11 9) = true) : Cdx h h' [] := (Cdx.rf h).fr f o
/-- room in the code -/
noncomputable def Cbx (b : Nat → Int32) (n : Nat) (h : Hp_) : Prop := xc h ≤ ska b n (xa h) + 1
noncomputable def Fxe (b : Nat → Int32) (n s : Nat) (T : Bool × Nat × List Tk2) (h0 : Hp_) (r : Int32) (h : Hp_) : Prop := (r = 1 ∧ T.1 = true ∧ ska b n (xa h) = T.2.1 ∧ h_i h 11 3 = h_i h0 11 3 ∧ Cdx h0 h (T.2.2.map (tkx s))) ∨ (r = 0 ∧ T.1 = false ∧ h_i h 11 3 = Int32.ofNat T.2.1)
noncomputable def Sxe (b : Nat → Int32) (n s : Nat) (T : Bool × Nat × List Tk2) (g : Rce) (h0 : Hp_) (x : Int32) (h : Hp_) : Prop := (x = 1 ∧ (∃ E : List Tk2, T = k2pre E (g (xa h)) ∧ Cdx h0 h (E.map (tkx s)) ∧ E.length + ska b n (xa h0) ≤ ska b n (xa h)) ∧ h_i h 11 3 = h_i h0 11 3) ∨ (x = 0 ∧ T.1 = false ∧ h_i h 11 3 = Int32.ofNat T.2.1)
noncomputable def Xe (b : Nat → Int32) (n s : Nat) (T : Bool × Nat × List Tk2) (h : Hp_) (r : Int32) (h' : Hp_) : Prop := Iv h' ∧ Fr wzx h h' ∧ Fxe b n s T h r h'
theorem Fxe.z {b : Nat → Int32} {n s : Nat} {T : Bool × Nat × List Tk2} {h0 : Hp_} {r : Int32} {h : Hp_} (F : Fxe b n s T h0 r h) : r = 0 ∨ r = 1 := F.elim (fun y => Or.inr y.1) (fun y => Or.inl y.1)
theorem Fxe.n {b : Nat → Int32} {n s : Nat} {T : Bool × Nat × List Tk2} {h0 : Hp_} {r : Int32} {h : Hp_} (F : Fxe b n s T h0 r h) (e : r = 0) : Fxe b n s T h0 0 h := by
  rcases F with F | F
  · rw [e] at F
    exact absurd F.1 (by decide)
  · exact Or.inr ⟨rfl, F.2⟩
theorem Fxe.y {b : Nat → Int32} {n s : Nat} {T : Bool × Nat × List Tk2} {h0 : Hp_} {r : Int32} {h : Hp_} (F : Fxe b n s T h0 r h) (e : ¬ r = 0) : Fxe b n s T h0 1 h := by
  rcases F with F | F
  · exact Or.inl ⟨rfl, F.2⟩
  · exact absurd F.1 e
theorem Fxe.ok {b : Nat → Int32} {n s : Nat} {T : Bool × Nat × List Tk2} {h0 : Hp_} {r : Int32} {h : Hp_} (F : Fxe b n s T h0 r h) (e : ¬ r = 0) : T.1 = true ∧ ska b n (xa h) = T.2.1 ∧ h_i h 11 3 = h_i h0 11 3 ∧ Cdx h0 h (T.2.2.map (tkx s)) := by
  rcases F with F | F
  · exact F.2
  · exact absurd F.1 e
/-- the same by the recognizer -/
theorem Fxe.q {b : Nat → Int32} {n s : Nat} {T : Bool × Nat × List Tk2} {h0 : Hp_} {r : Int32} {h : Hp_} (F : Fxe b n s T h0 r h) : Fxq b n (T.1, T.2.1) h0 r h := by
  rcases F with F | F
  · exact Or.inl ⟨F.1, F.2.1, F.2.2.1, F.2.2.2.1⟩
  · exact Or.inr F
theorem Fxe.mv {b : Nat → Int32} {n s : Nat} {T : Bool × Nat × List Tk2} {h0 : Hp_} {r : Int32} {h h' : Hp_} (F : Fxe b n s T h0 r h) {ws : List Nat} (f : Fr ws h h') (o : (!inw ws 11 2 && !inw ws 11 3) = true) (o2 : (off ws 33 && !inw ws 11 9) = true) : Fxe b n s T h0 r h' := by
  rw [Bool.and_eq_true, Bool.not_eq_true', Bool.not_eq_true'] at o
  have e2 : h_i h' 11 2 = h_i h 11 2 := (f.2 11 2 o.1).1
  have e3 : h_i h' 11 3 = h_i h 11 3 := (f.2 11 3 o.2).1
  rcases F with F | F
  · refine Or.inl ⟨F.1, F.2.1, ?_, by rw [e3]; exact F.2.2.2.1, F.2.2.2.2.fr f o2⟩
    show ska b n (h_i h' 11 2).toNatClampNeg = _
    rw [e2]
    exact F.2.2.1
  · exact Or.inr ⟨F.1, F.2.1, by rw [e3]; exact F.2.2⟩
theorem Fxe.b {b : Nat → Int32} {n s : Nat} {T : Bool × Nat × List Tk2} {h0 h1 : Hp_} {r : Int32} {h : Hp_} (F : Fxe b n s T h0 r h) (e : h_i h0 11 3 = h_i h1 11 3) (c : Cdx h1 h0 []) : Fxe b n s T h1 r h := by
  rcases F with F | F
  · exact Or.inl ⟨F.1, F.2.1, F.2.2.1, F.2.2.2.1.trans e, c.tr F.2.2.2.2⟩
  · exact Or.inr F
theorem sqe {b : Nat → Int32} {n s : Nat} {f g : Rce} {h0 : Hp_} {r : Int32} {h : Hp_} (c : Cne b n g) (fw : Fwe b n f) (F : Fxe b n s (f (xa h0)) h0 r h) : Sxe b n s (k2sq f g (xa h0)) g h0 r h := by
  rcases F with F | F
  · refine Or.inl ⟨F.1, ⟨(f (xa h0)).2.2, ?_, F.2.2.2.2, ?_⟩, F.2.2.2.1⟩
    · unfold k2sq
      rw [if_pos F.2.1, ← F.2.2.1, c]
    · rw [F.2.2.1]
      exact (fw _ F.2.1).2.2.2
  · have e : k2sq f g (xa h0) = f (xa h0) := by
      unfold k2sq
      exact if_neg (by rw [F.2.1]; decide)
    rw [e]
    exact Or.inr F
/-- the same of one that may find nothing -/
theorem sqez {b : Nat → Int32} {n s : Nat} {f g : Rce} {h0 : Hp_} {r : Int32} {h : Hp_} (c : Cne b n g) (cf : Cne b n f) (ln : xa h0 ≤ n) (fw : Fwz b n f) (F : Fxe b n s (f (xa h0)) h0 r h) : Sxe b n s (k2sq f g (xa h0)) g h0 r h := by
  rcases F with F | F
  · refine Or.inl ⟨F.1, ⟨(f (xa h0)).2.2, ?_, F.2.2.2.2, ?_⟩, F.2.2.2.1⟩
    · unfold k2sq
      rw [if_pos F.2.1, ← F.2.2.1, c]
    · rw [F.2.2.1]
      have z := fw (ska b n (xa h0)) ska_i (ska_le ln) (by rw [cf]; exact F.2.1)
      rw [cf] at z
      exact z.2.2.2
  · have e : k2sq f g (xa h0) = f (xa h0) := by
      unfold k2sq
      exact if_neg (by rw [F.2.1]; decide)
    rw [e]
    exact Or.inr F
theorem sqe2 {b : Nat → Int32} {n s : Nat} {f g : Rce} {a : Nat} {h0 : Hp_} {r r2 : Int32} {h h2 : Hp_} (c : Cne b n g) (F : Fxe b n s (f a) h0 r h) (e : ¬ r = 0) (G : Fxe b n s (g (xa h)) h r2 h2) : Fxe b n s (k2sq f g a) h0 r2 h2 := by
  have k := F.ok e
  have e1 : k2sq f g a = k2pre (f a).2.2 (g (xa h)) := by
    unfold k2sq
    rw [if_pos k.1, ← k.2.1, c]
  rw [e1]
  rcases G with G | G
  · refine Or.inl ⟨G.1, G.2.1, G.2.2.1, G.2.2.2.1.trans k.2.2.1, ?_⟩
    show Cdx h0 h2 (((f a).2.2 ++ (g (xa h)).2.2).map (tkx s))
    rw [List.map_append]
    exact k.2.2.2.tr G.2.2.2.2
  · exact Or.inr G
theorem sqen {b : Nat → Int32} {n s : Nat} {f g : Rce} {a : Nat} {h0 : Hp_} {r : Int32} {h : Hp_} (F : Fxe b n s (f a) h0 r h) (e : r = 0) : Fxe b n s (k2sq f g a) h0 0 h := by
  have k := F.n e
  rcases k with k | k
  · exact absurd k.1 (by decide)
  · have e1 : k2sq f g a = f a := by
      unfold k2sq
      exact if_neg (by rw [k.2.1]; decide)
    rw [e1]
    exact Or.inr k
theorem Sxe.z {b : Nat → Int32} {n s : Nat} {T : Bool × Nat × List Tk2} {g : Rce} {h0 : Hp_} {x : Int32} {h : Hp_} (F : Sxe b n s T g h0 x h) : x = 0 ∨ x = 1 := F.elim (fun y => Or.inr y.1) (fun y => Or.inl y.1)
theorem Sxe.n {b : Nat → Int32} {n s : Nat} {T : Bool × Nat × List Tk2} {g : Rce} {h0 : Hp_} {x : Int32} {h : Hp_} (F : Sxe b n s T g h0 x h) (e : x = 0) : Fxe b n s T h0 x h := by
  rcases F with F | F
  · rw [e] at F
    exact absurd F.1 (by decide)
  · exact Or.inr F
theorem Sxe.ok {b : Nat → Int32} {n s : Nat} {T : Bool × Nat × List Tk2} {g : Rce} {h0 : Hp_} {x : Int32} {h : Hp_} (F : Sxe b n s T g h0 x h) (e : ¬ x = 0) : x = 1 ∧ (∃ E : List Tk2, T = k2pre E (g (xa h)) ∧ Cdx h0 h (E.map (tkx s)) ∧ E.length + ska b n (xa h0) ≤ ska b n (xa h)) ∧ h_i h 11 3 = h_i h0 11 3 := by
  rcases F with F | F
  · exact F
  · exact absurd F.1 e
theorem Sxe.cb {b : Nat → Int32} {n s : Nat} {T : Bool × Nat × List Tk2} {g : Rce} {h0 : Hp_} {x : Int32} {h : Hp_} (F : Sxe b n s T g h0 x h) (e : ¬ x = 0) (c : Cbx b n h0) : Cbx b n h := by
  obtain ⟨_, ⟨E, _, k, l⟩, _⟩ := F.ok e
  have z := k.1
  rw [List.length_map] at z
  unfold Cbx at c ⊢
  omega
theorem Fxe.cb {b : Nat → Int32} {n s : Nat} {f : Rce} {h0 : Hp_} {r : Int32} {h : Hp_} (F : Fxe b n s (f (xa h0)) h0 r h) (e : ¬ r = 0) (fw : Fwe b n f) (c : Cbx b n h0) : Cbx b n h := by
  obtain ⟨k1, k2, _, k4⟩ := F.ok e
  have z := k4.1
  rw [List.length_map] at z
  have q := (fw _ k1).2.2.2
  unfold Cbx at c ⊢
  omega
theorem le0 {b : Nat → Int32} {n s : Nat} {T : Bool × Nat × List Tk2} {sp : Int32 → Bool} {op : Int32 → List Tk2} {f : Rce} {h0 : Hp_} {x : Int32} {h : Hp_} (F : Sxe b n s T (k2lp b n sp op f 0) h0 x h) : Fxe b n s T h0 x h := by
  rcases F with ⟨e, ⟨E, e1, c, l⟩, e3⟩ | F
  · refine Or.inl ⟨e, by rw [e1]; rfl, by rw [e1]; rfl, e3, ?_⟩
    rw [e1]
    show Cdx h0 h ((E ++ []).map (tkx s))
    rw [List.append_nil]
    exact c
  · exact Or.inr F
theorem lex {b : Nat → Int32} {n s k : Nat} {T : Bool × Nat × List Tk2} {sp : Int32 → Bool} {op : Int32 → List Tk2} {f : Rce} {h0 : Hp_} {x r : Int32} {h h5 : Hp_} (F : Sxe b n s T (k2lp b n sp op f (k + 1)) h0 x h) (w : ¬ x = 0) (L : Pk b n h r h5) (ns : sp r = false) : Fxe b n s T h0 x h5 := by
  obtain ⟨e, ⟨E, e1, c, l⟩, e3⟩ := F.ok w
  have e2 : k2lp b n sp op f (k + 1) (xa h) = (true, ska b n (xa h), []) := by
    unfold k2lp
    exact if_neg (by rw [← L.2.2.2, ns]; decide)
  rw [e2] at e1
  refine Or.inl ⟨e, by rw [e1]; rfl, by rw [e1, L.i, L.2.2.1]; rfl, by rw [(L.2.1.2 11 3 (by decide +kernel)).1]; exact e3, ?_⟩
  rw [e1]
  show Cdx h0 h5 ((E ++ []).map (tkx s))
  rw [List.append_nil]
  exact c.fr L.2.1 (by decide +kernel)
theorem les {b : Nat → Int32} {n s k : Nat} {T : Bool × Nat × List Tk2} {sp : Int32 → Bool} {op : Int32 → List Tk2} {f : Rce} {h0 : Hp_} {x r r9 : Int32} {h h6 h9 : Hp_} (ho : (op r).length ≤ 1) (fw : Fwe b n f) (F : Sxe b n s T (k2lp b n sp op f (k + 1)) h0 x h) (w : ¬ x = 0) (er : r = skv b n (xa h)) (ys : sp r = true) (e6 : h_i h6 11 3 = h_i h 11 3) (c6 : Cdx h h6 []) (G : Fxe b n s (k2app (f (ska b n (xa h) + 1)) (op r)) h6 r9 h9) : Sxe b n s T (k2lp b n sp op f k) h0 r9 h9 := by
  obtain ⟨_, ⟨E, e1, c, l⟩, e3⟩ := F.ok w
  have e2 : k2lp b n sp op f (k + 1) (xa h) = if (f (ska b n (xa h) + 1)).1 = true then k2pre ((f (ska b n (xa h) + 1)).2.2 ++ op r) (k2lp b n sp op f k (f (ska b n (xa h) + 1)).2.1) else f (ska b n (xa h) + 1) := by
    rw [er]
    show (if sp (skv b n (xa h)) = true then _ else _) = _
    rw [if_pos (by rw [← er]; exact ys)]
  rw [e2] at e1
  rcases G with ⟨g1, g2, g3, g4, g5⟩ | ⟨g1, g2, g3⟩
  · have g2 : (f (ska b n (xa h) + 1)).1 = true := g2
    have g3 : ska b n (xa h9) = (f (ska b n (xa h) + 1)).2.1 := g3
    rw [if_pos g2, ← g3, Cne.lp k, k2pre_a] at e1
    refine Or.inl ⟨g1, ⟨_, e1, ?_, ?_⟩, (g4.trans e6).trans e3⟩
    · rw [List.map_append]
      exact c.tr (c6.tr g5)
    · have q := (fw.st g2).2.2.2
      rw [List.length_append, List.length_append, g3]
      omega
  · have g2 : (f (ska b n (xa h) + 1)).1 = false := g2
    rw [if_neg (by rw [g2]; decide)] at e1
    refine Or.inr ⟨g1, by rw [e1]; exact g2, ?_⟩
    rw [e1]
    exact g3
theorem Sxe.mv {b : Nat → Int32} {n s : Nat} {T : Bool × Nat × List Tk2} {g : Rce} {h0 : Hp_} {x : Int32} {h h' : Hp_} (F : Sxe b n s T g h0 x h) {ws : List Nat} (f : Fr ws h h') (o : (!inw ws 11 2 && !inw ws 11 3) = true) (o2 : (off ws 33 && !inw ws 11 9) = true) : Sxe b n s T g h0 x h' := by
  rw [Bool.and_eq_true, Bool.not_eq_true', Bool.not_eq_true'] at o
  have e2 : xa h' = xa h := by
    show (h_i h' 11 2).toNatClampNeg = _
    rw [(f.2 11 2 o.1).1]
  have e3 : h_i h' 11 3 = h_i h 11 3 := (f.2 11 3 o.2).1
  rcases F with ⟨q, ⟨E, e1, c, l⟩, g3⟩ | F
  · exact Or.inl ⟨q, ⟨E, by rw [e2]; exact e1, c.fr f o2, by rw [e2]; exact l⟩, by rw [e3]; exact g3⟩
  · exact Or.inr ⟨F.1, F.2.1, by rw [e3]; exact F.2.2⟩
/-- room behind a look, and one sign further -/
theorem Cbx.pk {b : Nat → Int32} {n : Nat} {h h1 : Hp_} {r : Int32} (c : Cbx b n h) (L : Pk b n h r h1) : Cbx b n h1 := by
  have e : xc h1 = xc h := by
    show (h_i h1 11 9).toNatClampNeg = _
    rw [(L.2.1.2 11 9 (by decide +kernel)).1]
  unfold Cbx at c ⊢
  rw [L.i, L.2.2.1, e]
  exact c
theorem Cbx.nx {b : Nat → Int32} {n : Nat} {h h6 : Hp_} (c : Cbx b n h) (F6 : Fr [11002] h h6) (a6 : xa h6 = ska b n (xa h) + 1) : Cbx b n h6 := by
  have e : xc h6 = xc h := by
    show (h_i h6 11 9).toNatClampNeg = _
    rw [(F6.2 11 9 (by decide +kernel)).1]
  have g := ska_ge (b := b) (n := n) (a := ska b n (xa h) + 1)
  unfold Cbx at c ⊢
  rw [a6, e]
  omega
theorem Cbx.em {b : Nat → Int32} {n s : Nat} {f : Rce} {h : Hp_} (I : Iv h) (t : Tx b n s h) (c : Cbx b n h) (fw : Fwe b n f) (y : (f (xa h)).1 = true) : xc h + (f (xa h)).2.2.length < 164 := by
  have q := fw _ y
  have ni := xn_i I
  rw [t.2.1] at ni
  have z1 := (x1_in I).2
  unfold Cbx at c
  omega
theorem c_eme (d : Nat) {h : Hp_} (I : Iv h) (x1 x2 : Int32) (l : xc h < 164) : Ci (m_X8_emit (d + 1) 0 0) [.ref 11, .int x1, .int x2] h (fun r h' => Iv h' ∧ Fr [11009, 33999] h h' ∧ r = Int32.ofNat (xc h) ∧ Cdx h h' [pk4 x1 x2]) := by
  have t1 : (1 : Int32).toInt = 1 := rfl
  have t164 : (164 : Int32).toInt = 164 := rfl
  have b9 := x9_in I
  have ci := xc_i I
  have ex : (h_i h 11 9 + 1).toInt = (h_i h 11 9).toInt + 1 := tx_add (by rw [t1]; omega) (by rw [t1]; omega)
  refine t_X8_emit d h I.1 x1 x2 _ ⟨fun _ => t_X10_pack d h x1 x2 _ ⟨I.1, dp_in (lo := 0) (hi := 163) ⟨b9.1, by show _ ≤ (163 : Int); omega⟩ (by decide) (by decide), ?_, ?_, ?_, ?_⟩, fun z => ?_⟩
  · exact (tr_ 33 (by decide +kernel) I _ _ (by decide) (by decide)).im (by rw [show tf 11 9 = (0, 164) by decide +kernel]; exact ⟨by omega, by omega⟩) (by decide)
  · exact ((Fr.rf _ _).im (inw_row (by decide +kernel) _)).im (by decide +kernel)
  · have z : ((h_i h 11 9 + 1) - 1).toInt = (h_i h 11 9).toInt := by
      rw [tx_sub (by rw [t1]; omega) (by rw [t1]; omega), t1, ex]
      omega
    rw [Int32.toInt_inj.mp z]
    exact (of_nat32 b9.1).symm
  · refine ⟨?_, fun k hk => ?_, fun i v e => ?_⟩
    · show (h_i (h_im _ 11 9 _) 11 9).toNatClampNeg = xc h + 1
      rw [im_at]
      have k := n_nat (x := h_i h 11 9 + 1) (by omega)
      omega
    · have hk' : k < (h_i h 11 9).toNatClampNeg := hk
      rw [im_ne (by decide), h_i_im, if_neg (fun y => by have z : k = (h_i h 11 9).toNatClampNeg := y.2; omega)]
    · cases i with
      | zero =>
        have e : some (pk4 x1 x2) = some v := e
        rw [im_ne (by decide)]
        show h_i (h_im h 33 (xc h) _) 33 (xc h + 0) = v
        rw [Nat.add_zero, im_at, ← Option.some.inj e]
        rfl
      | succ i => cases e
  · have z := q_nlt z
    omega
/-- a token more, behind what was found -/
theorem c_emq (d : Nat) {b : Nat → Int32} {n s : Nat} {T : Bool × Nat × List Tk2} {h0 h : Hp_} {r : Int32} (I : Iv h) (F : Fxe b n s T h0 r h) (l : T.1 = true → xc h0 + T.2.2.length < 164) (t : Tk2) (x : Int32) (ex : T.1 = true → pk4 t.1 x = tkx s t) (b1 : 0 ≤ t.1.toInt ∧ t.1.toInt ≤ 12) (b2 : -1 ≤ x.toInt ∧ x.toInt ≤ 9999) : Ci (m_X8_emit (d + 1) 0 0) [.ref 11, .int t.1, .int x] h (fun _ h' => Iv h' ∧ Fr [11009, 33999] h h' ∧ Fxe b n s (k2app T [t]) h0 r h') := by
  rcases F with F | F
  · have z := F.2.2.2.2.1
    rw [List.length_map] at z
    have lh : xc h < 164 := by have := l F.2.1; omega
    refine Ci.mono (c_eme d I t.1 x lh) (fun r2 h' k => ⟨k.1, k.2.1, Or.inl ⟨F.1, F.2.1, ?_, ?_, ?_⟩⟩)
    · show ska b n (h_i h' 11 2).toNatClampNeg = T.2.1
      rw [(k.2.1.2 11 2 (by decide +kernel)).1]
      exact F.2.2.1
    · rw [(k.2.1.2 11 3 (by decide +kernel)).1]
      exact F.2.2.2.1
    · show Cdx h0 h' ((T.2.2 ++ [t]).map (tkx s))
      rw [List.map_append]
      have c := k.2.2.2
      rw [ex F.2.1] at c
      exact F.2.2.2.2.tr c
  · exact Ci.mono (c_em d I t.1 x b1 b2) (fun r2 h' k => ⟨k.1, k.2.1, Or.inr ⟨F.1, F.2.1, by rw [(k.2.1.2 11 3 (by decide +kernel)).1]; exact F.2.2⟩⟩)
/-! the class: sums and conditions, with what they put down -/
noncomputable def Rxe (b : Nat → Int32) (n s : Nat) (S : Rce) (C : Nat → Hp_ → (Int32 → Hp_ → Prop) → Prop) : Prop := ∀ (d : Nat) (h : Hp_), Iv h → Tx b n s h → Cbx b n h → C d h (fun r h' => Xe b n s (S (xa h)) h r h')
theorem Xe.t {b : Nat → Int32} {n s : Nat} {T : Bool × Nat × List Tk2} {h h' : Hp_} {r : Int32} (X : Xe b n s T h r h') (t : Tx b n s h) : Tx b n s h' := t.fr X.2.1 (by decide +kernel)
theorem c_fle {b : Nat → Int32} {n s : Nat} (d : Nat) {h h4 : Hp_} {r3 : Int32} (L : Pk b n h r3 h4) {T : Bool × Nat × List Tk2} (e : T = (false, ska b n (xa h), [])) : Ci (m_X8_fail (d + 0) 0 0) [.ref 11] h4 (fun r h' => Wf h' ∧ ((r = 0 ∨ r = 1) ∧ Xe b n s T h r h')) := by
  refine Ci.mono (c_fl d L.1) (fun r2 h2 k => ⟨k.2.1.1, Or.inl k.1, k.2.1, (L.2.1.more (by decide +kernel)).tr (k.2.2.1.more (by decide +kernel)), Or.inr ⟨k.1, ?_, ?_⟩⟩)
  · rw [e]
  · rw [e, k.2.2.2, L.2.2.1]
theorem c_exe (d : Nat) {b : Nat → Int32} {n s : Nat} {h : Hp_} (I : Iv h) (t : Tx b n s h) (x : Int32) (hx : ¬ x = -1) : Ci (m_X8_expect (d + 1) 0 0) [.ref 11, .int x] h (fun r h' => Xe b n s (k2ex b n x (xa h)) h r h') := by
  refine t_X8_expect d h I.1 x _ (Ci.mono (c_pk d I t) (fun r h1 L => ⟨L.1.1, fun er => ?_, fun nr => c_fle d L ?_⟩))
  · obtain ⟨I6, F6, a6⟩ := nxx I t L (by rw [er]; exact hx)
    have e : k2ex b n x (xa h) = (true, ska b n (ska b n (xa h) + 1), []) := by
      unfold k2ex
      rw [if_pos (by rw [← L.2.2.2]; exact er)]
    rw [e]
    exact ⟨I6, F6.more (by decide +kernel), Or.inl ⟨rfl, rfl, by rw [a6], (F6.2 11 3 (by decide +kernel)).1, Cdx.f0 F6 (by decide +kernel)⟩⟩
  · unfold k2ex
    rw [if_neg (by rw [← L.2.2.2]; exact nr)]
theorem c_ratoe {b : Nat → Int32} {n s : Nat} (hs : s = 1 ∨ s = 2) (e : Nat) (x1 : Int32) (z : Bool) (f : Rce) (hz : z = true ↔ ¬ x1 < 6) (B : x1 < 6 → Rxe b n s f (fun d h K => Ci (m_X8_readSum (d + e + 53) 0 0) [.ref 11, .int (x1 + 1)] h K)) : Rxe b n s (k2at b n (ltb s) z f) (fun d h K => Ci (m_X8_readAtom (d + e + 61) 0 0) [.ref 11, .int x1] h K) := by
  intro d h I t cb
  have s4 : s < 4 := by omega
  have ni := xn_i I
  rw [t.2.1] at ni
  have z1 := (x1_in I).2
  have ai := xa_i I
  have a2 := (x2_in I).2
  refine t_X8_readAtom (d + e) h I.1 x1 _ (Ci.mono (c_pk (d + e) I t) (fun r3 h1 L => ⟨L.1.1, Ci.mono (c_dgx (d + e) h1 r3) (fun r6 h4 q => ?_)⟩))
  obtain ⟨eh, q⟩ := q
  subst eh
  have t4 : Tx b n s h4 := t.fr L.2.1 (by decide +kernel)
  have F4 : Fr wzx h h4 := L.2.1.more (by decide +kernel)
  have e3 : h_i h4 11 3 = h_i h 11 3 := fw3 L.2.1 (by decide +kernel)
  have rm : xc h < 164 ∨ n < ska b n (xa h) := by
    unfold Cbx at cb
    omega
  refine ⟨L.1.1, fun r0 => ?_, fun r1 => ?_⟩
  · have nd : ¬ dgb (skv b n (xa h)) = true := by
      rw [← L.2.2.2]
      rcases q with q | q
      · rw [r0] at q
        exact absurd q.1 (by decide)
      · exact q.2
    refine ⟨fun n91 => ⟨fun nm => ?_, fun em => c_fle (d + e) L ?_⟩, fun e91 => ⟨fun lt => ?_, fun nlt => c_fle (d + e) L ?_⟩⟩
    · have bb := L.in I t nm
      have il := ix_let bb
      have ir := ix_rng bb s4
      have lt : (0 ≤ ixq s (xch r3)) ↔ ltb s r3 = true := by
        rcases hs with u | u <;> subst u
        · exact il.1
        · exact il.2.1
      have ea : k2at b n (ltb s) z f (xa h) = k2on b n (ltb s) (xa h) := by
        unfold k2at
        rw [if_neg nd, if_neg (by rw [← L.2.2.2]; exact n91)]
      refine ⟨s, s4, t4.2.2, Ci.mono (c_ix1f (d + e) s s4 h4 (xch r3)) (fun r15 h13 k => ?_)⟩
      obtain ⟨er, eh⟩ := k
      subst eh
      subst er
      refine ⟨L.1.1, fun p => ?_, fun np => c_fle (d + e) L ?_⟩
      · obtain ⟨I6, F6, a6⟩ := nxx I t L nm
        have l := skv_l (b := b) (n := n) (a := xa h) (by rw [← L.2.2.2]; exact nm)
        have lc : xc h < 164 := by omega
        have e2 : k2at b n (ltb s) z f (xa h) = k2app (true, ska b n (ska b n (xa h) + 1), []) [(1, r3)] := by
          rw [ea]
          unfold k2on
          rw [if_pos (by rw [← L.2.2.2]; exact lt.mp p), ← L.2.2.2]
          rfl
        have G : Fxe b n s (true, ska b n (ska b n (xa h) + 1), []) h 1 (h_im h13 11 2 ((h_i h13 11 2) + 1)) := Or.inl ⟨rfl, rfl, by rw [a6], fw3 F6 (by decide +kernel), Cdx.f0 F6 (by decide +kernel)⟩
        rw [e2]
        exact Ci.mono (c_emq (d + e) I6 G (fun _ => lc) (1, r3) (ixq s (xch r3)) (fun _ => rfl) (show 0 ≤ (1 : Int32).toInt ∧ (1 : Int32).toInt ≤ 12 from by decide) ⟨ir.1, by omega⟩) (fun r19 h17 k => ⟨k.1.1, k.1, (F6.more (by decide +kernel)).tr (k.2.1.more (by decide +kernel)), k.2.2⟩)
      · rw [ea]
        unfold k2on
        exact if_neg (by rw [← L.2.2.2]; exact fun y => np (lt.mpr y))
    · unfold k2at
      rw [if_neg nd, if_neg (by rw [← L.2.2.2]; exact n91)]
      unfold k2on
      refine if_neg ?_
      rw [← L.2.2.2, em]
      rcases hs with u | u <;> subst u <;> decide
    · have ea : k2at b n (ltb s) z f (xa h) = k2sq f (k2ex b n 93) (ska b n (xa h) + 1) := by
        unfold k2at
        rw [if_neg nd, if_pos (by rw [← L.2.2.2]; exact e91), if_neg (fun y => hz.mp y lt)]
      obtain ⟨I6, F6, a6⟩ := nxx I t L (by rw [e91]; decide)
      refine Ci.mono (B lt d _ I6 (t.fr F6 (by decide +kernel)) (cb.nx F6 a6)) (fun r32 h30 X => ?_)
      have G := X.2.2
      rw [a6] at G
      have g3 := fw3 F6 (by decide +kernel)
      have c6 : Cdx h _ [] := Cdx.f0 F6 (by decide +kernel)
      have FX : Fr wzx h h30 := (F6.more (by decide +kernel)).tr X.2.1
      have t30 : Tx b n s h30 := t.fr FX (by decide +kernel)
      refine ⟨X.1.1, fun y0 => ⟨X.1, FX, ?_⟩, fun y1 => Ci.mono (c_exe (d + e) X.1 t30 93 (by decide)) (fun r36 h34 Y => ⟨Y.1.1, fun w0 => ⟨Y.1, FX.tr Y.2.1, ?_⟩, fun w1 => ⟨Y.1, FX.tr Y.2.1, ?_⟩⟩)⟩
      · rw [ea]
        exact (sqen (g := k2ex b n 93) G y0).b g3 c6
      · rw [ea]
        exact ((sqe2 Cne.ex G y1 Y.2.2).n w0).b g3 c6
      · rw [ea]
        exact ((sqe2 Cne.ex G y1 Y.2.2).y w1).b g3 c6
    · unfold k2at
      rw [if_neg nd, if_pos (by rw [← L.2.2.2]; exact e91), if_pos (hz.mpr nlt)]
  · have yd : dgb (skv b n (xa h)) = true := by
      rw [← L.2.2.2]
      rcases q with q | q
      · exact q.2
      · exact absurd q.1 r1
    have lc : xc h < 164 := by have := (dgb_l yd).1; omega
    have ea : k2at b n (ltb s) z f (xa h) = k2app ((nm0 b n (xa h)).1, (nm0 b n (xa h)).2, []) [(0, k2nv b n (xa h))] := by
      unfold k2at
      rw [if_pos yd]
      rfl
    have n0 := nmr_0 (b := b) (n := n) (a := xa h4)
    have nc : nm0 b n (xa h4) = nm0 b n (xa h) := by rw [L.2.2.1, nm0_c]
    rw [nc] at n0
    have cd4 : Cdx h h4 [] := Cdx.f0 L.2.1 (by decide +kernel)
    rw [ea]
    refine Ci.mono (c_rn (d + e) L.1 t4 0 9999) (fun r44 h42 N => ?_)
    have FX : Fr wzx h h42 := F4.tr (N.2.1.more (by decide +kernel))
    have cd42 : Cdx h h42 [] := cd4.fr N.2.1 (by decide +kernel)
    rcases N.2.2 with M | M
    · have v := nmr_b M.1
      have er : r44 = k2nv b n (xa h) := by
        have v2 := M.2.1
        unfold nmr at v2
        have M1 := M.1
        unfold nmr at M1
        rw [L.2.2.1, skv_i, ska_i, if_pos yd] at v2 M1
        by_cases c1 : (nml b n 4 0 (ska b n (xa h))).1 = true
        · rw [if_pos c1] at v2 M1
          by_cases c2 : (0 : Int32) ≤ (nml b n 4 0 (ska b n (xa h))).2.2 ∧ (nml b n 4 0 (ska b n (xa h))).2.2 ≤ 9999
          · rw [if_pos c2] at v2
            exact v2
          · rw [if_neg c2] at M1
            exact absurd M1 (by simp)
        · rw [if_neg c1] at M1
          exact absurd M1 (by simp)
      rw [← M.2.1] at v
      have v0 := q_le.mp v.1
      have v1 := q_le.mp v.2
      have o0 : (0 : Int32).toInt = 0 := rfl
      have o9 : (9999 : Int32).toInt = 9999 := rfl
      have G : Fxe b n s ((nm0 b n (xa h)).1, (nm0 b n (xa h)).2, []) h 1 h42 := Or.inl ⟨rfl, by show (nm0 b n (xa h)).1 = true; rw [← n0.1]; exact M.1, by show _ = (nm0 b n (xa h)).2; rw [← n0.2]; exact M.2.2.1, M.2.2.2.trans e3, cd42⟩
      refine ⟨N.1.1, Ci.mono (c_emq (d + e) N.1 G (fun _ => lc) (0, k2nv b n (xa h)) r44 (fun _ => by rw [er]; rfl) (show 0 ≤ (0 : Int32).toInt ∧ (0 : Int32).toInt ≤ 12 from by decide) ⟨by omega, by omega⟩) (fun r47 h45 k => ⟨k.1.1, fun em => ?_, fun nm => ⟨k.1, FX.tr (k.2.1.more (by decide +kernel)), k.2.2⟩⟩)⟩
      rw [em] at v0
      exact absurd v0 (by decide)
    · have G : Fxe b n s ((nm0 b n (xa h)).1, (nm0 b n (xa h)).2, []) h 0 h42 := Or.inr ⟨rfl, by show (nm0 b n (xa h)).1 = false; rw [← n0.1]; exact M.1, by show _ = Int32.ofNat (nm0 b n (xa h)).2; rw [← n0.2]; exact M.2.2⟩
      have nf : (nm0 b n (xa h)).1 = false := by rw [← n0.1]; exact M.1
      exact ⟨N.1.1, Ci.mono (c_emq (d + e) N.1 G (fun y => absurd (nf.symm.trans y) (by decide)) (0, k2nv b n (xa h)) r44 (fun y => absurd (nf.symm.trans y) (by decide)) (show 0 ≤ (0 : Int32).toInt ∧ (0 : Int32).toInt ≤ 12 from by decide) (by rw [M.2.1]; decide)) (fun r47 h45 k => ⟨k.1.1, fun em => ⟨k.1, FX.tr (k.2.1.more (by decide +kernel)), k.2.2⟩, fun nm => absurd M.2.1 nm⟩)⟩
theorem c_rtere {b : Nat → Int32} {n s : Nat} (e : Nat) (x1 : Int32) (f : Rce) (fw : Fwe b n f) (A : Rxe b n s f (fun d h K => Ci (m_X8_readAtom (d + e + 51) 0 0) [.ref 11, .int x1] h K)) : Rxe b n s (k2tm b n f) (fun d h K => Ci (m_X8_readTerm (d + e + 52) 0 0) [.ref 11, .int x1] h K) := by
  intro d h I t cb
  have lp : ∀ (k : Nat) (x2 x3 : Int32) (h2 : Hp_), x3.toInt + k = 160 → Iv h2 → Fr wzx h h2 → Sxe b n s (k2tm b n f (xa h)) (k2lp b n (isq 42) (fun _ => [(7, 0)]) f k) h x2 h2 → AW (m_X8_readTerm (d + e + 52) 0 0) 0 0 8 [(0, .ref 11), (1, .int x1), (2, .int x2), (3, .int x3)] [] h2 (kI (fun r h' => Xe b n s (k2tm b n f (xa h)) h r h')) := by
    intro k
    induction k with
    | zero =>
      intro x2 x3 h2 m I2 F2 S
      exact t_X8_readTerm_8 (d + e) h2 I2.1 x1 x2 x3 _ ⟨fun _ => ⟨S.z, I2, F2, le0 S⟩, fun z => absurd ((x160 m).1 rfl) z⟩
    | succ k ih =>
      intro x2 x3 h2 m I2 F2 S
      have t2 : Tx b n s h2 := t.fr F2 (by decide +kernel)
      refine t_X8_readTerm_8 (d + e) h2 I2.1 x1 x2 x3 _ ⟨fun z => absurd z ((x160 m).2 (by omega)), fun _ => ⟨fun y0 => ⟨S.z, I2, F2, S.n y0⟩, fun y1 => Ci.mono (c_pk (d + e) I2 t2) (fun r h5 L => ⟨L.1.1, fun nr => ⟨S.z, L.1, F2.tr (L.2.1.more (by decide +kernel)), lex S y1 L (decide_eq_false nr)⟩, fun er => ?_⟩)⟩⟩
      obtain ⟨I6, F6, a6⟩ := nxx I2 t2 L (by rw [er]; decide)
      have t6 := t2.fr F6 (by decide +kernel)
      have cb6 := (S.cb y1 cb).nx F6 a6
      refine Ci.mono (A d _ I6 t6 cb6) (fun r15 h13 X => ⟨X.1.1, Ci.mono (c_emq (d + e) X.1 X.2.2 (fun y => cb6.em I6 t6 fw y) (7, 0) 0 (fun _ => rfl) (by decide) (by decide)) (fun r18 h16 k2 => ⟨k2.1.1, ?_⟩)⟩)
      have G := k2.2.2
      rw [a6] at G
      exact ih r15 (x3 + 1) h16 (x161 m) k2.1 ((F2.tr ((F6.more (by decide +kernel)).tr X.2.1)).tr (k2.2.1.more (by decide +kernel))) (les (Nat.le_refl _) fw S y1 L.2.2.2 (decide_eq_true er) (fw3 F6 (by decide +kernel)) (Cdx.f0 F6 (by decide +kernel)) G)
  exact t_X8_readTerm (d + e) h I.1 x1 _ (Ci.mono (A d h I t cb) (fun r3 h1 X => ⟨X.1.1, lp 160 r3 0 h1 (by decide) X.1 X.2.1 (sqe (f := f) (Cne.lp 160) fw X.2.2)⟩))
theorem c_rsume {b : Nat → Int32} {n s : Nat} (e : Nat) (x1 : Int32) (f : Rce) (fw : Fwe b n f) (A : Rxe b n s (k2tm b n f) (fun d h K => Ci (m_X8_readTerm (d + e + 52) 0 0) [.ref 11, .int x1] h K)) : Rxe b n s (k2sm b n f) (fun d h K => Ci (m_X8_readSum (d + e + 53) 0 0) [.ref 11, .int x1] h K) := by
  intro d h I t cb
  have lp : ∀ (k : Nat) (x2 x3 : Int32) (h2 : Hp_), x3.toInt + k = 160 → Iv h2 → Fr wzx h h2 → Sxe b n s (k2sm b n f (xa h)) (k2lp b n pmb pmo (k2tm b n f) k) h x2 h2 → AW (m_X8_readSum (d + e + 53) 0 0) 0 0 8 [(0, .ref 11), (1, .int x1), (2, .int x2), (3, .int x3)] [] h2 (kI (fun r h' => Xe b n s (k2sm b n f (xa h)) h r h')) := by
    intro k
    induction k with
    | zero =>
      intro x2 x3 h2 m I2 F2 S
      exact t_X8_readSum_8 (d + e) h2 I2.1 x1 x2 x3 _ ⟨fun _ => ⟨S.z, I2, F2, le0 S⟩, fun z => absurd ((x160 m).1 rfl) z⟩
    | succ k ih =>
      intro x2 x3 h2 m I2 F2 S
      have t2 : Tx b n s h2 := t.fr F2 (by decide +kernel)
      have go : ¬ x2 = 0 → ∀ (o : Int32) (r : Int32) (h5 : Hp_), 0 ≤ o.toInt ∧ o.toInt ≤ 12 → pmo r = [(o, 0)] → ¬ o = 1 → Pk b n h2 r h5 → pmb r = true → ¬ r = -1 → Ci (m_X8_readTerm (d + e + 52) 0 0) [.ref 11, .int x1] (h_im h5 11 2 ((h_i h5 11 2) + 1)) (fun r18 h16 => Wf h16 ∧ (Ci (m_X8_emit (d + e + 1) 0 0) [.ref 11, .int o, .int 0] h16 (fun _ h19 => Wf h19 ∧ (AW (m_X8_readSum (d + e + 53) 0 0) 0 0 8 [(0, .ref 11), (1, .int x1), (2, .int r18), (3, .int (x3 + 1))] [] h19 (kI (fun r h' => Xe b n s (k2sm b n f (xa h)) h r h')))))) := fun y1 o r h5 ob eo o1 L pr nr => by
        obtain ⟨I6, F6, a6⟩ := nxx I2 t2 L nr
        have t6 := t2.fr F6 (by decide +kernel)
        have cb6 := (S.cb y1 cb).nx F6 a6
        refine Ci.mono (A d _ I6 t6 cb6) (fun r15 h13 X => ⟨X.1.1, Ci.mono (c_emq (d + e) X.1 X.2.2 (fun y => cb6.em I6 t6 fw.tm y) (o, 0) 0 (fun _ => by unfold tkx; rw [if_neg o1]) ob (by decide)) (fun r18 h16 k2 => ⟨k2.1.1, ?_⟩)⟩)
        have G := k2.2.2
        rw [a6, ← eo] at G
        exact ih r15 (x3 + 1) h16 (x161 m) k2.1 ((F2.tr ((F6.more (by decide +kernel)).tr X.2.1)).tr (k2.2.1.more (by decide +kernel))) (les (pmo_1 r) fw.tm S y1 L.2.2.2 pr (fw3 F6 (by decide +kernel)) (Cdx.f0 F6 (by decide +kernel)) G)
      refine t_X8_readSum_8 (d + e) h2 I2.1 x1 x2 x3 _ ⟨fun z => absurd z ((x160 m).2 (by omega)), fun _ => ⟨fun y0 => ⟨S.z, I2, F2, S.n y0⟩, fun y1 => Ci.mono (c_pk (d + e) I2 t2) (fun r h5 L => ⟨L.1.1, fun e43 => ?_, fun n43 => ?_⟩)⟩⟩
      · refine Ci.mono (c_pk (d + e) L.1 (t2.fr L.2.1 (by decide +kernel))) (fun r14 h12 M => ?_)
        have LM := L.tr M
        exact ⟨M.1.1, fun ne => absurd (LM.2.trans e43) ne, fun _ => go y1 5 r h12 (by decide) (by rw [e43]; rfl) (by decide) LM.1 (by rw [e43]; decide) (by rw [e43]; decide)⟩
      · refine Ci.mono (c_pk (d + e) L.1 (t2.fr L.2.1 (by decide +kernel))) (fun r14 h12 M => ?_)
        have LM := L.tr M
        refine ⟨M.1.1, fun n45 => ⟨S.z, M.1, F2.tr (LM.1.2.1.more (by decide +kernel)), lex S y1 LM.1 (decide_eq_false (fun y => y.elim n43 (fun z => n45 (LM.2.trans z))))⟩, fun e45 => ?_⟩
        refine Ci.mono (c_pk (d + e) M.1 (t2.fr LM.1.2.1 (by decide +kernel))) (fun r35 h33 N => ?_)
        have LN := LM.1.tr N
        have e45' : r = 45 := LM.2.symm.trans e45
        exact ⟨N.1.1, fun _ => go y1 6 r h33 (by decide) (by rw [e45']; rfl) (by decide) LN.1 (by rw [e45']; decide) (by rw [e45']; decide), fun y => absurd (LN.2.symm.trans y) n43⟩
  exact t_X8_readSum (d + e) h I.1 x1 _ (Ci.mono (A d h I t cb) (fun r3 h1 X => ⟨X.1.1, lp 160 r3 0 h1 (by decide) X.1 X.2.1 (sqe (f := k2tm b n f) (Cne.lp 160) fw.tm X.2.2)⟩))
/-- sums at every depth -/
theorem e_sums {b : Nat → Int32} {n s : Nat} (hs : s = 1 ∨ s = 2) : ∀ (r : Nat), r ≤ 6 → Rxe b n s (k2ss b n (ltb s) r) (fun d h K => Ci (m_X8_readSum (d + 10 * (r + 1) + 53) 0 0) [.ref 11, .int (Int32.ofNat (6 - r))] h K)
  | 0, _ => fun d h I t cb => c_rsume 10 (Int32.ofNat (6 - 0)) (k2at b n (ltb s) true (fun a => (false, a, []))) (Fwe.at (ltb_m hs) (fun e => absurd e (by decide))) (c_rtere 10 (Int32.ofNat (6 - 0)) (k2at b n (ltb s) true (fun a => (false, a, []))) (Fwe.at (ltb_m hs) (fun e => absurd e (by decide))) (fun d h I t cb => by
    have q : Ci (m_X8_readAtom (d + 0 + 61) 0 0) [.ref 11, .int (Int32.ofNat (6 - 0))] h (fun q h' => Xe b n s (k2at b n (ltb s) true (fun a => (false, a, [])) (xa h)) h q h') := c_ratoe hs 0 (Int32.ofNat (6 - 0)) true (fun a => (false, a, [])) (by decide) (fun y => absurd y (by decide)) d h I t cb
    rw [show d + 0 + 61 = d + 10 + 51 by omega] at q
    exact q)) d h I t cb
  | r + 1, hr => fun d h I t cb => by
    have o : (Int32.ofNat (6 - (r + 1))).toInt = ((6 - (r + 1) : Nat) : Int) := on_j (by omega)
    have o6 : (6 : Int32).toInt = 6 := rfl
    have o1 : (1 : Int32).toInt = 1 := rfl
    have ex : Int32.ofNat (6 - (r + 1)) + 1 = Int32.ofNat (6 - r) := by
      refine Int32.toInt_inj.mp ?_
      rw [tx_add (by rw [o1]; omega) (by rw [o1]; omega), o1, o, on_j (by omega)]
      omega
    have lt : Int32.ofNat (6 - (r + 1)) < 6 := q_lt.mpr (by rw [o, o6]; omega)
    have B : Rxe b n s (k2ss b n (ltb s) r) (fun d h K => Ci (m_X8_readSum (d + 10 * (r + 1) + 53) 0 0) [.ref 11, .int (Int32.ofNat (6 - (r + 1)) + 1)] h K) := by
      rw [ex]
      exact e_sums hs r (by omega)
    have fw : Fwe b n (k2at b n (ltb s) false (k2ss b n (ltb s) r)) := Fwe.at (ltb_m hs) (fun _ => Fwe.ss (ltb_m hs) r)
    have k := c_rsume (10 * (r + 1 + 1)) (Int32.ofNat (6 - (r + 1))) (k2at b n (ltb s) false (k2ss b n (ltb s) r)) fw (c_rtere (10 * (r + 1 + 1)) (Int32.ofNat (6 - (r + 1))) (k2at b n (ltb s) false (k2ss b n (ltb s) r)) fw (fun d h I t cb => by
      have q : Ci (m_X8_readAtom (d + 10 * (r + 1) + 61) 0 0) [.ref 11, .int (Int32.ofNat (6 - (r + 1)))] h (fun q h' => Xe b n s (k2at b n (ltb s) false (k2ss b n (ltb s) r) (xa h)) h q h') := c_ratoe hs (10 * (r + 1)) (Int32.ofNat (6 - (r + 1))) false _ ⟨fun y => absurd y (by decide), fun y => absurd lt y⟩ (fun _ => B) d h I t cb
      rw [show d + 10 * (r + 1) + 61 = d + 10 * (r + 1 + 1) + 51 by omega] at q
      exact q)) d h I t cb
    exact k
theorem c_rcme {b : Nat → Int32} {n s : Nat} (e : Nat) (x1 : Int32) (f : Rce) (fw : Fwe b n f) (A : Rxe b n s f (fun d h K => Ci (m_X8_readSum (d + e + 53) 0 0) [.ref 11, .int x1] h K)) : Rxe b n s (k2cm b n f) (fun d h K => Ci (m_X8_readComparison (d + e + 54) 0 0) [.ref 11, .int x1] h K) := by
  intro d h I t cb
  refine t_X8_readComparison (d + e) h I.1 x1 _ (Ci.mono (c_pk (d + e) I t) (fun r3 h1 L => ⟨L.1.1, Ci.mono (c_cpx (d + e) h1 r3) (fun r6 h4 q => ?_)⟩))
  obtain ⟨eh, q⟩ := q
  subst eh
  refine ⟨L.1.1, fun r1 => ?_, fun r0 => c_fle (d + e) L ?_⟩
  · have q : sgb r3 = true ∧ ¬ r3 = -1 := by
      rcases q with q | q
      · exact q.2
      · exact absurd q.1 r1
    obtain ⟨I6, F6, a6⟩ := nxx I t L q.2
    have t6 := t.fr F6 (by decide +kernel)
    have cb6 := cb.nx F6 a6
    refine Ci.mono (A d _ I6 t6 cb6) (fun r10 h8 X => ?_)
    have FX : Fr wzx h h8 := (F6.more (by decide +kernel)).tr X.2.1
    have go : ∀ o : Int32, 0 ≤ o.toInt ∧ o.toInt ≤ 12 → ¬ o = 1 → cpo r3 = (o, 0) → Ci (m_X8_emit (d + e + 1) 0 0) [.ref 11, .int o, .int 0] h8 (fun _ h13 => Wf h13 ∧ ((r10 = 0 ∨ r10 = 1) ∧ (Xe b n s (k2cm b n f (xa h)) h r10 h13))) := fun o ob o1 eo => Ci.mono (c_emq (d + e) X.1 X.2.2 (fun y => cb6.em I6 t6 fw y) (o, 0) 0 (fun _ => by unfold tkx; rw [if_neg o1]) ob (by decide)) (fun _ h13 k => ⟨k.1.1, X.2.2.z, k.1, FX.tr (k.2.1.more (by decide +kernel)), by
      have G := k.2.2
      rw [a6] at G
      have ea : k2cm b n f (xa h) = k2app (f (ska b n (xa h) + 1)) [(o, 0)] := by
        unfold k2cm
        rw [if_pos (by rw [← L.2.2.2]; exact q.1), ← L.2.2.2, eo]
      rw [ea]
      exact G.b (fw3 F6 (by decide +kernel)) (Cdx.f0 F6 (by decide +kernel))⟩)
    refine ⟨X.1.1, fun n61 => ⟨fun n60 => go 10 (by decide) (by decide) ?_, fun e60 => go 9 (by decide) (by decide) ?_⟩, fun e61 => go 8 (by decide) (by decide) ?_⟩
    · unfold cpo
      rw [if_neg n61, if_neg n60]
    · unfold cpo
      rw [if_neg n61, if_pos e60]
    · unfold cpo
      rw [if_pos e61]
  · unfold k2cm
    refine if_neg ?_
    rw [← L.2.2.2]
    rcases q with q | q
    · exact absurd r0 q.1
    · rw [q.2]
      decide
theorem c_rmue {b : Nat → Int32} {n s : Nat} (e : Nat) (x1 : Int32) (u : Rce) (fw : Fwe b n u) (A : Rxe b n s u (fun d h K => Ci (m_X8_readUnit (d + e + 55) 0 0) [.ref 11, .int x1] h K)) : Rxe b n s (k2mu b n u) (fun d h K => Ci (m_X8_readMoreUnits (d + e + 56) 0 0) [.ref 11, .int x1] h K) := by
  intro d h I t cb
  have lp : ∀ (k : Nat) (x2 x3 : Int32) (h2 : Hp_), x3.toInt + k = 160 → Iv h2 → Fr wzx h h2 → Sxe b n s (k2mu b n u (xa h)) (k2lp b n (isq 38) (fun _ => [(11, 0)]) u k) h x2 h2 → AW (m_X8_readMoreUnits (d + e + 56) 0 0) 0 0 4 [(0, .ref 11), (1, .int x1), (2, .int x2), (3, .int x3)] [] h2 (kI (fun r h' => Xe b n s (k2mu b n u (xa h)) h r h')) := by
    intro k
    induction k with
    | zero =>
      intro x2 x3 h2 m I2 F2 S
      exact t_X8_readMoreUnits_4 (d + e) h2 I2.1 x1 x2 x3 _ ⟨fun _ => ⟨S.z, I2, F2, le0 S⟩, fun z => absurd ((x160 m).1 rfl) z⟩
    | succ k ih =>
      intro x2 x3 h2 m I2 F2 S
      have t2 : Tx b n s h2 := t.fr F2 (by decide +kernel)
      refine t_X8_readMoreUnits_4 (d + e) h2 I2.1 x1 x2 x3 _ ⟨fun z => absurd z ((x160 m).2 (by omega)), fun _ => ⟨fun y0 => ⟨S.z, I2, F2, S.n y0⟩, fun y1 => Ci.mono (c_pk (d + e) I2 t2) (fun r h5 L => ⟨L.1.1, fun nr => ⟨S.z, L.1, F2.tr (L.2.1.more (by decide +kernel)), lex S y1 L (decide_eq_false nr)⟩, fun er => ?_⟩)⟩⟩
      obtain ⟨I6, F6, a6⟩ := nxx I2 t2 L (by rw [er]; decide)
      have t6 := t2.fr F6 (by decide +kernel)
      have cb6 := (S.cb y1 cb).nx F6 a6
      refine Ci.mono (A d _ I6 t6 cb6) (fun r15 h13 X => ⟨X.1.1, Ci.mono (c_emq (d + e) X.1 X.2.2 (fun y => cb6.em I6 t6 fw y) (11, 0) 0 (fun _ => rfl) (by decide) (by decide)) (fun r18 h16 k2 => ⟨k2.1.1, ?_⟩)⟩)
      have G := k2.2.2
      rw [a6] at G
      exact ih r15 (x3 + 1) h16 (x161 m) k2.1 ((F2.tr ((F6.more (by decide +kernel)).tr X.2.1)).tr (k2.2.1.more (by decide +kernel))) (les (Nat.le_refl _) fw S y1 L.2.2.2 (decide_eq_true er) (fw3 F6 (by decide +kernel)) (Cdx.f0 F6 (by decide +kernel)) G)
  exact t_X8_readMoreUnits (d + e) h x1 _ (lp 160 1 0 h (by decide) I (Fr.rf _ _) (Or.inl ⟨rfl, ⟨[], rfl, Cdx.rf h, by show 0 + _ ≤ _; omega⟩, rfl⟩))
theorem xa_n {b : Nat → Int32} {n s : Nat} {h : Hp_} {T : Bool × Nat × List Tk2} {h0 : Hp_} {r : Int32} (F : Fxe b n s T h0 r h) (e : ¬ r = 0) (l : T.2.1 ≤ n) : xa h ≤ n := by
  have k := (F.ok e).2.1
  have g := ska_ge (b := b) (n := n) (a := xa h)
  omega
theorem c_rmpe {b : Nat → Int32} {n s : Nat} (e : Nat) (x1 : Int32) (u : Rce) (fw : Fwe b n u) (A : Rxe b n s u (fun d h K => Ci (m_X8_readUnit (d + e + 55) 0 0) [.ref 11, .int x1] h K)) (d : Nat) (h : Hp_) (I : Iv h) (t : Tx b n s h) (cb : Cbx b n h) (ln : xa h ≤ n) : Ci (m_X8_readMoreParts (d + e + 57) 0 0) [.ref 11, .int x1] h (fun r h' => Xe b n s (k2mp b n u (xa h)) h r h') := by
  have M := c_rmue e x1 u fw A
  have lp : ∀ (k : Nat) (x2 x3 : Int32) (h2 : Hp_), x3.toInt + k = 160 → Iv h2 → Fr wzx h h2 → Sxe b n s (k2mp b n u (xa h)) (k2lp b n (isq 124) (fun _ => [(12, 0)]) (k2pt b n u) k) h x2 h2 → AW (m_X8_readMoreParts (d + e + 57) 0 0) 0 0 8 [(0, .ref 11), (1, .int x1), (2, .int x2), (3, .int x3)] [] h2 (kI (fun r h' => Xe b n s (k2mp b n u (xa h)) h r h')) := by
    intro k
    induction k with
    | zero =>
      intro x2 x3 h2 m I2 F2 S
      exact t_X8_readMoreParts_8 (d + e) h2 I2.1 x1 x2 x3 _ ⟨fun _ => ⟨S.z, I2, F2, le0 S⟩, fun z => absurd ((x160 m).1 rfl) z⟩
    | succ k ih =>
      intro x2 x3 h2 m I2 F2 S
      have t2 : Tx b n s h2 := t.fr F2 (by decide +kernel)
      refine t_X8_readMoreParts_8 (d + e) h2 I2.1 x1 x2 x3 _ ⟨fun z => absurd z ((x160 m).2 (by omega)), fun _ => ⟨fun y0 => ⟨S.z, I2, F2, S.n y0⟩, fun y1 => Ci.mono (c_pk (d + e) I2 t2) (fun r h5 L => ⟨L.1.1, fun nr => ⟨S.z, L.1, F2.tr (L.2.1.more (by decide +kernel)), lex S y1 L (decide_eq_false nr)⟩, fun er => ?_⟩)⟩⟩
      obtain ⟨I6, F6, a6⟩ := nxx I2 t2 L (by rw [er]; decide)
      have t6 : Tx b n s (h_im h5 11 2 ((h_i h5 11 2) + 1)) := t2.fr F6 (by decide +kernel)
      have cb6 := (S.cb y1 cb).nx F6 a6
      have em : ∀ (w : Int32) (h13 : Hp_), Iv h13 → Fr wzx h2 h13 → Fxe b n s (k2pt b n u (xa (h_im h5 11 2 ((h_i h5 11 2) + 1)))) (h_im h5 11 2 ((h_i h5 11 2) + 1)) w h13 → Ci (m_X8_emit (d + e + 1) 0 0) [.ref 11, .int 12, .int 0] h13 (fun _ h17 => Wf h17 ∧ (AW (m_X8_readMoreParts (d + e + 57) 0 0) 0 0 8 [(0, .ref 11), (1, .int x1), (2, .int w), (3, .int (x3 + 1))] [] h17 (kI (fun r h' => Xe b n s (k2mp b n u (xa h)) h r h')))) := fun w h13 I13 F13 G => Ci.mono (c_emq (d + e) I13 G (fun y => cb6.em I6 t6 fw.pt y) (12, 0) 0 (fun _ => rfl) (by decide) (by decide)) (fun r18 h16 k2 => ⟨k2.1.1, by
        have G := k2.2.2
        rw [a6] at G
        exact ih w (x3 + 1) h16 (x161 m) k2.1 ((F2.tr F13).tr (k2.2.1.more (by decide +kernel))) (les (Nat.le_refl _) fw.pt S y1 L.2.2.2 (decide_eq_true er) (fw3 F6 (by decide +kernel)) (Cdx.f0 F6 (by decide +kernel)) G)⟩)
      refine Ci.mono (A d _ I6 t6 cb6) (fun r15 h13 X => ?_)
      have G := X.2.2
      have F13 : Fr wzx h2 h13 := (F6.more (by decide +kernel)).tr X.2.1
      refine ⟨X.1.1, fun y => em 0 h13 X.1 F13 (sqen (g := k2mu b n u) G y), fun ny => Ci.mono (M d h13 X.1 (X.t t6) (G.cb ny fw cb6)) (fun r22 h20 Y => ⟨Y.1.1, fun w0 => em 0 h20 Y.1 (F13.tr Y.2.1) ((sqe2 (Cne.lp 160) G ny Y.2.2).n w0), fun w1 => em 1 h20 Y.1 (F13.tr Y.2.1) ((sqe2 (Cne.lp 160) G ny Y.2.2).y w1)⟩)⟩
  exact t_X8_readMoreParts (d + e) h I.1 x1 _ (Ci.mono (M d h I t cb) (fun r3 h1 X => ⟨X.1.1, lp 160 r3 0 h1 (by decide) X.1 X.2.1 (sqez (f := k2mu b n u) (Cne.lp 160) (Cne.lp 160) ln (Fwz.mu fw) X.2.2)⟩))
theorem c_rcde {b : Nat → Int32} {n s : Nat} (e : Nat) (x1 : Int32) (u : Rce) (fw : Fwe b n u) (A : Rxe b n s u (fun d h K => Ci (m_X8_readUnit (d + e + 55) 0 0) [.ref 11, .int x1] h K)) : Rxe b n s (k2cd b n u) (fun d h K => Ci (m_X8_readCondition (d + e + 58) 0 0) [.ref 11, .int x1] h K) := by
  intro d h I t cb
  exact t_X8_readCondition (d + e) h I.1 x1 _ (Ci.mono (A d h I t cb) (fun r3 h1 X => ⟨X.1.1, fun y0 => ⟨X.1, X.2.1, sqen (g := k2mp b n u) X.2.2 y0⟩, fun y1 => Ci.mono (c_rmpe e x1 u fw A d h1 X.1 (X.t t) (X.2.2.cb y1 fw cb) (xa_n X.2.2 y1 (fw _ (X.2.2.ok y1).1).2.1)) (fun r7 h5 Y => ⟨Y.1.1, fun w0 => ⟨Y.1, X.2.1.tr Y.2.1, (sqe2 Cne.mp X.2.2 y1 Y.2.2).n w0⟩, fun w1 => ⟨Y.1, X.2.1.tr Y.2.1, (sqe2 Cne.mp X.2.2 y1 Y.2.2).y w1⟩⟩)⟩))
/-- units at every depth -/
theorem e_units {b : Nat → Int32} {n s : Nat} (hs : s = 1 ∨ s = 2) : ∀ (r : Nat), r ≤ 6 → Rxe b n s (k2un b n (ltb s) r) (fun d h K => Ci (m_X8_readUnit (d + 10 * (r + 2) + 55) 0 0) [.ref 11, .int (Int32.ofNat (6 - r))] h K) := by
  intro r
  induction r with
  | zero =>
    intro _ d h I t cb
    have S := e_sums (b := b) (n := n) hs 0 (by omega)
    have fs : Fwe b n (k2ss b n (ltb s) 0) := Fwe.ss (ltb_m hs) 0
    have C := c_rcme 10 _ _ fs S
    have tree := t_X8_readUnit (d + 10) h I.1 (Int32.ofNat (6 - 0)) (fun q h' => Xe b n s (k2un b n (ltb s) 0 (xa h)) h q h') (Ci.mono (c_pk (d + 10) I t) (fun r3 h1 L => ?_))
    · rw [show d + 10 + 65 = d + 10 * (0 + 2) + 55 by omega] at tree
      exact tree
    have bad : (r3 = 33 ∨ r3 = 40) → k2un b n (ltb s) 0 (xa h) = (false, ska b n (xa h), []) := fun y => by
      unfold k2un
      exact if_pos (by rw [← L.2.2.2]; exact y)
    refine ⟨L.1.1, fun e33 => ⟨fun y => absurd y (by decide), fun _ => c_fle (d + 10) L (bad (Or.inl e33))⟩, fun n33 => ⟨fun e40 => ⟨fun y => absurd y (by decide), fun _ => c_fle (d + 10) L (bad (Or.inr e40))⟩, fun n40 => ?_⟩⟩
    have ea : k2un b n (ltb s) 0 (xa h) = k2sq (k2ss b n (ltb s) 0) (k2cm b n (k2ss b n (ltb s) 0)) (xa h1) := by
      unfold k2un
      rw [if_neg (by rw [← L.2.2.2]; exact fun y => y.elim n33 n40), L.2.2.1, Cne.sq (Cne.ss 0)]
    have t1 : Tx b n s h1 := t.fr L.2.1 (by decide +kernel)
    have g3 : h_i h1 11 3 = h_i h 11 3 := fw3 L.2.1 (by decide +kernel)
    have c1 : Cdx h h1 [] := Cdx.f0 L.2.1 (by decide +kernel)
    have F1 : Fr wzx h h1 := L.2.1.more (by decide +kernel)
    rw [ea]
    exact Ci.mono (S d h1 L.1 t1 (cb.pk L)) (fun r50 h48 X => ⟨X.1.1, fun y0 => ⟨X.1, F1.tr X.2.1, (sqen (g := k2cm b n (k2ss b n (ltb s) 0)) X.2.2 y0).b g3 c1⟩, fun y1 => Ci.mono (C d h48 X.1 (X.t t1) (X.2.2.cb y1 fs (cb.pk L))) (fun r54 h52 Y => ⟨Y.1.1, fun w0 => ⟨Y.1, (F1.tr X.2.1).tr Y.2.1, ((sqe2 Cne.cm X.2.2 y1 Y.2.2).n w0).b g3 c1⟩, fun w1 => ⟨Y.1, (F1.tr X.2.1).tr Y.2.1, ((sqe2 Cne.cm X.2.2 y1 Y.2.2).y w1).b g3 c1⟩⟩)⟩)
  | succ r ih =>
    intro hr d h I t cb
    have o : (Int32.ofNat (6 - (r + 1))).toInt = ((6 - (r + 1) : Nat) : Int) := on_j (by omega)
    have o6 : (6 : Int32).toInt = 6 := rfl
    have o1 : (1 : Int32).toInt = 1 := rfl
    have ex : Int32.ofNat (6 - (r + 1)) + 1 = Int32.ofNat (6 - r) := by
      refine Int32.toInt_inj.mp ?_
      rw [tx_add (by rw [o1]; omega) (by rw [o1]; omega), o1, o, on_j (by omega)]
      omega
    have lt : Int32.ofNat (6 - (r + 1)) < 6 := q_lt.mpr (by rw [o, o6]; omega)
    have S := e_sums (b := b) (n := n) hs (r + 1) hr
    have fs : Fwe b n (k2ss b n (ltb s) (r + 1)) := Fwe.ss (ltb_m hs) (r + 1)
    have fu : Fwe b n (k2un b n (ltb s) r) := Fwe.un (ltb_m hs) r
    have C := c_rcme _ _ _ fs S
    have U : Rxe b n s (k2un b n (ltb s) r) (fun d h K => Ci (m_X8_readUnit (d + 10 * (r + 2) + 55) 0 0) [.ref 11, .int (Int32.ofNat (6 - (r + 1)) + 1)] h K) := by
      rw [ex]
      exact ih (by omega)
    have D := c_rcde _ _ _ fu U
    have tree := t_X8_readUnit (d + 10 * (r + 2)) h I.1 (Int32.ofNat (6 - (r + 1))) (fun q h' => Xe b n s (k2un b n (ltb s) (r + 1) (xa h)) h q h') (Ci.mono (c_pk (d + 10 * (r + 2)) I t) (fun r3 h1 L => ?_))
    · rw [show d + 10 * (r + 2) + 65 = d + 10 * (r + 1 + 2) + 55 by omega] at tree
      exact tree
    have F1 : Fr wzx h h1 := L.2.1.more (by decide +kernel)
    refine ⟨L.1.1, fun e33 => ⟨fun _ => ⟨fun _ => ?_, fun e40 => absurd (e33.symm.trans e40) (by decide)⟩, fun y => absurd lt y⟩, fun n33 => ⟨fun e40 => ⟨fun _ => ⟨fun n40 => absurd e40 n40, fun _ => ?_⟩, fun y => absurd lt y⟩, fun n40 => ?_⟩⟩
    · have ea : k2un b n (ltb s) (r + 1) (xa h) = k2app (k2un b n (ltb s) r (ska b n (xa h) + 1)) [(2, 0)] := by
        show (if skv b n (xa h) = 33 then k2app (k2un b n (ltb s) r (ska b n (xa h) + 1)) [(2, 0)] else _) = _
        exact if_pos (by rw [← L.2.2.2]; exact e33)
      obtain ⟨I6, F6, a6⟩ := nxx I t L (by rw [e33]; decide)
      have t6 := t.fr F6 (by decide +kernel)
      have cb6 := cb.nx F6 a6
      refine Ci.mono (U d _ I6 t6 cb6) (fun r9 h7 X => ?_)
      refine ⟨X.1.1, Ci.mono (c_emq (d + 10 * (r + 2)) X.1 X.2.2 (fun y => cb6.em I6 t6 fu y) (2, 0) 0 (fun _ => rfl) (by decide) (by decide)) (fun _ h10 k => ⟨k.1.1, X.2.2.z, k.1, ((F6.more (by decide +kernel)).tr X.2.1).tr (k.2.1.more (by decide +kernel)), ?_⟩)⟩
      have G := k.2.2
      rw [a6, ← ea] at G
      exact G.b (fw3 F6 (by decide +kernel)) (Cdx.f0 F6 (by decide +kernel))
    · have ea : k2un b n (ltb s) (r + 1) (xa h) = k2sq (k2cd b n (k2un b n (ltb s) r)) (k2ex b n 41) (ska b n (xa h) + 1) := by
        show (if skv b n (xa h) = 33 then _ else if skv b n (xa h) = 40 then k2sq (k2cd b n (k2un b n (ltb s) r)) (k2ex b n 41) (ska b n (xa h) + 1) else _) = _
        rw [if_neg (by rw [← L.2.2.2]; exact n33), if_pos (by rw [← L.2.2.2]; exact e40)]
      obtain ⟨I6, F6, a6⟩ := nxx I t L (by rw [e40]; decide)
      refine Ci.mono (D d _ I6 (t.fr F6 (by decide +kernel)) (cb.nx F6 a6)) (fun r16 h14 X => ?_)
      have G := X.2.2
      rw [a6] at G
      have g3 := fw3 F6 (by decide +kernel)
      have c6 : Cdx h _ [] := Cdx.f0 F6 (by decide +kernel)
      have FX : Fr wzx h h14 := (F6.more (by decide +kernel)).tr X.2.1
      rw [ea]
      exact ⟨X.1.1, fun y0 => ⟨X.1, FX, (sqen (g := k2ex b n 41) G y0).b g3 c6⟩, fun y1 => Ci.mono (c_exe (d + 10 * (r + 2)) X.1 (t.fr FX (by decide +kernel)) 41 (by decide)) (fun r20 h18 Y => ⟨Y.1.1, fun w0 => ⟨Y.1, FX.tr Y.2.1, ((sqe2 Cne.ex G y1 Y.2.2).n w0).b g3 c6⟩, fun w1 => ⟨Y.1, FX.tr Y.2.1, ((sqe2 Cne.ex G y1 Y.2.2).y w1).b g3 c6⟩⟩)⟩
    · have ea : k2un b n (ltb s) (r + 1) (xa h) = k2sq (k2ss b n (ltb s) (r + 1)) (k2cm b n (k2ss b n (ltb s) (r + 1))) (xa h1) := by
        show (if skv b n (xa h) = 33 then _ else if skv b n (xa h) = 40 then _ else k2sq (k2ss b n (ltb s) (r + 1)) (k2cm b n (k2ss b n (ltb s) (r + 1))) (xa h)) = _
        rw [if_neg (by rw [← L.2.2.2]; exact n33), if_neg (by rw [← L.2.2.2]; exact n40), L.2.2.1, Cne.sq (Cne.ss (r + 1))]
      have t1 : Tx b n s h1 := t.fr L.2.1 (by decide +kernel)
      have g3 : h_i h1 11 3 = h_i h 11 3 := fw3 L.2.1 (by decide +kernel)
      have c1 : Cdx h h1 [] := Cdx.f0 L.2.1 (by decide +kernel)
      rw [ea]
      exact Ci.mono (S d h1 L.1 t1 (cb.pk L)) (fun r50 h48 X => ⟨X.1.1, fun y0 => ⟨X.1, F1.tr X.2.1, (sqen (g := k2cm b n (k2ss b n (ltb s) (r + 1))) X.2.2 y0).b g3 c1⟩, fun y1 => Ci.mono (C d h48 X.1 (X.t t1) (X.2.2.cb y1 fs (cb.pk L))) (fun r54 h52 Y => ⟨Y.1.1, fun w0 => ⟨Y.1, (F1.tr X.2.1).tr Y.2.1, ((sqe2 Cne.cm X.2.2 y1 Y.2.2).n w0).b g3 c1⟩, fun w1 => ⟨Y.1, (F1.tr X.2.1).tr Y.2.1, ((sqe2 Cne.cm X.2.2 y1 Y.2.2).y w1).b g3 c1⟩⟩)⟩)
end
section
/-! clauses (what must hold, what is answered), and what the class's code of them is -/
noncomputable abbrev Cl2 : Type := List Tk2 × List Tk2
noncomputable abbrev Rcl : Type := Nat → Bool × Nat × Cl2
noncomputable def anX (s o : Nat) (A : List Tk2) : List Int32 := pk4 3 (Int32.ofNat (o + 1 + A.length + 1)) :: (A.map (tkx s) ++ [pk4 4 0])
noncomputable def clX (s o : Nat) (c : Cl2) : List Int32 := if c.1.length = 0 then c.2.map (tkx s) ++ [pk4 4 0] else c.1.map (tkx s) ++ anX s (o + c.1.length) c.2
noncomputable def clN (c : Cl2) : Nat := if c.1.length = 0 then c.2.length + 1 else c.1.length + (c.2.length + 2)
theorem anX_l (s o : Nat) (A : List Tk2) : (anX s o A).length = A.length + 2 := by
  unfold anX
  rw [List.length_cons, List.length_append, List.length_map]
  rfl
theorem clX_l (s o : Nat) (c : Cl2) : (clX s o c).length = clN c := by
  unfold clX clN
  split
  · rw [List.length_append, List.length_map]
    rfl
  · rw [List.length_append, List.length_map, anX_l]
noncomputable def rlX (s : Nat) : Nat → List Cl2 → List Int32
  | _, [] => []
  | o, c :: C => clX s o c ++ rlX s (o + clN c) C
noncomputable def rlN : List Cl2 → Nat
  | [] => 0
  | c :: C => clN c + rlN C
theorem rlX_l (s : Nat) : ∀ (C : List Cl2) (o : Nat), (rlX s o C).length = rlN C
  | [], _ => rfl
  | c :: C, o => by
    show (clX s o c ++ rlX s (o + clN c) C).length = clN c + rlN C
    rw [List.length_append, clX_l, rlX_l s C]
theorem rlX_a (s : Nat) : ∀ (C D : List Cl2) (o : Nat), rlX s o (C ++ D) = rlX s o C ++ rlX s (o + rlN C) D
  | [], D, o => rfl
  | c :: C, D, o => by
    show clX s o c ++ rlX s (o + clN c) (C ++ D) = (clX s o c ++ rlX s (o + clN c) C) ++ rlX s (o + (clN c + rlN C)) D
    rw [rlX_a s C D, List.append_assoc, Nat.add_assoc]
/-! the clauses' grammar -/
noncomputable def k2pr (f g : Rce) : Rcl := fun a => if (f a).1 = true then ((g (f a).2.1).1, (g (f a).2.1).2.1, ((f a).2.2, (g (f a).2.1).2.2)) else (false, (f a).2.1, ([], []))
noncomputable def vdv (x : Int32) : Int32 := if x = 120 then 0 else if x = 110 then 1 else if x = 114 then 2 else 3
noncomputable def k2vd (b : Nat → Int32) (n : Nat) : Rce := fun a => if vdb (skv b n a) = true then (true, ska b n (ska b n a + 1), [(0, vdv (skv b n a))]) else (false, ska b n a, [])
noncomputable def k2av (b : Nat → Int32) (n : Nat) : Rce := k2sq (k2ex b n 63) (k2vd b n)
noncomputable def k2pa (b : Nat → Int32) (n : Nat) : Rce := k2sq (k2ex b n 63) (k2ss b n ltp 6)
noncomputable def k2ac (b : Nat → Int32) (n : Nat) : Rcl := k2pr (k2cd b n (k2un b n lta 6)) (k2av b n)
noncomputable def k2p1 (b : Nat → Int32) (n : Nat) : Rce := k2sq (k2ss b n ltp 6) (k2sq (k2cm b n (k2ss b n ltp 6)) (k2mp b n (k2un b n ltp 6)))
noncomputable def k2pc (b : Nat → Int32) (n : Nat) : Rcl := fun a => if skv b n a = 33 ∨ skv b n a = 40 then k2pr (k2cd b n (k2un b n ltp 6)) (k2pa b n) a else if (k2ss b n ltp 6 a).1 = true then (if sgb (skv b n (k2ss b n ltp 6 a).2.1) = true then k2pr (k2p1 b n) (k2pa b n) a else (true, (k2ss b n ltp 6 a).2.1, ([], (k2ss b n ltp 6 a).2.2))) else (false, (k2ss b n ltp 6 a).2.1, ([], []))
noncomputable def k2c (b : Nat → Int32) (n s : Nat) : Rcl := if s = 1 then k2ac b n else k2pc b n
noncomputable def k21 (cl : Rcl) : Rcf Cl2 := fun a => ((cl a).1, (cl a).2.1, [(cl a).2.2])
noncomputable def k2ru (b : Nat → Int32) (n s : Nat) : Rcf Cl2 := k2sq (k21 (k2c b n s)) (k2lp b n (isq 59) (fun _ => []) (k21 (k2c b n s)) 160)
theorem Cne.vd {b : Nat → Int32} {n : Nat} : Cne b n (k2vd b n) := fun a => by
  unfold k2vd
  rw [skv_i, ska_i]
theorem k2pr_c {b : Nat → Int32} {n : Nat} {f g : Rce} (c : Cne b n f) (a : Nat) : k2pr f g (ska b n a) = k2pr f g a := by
  unfold k2pr
  rw [c a]
theorem k2ac_c {b : Nat → Int32} {n : Nat} (a : Nat) : k2ac b n (ska b n a) = k2ac b n a := k2pr_c (Cne.cd (Cne.un 6)) a
theorem k2pc_c {b : Nat → Int32} {n : Nat} (a : Nat) : k2pc b n (ska b n a) = k2pc b n a := by
  unfold k2pc
  rw [skv_i, k2pr_c (Cne.cd (Cne.un 6)), Cne.ss 6, k2pr_c (f := k2p1 b n) (Cne.sq (Cne.ss 6))]
theorem k2c_c {b : Nat → Int32} {n s : Nat} (a : Nat) : k2c b n s (ska b n a) = k2c b n s a := by
  unfold k2c
  split
  · exact k2ac_c a
  · exact k2pc_c a
theorem Cne.cl {b : Nat → Int32} {n s : Nat} : Cne b n (k21 (k2c b n s)) := fun a => by
  unfold k21
  rw [k2c_c]
/-- how far a clause goes -/
noncomputable def Fwc (b : Nat → Int32) (n : Nat) (f : Rcl) : Prop := ∀ a, (f a).1 = true → ska b n a < (f a).2.1 ∧ (f a).2.1 ≤ n ∧ ska b n (f a).2.1 = (f a).2.1 ∧ clN (f a).2.2 + ska b n a ≤ (f a).2.1 + 1
theorem Fwe.vd {b : Nat → Int32} {n : Nat} : Fwe b n (k2vd b n) := fun a h => by
  unfold k2vd at h ⊢
  by_cases q : vdb (skv b n a) = true
  · rw [if_pos q] at h ⊢
    have z := nxt_f (skv_l (fun e => by rw [e] at q; exact absurd q (by decide)))
    exact ⟨z.1, z.2.1, z.2.2, by show 1 + ska b n a ≤ ska b n (ska b n a + 1); have := z.1; omega⟩
  · rw [if_neg q] at h
    exact absurd h (by simp)
/-- an answer behind its '?': a sign more than tokens -/
noncomputable def Fwa (b : Nat → Int32) (n : Nat) (g : Rce) : Prop := ∀ p, ska b n p = p → p ≤ n → (g p).1 = true → p < (g p).2.1 ∧ (g p).2.1 ≤ n ∧ ska b n (g p).2.1 = (g p).2.1 ∧ (g p).2.2.length + 1 + p ≤ (g p).2.1
theorem Fwa.of {b : Nat → Int32} {n : Nat} {g : Rce} (hg : Fwe b n g) : Fwa b n (k2sq (k2ex b n 63) g) := fun p e l h => by
  unfold k2sq at h ⊢
  by_cases c : (k2ex b n 63 p).1 = true
  · rw [if_pos c] at h ⊢
    have q := Fwe.ex (b := b) (n := n) (c := 63) (by decide) p c
    have r := hg _ h
    have r1 : ska b n (k2ex b n 63 p).2.1 < (g (k2ex b n 63 p).2.1).2.1 := r.1
    have e2 : (k2ex b n 63 p).2.2 = [] := by
      unfold k2ex
      split <;> rfl
    rw [q.2.2.1] at r r1
    rw [e] at q
    refine ⟨?_, r.2.1, r.2.2.1, ?_⟩
    · show p < (g (k2ex b n 63 p).2.1).2.1
      omega
    · show ((k2ex b n 63 p).2.2 ++ (g (k2ex b n 63 p).2.1).2.2).length + 1 + p ≤ (g (k2ex b n 63 p).2.1).2.1
      rw [e2, List.nil_append]
      have := r.2.2.2
      omega
  · rw [if_neg c] at h
    exact absurd h c
theorem Fwc.pr {b : Nat → Int32} {n : Nat} {f g : Rce} (hf : Fwe b n f) (hg : Fwa b n g) : Fwc b n (k2pr f g) := fun a h => by
  unfold k2pr at h ⊢
  by_cases c : (f a).1 = true
  · rw [if_pos c] at h ⊢
    have q := hf a c
    have r := hg _ q.2.2.1 q.2.1 h
    refine ⟨?_, r.2.1, r.2.2.1, ?_⟩
    · show ska b n a < (g (f a).2.1).2.1
      omega
    · show clN ((f a).2.2, (g (f a).2.1).2.2) + ska b n a ≤ (g (f a).2.1).2.1 + 1
      have u := q.2.2.2
      have v := r.2.2.2
      unfold clN
      split
      · show (g (f a).2.1).2.2.length + 1 + ska b n a ≤ _
        omega
      · show (f a).2.2.length + ((g (f a).2.1).2.2.length + 2) + ska b n a ≤ _
        omega
  · rw [if_neg c] at h
    exact absurd h (by simp)
theorem Fwe.p1 {b : Nat → Int32} {n : Nat} : Fwe b n (k2p1 b n) := (Fwe.ss (by decide) 6).sq ((Fwe.ss (by decide) 6).cm.z.sq (Fwz.mp (Fwe.un (by decide) 6)))
theorem Fwc.c {b : Nat → Int32} {n s : Nat} : Fwc b n (k2c b n s) := by
  unfold k2c
  split
  · exact Fwc.pr (Fwe.cd (Fwe.un (by decide) 6)) (Fwa.of Fwe.vd)
  · intro a h
    unfold k2pc at h ⊢
    by_cases c : skv b n a = 33 ∨ skv b n a = 40
    · rw [if_pos c] at h ⊢
      exact Fwc.pr (Fwe.cd (Fwe.un (by decide) 6)) (Fwa.of (Fwe.ss (by decide) 6)) a h
    · rw [if_neg c] at h ⊢
      by_cases d : (k2ss b n ltp 6 a).1 = true
      · rw [if_pos d] at h ⊢
        by_cases e : sgb (skv b n (k2ss b n ltp 6 a).2.1) = true
        · rw [if_pos e] at h ⊢
          exact Fwc.pr Fwe.p1 (Fwa.of (Fwe.ss (by decide) 6)) a h
        · rw [if_neg e]
          have q := Fwe.ss (b := b) (n := n) (lt := ltp) (by decide) 6 a d
          refine ⟨q.1, q.2.1, q.2.2.1, ?_⟩
          show (k2ss b n ltp 6 a).2.2.length + 1 + ska b n a ≤ (k2ss b n ltp 6 a).2.1 + 1
          have := q.2.2.2
          omega
      · rw [if_neg d] at h
        exact absurd h (by simp)
/-- what is found is what the recognizers find -/
theorem pj_pr {f g : Rce} {f' g' : Rcg} (p : Pje f f') (q : Pje g g') (a : Nat) : (k2pr f g a).1 = (sqr f' g' a).1 ∧ (k2pr f g a).2.1 = (sqr f' g' a).2 := by
  unfold k2pr sqr
  rw [(p a).1, (p a).2]
  by_cases c : (f' a).1 = true
  · rw [if_pos c, if_pos c]
    exact q _
  · rw [if_neg c, if_neg c]
    exact ⟨(by simpa using c : (f' a).1 = false).symm, rfl⟩
theorem Pje.vd {b : Nat → Int32} {n : Nat} : Pje (k2vd b n) (onr b n vdb) := fun a => by
  unfold k2vd onr
  split <;> exact ⟨rfl, rfl⟩
theorem pj_c {b : Nat → Int32} {n s : Nat} (hs : s = 1 ∨ s = 2) : Pje (k21 (k2c b n s)) (clq b n s) := fun a => by
  have P2 : Pje (k2pa b n) (pan b n) := Pje.ex.sq (Pje.ss 6)
  rcases hs with u | u <;> subst u
  · exact pj_pr (Pje.cd (Pje.un 6)) (Pje.ex.sq Pje.vd) a
  · show (k2pc b n a).1 = (pcl_ b n a).1 ∧ (k2pc b n a).2.1 = (pcl_ b n a).2
    unfold k2pc pcl_
    by_cases c : skv b n a = 33 ∨ skv b n a = 40
    · rw [if_pos c, if_pos c]
      exact pj_pr (Pje.cd (Pje.un 6)) P2 a
    · rw [if_neg c, if_neg c]
      have S := Pje.ss (b := b) (n := n) (lt := ltp) 6 a
      by_cases d : (sms b n ltp 6 a).1 = true
      · rw [S.1, if_pos d, S.2]
        have e1 : ∀ g : Rcg, sqr (sms b n ltp 6) g a = g (sms b n ltp 6 a).2 := fun g => by
          unfold sqr
          exact if_pos d
        rw [e1]
        by_cases e : sgb (skv b n (sms b n ltp 6 a).2) = true
        · rw [if_pos e, if_pos e]
          have P1 : Pje (k2p1 b n) (sqr (sms b n ltp 6) (sqr (cmq b n (sms b n ltp 6)) (mpt b n (unt b n ltp 6)))) := (Pje.ss 6).sq ((Pje.ss 6).cm.sq (Pje.un 6).mp)
          have z := pj_pr P1 P2 a
          rw [sqr_a, sqr_a, e1] at z
          exact z
        · rw [if_neg e, if_neg e]
          exact ⟨rfl, rfl⟩
      · rw [S.1, if_neg d, S.2]
        have e1 : ∀ g : Rcg, sqr (sms b n ltp 6) g a = sms b n ltp 6 a := fun g => by
          unfold sqr
          exact if_neg d
        rw [e1]
        exact ⟨(by simpa using d : (sms b n ltp 6 a).1 = false).symm, rfl⟩
theorem pj_ru {b : Nat → Int32} {n s : Nat} (hs : s = 1 ∨ s = 2) : Pje (k2ru b n s) (ruq b n (clq b n s)) := (pj_c hs).sq ((pj_c hs).lp 160)
/-- what a clause is made of -/
noncomputable def clO (s : Nat) (c : Cl2) : Prop := (c.1.length = 0 ∨ Put1 true c.1) ∧ Put1 false c.2 ∧ (∀ t ∈ c.1, tkO (ltb s) t) ∧ ∀ t ∈ c.2, tkO (ltb s) t
theorem Wty.vd {b : Nat → Int32} {n : Nat} : Wty false (k2vd b n) := fun a h => by
  unfold k2vd at h ⊢
  by_cases q : vdb (skv b n a) = true
  · rw [if_pos q]
    exact fun _ => rfl
  · rw [if_neg q] at h
    exact absurd h (by simp)
theorem Otk.vd {b : Nat → Int32} {n : Nat} {lt : Int32 → Bool} : Otk lt (k2vd b n) := fun a h => by
  unfold k2vd at h ⊢
  by_cases q : vdb (skv b n a) = true
  · rw [if_pos q]
    intro t ht
    rw [List.mem_singleton.mp ht]
    refine ⟨fun e => absurd (show (0 : Int32) = 1 from e) (by decide), fun _ => ?_, fun e => absurd rfl e, Or.inl rfl⟩
    show 0 ≤ (vdv (skv b n a)).toInt ∧ (vdv (skv b n a)).toInt ≤ 9999
    unfold vdv
    split
    · decide
    · split
      · decide
      · split <;> decide
  · rw [if_neg q] at h
    exact absurd h (by simp)
theorem Wty.aw {b : Nat → Int32} {n : Nat} {c : Int32} {y : Bool} {g : Rce} (p : Wty y g) : Wty y (k2sq (k2ex b n c) g) := fun a h => by
  unfold k2sq at h ⊢
  by_cases q : (k2ex b n c a).1 = true
  · rw [if_pos q] at h ⊢
    have e2 : (k2ex b n c a).2.2 = [] := by
      unfold k2ex
      split <;> rfl
    show Put1 y ((k2ex b n c a).2.2 ++ (g (k2ex b n c a).2.1).2.2)
    rw [e2, List.nil_append]
    exact p _ h
  · rw [if_neg q] at h
    exact absurd h q
theorem clO_pr {s : Nat} {f g : Rce} (wf : Wty true f) (wg : Wty false g) (of_ : Otk (ltb s) f) (og : Otk (ltb s) g) (a : Nat) (h : (k2pr f g a).1 = true) : clO s (k2pr f g a).2.2 := by
  unfold k2pr at h ⊢
  by_cases c : (f a).1 = true
  · rw [if_pos c] at h ⊢
    exact ⟨Or.inr (wf a c), wg _ h, of_ a c, og _ h⟩
  · rw [if_neg c] at h
    exact absurd h (by simp)
theorem clO_c {b : Nat → Int32} {n s : Nat} (hs : s = 1 ∨ s = 2) (a : Nat) (h : (k2c b n s a).1 = true) : clO s (k2c b n s a).2.2 := by
  rcases hs with u | u <;> subst u
  · exact clO_pr (s := 1) (Wty.cd (Wty.un 6)) (Wty.aw Wty.vd) (Otk.cd (Otk.un 6)) (Otk.ex.sq Otk.vd) a h
  · have h : (k2pc b n a).1 = true := h
    show clO 2 (k2pc b n a).2.2
    unfold k2pc at h ⊢
    have wa : Wty false (k2pa b n) := Wty.aw (Wty.ss 6)
    have oa : Otk (ltb 2) (k2pa b n) := Otk.ex.sq (Otk.ss 6)
    by_cases c : skv b n a = 33 ∨ skv b n a = 40
    · rw [if_pos c] at h ⊢
      exact clO_pr (s := 2) (Wty.cd (Wty.un 6)) wa (Otk.cd (Otk.un 6)) oa a h
    · rw [if_neg c] at h ⊢
      by_cases d : (k2ss b n ltp 6 a).1 = true
      · rw [if_pos d] at h ⊢
        by_cases e : sgb (skv b n (k2ss b n ltp 6 a).2.1) = true
        · rw [if_pos e] at h ⊢
          exact clO_pr (s := 2) (f := k2p1 b n) ((Wty.ss 6).cp ((Wcp.cm (Wty.ss 6)).sw (Wsw.mp (Wty.un 6)))) wa ((Otk.ss 6).sq ((Otk.cm (Otk.ss 6)).sq (Otk.mp (Otk.un 6)))) oa a h
        · rw [if_neg e]
          exact ⟨Or.inl rfl, Wty.ss 6 a d, fun t ht => (by cases ht), Otk.ss (lt := ltp) 6 a d⟩
      · rw [if_neg d] at h
        exact absurd h (by simp)
theorem clO_lp {b : Nat → Int32} {n s : Nat} (hs : s = 1 ∨ s = 2) : ∀ (k a : Nat), (k2lp b n (isq 59) (fun _ => []) (k21 (k2c b n s)) k a).1 = true → ∀ c ∈ (k2lp b n (isq 59) (fun _ => []) (k21 (k2c b n s)) k a).2.2, clO s c
  | 0, a, _ => fun c hc => by cases hc
  | k + 1, a, h => by
    unfold k2lp at h ⊢
    by_cases q : isq 59 (skv b n a) = true
    · rw [if_pos q] at h ⊢
      by_cases d : (k21 (k2c b n s) (ska b n a + 1)).1 = true
      · rw [if_pos d] at h ⊢
        intro c hc
        rcases List.mem_append.mp hc with z | z
        · rw [List.append_nil] at z
          rw [List.mem_singleton.mp z]
          exact clO_c hs _ d
        · exact clO_lp hs k _ h c z
      · rw [if_neg d] at h
        exact absurd h d
    · rw [if_neg q]
      exact fun c hc => by cases hc
theorem clO_ru {b : Nat → Int32} {n s : Nat} (hs : s = 1 ∨ s = 2) (h : (k2ru b n s 0).1 = true) : ∀ c ∈ (k2ru b n s 0).2.2, clO s c := by
  unfold k2ru k2sq at h ⊢
  by_cases d : (k21 (k2c b n s) 0).1 = true
  · rw [if_pos d] at h ⊢
    intro c hc
    rcases List.mem_append.mp hc with z | z
    · rw [List.mem_singleton.mp z]
      exact clO_c hs _ d
    · exact clO_lp hs 160 _ h c z
  · rw [if_neg d] at h
    exact absurd h d
/-! the class: clauses and rules, with what they put down -/
/-- the end of a clause that has no condition -/
theorem c_ec0 (d : Nat) {h : Hp_} (I : Iv h) (l : xc h < 164) : Cv (m_X8_endClause (d + 2) 0 0) [.ref 11, .int (-1)] h (fun h' => Iv h' ∧ Fr [11009, 33999] h h' ∧ Cdx h h' [pk4 4 0]) := by
  refine t_X8_endClause d h I.1 (-1) _ (Ci.mono (c_eme d I 4 0 l) (fun r h1 k => ⟨k.1.1, fun _ => ⟨k.1, k.2.1, k.2.2.2⟩, fun y => absurd y.1 (by decide)⟩))
/-- the end of a clause whose condition ends at j -/
theorem c_ecj (d : Nat) {h0 h1 h : Hp_} (I : Iv h) {A B : List Int32} {x : Int32} (ca : Cdx h0 h1 [x]) (cb : Cdx h1 h B) (l : xc h < 164) : Cv (m_X8_endClause (d + 2) 0 0) [.ref 11, .int (Int32.ofNat (xc h0))] h (fun h' => Iv h' ∧ Fr [11009, 33999] h h' ∧ Cdx h0 h' (pk4 3 (Int32.ofNat (xc h0 + 1 + B.length + 1)) :: (B ++ [pk4 4 0]))) := by
  have e1 : xc h1 = xc h0 + 1 := ca.1
  have e2 : xc h = xc h1 + B.length := cb.1
  refine t_X8_endClause d h I.1 _ _ (Ci.mono (c_eme d I 4 0 l) (fun r h2 k => ?_))
  obtain ⟨I2, F2, _, c2⟩ := k
  have e3 : xc h2 = xc h + 1 := c2.1
  have ci := xc_i I2
  have b9 := x9_in I2
  have o0 : (Int32.ofNat (xc h0)).toInt = (xc h0 : Int) := on_j (by omega)
  have k0 : (Int32.ofNat (xc h0)).toNatClampNeg = xc h0 := on_k (by omega)
  have t1 : (1 : Int32).toInt = 1 := rfl
  have t0 : (0 : Int32).toInt = 0 := rfl
  have m1 : (h_i h2 11 9 - 1).toInt = (h_i h2 11 9).toInt - 1 := by rw [tx_sub (by rw [t1]; omega) (by rw [t1]; omega), t1]
  refine ⟨I2.1, fun n => absurd ⟨q_le.mpr (by rw [o0, t0]; omega), q_le.mpr (by rw [o0, m1]; omega)⟩ n, fun _ => t_X10_pack d h2 3 _ _ ⟨I2.1, dp_in (lo := 0) (hi := 163) ⟨by rw [o0]; omega, by rw [o0]; show _ ≤ (163 : Int); omega⟩ (by decide) (by decide), tr_ 33 (by decide +kernel) I2 _ _ (by decide) (by decide), F2.im (inw_row (by decide +kernel) _), ?_, fun i hi => ?_, fun i v e => ?_⟩⟩
  · show (h_i (h_im h2 33 _ _) 11 9).toNatClampNeg = _
    rw [im_ne (by decide)]
    show xc h2 = xc h0 + ((B ++ [pk4 4 0]).length + 1)
    rw [List.length_append]
    show xc h2 = xc h0 + (B.length + 1 + 1)
    omega
  · rw [k0, h_i_im, if_neg (fun y => by have := y.2; omega), c2.2.1 i (by omega), cb.2.1 i (by omega), ca.2.1 i hi]
  · have s9 : h_i h2 11 9 = Int32.ofNat (xc h0 + 1 + B.length + 1) := by
      have e9 : (h_i h2 11 9).toNatClampNeg = xc h0 + 1 + B.length + 1 := by
        show xc h2 = _
        omega
      rw [← of_nat32 b9.1, e9]
    cases i with
    | zero =>
      have e : some (pk4 3 (Int32.ofNat (xc h0 + 1 + B.length + 1))) = some v := e
      rw [k0, Nat.add_zero, im_at, s9, ← Option.some.inj e]
      rfl
    | succ i =>
      have e : (B ++ [pk4 4 0])[i]? = some v := e
      rw [k0, h_i_im, if_neg (fun y => by have := y.2; omega)]
      by_cases lb : i < B.length
      · rw [List.getElem?_append_left lb] at e
        rw [c2.2.1 _ (by omega)]
        have z := cb.2.2 i v e
        rw [e1, show xc h0 + 1 + i = xc h0 + (i + 1) by omega] at z
        exact z
      · rw [List.getElem?_append_right (by omega)] at e
        have z := c2.2.2 _ v e
        have lt : i - B.length < 1 := (List.getElem?_eq_some_iff.mp e).1
        rw [show xc h + (i - B.length) = xc h0 + (i + 1) by omega] at z
        exact z
/-- what a clause, or an answer, has put down -/
noncomputable def Fce (b : Nat → Int32) (n : Nat) (T : Bool × Nat) (E : List Int32) (h0 : Hp_) (r : Int32) (h : Hp_) : Prop := (r = 1 ∧ T.1 = true ∧ ska b n (xa h) = T.2 ∧ h_i h 11 3 = h_i h0 11 3 ∧ Cdx h0 h E) ∨ (r = 0 ∧ T.1 = false ∧ h_i h 11 3 = Int32.ofNat T.2)
noncomputable def Xce (b : Nat → Int32) (n : Nat) (T : Bool × Nat) (E : List Int32) (h : Hp_) (r : Int32) (h' : Hp_) : Prop := Iv h' ∧ Fr wzx h h' ∧ Fce b n T E h r h'
theorem Fce.z {b : Nat → Int32} {n : Nat} {T : Bool × Nat} {E : List Int32} {h0 : Hp_} {r : Int32} {h : Hp_} (F : Fce b n T E h0 r h) : r = 0 ∨ r = 1 := F.elim (fun y => Or.inr y.1) (fun y => Or.inl y.1)
theorem Fce.n {b : Nat → Int32} {n : Nat} {T : Bool × Nat} {E : List Int32} {h0 : Hp_} {r : Int32} {h : Hp_} (F : Fce b n T E h0 r h) (e : r = 0) : Fce b n T E h0 0 h := by
  rcases F with F | F
  · rw [e] at F
    exact absurd F.1 (by decide)
  · exact Or.inr ⟨rfl, F.2⟩
theorem Fce.y {b : Nat → Int32} {n : Nat} {T : Bool × Nat} {E : List Int32} {h0 : Hp_} {r : Int32} {h : Hp_} (F : Fce b n T E h0 r h) (e : ¬ r = 0) : Fce b n T E h0 1 h := by
  rcases F with F | F
  · exact Or.inl ⟨rfl, F.2⟩
  · exact absurd F.1 e
theorem Fce.b {b : Nat → Int32} {n : Nat} {T : Bool × Nat} {E : List Int32} {h0 h1 : Hp_} {r : Int32} {h : Hp_} (F : Fce b n T E h0 r h) (e : h_i h0 11 3 = h_i h1 11 3) (c : Cdx h1 h0 []) : Fce b n T E h1 r h := by
  rcases F with F | F
  · exact Or.inl ⟨F.1, F.2.1, F.2.2.1, F.2.2.2.1.trans e, c.tr F.2.2.2.2⟩
  · exact Or.inr F
/-- a failing part fails the clause -/
theorem fce_n {b : Nat → Int32} {n s : Nat} {f g : Rce} {a : Nat} {E : List Int32} {h0 : Hp_} {r : Int32} {h : Hp_} (F : Fxe b n s (f a) h0 r h) (e : r = 0) : Fce b n ((k2pr f g a).1, (k2pr f g a).2.1) E h0 0 h := by
  have k := F.n e
  rcases k with k | k
  · exact absurd k.1 (by decide)
  · have e1 : k2pr f g a = (false, (f a).2.1, ([], [])) := by
      unfold k2pr
      exact if_neg (by rw [k.2.1]; decide)
    rw [e1]
    exact Or.inr ⟨rfl, rfl, k.2.2⟩
/-- a condition and its answer -/
theorem fce_2 {b : Nat → Int32} {n s : Nat} {f g : Rce} {a : Nat} {h0 : Hp_} {r r2 : Int32} {h h2 : Hp_} (c : Cne b n g) (nz : ¬ (f a).2.2.length = 0) (F : Fxe b n s (f a) h0 r h) (e : ¬ r = 0) (G : Fce b n ((g (xa h)).1, (g (xa h)).2.1) (anX s (xc h) (g (xa h)).2.2) h r2 h2) : Fce b n ((k2pr f g a).1, (k2pr f g a).2.1) (clX s (xc h0) (k2pr f g a).2.2) h0 r2 h2 := by
  have k := F.ok e
  have e1 : k2pr f g a = ((g (xa h)).1, (g (xa h)).2.1, ((f a).2.2, (g (xa h)).2.2)) := by
    unfold k2pr
    rw [if_pos k.1, ← k.2.1, c]
  rw [e1]
  rcases G with G | G
  · refine Or.inl ⟨G.1, G.2.1, G.2.2.1, G.2.2.2.1.trans k.2.2.1, ?_⟩
    show Cdx h0 h2 (clX s (xc h0) ((f a).2.2, (g (xa h)).2.2))
    unfold clX
    rw [if_neg nz]
    have z := k.2.2.2.1
    rw [List.length_map] at z
    have q := k.2.2.2.tr G.2.2.2.2
    rw [z] at q
    exact q
  · exact Or.inr G
theorem Put1.nz {y : Bool} {E : List Tk2} (p : Put1 y E) : ¬ E.length = 0 := fun e => by
  have z : E = [] := List.eq_nil_of_length_eq_zero e
  have q := p []
  rw [z] at q
  exact absurd (Option.some.inj q) (by simp)
theorem c_rpae {b : Nat → Int32} {n : Nat} (d : Nat) {h : Hp_} (I : Iv h) (t : Tx b n 2 h) (cb : Cbx b n h) : Ci (m_X8_readPayAnswer (d + 80 + 54) 0 0) [.ref 11] h (fun r h' => Xce b n ((k2pa b n (xa h)).1, (k2pa b n (xa h)).2.1) (anX 2 (xc h) (k2pa b n (xa h)).2.2) h r h') := by
  have S := e_sums (b := b) (n := n) (s := 2) (Or.inr rfl) 6 (by omega)
  have fs : Fwe b n (k2ss b n ltp 6) := Fwe.ss (by decide) 6
  have ni := xn_i I
  rw [t.2.1] at ni
  have z1 := (x1_in I).2
  refine t_X8_readPayAnswer (d + 80) h I.1 _ (Ci.mono (c_exe (d + 80) I t 63 (by decide)) (fun r3 h1 X => ⟨X.1.1, fun y1 => ?_, fun y0 => ⟨X.1, X.2.1, ?_⟩⟩))
  · have ok := X.2.2.ok y1
    have fe := Fwe.ex (b := b) (n := n) (c := 63) (by decide) (xa h) ok.1
    have e2 : (k2ex b n 63 (xa h)).2.2 = [] := by
      unfold k2ex
      split <;> rfl
    have c1 : Cdx h h1 [] := by
      have z := ok.2.2.2
      rw [e2] at z
      exact z
    have x1 : xc h1 = xc h := c1.1
    have lc : xc h1 < 164 := by
      unfold Cbx at cb
      omega
    refine Ci.mono (c_eme (d + 80) X.1 3 0 lc) (fun r7 h5 k => ⟨k.1.1, ?_⟩)
    obtain ⟨I5, F5', er7, c5⟩ := k
    have F5 : Fr wzx h h5 := X.2.1.tr (F5'.more (by decide +kernel))
    have t5 : Tx b n 2 h5 := t.fr F5 (by decide +kernel)
    have a5 : xa h5 = xa h1 := by
      show (h_i h5 11 2).toNatClampNeg = _
      rw [(F5'.2 11 2 (by decide +kernel)).1]
    have g5 : h_i h5 11 3 = h_i h 11 3 := ((F5'.2 11 3 (by decide +kernel)).1).trans ok.2.2.1
    have x5 : xc h5 = xc h1 + 1 := c5.1
    have cb5 : Cbx b n h5 := by
      unfold Cbx at cb ⊢
      rw [a5, ok.2.1]
      omega
    have s6 : Ci (m_X8_readSum (d + 10 + 10 * (6 + 1) + 53) 0 0) [.ref 11, .int (Int32.ofNat (6 - 6))] h5 (fun q h' => Xe b n 2 (k2ss b n (ltb 2) 6 (xa h5)) h5 q h') := S (d + 10) h5 I5 t5 cb5
    rw [show d + 10 + 10 * (6 + 1) + 53 = d + 80 + 53 by omega] at s6
    have ea : k2pa b n (xa h) = k2ss b n ltp 6 (xa h5) := by
      unfold k2pa k2sq
      rw [if_pos ok.1, ← ok.2.1, Cne.ss 6, e2, a5]
      rfl
    rw [ea]
    refine Ci.mono s6 (fun r10 h8 Y => ⟨Y.1.1, fun w1 => ?_, fun w0 => ⟨Y.1, F5.tr Y.2.1, ?_⟩⟩)
    · have oy := Y.2.2.ok w1
      have lc8 : xc h8 < 164 := by
        have z := oy.2.2.2.1
        rw [List.length_map] at z
        have q := cb5.em I5 t5 fs oy.1
        have q : xc h5 + (k2ss b n (ltb 2) 6 (xa h5)).2.2.length < 164 := q
        omega
      have ej := c_ecj (d + 80) (A := []) Y.1 (c1.tr c5) oy.2.2.2 lc8
      rw [er7, x1]
      refine Cv.mono ej (fun h12 k2 => ⟨k2.1.1, k2.1, (F5.tr Y.2.1).tr (k2.2.1.more (by decide +kernel)), Or.inl ⟨rfl, oy.1, ?_, ?_, ?_⟩⟩)
      · show ska b n (h_i h12 11 2).toNatClampNeg = _
        rw [(k2.2.1.2 11 2 (by decide +kernel)).1]
        exact oy.2.1
      · rw [(k2.2.1.2 11 3 (by decide +kernel)).1, oy.2.2.1]
        exact g5
      · have z := k2.2.2
        rw [List.length_map] at z
        exact z
    · rcases Y.2.2.n w0 with G | G
      · exact absurd G.1 (by decide)
      · exact Or.inr G
  · rcases X.2.2.n y0 with G | G
    · exact absurd G.1 (by decide)
    · have ea : k2pa b n (xa h) = k2ex b n 63 (xa h) := by
        unfold k2pa k2sq
        exact if_neg (by rw [G.2.1]; decide)
      rw [ea]
      exact Or.inr G
theorem vd_all : (List.range 256).all (fun j => decide (vdb (Int32.ofNat j) = true → ixq 3 (xch (Int32.ofNat j)) = vdv (Int32.ofNat j))) = true := by decide +kernel
theorem vd_ix {x : Int32} (b : 0 ≤ x.toInt ∧ x.toInt ≤ 255) (h : vdb x = true) : ixq 3 (xch x) = vdv x := by
  have e := of_nat32 b.1
  have k := n_nat b.1
  rw [← e] at h ⊢
  exact of_decide_eq_true (List.all_eq_true.mp vd_all _ (List.mem_range.mpr (by omega))) h
theorem c_race {b : Nat → Int32} {n : Nat} (d : Nat) {h : Hp_} (I : Iv h) (t : Tx b n 1 h) (cb : Cbx b n h) : Ci (m_X8_readActClause (d + 80 + 59) 0 0) [.ref 11] h (fun r h' => Xce b n ((k2ac b n (xa h)).1, (k2ac b n (xa h)).2.1) (clX 1 (xc h) (k2ac b n (xa h)).2.2) h r h') := by
  have U := e_units (b := b) (n := n) (s := 1) (Or.inl rfl) 6 (by omega)
  have fu : Fwe b n (k2un b n (ltb 1) 6) := Fwe.un (by decide) 6
  have C := c_rcde _ _ _ fu U
  have fc : Fwe b n (k2cd b n (k2un b n (ltb 1) 6)) := fu.cd
  have ni := xn_i I
  rw [t.2.1] at ni
  have z1 := (x1_in I).2
  refine t_X8_readActClause (d + 80) h I.1 _ (Ci.mono (C d h I t cb) (fun r3 h1 X => ⟨X.1.1, fun y0 => ⟨X.1, X.2.1, fce_n (f := k2cd b n (k2un b n (ltb 1) 6)) (g := k2av b n) X.2.2 y0⟩, fun y1 => ?_⟩))
  have cb1 : Cbx b n h1 := X.2.2.cb y1 fc cb
  have okX := X.2.2.ok y1
  have nz : ¬ (k2cd b n (k2un b n (ltb 1) 6) (xa h)).2.2.length = 0 := (Wty.cd (Wty.un 6) (xa h) okX.1).nz
  have up : ∀ (r : Int32) (h' : Hp_), Fce b n ((k2av b n (xa h1)).1, (k2av b n (xa h1)).2.1) (anX 1 (xc h1) (k2av b n (xa h1)).2.2) h1 r h' → Fce b n ((k2ac b n (xa h)).1, (k2ac b n (xa h)).2.1) (clX 1 (xc h) (k2ac b n (xa h)).2.2) h r h' := fun r h' G => fce_2 (f := k2cd b n (k2un b n (ltb 1) 6)) (g := k2av b n) (Cne.sq Cne.ex) nz X.2.2 y1 G
  refine Ci.mono (c_exe (d + 80) X.1 (X.t t) 63 (by decide)) (fun r7 h5 Y => ?_)
  have F5 : Fr wzx h h5 := X.2.1.tr Y.2.1
  refine ⟨Y.1.1, fun w1 => ?_, fun w0 => ⟨Y.1, F5, up 0 h5 ?_⟩⟩
  · have okY := Y.2.2.ok w1
    have fe := Fwe.ex (b := b) (n := n) (c := 63) (by decide) (xa h1) okY.1
    have e2 : (k2ex b n 63 (xa h1)).2.2 = [] := by
      unfold k2ex
      split <;> rfl
    have c5 : Cdx h1 h5 [] := by
      have z := okY.2.2.2
      rw [e2] at z
      exact z
    have x5 : xc h5 = xc h1 := c5.1
    have lc : xc h5 < 164 := by
      unfold Cbx at cb1
      omega
    refine Ci.mono (c_eme (d + 80) Y.1 3 0 lc) (fun r11 h9 k => ⟨k.1.1, ?_⟩)
    obtain ⟨I9, F9', er, c9⟩ := k
    have F9 : Fr wzx h h9 := F5.tr (F9'.more (by decide +kernel))
    have t9 : Tx b n 1 h9 := t.fr F9 (by decide +kernel)
    have a9 : xa h9 = xa h5 := by
      show (h_i h9 11 2).toNatClampNeg = _
      rw [(F9'.2 11 2 (by decide +kernel)).1]
    have g9 : h_i h9 11 3 = h_i h1 11 3 := ((F9'.2 11 3 (by decide +kernel)).1).trans okY.2.2.1
    have ea : k2av b n (xa h1) = k2vd b n (xa h9) := by
      unfold k2av k2sq
      rw [if_pos okY.1, ← okY.2.1, Cne.vd, e2, a9]
      rfl
    rw [ea] at up
    have fl : ∀ (h12 : Hp_) (r14 : Int32), Pk b n h9 r14 h12 → ¬ vdb r14 = true → Ci (m_X8_fail (d + 80 + 0) 0 0) [.ref 11] h12 (fun r h' => Wf h' ∧ ((r = 0 ∨ r = 1) ∧ Xce b n ((k2ac b n (xa h)).1, (k2ac b n (xa h)).2.1) (clX 1 (xc h) (k2ac b n (xa h)).2.2) h r h')) := fun h12 r14 L nv => by
      have e : k2vd b n (xa h9) = (false, ska b n (xa h9), []) := by
        unfold k2vd
        exact if_neg (by rw [← L.2.2.2]; exact nv)
      refine Ci.mono (c_fl (d + 80) L.1) (fun r2 h2 k => ⟨k.2.1.1, Or.inl k.1, k.2.1, F9.tr ((L.2.1.more (by decide +kernel)).tr (k.2.2.1.more (by decide +kernel))), up r2 h2 ?_⟩)
      rw [e]
      exact Or.inr ⟨k.1, rfl, by rw [k.2.2.2, L.2.2.1]⟩
    refine Ci.mono (c_pk (d + 80) I9 t9) (fun r14 h12 L => ⟨L.1.1, fun nm => ?_, fun em => fl h12 r14 L (by rw [em]; decide)⟩)
    have bb := L.in I9 t9 nm
    have il := (ix_let bb).2.2
    have ir := ix_rng bb (i := 3) (by decide)
    refine Ci.mono (c_ix1f (d + 80) 3 (by decide) h12 (xch r14)) (fun r18 h16 q => ?_)
    obtain ⟨er18, eh⟩ := q
    subst eh
    subst er18
    refine ⟨L.1.1, fun p => ?_, fun np => fl h16 r14 L (fun y => np (il.mpr y))⟩
    have yv := il.mp p
    obtain ⟨I6, F6, a6⟩ := nxx I9 t9 L nm
    have lsk : ska b n (xa h9) < n := skv_l (b := b) (n := n) (a := xa h9) (by rw [← L.2.2.2]; exact nm)
    have e6 : Cdx h9 _ [] := Cdx.f0 F6 (by decide +kernel)
    have x9 : xc h9 = xc h5 + 1 := c9.1
    have g9' := ska_ge (b := b) (n := n) (a := xa h9)
    have l6 : xc (h_im h16 11 2 ((h_i h16 11 2) + 1)) < 164 := by
      have z : xc (h_im h16 11 2 ((h_i h16 11 2) + 1)) = xc h9 := e6.1
      unfold Cbx at cb1
      omega
    refine Ci.mono (c_eme (d + 80) I6 0 (ixq 3 (xch r14)) l6) (fun r22 h20 k2 => ⟨k2.1.1, ?_⟩)
    obtain ⟨I20, F20, _, c20⟩ := k2
    have c20' : Cdx h9 h20 [pk4 0 (ixq 3 (xch r14))] := e6.tr c20
    have l20 : xc h20 < 164 := by
      have z : xc h20 = xc h9 + 1 := c20'.1
      unfold Cbx at cb1
      omega
    have ej := c_ecj (d + 80) (A := []) I20 (c5.tr c9) c20' l20
    have er' : r11 = Int32.ofNat (xc h1) := by rw [er, x5]
    rw [er']
    refine Cv.mono ej (fun h23 k3 => ⟨k3.1.1, k3.1, ((F9.tr (F6.more (by decide +kernel))).tr (F20.more (by decide +kernel))).tr (k3.2.1.more (by decide +kernel)), up 1 h23 ?_⟩)
    have e : k2vd b n (xa h9) = (true, ska b n (ska b n (xa h9) + 1), [(0, vdv r14)]) := by
      unfold k2vd
      rw [← L.2.2.2, if_pos yv]
    rw [e]
    have f23 : Fr [11009, 33999] _ h23 := F20.tr k3.2.1
    refine Or.inl ⟨rfl, rfl, ?_, ?_, ?_⟩
    · show ska b n (h_i h23 11 2).toNatClampNeg = _
      rw [(f23.2 11 2 (by decide +kernel)).1, ← a6]
    · rw [(f23.2 11 3 (by decide +kernel)).1, fw3 F6 (by decide +kernel)]
      exact g9
    · have z := k3.2.2
      rw [vd_ix bb yv] at z
      exact z
  · rcases Y.2.2.n w0 with G | G
    · exact absurd G.1 (by decide)
    · have ea : k2av b n (xa h1) = k2ex b n 63 (xa h1) := by
        unfold k2av k2sq
        exact if_neg (by rw [G.2.1]; decide)
      rw [ea]
      exact Or.inr G
/-! a fault lies on the tape -/
noncomputable def Fzb (b : Nat → Int32) (n : Nat) (f : Rcg) : Prop := ∀ a, a ≤ n → (f a).1 = false → (f a).2 ≤ n
theorem Fzb.ex {b : Nat → Int32} {n : Nat} {c : Int32} : Fzb b n (exr b n c) := fun a l h => by
  unfold exr at h ⊢
  by_cases q : skv b n a = c
  · rw [if_pos q] at h
    exact absurd h (by simp)
  · rw [if_neg q]
    exact ska_le l
theorem Fzb.on {b : Nat → Int32} {n : Nat} {sp : Int32 → Bool} : Fzb b n (onr b n sp) := fun a l h => by
  unfold onr at h ⊢
  by_cases q : sp (skv b n a) = true
  · rw [if_pos q] at h
    exact absurd h (by simp)
  · rw [if_neg q]
    exact ska_le l
theorem Fzb.nm {b : Nat → Int32} {n : Nat} : Fzb b n (nm0 b n) := fun a l h => by
  unfold nm0 at h ⊢
  by_cases c : dgb (skv b n a) = true
  · rw [if_pos c] at h ⊢
    by_cases d : (nml b n 4 0 (ska b n a)).1 = true
    · rw [if_pos d] at h
      exact absurd h (by simp)
    · rw [if_neg d]
      exact (nml_p (b := b) (n := n) 4 0 (ska b n a) (ska_le l)).2.1
  · rw [if_neg c]
    exact ska_le l
theorem Fzb.sq {b : Nat → Int32} {n : Nat} {f g : Rcg} (wf : ∀ a, a ≤ n → (f a).1 = true → (f a).2 ≤ n) (zf : Fzb b n f) (zg : Fzb b n g) : Fzb b n (sqr f g) := fun a l h => by
  unfold sqr at h ⊢
  by_cases c : (f a).1 = true
  · rw [if_pos c] at h ⊢
    exact zg _ (wf a l c) h
  · rw [if_neg c]
    exact zf a l (by simpa using c)
theorem Fwd.l {b : Nat → Int32} {n : Nat} {f : Rcg} (h : Fwd b n f) (a : Nat) (_ : a ≤ n) (y : (f a).1 = true) : (f a).2 ≤ n := (h a y).2.1
theorem Fzb.lp {b : Nat → Int32} {n : Nat} {sp : Int32 → Bool} {f : Rcg} (hs : sp (-1) = false) (wf : Fwd b n f) (zf : Fzb b n f) : ∀ k : Nat, Fzb b n (lpr b n sp f k)
  | 0 => fun a l h => by
    exact absurd (show (true : Bool) = false from h) (by decide)
  | k + 1 => fun a l h => by
    unfold lpr at h ⊢
    by_cases c : sp (skv b n a) = true
    · rw [if_pos c] at h ⊢
      have s1 : ska b n a < n := skv_l (fun e => by rw [e, hs] at c; exact absurd c (by decide))
      by_cases d : (f (ska b n a + 1)).1 = true
      · rw [if_pos d] at h ⊢
        exact Fzb.lp hs wf zf k _ (wf _ d).2.1 h
      · rw [if_neg d]
        exact zf _ (by omega) (by simpa using d)
    · rw [if_neg c] at h
      exact absurd h (by simp)
theorem lpr_l {b : Nat → Int32} {n : Nat} {sp : Int32 → Bool} {f : Rcg} (wf : Fwd b n f) (k a : Nat) (l : a ≤ n) (h : (lpr b n sp f k a).1 = true) : (lpr b n sp f k a).2 ≤ n := by
  have e := lpr_c (b := b) (n := n) (sp := sp) (f := f) k a
  rw [← e] at h ⊢
  exact (lpr_f wf k _ ska_i (ska_le l) h).2.1
theorem Fzb.at {b : Nat → Int32} {n : Nat} {lt : Int32 → Bool} {z : Bool} {f : Rcg} (hf : z = false → Fwd b n f ∧ Fzb b n f) : Fzb b n (atm b n lt z f) := fun a l h => by
  unfold atm at h ⊢
  by_cases c : dgb (skv b n a) = true
  · rw [if_pos c] at h ⊢
    exact Fzb.nm a l h
  · rw [if_neg c] at h ⊢
    by_cases d : skv b n a = 91
    · rw [if_pos d] at h ⊢
      have s1 : ska b n a < n := skv_l (by rw [d]; decide)
      by_cases e : z = true
      · rw [if_pos e]
        exact ska_le l
      · rw [if_neg e] at h ⊢
        have q := hf (by simpa using e)
        exact Fzb.sq q.1.l q.2 Fzb.ex _ (by omega) h
    · rw [if_neg d] at h ⊢
      exact Fzb.on a l h
theorem Fzb.tm {b : Nat → Int32} {n : Nat} {f : Rcg} (wf : Fwd b n f) (zf : Fzb b n f) : Fzb b n (trm b n f) := Fzb.sq wf.l zf (Fzb.lp (by decide) wf zf 160)
theorem Fzb.sm {b : Nat → Int32} {n : Nat} {f : Rcg} (wf : Fwd b n f) (zf : Fzb b n f) : Fzb b n (smm b n f) := Fzb.sq (trm_f wf).l (Fzb.tm wf zf) (Fzb.lp (by decide) (trm_f wf) (Fzb.tm wf zf) 160)
theorem Fzb.ss {b : Nat → Int32} {n : Nat} {lt : Int32 → Bool} (hl : lt (-1) = false) : ∀ r : Nat, Fzb b n (sms b n lt r)
  | 0 => Fzb.sm (atm_f hl (Or.inl rfl)) (Fzb.at (fun e => absurd e (by decide)))
  | r + 1 => Fzb.sm (atm_f hl (Or.inr (sms_f hl r))) (Fzb.at (fun _ => ⟨sms_f hl r, Fzb.ss hl r⟩))
theorem Fzb.cm {b : Nat → Int32} {n : Nat} {f : Rcg} (zf : Fzb b n f) : Fzb b n (cmq b n f) := fun a l h => by
  unfold cmq at h ⊢
  by_cases c : sgb (skv b n a) = true
  · rw [if_pos c] at h ⊢
    have s1 : ska b n a < n := skv_l (fun e => by rw [e] at c; exact absurd c (by decide))
    exact zf _ (by omega) h
  · rw [if_neg c]
    exact ska_le l
theorem Fzb.mu {b : Nat → Int32} {n : Nat} {u : Rcg} (wu : Fwd b n u) (zu : Fzb b n u) : Fzb b n (mun b n u) := Fzb.lp (by decide) wu zu 160
theorem Fzb.pt {b : Nat → Int32} {n : Nat} {u : Rcg} (wu : Fwd b n u) (zu : Fzb b n u) : Fzb b n (prt b n u) := Fzb.sq wu.l zu (Fzb.mu wu zu)
theorem Fzb.mp {b : Nat → Int32} {n : Nat} {u : Rcg} (wu : Fwd b n u) (zu : Fzb b n u) : Fzb b n (mpt b n u) := Fzb.sq (fun a l h => lpr_l wu 160 a l h) (Fzb.mu wu zu) (Fzb.lp (by decide) (prt_f wu) (Fzb.pt wu zu) 160)
theorem Fzb.cd {b : Nat → Int32} {n : Nat} {u : Rcg} (wu : Fwd b n u) (zu : Fzb b n u) : Fzb b n (cnd b n u) := Fzb.sq wu.l zu (Fzb.mp wu zu)
theorem Fzb.un {b : Nat → Int32} {n : Nat} {lt : Int32 → Bool} (hl : lt (-1) = false) : ∀ r : Nat, Fzb b n (unt b n lt r)
  | 0 => fun a l h => by
    unfold unt at h ⊢
    by_cases c : skv b n a = 33 ∨ skv b n a = 40
    · rw [if_pos c]
      exact ska_le l
    · rw [if_neg c] at h ⊢
      exact Fzb.sq (sms_f hl 0).l (Fzb.ss hl 0) (Fzb.cm (Fzb.ss hl 0)) a l h
  | r + 1 => fun a l h => by
    unfold unt at h ⊢
    by_cases c : skv b n a = 33
    · rw [if_pos c] at h ⊢
      have s1 : ska b n a < n := skv_l (by rw [c]; decide)
      exact Fzb.un hl r _ (by omega) h
    · rw [if_neg c] at h ⊢
      by_cases d : skv b n a = 40
      · rw [if_pos d] at h ⊢
        have s1 : ska b n a < n := skv_l (by rw [d]; decide)
        exact Fzb.sq (cnd_f (unt_f hl r)).l (Fzb.cd (unt_f hl r) (Fzb.un hl r)) Fzb.ex _ (by omega) h
      · rw [if_neg d] at h ⊢
        exact Fzb.sq (sms_f hl (r + 1)).l (Fzb.ss hl (r + 1)) (Fzb.cm (Fzb.ss hl (r + 1))) a l h
theorem Fzb.pa {b : Nat → Int32} {n : Nat} : Fzb b n (pan b n) := Fzb.sq (exr_f (by decide)).l Fzb.ex (Fzb.ss (by decide) 6)
theorem Fzb.cl {b : Nat → Int32} {n s : Nat} : Fzb b n (clq b n s) := by
  have hl : ltp (-1) = false := by decide
  unfold clq
  split
  · exact Fzb.sq (cnd_f (unt_f (by decide) 6)).l (Fzb.cd (unt_f (by decide) 6) (Fzb.un (by decide) 6)) (Fzb.sq (exr_f (by decide)).l Fzb.ex Fzb.on)
  · intro a l h
    unfold pcl_ at h ⊢
    by_cases c : skv b n a = 33 ∨ skv b n a = 40
    · rw [if_pos c] at h ⊢
      exact Fzb.sq (cnd_f (unt_f hl 6)).l (Fzb.cd (unt_f hl 6) (Fzb.un hl 6)) Fzb.pa a l h
    · rw [if_neg c] at h ⊢
      refine Fzb.sq (sms_f hl 6).l (Fzb.ss hl 6) (fun p lp hp => ?_) a l h
      by_cases d : sgb (skv b n p) = true
      · rw [if_pos d] at hp ⊢
        exact Fzb.sq (cmq_f (sms_f hl 6)).l (Fzb.cm (Fzb.ss hl 6)) (Fzb.sq (fun a l h => by
          have e := mpt_c (b := b) (n := n) (u := unt b n ltp 6) a
          rw [← e] at h ⊢
          exact (mpt_w (unt_f hl 6) _ ska_i (ska_le l) h).2.1) (Fzb.mp (unt_f hl 6) (Fzb.un hl 6)) Fzb.pa) p lp hp
      · rw [if_neg d] at hp
        exact absurd hp (by simp)
theorem fault_le {b : Nat → Int32} {n s : Nat} (hs : s = 1 ∨ s = 2) (h : (k2ru b n s 0).1 = false) : (k2ru b n s 0).2.1 ≤ n := by
  have pj := pj_ru (b := b) (n := n) hs 0
  rw [pj.1] at h
  rw [pj.2]
  exact Fzb.sq (clq_f s).l Fzb.cl (Fzb.lp (by decide) (clq_f s) Fzb.cl 160) 0 (Nat.zero_le _) h
/-! the class: clauses of pay, and whole rules, with what they put down -/
theorem c_rpce {b : Nat → Int32} {n : Nat} (d : Nat) {h : Hp_} (I : Iv h) (t : Tx b n 2 h) (cb : Cbx b n h) : Ci (m_X8_readPayClause (d + 80 + 59) 0 0) [.ref 11] h (fun r h' => Xce b n ((k2pc b n (xa h)).1, (k2pc b n (xa h)).2.1) (clX 2 (xc h) (k2pc b n (xa h)).2.2) h r h') := by
  have S0 := e_sums (b := b) (n := n) (s := 2) (Or.inr rfl) 6 (by omega)
  have S : Rxe b n 2 (k2ss b n ltp 6) (fun d h K => Ci (m_X8_readSum (d + 80 + 53) 0 0) [.ref 11, .int 0] h K) := fun d h I t cb => by
    have s6 : Ci (m_X8_readSum (d + 10 + 10 * (6 + 1) + 53) 0 0) [.ref 11, .int (Int32.ofNat (6 - 6))] h (fun q h' => Xe b n 2 (k2ss b n (ltb 2) 6 (xa h)) h q h') := S0 (d + 10) h I t cb
    rw [show d + 10 + 10 * (6 + 1) + 53 = d + 80 + 53 by omega] at s6
    exact s6
  have fs : Fwe b n (k2ss b n ltp 6) := Fwe.ss (by decide) 6
  have fu : Fwe b n (k2un b n ltp 6) := Fwe.un (by decide) 6
  have U : Rxe b n 2 (k2un b n ltp 6) (fun d h K => Ci (m_X8_readUnit (d + 80 + 55) 0 0) [.ref 11, .int 0] h K) := e_units (b := b) (n := n) (s := 2) (Or.inr rfl) 6 (by omega)
  have C := c_rcde 80 0 _ fu U
  have CM := c_rcme 80 0 _ fs S
  refine t_X8_readPayClause (d + 80) h I.1 _ (Ci.mono (c_pk (d + 80) I t) (fun r3 h1 L => ?_))
  have t1 : Tx b n 2 h1 := t.fr L.2.1 (by decide +kernel)
  have F1 : Fr wzx h h1 := L.2.1.more (by decide +kernel)
  have g3 : h_i h1 11 3 = h_i h 11 3 := fw3 L.2.1 (by decide +kernel)
  have c1 : Cdx h h1 [] := Cdx.f0 L.2.1 (by decide +kernel)
  have x1 : xc h1 = xc h := c1.1
  have cb1 : Cbx b n h1 := cb.pk L
  have e1 : k2pc b n (xa h) = k2pc b n (xa h1) := by rw [L.2.2.1, k2pc_c]
  have v1 : skv b n (xa h1) = r3 := by rw [L.2.2.1, skv_i]; exact L.2.2.2.symm
  have up : ∀ (r : Int32) (h' : Hp_), Fce b n ((k2pc b n (xa h1)).1, (k2pc b n (xa h1)).2.1) (clX 2 (xc h1) (k2pc b n (xa h1)).2.2) h1 r h' → Fce b n ((k2pc b n (xa h)).1, (k2pc b n (xa h)).2.1) (clX 2 (xc h) (k2pc b n (xa h)).2.2) h r h' := fun r h' G => by
    rw [e1, ← x1]
    exact G.b g3 c1
  have cond : (r3 = 33 ∨ r3 = 40) → Ci (m_X8_readCondition (d + 80 + 58) 0 0) [.ref 11, .int 0] h1 (fun r7 h5 => Wf h5 ∧ ((r7 = 0 → Xce b n ((k2pc b n (xa h)).1, (k2pc b n (xa h)).2.1) (clX 2 (xc h) (k2pc b n (xa h)).2.2) h 0 h5) ∧ (¬ r7 = 0 → Ci (m_X8_readPayAnswer (d + 80 + 54) 0 0) [.ref 11] h5 (fun r11 h9 => Wf h9 ∧ ((r11 = 0 → Xce b n ((k2pc b n (xa h)).1, (k2pc b n (xa h)).2.1) (clX 2 (xc h) (k2pc b n (xa h)).2.2) h 0 h9) ∧ (¬ r11 = 0 → Xce b n ((k2pc b n (xa h)).1, (k2pc b n (xa h)).2.1) (clX 2 (xc h) (k2pc b n (xa h)).2.2) h 1 h9)))))) := fun c => by
    have ea : k2pc b n (xa h1) = k2pr (k2cd b n (k2un b n ltp 6)) (k2pa b n) (xa h1) := by
      unfold k2pc
      rw [if_pos (by rw [v1]; exact c)]
    rw [ea] at up
    refine Ci.mono (C d h1 L.1 t1 cb1) (fun r7 h5 X => ⟨X.1.1, fun y0 => ⟨X.1, F1.tr X.2.1, up 0 h5 (fce_n X.2.2 y0)⟩, fun y1 => Ci.mono (c_rpae d X.1 (X.t t1) (X.2.2.cb y1 fu.cd cb1)) (fun r11 h9 Y => ?_)⟩)
    have nz : ¬ (k2cd b n (k2un b n ltp 6) (xa h1)).2.2.length = 0 := (Wty.cd (Wty.un 6) (xa h1) (X.2.2.ok y1).1).nz
    have G := fce_2 (f := k2cd b n (k2un b n ltp 6)) (g := k2pa b n) (Cne.sq Cne.ex) nz X.2.2 y1 Y.2.2
    exact ⟨Y.1.1, fun w0 => ⟨Y.1, (F1.tr X.2.1).tr Y.2.1, up 0 h9 (G.n w0)⟩, fun w1 => ⟨Y.1, (F1.tr X.2.1).tr Y.2.1, up 1 h9 (G.y w1)⟩⟩
  refine ⟨L.1.1, fun e33 => cond (Or.inl e33), fun n33 => ⟨fun n40 => ?_, fun e40 => cond (Or.inr e40)⟩⟩
  have eb : k2pc b n (xa h1) = if (k2ss b n ltp 6 (xa h1)).1 = true then (if sgb (skv b n (k2ss b n ltp 6 (xa h1)).2.1) = true then k2pr (k2p1 b n) (k2pa b n) (xa h1) else (true, (k2ss b n ltp 6 (xa h1)).2.1, ([], (k2ss b n ltp 6 (xa h1)).2.2))) else (false, (k2ss b n ltp 6 (xa h1)).2.1, ([], [])) := by
    unfold k2pc
    rw [if_neg (by rw [v1]; exact fun y => y.elim n33 n40)]
  refine Ci.mono (S d h1 L.1 t1 cb1) (fun r16 h14 X => ⟨X.1.1, fun y1 => ?_, fun y0 => ⟨X.1, F1.tr X.2.1, up 0 h14 ?_⟩⟩)
  · have ok := X.2.2.ok y1
    have t14 := X.t t1
    have F14 : Fr wzx h h14 := F1.tr X.2.1
    have cb14 : Cbx b n h14 := X.2.2.cb y1 fs cb1
    rw [eb, if_pos ok.1, ← ok.2.1, skv_i] at up
    refine Ci.mono (c_pk (d + 80) X.1 t14) (fun r20 h18 M => ⟨M.1.1, Ci.mono (c_cpx (d + 80) h18 r20) (fun r23 h21 q => ?_)⟩)
    obtain ⟨eh, q⟩ := q
    subst eh
    have t21 : Tx b n 2 h21 := t14.fr M.2.1 (by decide +kernel)
    have F21 : Fr wzx h h21 := F14.tr (M.2.1.more (by decide +kernel))
    have g21 : h_i h21 11 3 = h_i h14 11 3 := fw3 M.2.1 (by decide +kernel)
    have c21 : Cdx h14 h21 [] := Cdx.f0 M.2.1 (by decide +kernel)
    have cb21 : Cbx b n h21 := cb14.pk M
    refine ⟨M.1.1, fun q0 => ?_, fun q1 => ?_⟩
    · have ns : ¬ sgb (skv b n (xa h14)) = true := by
        rw [← M.2.2.2]
        rcases q with q | q
        · exact absurd q0 q.1
        · rw [q.2]
          decide
      rw [if_neg ns] at up
      have lc : xc h21 < 164 := by
        have z := ok.2.2.2.1
        rw [List.length_map] at z
        have q := cb1.em L.1 t1 fs ok.1
        have z2 : xc h21 = xc h14 := c21.1
        omega
      refine Cv.mono (c_ec0 (d + 80) M.1 lc) (fun h25 k => ⟨k.1.1, k.1, F21.tr (k.2.1.more (by decide +kernel)), up 1 h25 (Or.inl ⟨rfl, rfl, ?_, ?_, ?_⟩)⟩)
      · show ska b n (h_i h25 11 2).toNatClampNeg = ska b n (xa h14)
        rw [(k.2.1.2 11 2 (by decide +kernel)).1]
        show ska b n (xa h21) = _
        rw [M.i, M.2.2.1]
      · rw [(k.2.1.2 11 3 (by decide +kernel)).1, g21]
        exact ok.2.2.1
      · show Cdx h1 h25 (clX 2 (xc h1) ([], (k2ss b n ltp 6 (xa h1)).2.2))
        exact (ok.2.2.2.fr M.2.1 (by decide +kernel)).tr k.2.2
    · have ys : sgb (skv b n (xa h14)) = true := by
        rw [← M.2.2.2]
        rcases q with q | q
        · exact q.2.1
        · exact absurd q.1 q1
      rw [if_pos ys] at up
      have fcm : Fwe b n (k2cm b n (k2ss b n ltp 6)) := fs.cm
      have join : ∀ (r : Int32) (h' : Hp_), Fxe b n 2 (k2sq (k2cm b n (k2ss b n ltp 6)) (k2mp b n (k2un b n ltp 6)) (xa h21)) h21 r h' → Fxe b n 2 (k2p1 b n (xa h1)) h1 r h' := fun r h' G => by
        rw [M.2.2.1, Cne.sq Cne.cm] at G
        exact sqe2 (g := k2sq (k2cm b n (k2ss b n ltp 6)) (k2mp b n (k2un b n ltp 6))) (Cne.sq Cne.cm) X.2.2 y1 (G.b g21 c21)
      refine Ci.mono (CM d h21 M.1 t21 cb21) (fun r30 h28 Y => ⟨Y.1.1, fun w0 => ⟨Y.1, F21.tr Y.2.1, up 0 h28 (fce_n (join 0 h28 (sqen Y.2.2 w0)) rfl)⟩, fun w1 => ?_⟩)
      have okY := Y.2.2.ok w1
      have cb28 : Cbx b n h28 := Y.2.2.cb w1 fcm cb21
      refine Ci.mono (c_rmpe 80 0 _ fu U d h28 Y.1 (Y.t t21) cb28 (xa_n Y.2.2 w1 (fcm _ okY.1).2.1)) (fun r34 h32 Z => ⟨Z.1.1, fun z0 => ⟨Z.1, (F21.tr Y.2.1).tr Z.2.1, up 0 h32 (fce_n (join r34 h32 (sqe2 Cne.mp Y.2.2 w1 Z.2.2)) z0)⟩, fun z1 => ?_⟩)
      have J := join r34 h32 (sqe2 Cne.mp Y.2.2 w1 Z.2.2)
      have cb32 : Cbx b n h32 := J.cb z1 Fwe.p1 cb1
      refine Ci.mono (c_rpae d Z.1 (Z.t (Y.t t21)) cb32) (fun r38 h36 V => ?_)
      have nz : ¬ (k2p1 b n (xa h1)).2.2.length = 0 := ((Wty.ss 6).cp ((Wcp.cm (Wty.ss 6)).sw (Wsw.mp (Wty.un 6))) (xa h1) (J.ok z1).1).nz
      have G := fce_2 (f := k2p1 b n) (g := k2pa b n) (Cne.sq Cne.ex) nz J z1 V.2.2
      exact ⟨V.1.1, fun v0 => ⟨V.1, ((F21.tr Y.2.1).tr Z.2.1).tr V.2.1, up 0 h36 (G.n v0)⟩, fun v1 => ⟨V.1, ((F21.tr Y.2.1).tr Z.2.1).tr V.2.1, up 1 h36 (G.y v1)⟩⟩
  · rcases X.2.2.n y0 with G | G
    · exact absurd G.1 (by decide)
    · rw [eb, if_neg (by rw [G.2.1]; decide)]
      exact Or.inr ⟨rfl, rfl, G.2.2⟩
/-! rules -/
noncomputable def Fre (b : Nat → Int32) (n s : Nat) (T : Bool × Nat × List Cl2) (h0 : Hp_) (r : Int32) (h : Hp_) : Prop := (r = 1 ∧ T.1 = true ∧ ska b n (xa h) = T.2.1 ∧ h_i h 11 3 = h_i h0 11 3 ∧ Cdx h0 h (rlX s 0 T.2.2)) ∨ (r = 0 ∧ T.1 = false ∧ h_i h 11 3 = Int32.ofNat T.2.1)
noncomputable def Sre (b : Nat → Int32) (n s : Nat) (T : Bool × Nat × List Cl2) (g : Rcf Cl2) (h0 : Hp_) (x : Int32) (h : Hp_) : Prop := (x = 1 ∧ (∃ C : List Cl2, T = k2pre C (g (xa h)) ∧ Cdx h0 h (rlX s 0 C)) ∧ Cbx b n h ∧ h_i h 11 3 = h_i h0 11 3) ∨ (x = 0 ∧ T.1 = false ∧ h_i h 11 3 = Int32.ofNat T.2.1)
theorem sre_1 {b : Nat → Int32} {n s : Nat} {g : Rcf Cl2} {h0 : Hp_} {r : Int32} {h : Hp_} (c : Cne b n g) (a0 : xa h0 = 0) (x0 : xc h0 = 0) (F : Fce b n ((k2c b n s (xa h0)).1, (k2c b n s (xa h0)).2.1) (clX s (xc h0) (k2c b n s (xa h0)).2.2) h0 r h) : Sre b n s (k2sq (k21 (k2c b n s)) g 0) g h0 r h := by
  rw [a0, x0] at F
  rcases F with F | F
  · have y : (k21 (k2c b n s) 0).1 = true := F.2.1
    have p : ska b n (xa h) = (k21 (k2c b n s) 0).2.1 := F.2.2.1
    refine Or.inl ⟨F.1, ⟨[(k2c b n s 0).2.2], ?_, ?_⟩, ?_, F.2.2.2.1⟩
    · unfold k2sq
      rw [if_pos y, ← p, c]
      rfl
    · show Cdx h0 h (clX s 0 (k2c b n s 0).2.2 ++ [])
      rw [List.append_nil]
      exact F.2.2.2.2
    · have z := F.2.2.2.2.1
      rw [clX_l, x0] at z
      have q := Fwc.c (s := s) 0 F.2.1
      have p' : ska b n (xa h) = (k2c b n s 0).2.1 := p
      unfold Cbx
      omega
  · have e : k2sq (k21 (k2c b n s)) g 0 = k21 (k2c b n s) 0 := by
      unfold k2sq
      exact if_neg (by rw [show (k21 (k2c b n s) 0).1 = false from F.2.1]; decide)
    rw [e]
    exact Or.inr F
theorem Sre.ok {b : Nat → Int32} {n s : Nat} {T : Bool × Nat × List Cl2} {g : Rcf Cl2} {h0 : Hp_} {x : Int32} {h : Hp_} (F : Sre b n s T g h0 x h) (e : ¬ x = 0) : x = 1 ∧ (∃ C : List Cl2, T = k2pre C (g (xa h)) ∧ Cdx h0 h (rlX s 0 C)) ∧ Cbx b n h ∧ h_i h 11 3 = h_i h0 11 3 := by
  rcases F with F | F
  · exact F
  · exact absurd F.1 e
theorem Sre.n {b : Nat → Int32} {n s : Nat} {T : Bool × Nat × List Cl2} {g : Rcf Cl2} {h0 : Hp_} {x : Int32} {h : Hp_} (F : Sre b n s T g h0 x h) (e : x = 0) : Fre b n s T h0 0 h := by
  rcases F with F | F
  · rw [e] at F
    exact absurd F.1 (by decide)
  · exact Or.inr ⟨rfl, F.2⟩
theorem lre_0 {b : Nat → Int32} {n s : Nat} {T : Bool × Nat × List Cl2} {sp : Int32 → Bool} {op : Int32 → List Cl2} {f : Rcf Cl2} {h0 : Hp_} {x : Int32} {h : Hp_} (F : Sre b n s T (k2lp b n sp op f 0) h0 x h) : Fre b n s T h0 x h := by
  rcases F with ⟨e, ⟨C, e1, c⟩, _, e3⟩ | F
  · refine Or.inl ⟨e, by rw [e1]; rfl, by rw [e1]; rfl, e3, ?_⟩
    rw [e1]
    show Cdx h0 h (rlX s 0 (C ++ []))
    rw [List.append_nil]
    exact c
  · exact Or.inr F
theorem lre_x {b : Nat → Int32} {n s k : Nat} {T : Bool × Nat × List Cl2} {sp : Int32 → Bool} {op : Int32 → List Cl2} {f : Rcf Cl2} {h0 : Hp_} {x r : Int32} {h h5 : Hp_} (F : Sre b n s T (k2lp b n sp op f (k + 1)) h0 x h) (w : ¬ x = 0) (L : Pk b n h r h5) (ns : sp r = false) : Fre b n s T h0 x h5 := by
  obtain ⟨e, ⟨C, e1, c⟩, _, e3⟩ := F.ok w
  have e2 : k2lp b n sp op f (k + 1) (xa h) = (true, ska b n (xa h), []) := by
    unfold k2lp
    exact if_neg (by rw [← L.2.2.2, ns]; decide)
  rw [e2] at e1
  refine Or.inl ⟨e, by rw [e1]; rfl, by rw [e1, L.i, L.2.2.1]; rfl, by rw [(L.2.1.2 11 3 (by decide +kernel)).1]; exact e3, ?_⟩
  rw [e1]
  show Cdx h0 h5 (rlX s 0 (C ++ []))
  rw [List.append_nil]
  exact c.fr L.2.1 (by decide +kernel)
theorem lre_s {b : Nat → Int32} {n s k : Nat} {T : Bool × Nat × List Cl2} {sp : Int32 → Bool} {h0 : Hp_} {x r r9 : Int32} {h h6 h9 : Hp_} (x0 : xc h0 = 0) (F : Sre b n s T (k2lp b n sp (fun _ => []) (k21 (k2c b n s)) (k + 1)) h0 x h) (w : ¬ x = 0) (er : r = skv b n (xa h)) (ys : sp r = true) (e6 : h_i h6 11 3 = h_i h 11 3) (c6 : Cdx h h6 []) (a6 : xa h6 = ska b n (xa h) + 1) (G : Fce b n ((k2c b n s (xa h6)).1, (k2c b n s (xa h6)).2.1) (clX s (xc h6) (k2c b n s (xa h6)).2.2) h6 r9 h9) : Sre b n s T (k2lp b n sp (fun _ => []) (k21 (k2c b n s)) k) h0 r9 h9 := by
  obtain ⟨_, ⟨C, e1, c⟩, cb, e3⟩ := F.ok w
  have e2 : k2lp b n sp (fun _ => []) (k21 (k2c b n s)) (k + 1) (xa h) = if (k21 (k2c b n s) (ska b n (xa h) + 1)).1 = true then k2pre ((k21 (k2c b n s) (ska b n (xa h) + 1)).2.2 ++ []) (k2lp b n sp (fun _ => []) (k21 (k2c b n s)) k (k21 (k2c b n s) (ska b n (xa h) + 1)).2.1) else k21 (k2c b n s) (ska b n (xa h) + 1) := by
    show (if sp (skv b n (xa h)) = true then _ else _) = _
    rw [if_pos (by rw [← er]; exact ys)]
  rw [e2, List.append_nil] at e1
  have x6 : xc h6 = xc h := c6.1
  have xh : xc h = rlN C := by
    have z := c.1
    rw [rlX_l, x0, Nat.zero_add] at z
    exact z
  have gg := ska_ge (b := b) (n := n) (a := xa h6)
  rw [a6] at G
  rcases G with ⟨g1, g2, g3, g4, g5⟩ | ⟨g1, g2, g3⟩
  · have g2 : (k21 (k2c b n s) (ska b n (xa h) + 1)).1 = true := g2
    have g3 : ska b n (xa h9) = (k21 (k2c b n s) (ska b n (xa h) + 1)).2.1 := g3
    rw [if_pos g2, ← g3, Cne.lp k, k2pre_a] at e1
    refine Or.inl ⟨g1, ⟨_, e1, ?_⟩, ?_, (g4.trans e6).trans e3⟩
    · show Cdx h0 h9 (rlX s 0 (C ++ [(k2c b n s (ska b n (xa h) + 1)).2.2]))
      rw [rlX_a]
      have z := c.tr (c6.tr g5)
      rw [x6, xh] at z
      show Cdx h0 h9 (rlX s 0 C ++ (clX s (0 + rlN C) (k2c b n s (ska b n (xa h) + 1)).2.2 ++ []))
      rw [List.append_nil, Nat.zero_add]
      exact z
    · have z := g5.1
      rw [clX_l, x6] at z
      have q := Fwc.c (s := s) (ska b n (xa h) + 1) g2
      have p' : ska b n (xa h9) = (k2c b n s (ska b n (xa h) + 1)).2.1 := g3
      have g := ska_ge (b := b) (n := n) (a := ska b n (xa h) + 1)
      unfold Cbx at cb ⊢
      omega
  · have g2 : (k21 (k2c b n s) (ska b n (xa h) + 1)).1 = false := g2
    rw [if_neg (by rw [g2]; decide)] at e1
    refine Or.inr ⟨g1, by rw [e1]; exact g2, ?_⟩
    rw [e1]
    exact g3
/-- the code of a rule stands in the reader -/
noncomputable def Crx (s : Nat) (C : List Cl2) (h : Hp_) : Prop := xc h = rlN C ∧ ∀ i v, (rlX s 0 C)[i]? = some v → h_i h 33 i = v
theorem c_rre {b : Nat → Int32} {n : Nat} (s : Nat) (hs : s = 1 ∨ s = 2) (d : Nat) {h : Hp_} (I : Iv h) (hb : h_i h 31 = b) (hn : xn h = n) (x1 : Int32) (hx : (x1 = 0 ∧ s = 2) ∨ (¬ x1 = 0 ∧ s = 1)) : Ci (m_X8_readRule (d + 80 + 60) 0 0) [.ref 11, .int x1] h (fun r h' => r = h_i h' 11 3 ∧ Iv h' ∧ Fr wzr h h' ∧ h_i h' 11 3 = enq b n (ruq b n (clq b n s)) ∧ (h_i h' 11 3 = -1 → (k2ru b n s 0).1 = true ∧ Crx s (k2ru b n s 0).2.2 h')) := by
  have pj := pj_ru (b := b) (n := n) hs 0
  have cl : ∀ (d : Nat) (h : Hp_), Iv h → Tx b n s h → Cbx b n h → (x1 = 0 → Ci (m_X8_readPayClause (d + 80 + 59) 0 0) [.ref 11] h (fun r h' => Xce b n ((k2c b n s (xa h)).1, (k2c b n s (xa h)).2.1) (clX s (xc h) (k2c b n s (xa h)).2.2) h r h')) ∧ (¬ x1 = 0 → Ci (m_X8_readActClause (d + 80 + 59) 0 0) [.ref 11] h (fun r h' => Xce b n ((k2c b n s (xa h)).1, (k2c b n s (xa h)).2.1) (clX s (xc h) (k2c b n s (xa h)).2.2) h r h')) := fun d h I t cb => by
    rcases hx with u | u
    · obtain ⟨u, v⟩ := u
      subst v
      exact ⟨fun _ => c_rpce d I t cb, fun y => absurd u y⟩
    · obtain ⟨u, v⟩ := u
      subst v
      exact ⟨fun y => absurd y u, fun _ => c_race d I t cb⟩
  have body : ∀ h0, Iv h0 → Fr wzr h h0 → Tx b n s h0 → xa h0 = 0 → xc h0 = 0 → h_i h0 11 3 = -1 → ∀ (k : Nat) (x2 x3 : Int32) (h2 : Hp_), x3.toInt + k = 160 → Iv h2 → Fr wzx h0 h2 → Sre b n s (k2ru b n s 0) (k2lp b n (isq 59) (fun _ => []) (k21 (k2c b n s)) k) h0 x2 h2 → AW (m_X8_readRule (d + 80 + 60) 0 0) 0 0 33 [(0, .ref 11), (1, .int x1), (2, .int x2), (3, .int x3)] [] h2 (kI (fun r h' => r = h_i h' 11 3 ∧ Iv h' ∧ Fr wzr h h' ∧ h_i h' 11 3 = enq b n (ruq b n (clq b n s)) ∧ (h_i h' 11 3 = -1 → (k2ru b n s 0).1 = true ∧ Crx s (k2ru b n s 0).2.2 h'))) := by
    intro h0 I0 F0 t0 a0 x0 w0
    have n160 : n ≤ 160 := by
      have a := xn_i I0
      rw [t0.2.1] at a
      have c := (x1_in I0).2
      omega
    have fin0 : ∀ h3, Iv h3 → Fr wzx h0 h3 → Fre b n s (k2ru b n s 0) h0 0 h3 → (h_i h3 11 3 = h_i h3 11 3 ∧ Iv h3 ∧ Fr wzr h h3 ∧ h_i h3 11 3 = enq b n (ruq b n (clq b n s)) ∧ (h_i h3 11 3 = -1 → (k2ru b n s 0).1 = true ∧ Crx s (k2ru b n s 0).2.2 h3)) := fun h3 I3 F3 G => by
      rcases G with G | G
      · exact absurd G.1 (by decide)
      · have e : h_i h3 11 3 = enq b n (ruq b n (clq b n s)) := by
          unfold enq
          rw [if_neg (by rw [← pj.1, G.2.1]; decide), ← pj.2]
          exact G.2.2
        refine ⟨rfl, I3, F0.tr (F3.more (by decide +kernel)), e, fun y => ?_⟩
        have p160 : (k2ru b n s 0).2.1 ≤ 160 := by
          have q := fault_le (b := b) (n := n) hs G.2.1
          omega
        exact absurd (G.2.2.symm.trans y) (on_mm p160)
    have fin1 : ∀ h3 x, Iv h3 → Fr wzx h0 h3 → ¬ x = 0 → Fre b n s (k2ru b n s 0) h0 x h3 → Ci (m_X8_peek (d + 80 + 0) 0 0) [.ref 11] h3 (fun r26 h24 => Wf h24 ∧ ((r26 = (-1) → (h_i h24 11 3 = h_i h24 11 3 ∧ Iv h24 ∧ Fr wzr h h24 ∧ h_i h24 11 3 = enq b n (ruq b n (clq b n s)) ∧ (h_i h24 11 3 = -1 → (k2ru b n s 0).1 = true ∧ Crx s (k2ru b n s 0).2.2 h24))) ∧ (¬ r26 = (-1) → Ci (m_X8_fail (d + 80 + 0) 0 0) [.ref 11] h24 (fun r30 h28 => Wf h28 ∧ (h_i h28 11 3 = h_i h28 11 3 ∧ Iv h28 ∧ Fr wzr h h28 ∧ h_i h28 11 3 = enq b n (ruq b n (clq b n s)) ∧ (h_i h28 11 3 = -1 → (k2ru b n s 0).1 = true ∧ Crx s (k2ru b n s 0).2.2 h28)))))) := fun h3 x I3 F3 nx G => by
      have ok : (k2ru b n s 0).1 = true ∧ ska b n (xa h3) = (k2ru b n s 0).2.1 ∧ h_i h3 11 3 = h_i h0 11 3 ∧ Cdx h0 h3 (rlX s 0 (k2ru b n s 0).2.2) := by
        rcases G with G | G
        · exact G.2
        · exact absurd G.1 nx
      have t3 : Tx b n s h3 := t0.fr F3 (by decide +kernel)
      have y1 : (ruq b n (clq b n s) 0).1 = true := by rw [← pj.1]; exact ok.1
      have y2 : ska b n (xa h3) = (ruq b n (clq b n s) 0).2 := by rw [← pj.2]; exact ok.2.1
      refine Ci.mono (c_pk (d + 80) I3 t3) (fun r h5 L => ⟨L.1.1, fun em => ⟨rfl, L.1, F0.tr ((F3.tr (L.2.1.more (by decide +kernel))).more (by decide +kernel)), ?_, fun _ => ⟨ok.1, ?_⟩⟩, fun nm => Ci.mono (c_fl (d + 80) L.1) (fun r2 h6 k => ⟨k.2.1.1, rfl, k.2.1, F0.tr ((F3.tr ((L.2.1.more (by decide +kernel)).tr (k.2.2.1.more (by decide +kernel)))).more (by decide +kernel)), ?_, fun y => ?_⟩)⟩)
      · have nl := ska_0 (L.2.2.2.symm.trans em) (fun k _ => b_nm I0 t0 k)
        unfold enq
        rw [if_pos y1, ← y2, if_neg nl, fw3 L.2.1 (by decide +kernel), ok.2.2.1]
        exact w0
      · have z := ok.2.2.2.fr L.2.1 (by decide +kernel)
        have z1 := z.1
        rw [rlX_l, x0, Nat.zero_add] at z1
        refine ⟨z1, fun i v e => ?_⟩
        have q := z.2.2 i v e
        rw [x0, Nat.zero_add] at q
        exact q
      · have l := skv_l (by rw [← L.2.2.2]; exact nm)
        unfold enq
        rw [if_pos y1, ← y2, if_pos l, k.2.2.2, L.2.2.1]
      · have l : ska b n (xa h3) < n := skv_l (by rw [← L.2.2.2]; exact nm)
        rw [k.2.2.2, L.2.2.1] at y
        exact absurd y (on_mm (by omega))
    intro k
    induction k with
    | zero =>
      intro x2 x3 h2 m I2 F2 S
      refine t_X8_readRule_33 (d + 80) h2 I2.1 x1 x2 x3 _ ⟨fun _ => ⟨fun y0 => fin0 h2 I2 F2 (S.n y0), fun y1 => fin1 h2 x2 I2 F2 y1 (lre_0 S)⟩, fun z => absurd ((x160 m).1 rfl) z⟩
    | succ k ih =>
      intro x2 x3 h2 m I2 F2 S
      have t2 : Tx b n s h2 := t0.fr F2 (by decide +kernel)
      refine t_X8_readRule_33 (d + 80) h2 I2.1 x1 x2 x3 _ ⟨fun z => absurd z ((x160 m).2 (by omega)), fun _ => ⟨fun y0 => ⟨fun _ => fin0 h2 I2 F2 (S.n y0), fun y1 => absurd y0 y1⟩, fun y1 => Ci.mono (c_pk (d + 80) I2 t2) (fun r h5 L => ⟨L.1.1, fun nr => ⟨fun y0 => absurd y0 y1, fun _ => fin1 h5 x2 L.1 (F2.tr (L.2.1.more (by decide +kernel))) y1 (lre_x S y1 L (decide_eq_false nr))⟩, fun er => ?_⟩)⟩⟩
      obtain ⟨I6, F6, a6⟩ := nxx I2 t2 L (by rw [er]; decide)
      have C := cl d _ I6 (t2.fr F6 (by decide +kernel)) ((S.ok y1).2.2.1.nx F6 a6)
      have go : ∀ r15 h13, Xce b n ((k2c b n s (xa (h_im h5 11 2 ((h_i h5 11 2) + 1)))).1, (k2c b n s (xa (h_im h5 11 2 ((h_i h5 11 2) + 1)))).2.1) (clX s (xc (h_im h5 11 2 ((h_i h5 11 2) + 1))) (k2c b n s (xa (h_im h5 11 2 ((h_i h5 11 2) + 1)))).2.2) (h_im h5 11 2 ((h_i h5 11 2) + 1)) r15 h13 → Wf h13 ∧ AW (m_X8_readRule (d + 80 + 60) 0 0) 0 0 33 [(0, .ref 11), (1, .int x1), (2, .int r15), (3, .int (x3 + 1))] [] h13 (kI (fun r h' => r = h_i h' 11 3 ∧ Iv h' ∧ Fr wzr h h' ∧ h_i h' 11 3 = enq b n (ruq b n (clq b n s)) ∧ (h_i h' 11 3 = -1 → (k2ru b n s 0).1 = true ∧ Crx s (k2ru b n s 0).2.2 h'))) := fun r15 h13 X => ⟨X.1.1, ih r15 (x3 + 1) h13 (x161 m) X.1 (F2.tr ((F6.more (by decide +kernel)).tr X.2.1)) (lre_s x0 S y1 L.2.2.2 (decide_eq_true er) (fw3 F6 (by decide +kernel)) (Cdx.f0 F6 (by decide +kernel)) a6 X.2.2)⟩
      exact ⟨fun y => Ci.mono (C.1 y) go, fun y => Ci.mono (C.2 y) go⟩
  have st : ∀ i, i = s → Cv (m_X8_restart (d + 80 + 0) 0 0) [.ref 11, .ref (1000 + i)] h (fun h2 => Wf h2 ∧ ((x1 = 0 → Ci (m_X8_readPayClause (d + 80 + 59) 0 0) [.ref 11] h2 (fun r8 h6 => Wf h6 ∧ (AW (m_X8_readRule (d + 80 + 60) 0 0) 0 0 33 [(0, .ref 11), (1, .int x1), (2, .int r8), (3, .int 0)] [] h6 (kI (fun r h' => r = h_i h' 11 3 ∧ Iv h' ∧ Fr wzr h h' ∧ h_i h' 11 3 = enq b n (ruq b n (clq b n s)) ∧ (h_i h' 11 3 = -1 → (k2ru b n s 0).1 = true ∧ Crx s (k2ru b n s 0).2.2 h')))))) ∧ (¬ x1 = 0 → Ci (m_X8_readActClause (d + 80 + 59) 0 0) [.ref 11] h2 (fun r11 h9 => Wf h9 ∧ (AW (m_X8_readRule (d + 80 + 60) 0 0) 0 0 33 [(0, .ref 11), (1, .int x1), (2, .int r11), (3, .int 0)] [] h9 (kI (fun r h' => r = h_i h' 11 3 ∧ Iv h' ∧ Fr wzr h h' ∧ h_i h' 11 3 = enq b n (ruq b n (clq b n s)) ∧ (h_i h' 11 3 = -1 → (k2ru b n s 0).1 = true ∧ Crx s (k2ru b n s 0).2.2 h')))))))) := fun i ei => by
    subst ei
    refine Cv.mono (c_rst (d + 80) I i (by omega)) (fun h2 k => ?_)
    have t2 : Tx b n i h2 := ⟨(funext (fun j => fr_i k.2.1 (by decide +kernel) j)).trans hb, by show (h_i h2 11 1).toNatClampNeg = n; rw [(k.2.1.2 11 1 (by decide +kernel)).1]; exact hn, k.2.2.2.2.1⟩
    have a2 : xa h2 = 0 := by
      show (h_i h2 11 2).toNatClampNeg = 0
      rw [k.2.2.1]
      rfl
    have x2 : xc h2 = 0 := by
      show (h_i h2 11 9).toNatClampNeg = 0
      rw [k.2.2.2.2.2.2.2]
      rfl
    have F2 : Fr wzr h h2 := k.2.1.more (by decide +kernel)
    have C := cl d h2 k.1 t2 (by unfold Cbx; omega)
    have go : ∀ r8 h6, Xce b n ((k2c b n i (xa h2)).1, (k2c b n i (xa h2)).2.1) (clX i (xc h2) (k2c b n i (xa h2)).2.2) h2 r8 h6 → Wf h6 ∧ AW (m_X8_readRule (d + 80 + 60) 0 0) 0 0 33 [(0, .ref 11), (1, .int x1), (2, .int r8), (3, .int 0)] [] h6 (kI (fun r h' => r = h_i h' 11 3 ∧ Iv h' ∧ Fr wzr h h' ∧ h_i h' 11 3 = enq b n (ruq b n (clq b n i)) ∧ (h_i h' 11 3 = -1 → (k2ru b n i 0).1 = true ∧ Crx i (k2ru b n i 0).2.2 h'))) := fun r8 h6 X => ⟨X.1.1, body h2 k.1 F2 t2 a2 x2 k.2.2.2.1 160 r8 0 h6 (by decide) X.1 X.2.1 (sre_1 (Cne.lp 160) a2 x2 X.2.2)⟩
    exact ⟨k.1.1, fun y => Ci.mono (C.1 y) go, fun y => Ci.mono (C.2 y) go⟩
  refine t_X8_readRule (d + 80) h I.1 x1 _ ⟨fun y => ?_, fun y => ?_⟩
  · refine st 2 ?_
    rcases hx with u | u
    · exact u.2.symm
    · exact absurd y u.1
  · refine st 1 ?_
    rcases hx with u | u
    · exact absurd u.1 y
    · exact u.2.symm
end
section
/-! the reference's reader, with what it puts down -/
noncomputable def opm (o : Int32) : Int32 := if o = 2 then 33 else if o = 5 then 43 else if o = 6 then 45 else if o = 7 then 42 else if o = 8 then 61 else if o = 9 then 60 else if o = 10 then 62 else if o = 11 then 38 else 124
noncomputable def tkm (t : Tk2) : List Int32 := if t.1 = 0 then [0, t.2] else if t.1 = 1 then [1, t.2] else [opm t.1]
theorem fm_1 (E : List Tk2) (t : Tk2) : (E ++ [t]).flatMap tkm = E.flatMap tkm ++ tkm t := by
  rw [List.flatMap_append]
  simp
theorem fm_a (E F : List Tk2) : (E ++ F).flatMap tkm = E.flatMap tkm ++ F.flatMap tkm := List.flatMap_append
noncomputable def Cdm (h0 h : Hp_) (E : List Int32) : Prop := sN h = sN h0 + E.length ∧ (∀ k, k < sN h0 → h_i h 226 k = h_i h0 226 k) ∧ ∀ i v, E[i]? = some v → h_i h 226 (sN h0 + i) = v
theorem Cdm.rf (h : Hp_) : Cdm h h [] := ⟨rfl, fun _ _ => rfl, fun i v e => by cases e⟩
theorem Cdm.tr {h0 h1 h2 : Hp_} {E F : List Int32} (a : Cdm h0 h1 E) (c : Cdm h1 h2 F) : Cdm h0 h2 (E ++ F) := by
  refine ⟨by rw [c.1, a.1, List.length_append]; omega, fun k hk => (c.2.1 k (by rw [a.1]; omega)).trans (a.2.1 k hk), fun i v e => ?_⟩
  by_cases l : i < E.length
  · rw [List.getElem?_append_left l] at e
    rw [c.2.1 _ (by rw [a.1]; omega)]
    exact a.2.2 i v e
  · rw [List.getElem?_append_right (by omega)] at e
    have z := c.2.2 _ v e
    rw [a.1, show sN h0 + E.length + (i - E.length) = sN h0 + i by omega] at z
    exact z
theorem Cdm.fr {h0 h h' : Hp_} {E : List Int32} {ws : List Nat} (a : Cdm h0 h E) (f : Fr ws h h') (o : (off ws 226 && !inw ws 1 36) = true) : Cdm h0 h' E := by
  rw [Bool.and_eq_true, Bool.not_eq_true'] at o
  refine ⟨?_, fun k hk => (fr_i f o.1 k).trans (a.2.1 k hk), fun i v e => (fr_i f o.1 _).trans (a.2.2 i v e)⟩
  show (h_i h' 1 36).toNatClampNeg = _
  rw [(f.2 1 36 o.2).1]
  exact a.1
theorem Cdm.f0 {h h' : Hp_} {ws : List Nat} (f : Fr ws h h') (o : (off ws 226 && !inw ws 1 36) = true) : Cdm h h' [] := (Cdm.rf h).fr f o
theorem Cdm.say {h h' : Hp_} {x : Int32} (I : Iv h) (S : Iv h' ∧ Fr [1036, 226999] h h' ∧ (h_i h' 1 36).toInt = (h_i h 1 36).toInt + 1 ∧ h_i h' 226 (h_i h 1 36).toNatClampNeg = x ∧ ∀ k, k ≠ (h_i h 1 36).toNatClampNeg → h_i h' 226 k = h_i h 226 k) : Cdm h h' [x] := by
  have n0 := sN_i I
  have n1 := sN_i S.1
  have e : ps h' = ps h + 1 := S.2.2.1
  refine ⟨by show sN h' = sN h + 1; omega, fun k hk => S.2.2.2.2 k (by show k ≠ sN h; omega), fun i v e => ?_⟩
  cases i with
  | zero =>
    have e : some x = some v := e
    rw [← Option.some.inj e]
    exact S.2.2.2.1
  | succ i => cases e
noncomputable def Fte (b : Nat → Int32) (n : Nat) (T : Bool × Nat × List Tk2) (h0 h : Hp_) : Prop := (h_i h 1 34 = -1 ∧ T.1 = true ∧ ska b n (ta h) = T.2.1 ∧ Cdm h0 h (T.2.2.flatMap tkm)) ∨ (¬ h_i h 1 34 = -1 ∧ T.1 = false ∧ h_i h 1 34 = Int32.ofNat T.2.1)
theorem Fte.fr {b : Nat → Int32} {n : Nat} {T : Bool × Nat × List Tk2} {ws : List Nat} {h0 h h' : Hp_} (F : Fte b n T h0 h) (f : Fr ws h h') (o : (!inw ws 1 34 && !inw ws 1 33) = true) (o2 : (off ws 226 && !inw ws 1 36) = true) : Fte b n T h0 h' := by
  rw [Bool.and_eq_true, Bool.not_eq_true', Bool.not_eq_true'] at o
  have e4 : h_i h' 1 34 = h_i h 1 34 := (f.2 1 34 o.1).1
  have e3 : ta h' = ta h := by
    show (h_i h' 1 33).toNatClampNeg = _
    rw [(f.2 1 33 o.2).1]
  rcases F with F | F
  · exact Or.inl ⟨by rw [e4]; exact F.1, F.2.1, by rw [e3]; exact F.2.2.1, F.2.2.2.fr f o2⟩
  · exact Or.inr ⟨by rw [e4]; exact F.1, F.2.1, by rw [e4]; exact F.2.2⟩
theorem Fte.ok {b : Nat → Int32} {n : Nat} {T : Bool × Nat × List Tk2} {h0 h : Hp_} (F : Fte b n T h0 h) (w : h_i h 1 34 = -1) : T.1 = true ∧ ska b n (ta h) = T.2.1 ∧ Cdm h0 h (T.2.2.flatMap tkm) := by
  rcases F with F | F
  · exact F.2
  · exact absurd w F.1
theorem Fte.no {b : Nat → Int32} {n : Nat} {T : Bool × Nat × List Tk2} {h0 h : Hp_} (F : Fte b n T h0 h) (w : ¬ h_i h 1 34 = -1) : T.1 = false ∧ h_i h 1 34 = Int32.ofNat T.2.1 := by
  rcases F with F | F
  · exact absurd F.1 w
  · exact F.2
theorem Fte.wr {b : Nat → Int32} {n : Nat} {T : Bool × Nat × List Tk2} {h0 h1 h h' : Hp_} (F : Fte b n T h0 h) (w : ¬ h_i h 1 34 = -1) (e : h_i h' 1 34 = h_i h 1 34) : Fte b n T h1 h' := Or.inr ⟨by rw [e]; exact w, (F.no w).1, by rw [e]; exact (F.no w).2⟩
theorem Fte.b {b : Nat → Int32} {n : Nat} {T : Bool × Nat × List Tk2} {h0 h1 h : Hp_} (F : Fte b n T h0 h) (c : Cdm h1 h0 []) : Fte b n T h1 h := by
  rcases F with F | F
  · exact Or.inl ⟨F.1, F.2.1, F.2.2.1, c.tr F.2.2.2⟩
  · exact Or.inr F
theorem Fte.lk {b : Nat → Int32} {n : Nat} {T : Bool × Nat × List Tk2} {h0 h h' : Hp_} {r : Int32} (F : Fte b n T h0 h) (L : Lkf b n h r h') : Fte b n T h0 h' := by
  have e4 : h_i h' 1 34 = h_i h 1 34 := (L.1.2.1.2 1 34 (by decide +kernel)).1
  rcases F with F | F
  · exact Or.inl ⟨by rw [e4]; exact F.1, F.2.1, by rw [L.i, L.2.1]; exact F.2.2.1, F.2.2.2.fr L.1.2.1 (by decide +kernel)⟩
  · exact Or.inr ⟨by rw [e4]; exact F.1, F.2.1, by rw [e4]; exact F.2.2⟩
/-- a token of one sign more -/
theorem Fte.sy {b : Nat → Int32} {n : Nat} {T : Bool × Nat × List Tk2} {h0 h h' : Hp_} {x : Int32} (F : Fte b n T h0 h) (I : Iv h) (S : Iv h' ∧ Fr [1036, 226999] h h' ∧ (h_i h' 1 36).toInt = (h_i h 1 36).toInt + 1 ∧ h_i h' 226 (h_i h 1 36).toNatClampNeg = x ∧ ∀ k, k ≠ (h_i h 1 36).toNatClampNeg → h_i h' 226 k = h_i h 226 k) (t : Tk2) (e : tkm t = [x]) : Fte b n (k2app T [t]) h0 h' := by
  have e4 : h_i h' 1 34 = h_i h 1 34 := (S.2.1.2 1 34 (by decide +kernel)).1
  have e3 : ta h' = ta h := by
    show (h_i h' 1 33).toNatClampNeg = _
    rw [(S.2.1.2 1 33 (by decide +kernel)).1]
  rcases F with F | F
  · refine Or.inl ⟨by rw [e4]; exact F.1, F.2.1, by rw [e3]; exact F.2.2.1, ?_⟩
    show Cdm h0 h' ((T.2.2 ++ [t]).flatMap tkm)
    rw [fm_1, e]
    exact F.2.2.2.tr (Cdm.say I S)
  · exact Or.inr ⟨by rw [e4]; exact F.1, F.2.1, by rw [e4]; exact F.2.2⟩
/-- a token of two numbers more -/
theorem Fte.sz {b : Nat → Int32} {n : Nat} {T : Bool × Nat × List Tk2} {h0 h h1 h' : Hp_} {x y : Int32} (F : Fte b n T h0 h) (I : Iv h) (S : Iv h1 ∧ Fr [1036, 226999] h h1 ∧ (h_i h1 1 36).toInt = (h_i h 1 36).toInt + 1 ∧ h_i h1 226 (h_i h 1 36).toNatClampNeg = x ∧ ∀ k, k ≠ (h_i h 1 36).toNatClampNeg → h_i h1 226 k = h_i h 226 k) (S' : Iv h' ∧ Fr [1036, 226999] h1 h' ∧ (h_i h' 1 36).toInt = (h_i h1 1 36).toInt + 1 ∧ h_i h' 226 (h_i h1 1 36).toNatClampNeg = y ∧ ∀ k, k ≠ (h_i h1 1 36).toNatClampNeg → h_i h' 226 k = h_i h1 226 k) (t : Tk2) (e : T.1 = true → tkm t = [x, y]) : Fte b n (k2app T [t]) h0 h' := by
  have f := S.2.1.tr S'.2.1
  have e4 : h_i h' 1 34 = h_i h 1 34 := (f.2 1 34 (by decide +kernel)).1
  have e3 : ta h' = ta h := by
    show (h_i h' 1 33).toNatClampNeg = _
    rw [(f.2 1 33 (by decide +kernel)).1]
  rcases F with F | F
  · refine Or.inl ⟨by rw [e4]; exact F.1, F.2.1, by rw [e3]; exact F.2.2.1, ?_⟩
    show Cdm h0 h' ((T.2.2 ++ [t]).flatMap tkm)
    rw [fm_1, e F.2.1]
    exact F.2.2.2.tr ((Cdm.say I S).tr (Cdm.say S.1 S'))
  · exact Or.inr ⟨by rw [e4]; exact F.1, F.2.1, by rw [e4]; exact F.2.2⟩
noncomputable def Rdg (b : Nat → Int32) (n s : Nat) (D : Int) (S : Rce) (C : Nat → Hp_ → (Hp_ → Prop) → Prop) : Prop := ∀ (d : Nat) (h : Hp_), Iv h → Pq h → pd h = D → h_i h 1 37 = Int32.ofNat s → Tp b n h → C d h (fun h' => Pe s h h' ∧ Fte b n (S (ta h)) h h')
noncomputable def Sfe (b : Nat → Int32) (n : Nat) (T : Bool × Nat × List Tk2) (g : Rce) (h0 h : Hp_) : Prop := (h_i h 1 34 = -1 → ∃ E : List Tk2, T = k2pre E (g (ta h)) ∧ Cdm h0 h (E.flatMap tkm)) ∧ (¬ h_i h 1 34 = -1 → Fte b n T h0 h)
theorem Sfe.lk {b : Nat → Int32} {n : Nat} {T : Bool × Nat × List Tk2} {g : Rce} {h0 h h' : Hp_} {r : Int32} (F : Sfe b n T g h0 h) (c : Cne b n g) (L : Lkf b n h r h') : Sfe b n T g h0 h' := by
  have e4 : h_i h' 1 34 = h_i h 1 34 := (L.1.2.1.2 1 34 (by decide +kernel)).1
  refine ⟨fun w => ?_, fun w => ?_⟩
  · rw [e4] at w
    obtain ⟨E, e, k⟩ := F.1 w
    exact ⟨E, by rw [L.2.1, c]; exact e, k.fr L.1.2.1 (by decide +kernel)⟩
  · rw [e4] at w
    exact (F.2 w).lk L
theorem sqg {b : Nat → Int32} {n : Nat} {f g : Rce} {a : Nat} {h0 h : Hp_} (c : Cne b n g) (F : Fte b n (f a) h0 h) : Sfe b n (k2sq f g a) g h0 h := by
  refine ⟨fun w => ?_, fun w => ?_⟩
  · have k := F.ok w
    refine ⟨(f a).2.2, ?_, k.2.2⟩
    unfold k2sq
    rw [if_pos k.1, ← k.2.1, c]
  · have k := F.no w
    have e : k2sq f g a = f a := by
      unfold k2sq
      exact if_neg (by rw [k.1]; decide)
    rw [e]
    exact F
theorem Sfe.ft {b : Nat → Int32} {n : Nat} {T : Bool × Nat × List Tk2} {g : Rce} {h0 h h2 : Hp_} (F : Sfe b n T g h0 h) (w : h_i h 1 34 = -1) (G : Fte b n (g (ta h)) h h2) : Fte b n T h0 h2 := by
  obtain ⟨E, e, k⟩ := F.1 w
  rw [e]
  rcases G with G | G
  · refine Or.inl ⟨G.1, G.2.1, G.2.2.1, ?_⟩
    show Cdm h0 h2 ((E ++ (g (ta h)).2.2).flatMap tkm)
    rw [fm_a]
    exact k.tr G.2.2.2
  · exact Or.inr G
theorem Sfe.sq {b : Nat → Int32} {n : Nat} {T : Bool × Nat × List Tk2} {f g : Rce} {h0 h h2 : Hp_} (F : Sfe b n T (k2sq f g) h0 h) (w : h_i h 1 34 = -1) (c : Cne b n g) (G : Fte b n (f (ta h)) h h2) : Sfe b n T g h0 h2 := by
  obtain ⟨E, e, k⟩ := F.1 w
  have z := sqg (f := f) c G
  refine ⟨fun w2 => ?_, fun w2 => ?_⟩
  · obtain ⟨E2, e2, k2⟩ := z.1 w2
    exact ⟨E ++ E2, by rw [e, e2, k2pre_a], by rw [fm_a]; exact k.tr k2⟩
  · have q := (z.2 w2).no w2
    rw [e]
    exact Or.inr ⟨w2, q.1, q.2⟩
theorem lp0e {b : Nat → Int32} {n : Nat} {T : Bool × Nat × List Tk2} {sp : Int32 → Bool} {op : Int32 → List Tk2} {f : Rce} {h0 h h5 : Hp_} {r : Int32} (F : Sfe b n T (k2lp b n sp op f 0) h0 h) (w : h_i h 1 34 = -1) (L : Lkf b n h r h5) : Fte b n T h0 h5 := by
  have e4 : h_i h5 1 34 = h_i h 1 34 := (L.1.2.1.2 1 34 (by decide +kernel)).1
  obtain ⟨E, e, k⟩ := F.1 w
  rw [e]
  refine Or.inl ⟨by rw [e4]; exact w, rfl, by rw [L.i, L.2.1]; rfl, ?_⟩
  show Cdm h0 h5 ((E ++ []).flatMap tkm)
  rw [List.append_nil]
  exact k.fr L.1.2.1 (by decide +kernel)
theorem lpxe {b : Nat → Int32} {n k : Nat} {T : Bool × Nat × List Tk2} {sp : Int32 → Bool} {op : Int32 → List Tk2} {f : Rce} {h0 h h5 : Hp_} {r : Int32} (F : Sfe b n T (k2lp b n sp op f (k + 1)) h0 h) (w : h_i h 1 34 = -1) (L : Lkf b n h r h5) (ns : sp r = false) : Fte b n T h0 h5 := by
  have e4 : h_i h5 1 34 = h_i h 1 34 := (L.1.2.1.2 1 34 (by decide +kernel)).1
  obtain ⟨E, e, c⟩ := F.1 w
  have e2 : k2lp b n sp op f (k + 1) (ta h) = (true, ska b n (ta h), []) := by
    unfold k2lp
    exact if_neg (by rw [← L.2.2, ns]; decide)
  rw [e, e2]
  refine Or.inl ⟨by rw [e4]; exact w, rfl, by rw [L.i, L.2.1]; rfl, ?_⟩
  show Cdm h0 h5 ((E ++ []).flatMap tkm)
  rw [List.append_nil]
  exact c.fr L.1.2.1 (by decide +kernel)
theorem lpse {b : Nat → Int32} {n k : Nat} {T : Bool × Nat × List Tk2} {sp : Int32 → Bool} {op : Int32 → List Tk2} {f : Rce} {h0 h h6 h9 : Hp_} {r : Int32} (F : Sfe b n T (k2lp b n sp op f (k + 1)) h0 h) (w : h_i h 1 34 = -1) (er : r = skv b n (ta h)) (ys : sp r = true) (c6 : Cdm h h6 []) (G : Fte b n (k2app (f (ska b n (ta h) + 1)) (op r)) h6 h9) : Sfe b n T (k2lp b n sp op f k) h0 h9 := by
  obtain ⟨E, e, c⟩ := F.1 w
  have e2 : k2lp b n sp op f (k + 1) (ta h) = if (f (ska b n (ta h) + 1)).1 = true then k2pre ((f (ska b n (ta h) + 1)).2.2 ++ op r) (k2lp b n sp op f k (f (ska b n (ta h) + 1)).2.1) else f (ska b n (ta h) + 1) := by
    rw [er]
    show (if sp (skv b n (ta h)) = true then _ else _) = _
    rw [if_pos (by rw [← er]; exact ys)]
  rw [e2] at e
  rcases G with ⟨g1, g2, g3, g4⟩ | ⟨g1, g2, g3⟩
  · have g2 : (f (ska b n (ta h) + 1)).1 = true := g2
    have g3 : ska b n (ta h9) = (f (ska b n (ta h) + 1)).2.1 := g3
    rw [if_pos g2, ← g3, Cne.lp k, k2pre_a] at e
    refine ⟨fun _ => ⟨_, e, ?_⟩, fun y => absurd g1 y⟩
    rw [fm_a]
    exact c.tr (c6.tr g4)
  · have g2 : (f (ska b n (ta h) + 1)).1 = false := g2
    rw [if_neg (by rw [g2]; decide)] at e
    refine ⟨fun y => absurd y g1, fun _ => Or.inr ⟨g1, by rw [e]; exact g2, ?_⟩⟩
    rw [e]
    exact g3
/-! the reference: sums and comparisons, with what they put down -/
theorem c_termg {b : Nat → Int32} {n : Nat} (s e : Nat) (D : Int) (f : Rce) (A : Rdg b n s D f (fun d h K => Cv (m_X12_atom (d + e + 51) 0 0) [.ref 1] h K)) : Rdg b n s D (k2tm b n f) (fun d h K => Cv (m_X12_term (d + e + 52) 0 0) [.ref 1] h K) := by
  intro d h I q eD es t
  have z1 : pz h ≤ 160 := (pz_in I).2
  have lp : ∀ (k : Nat) (h2 : Hp_), Pe s h h2 → Sfe b n (k2tm b n f (ta h)) (k2lp b n (isq 42) (fun _ => [(7, 0)]) f k) h h2 → pz h - pa h2 ≤ k → AW (m_X12_term (d + e + 52) 0 0) 0 0 4 [(0, .ref 1)] [] h2 (kV (fun h' => Pe s h h' ∧ Fte b n (k2tm b n f (ta h)) h h')) := by
    intro k
    induction k with
    | zero =>
      intro h2 P F m
      refine t_X12_term_4 (d + e) h2 P.1.1 _ ⟨fun w => ⟨P, F.2 w⟩, fun w => Ci.mono (c_lookf (d + e) P.1 (P.tp t)) (fun r h5 L => ⟨L.1.1.1, fun _ => ⟨P.lk I L.1, lp0e F w L⟩, fun er => ?_⟩)⟩
      have z2 := zf P.2.1 (by decide +kernel)
      have l3 := L.1.2.2.1
      rcases L.1.2.2.2.2 with u | u
      · rw [er] at u; exact absurd u.1 (by decide)
      · have := u.1
        omega
    | succ k ih =>
      intro h2 P F m
      refine t_X12_term_4 (d + e) h2 P.1.1 _ ⟨fun w => ⟨P, F.2 w⟩, fun w => Ci.mono (c_lookf (d + e) P.1 (P.tp t)) (fun r h5 L => ⟨L.1.1.1, fun nr => ⟨P.lk I L.1, lpxe F w L (decide_eq_false nr)⟩, fun er => ?_⟩)⟩
      have P5 := P.lk I L.1
      have w5 : h_i h5 1 34 = -1 := by rw [(L.1.2.1.2 1 34 (by decide +kernel)).1]; exact w
      have z2 := zf P.2.1 (by decide +kernel)
      have l3 := L.1.2.2.1
      have l5 : pa h5 < pz h := by
        rcases L.1.2.2.2.2 with u | u
        · rw [er] at u; exact absurd u.1 (by decide)
        · have := u.1
          omega
      obtain ⟨I6, F6, a6, q6, d6, s6⟩ := P5.nx I q w5 l5
      refine Cv.mono (A d _ I6 q6 (by omega) (by rw [s6]; exact es) ((P5.tp t).fr F6 (by decide +kernel))) (fun h9 Q => ⟨Q.1.1.1, Cv.mono (c_say (d + e) Q.1.1 42 (Q.1.room I6 q6)) (fun h12 S => ?_)⟩)
      have P12 := P5.op w5 I I6 F6 (by omega) Q.1 S (by decide)
      have e33 : pa h12 = pa h9 := by show (h_i h12 1 33).toInt = _; rw [(S.2.1.2 1 33 (by decide +kernel)).1]
      have q4 := Q.1.2.2.2.1
      have G := Q.2.sy Q.1.1 S (7, 0) rfl
      rw [nxa L I6 a6] at G
      exact ⟨S.1.1, ih h12 P12 (lpse F w L.2.2 (decide_eq_true er) (Cdm.f0 (L.1.2.1.tr F6) (by decide +kernel)) G) (by omega)⟩
  refine t_X12_term (d + e) h I.1 _ (Cv.mono (A d h I q eD es t) (fun h1 P => ⟨P.1.1.1, lp 160 h1 P.1 (sqg (f := f) (Cne.lp 160) P.2) ?_⟩))
  have a1 : 0 ≤ pa h1 := (pa_in P.1.1).1
  omega
theorem c_sumg {b : Nat → Int32} {n : Nat} (s e : Nat) (D : Int) (f : Rce) (A : Rdg b n s D (k2tm b n f) (fun d h K => Cv (m_X12_term (d + e + 52) 0 0) [.ref 1] h K)) : Rdg b n s D (k2sm b n f) (fun d h K => Cv (m_X12_sum (d + e + 53) 0 0) [.ref 1] h K) := by
  intro d h I q eD es t
  have z1 : pz h ≤ 160 := (pz_in I).2
  have ni := tn_i I
  rw [t.2] at ni
  have lp : ∀ (k : Nat) (x1 : Int32) (h4 : Hp_), Pe s h h4 → Sfe b n (k2sm b n f (ta h)) (k2lp b n pmb pmo (k2tm b n f) k) h h4 → (x1 = skv b n (ta h4) ∧ ska b n (ta h4) = ta h4) → (x1 = -1 ∨ pa h4 < pz h) → pz h - pa h4 ≤ k → AW (m_X12_sum (d + e + 53) 0 0) 0 0 9 [(0, .ref 1), (1, .int x1)] [] h4 (kV (fun h' => Pe s h h' ∧ Fte b n (k2sm b n f (ta h)) h h')) := by
    intro k
    induction k with
    | zero =>
      intro x1 h4 P F er c m
      have fin : h_i h4 1 34 = -1 → Fte b n (k2sm b n f (ta h)) h h4 := fun w => by
        obtain ⟨E, e, c⟩ := F.1 w
        rw [e]
        refine Or.inl ⟨w, rfl, rfl, ?_⟩
        show Cdm h h4 ((E ++ []).flatMap tkm)
        rw [List.append_nil]
        exact c
      refine t_X12_sum_9 (d + e) h4 P.1.1 x1 _ ⟨fun w => ⟨P, F.2 w⟩, fun w => ⟨fun e1 => ?_, fun _ => ⟨fun _ => ⟨P, fin w⟩, fun e1 => ?_⟩⟩⟩
      · rcases c with u | u
        · rw [e1] at u; exact absurd u (by decide)
        · omega
      · rcases c with u | u
        · rw [e1] at u; exact absurd u (by decide)
        · omega
    | succ k ih =>
      intro x1 h4 P F er c m
      have go : h_i h4 1 34 = -1 → pmb x1 = true → (∃ o, pmo x1 = [(o, 0)] ∧ tkm (o, 0) = [x1]) → opc x1 = true → ¬ x1 = -1 → Cv (m_X12_term (d + e + 52) 0 0) [.ref 1] (h_im h4 1 33 ((h_i h4 1 33) + 1)) (fun h9 => Wf h9 ∧ (Cv (m_X12_say (d + e + 0) 0 0) [.ref 1, .int x1] h9 (fun h12 => Wf h12 ∧ (Ci (m_X12_look (d + e + 0) 0 0) [.ref 1] h12 (fun r17 h15 => Wf h15 ∧ (AW (m_X12_sum (d + e + 53) 0 0) 0 0 9 [(0, .ref 1), (1, .int r17)] [] h15 (kV (fun h' => Pe s h h' ∧ Fte b n (k2sm b n f (ta h)) h h')))))))) := by
        intro w hp hm ho hn
        have l5 : pa h4 < pz h := by
          rcases c with u | u
          · exact absurd u hn
          · exact u
        obtain ⟨I6, F6, a6, q6, d6, s6⟩ := P.nx I q w l5
        refine Cv.mono (A d _ I6 q6 (by omega) (by rw [s6]; exact es) ((P.tp t).fr F6 (by decide +kernel))) (fun h9 Q => ⟨Q.1.1.1, Cv.mono (c_say (d + e) Q.1.1 x1 (Q.1.room I6 q6)) (fun h12 S => ?_)⟩)
        have P12 := P.op w I I6 F6 (by omega) Q.1 S ho
        have e33 : pa h12 = pa h9 := by show (h_i h12 1 33).toInt = _; rw [(S.2.1.2 1 33 (by decide +kernel)).1]
        have q4 := Q.1.2.2.2.1
        obtain ⟨o, eo, et⟩ := hm
        have G := Q.2.sy Q.1.1 S (o, 0) et
        have a6' : ta (h_im h4 1 33 ((h_i h4 1 33) + 1)) = ska b n (ta h4) + 1 := by
          have k1 := ta_i I6
          have k2 := ta_i P.1
          rw [er.2]
          omega
        rw [a6', ← eo] at G
        have F12 := lpse F w er.1 hp (Cdm.f0 F6 (by decide +kernel)) G
        refine ⟨S.1.1, Ci.mono (c_lookf (d + e) P12.1 (P12.tp t)) (fun r h15 L => ?_)⟩
        have l3 := L.1.2.2.1
        exact ⟨L.1.1.1, ih r h15 (P12.lk I L.1) (F12.lk (Cne.lp k) L) ⟨by rw [L.2.1, skv_i]; exact L.2.2, L.i⟩ (L.1.fwd (zf P12.2.1 (by decide +kernel))) (by omega)⟩
      have fin : h_i h4 1 34 = -1 → ¬ x1 = 43 → ¬ x1 = 45 → Fte b n (k2sm b n f (ta h)) h h4 := fun w n1 n2 => by
        have e : k2lp b n pmb pmo (k2tm b n f) (k + 1) (ta h4) = (true, ska b n (ta h4), []) := by
          unfold k2lp
          exact if_neg (by rw [← er.1]; exact fun y => (of_decide_eq_true y).elim n1 n2)
        obtain ⟨E, e1, c⟩ := F.1 w
        rw [e1, e]
        refine Or.inl ⟨w, rfl, rfl, ?_⟩
        show Cdm h h4 ((E ++ []).flatMap tkm)
        rw [List.append_nil]
        exact c
      refine t_X12_sum_9 (d + e) h4 P.1.1 x1 _ ⟨fun w => ⟨P, F.2 w⟩, fun w => ⟨fun e1 => go w (by rw [e1]; decide) ⟨5, by rw [e1]; rfl, by rw [e1]; rfl⟩ (by rw [e1]; decide) (by rw [e1]; decide), fun n1 => ⟨fun n2 => ⟨P, fin w n1 n2⟩, fun e1 => go w (by rw [e1]; decide) ⟨6, by rw [e1]; rfl, by rw [e1]; rfl⟩ (by rw [e1]; decide) (by rw [e1]; decide)⟩⟩⟩
  refine t_X12_sum (d + e) h I.1 _ (Cv.mono (A d h I q eD es t) (fun h1 P => ⟨P.1.1.1, Ci.mono (c_lookf (d + e) P.1.1 (P.1.tp t)) (fun r h4 L => ⟨L.1.1.1, lp 160 r h4 (P.1.lk I L.1) ((sqg (f := k2tm b n f) (Cne.lp 160) P.2).lk (Cne.lp 160) L) ⟨by rw [L.2.1, skv_i]; exact L.2.2, L.i⟩ (L.1.fwd (zf P.1.2.1 (by decide +kernel))) ?_⟩)⟩))
  have a1 : 0 ≤ pa h4 := (pa_in L.1.1).1
  omega
theorem c_compareg {b : Nat → Int32} {n : Nat} (s e : Nat) (D : Int) (f : Rce) (A : Rdg b n s D f (fun d h K => Cv (m_X12_sum (d + e + 53) 0 0) [.ref 1] h K)) (d : Nat) {h h2 : Hp_} (I : Iv h) (q : Pq h) (eD : pd h = D) (es : h_i h 1 37 = Int32.ofNat s) (t : Tp b n h) (P : Pe s h h2) {T : Bool × Nat × List Tk2} {hb : Hp_} (F : Sfe b n T (k2cm b n f) hb h2) : Cv (m_X12_compare (d + e + 54) 0 0) [.ref 1] h2 (fun h' => Pe s h h' ∧ Fte b n T hb h') := by
  refine t_X12_compare (d + e) h2 P.1.1 _ ⟨fun w => Ci.mono (c_isSignf (d + e) h2 (-1)) (fun r h3 k => ?_), fun w => Ci.mono (c_lookf (d + e) P.1 (P.tp t)) (fun r h5 L => ⟨L.1.1.1, Ci.mono (c_isSignf (d + e) h5 r) (fun r2 h6 k => ?_)⟩)⟩
  · obtain ⟨e3, k⟩ := k
    subst e3
    refine ⟨P.1.1, fun r0 => ?_, fun _ => Cv.mono (c_badw (d + e) P.1 w) (fun h4 b4 => ⟨b4.1.1, P.bad I q b4.1 b4.2.1 (by rw [b4.2.2]; exact w), (F.2 w).wr w b4.2.2⟩)⟩
    rcases k with k | k
    · exact absurd rfl k.2.2.2
    · exact absurd k.1 r0
  · obtain ⟨e6, k⟩ := k
    subst e6
    have P5 := P.lk I L.1
    have w5 : h_i h6 1 34 = -1 := by rw [(L.1.2.1.2 1 34 (by decide +kernel)).1]; exact w
    refine ⟨L.1.1.1, fun r0 => ?_, fun r0 => Cv.mono (c_badf (d + e) L.1.1 w5) (fun h4 b4 => ⟨b4.1.1, P5.bad I q b4.1 b4.2.1 b4.2.2.1, ?_⟩)⟩
    · rcases k with k | k
      · have l5 : pa h6 < pz h := by
          rcases L.1.fwd (zf P.2.1 (by decide +kernel)) with u | u
          · exact absurd u k.2.2.2
          · exact u
        obtain ⟨I6, F6, a6, q6, d6, s6⟩ := P5.nx I q w5 l5
        refine Cv.mono (A d _ I6 q6 (by omega) (by rw [s6]; exact es) ((P5.tp t).fr F6 (by decide +kernel))) (fun h9 Q => ⟨Q.1.1.1, Cv.mono (c_say (d + e) Q.1.1 r (Q.1.room I6 q6)) (fun h12 S => ⟨S.1.1, P5.op w5 I I6 F6 (by omega) Q.1 S k.2.2.1, ?_⟩)⟩)
        have et : tkm (cpo r) = [r] := by
          have sg := of_decide_eq_true (show decide (r = 61 ∨ r = 60 ∨ r = 62) = true from k.2.1)
          rcases sg with u | u | u <;> rw [u] <;> rfl
        have G := Q.2.sy Q.1.1 S (cpo r) et
        rw [nxa L I6 a6] at G
        refine F.ft w ?_
        have ec : k2cm b n f (ta h2) = k2app (f (ska b n (ta h2) + 1)) [cpo r] := by
          unfold k2cm
          rw [if_pos (by rw [← L.2.2]; exact k.2.1), ← L.2.2]
        rw [ec]
        exact G.b (Cdm.f0 (L.1.2.1.tr F6) (by decide +kernel))
      · exact absurd k.1 r0
    · rcases k with k | k
      · rw [r0] at k
        exact absurd k.1 (by decide)
      · obtain ⟨E, e1, _⟩ := F.1 w
        have ec : k2cm b n f (ta h2) = (false, ska b n (ta h2), []) := by
          unfold k2cm
          rw [if_neg (by rw [← L.2.2, k.2]; decide)]
        rw [e1, ec]
        exact Or.inr ⟨b4.2.2.1, rfl, by rw [b4.2.2.2, L.2.1]; rfl⟩
/-! the reference: atoms, conditions, units, with what they put down -/
theorem c_closesg (d : Nat) {b : Nat → Int32} {n : Nat} {h : Hp_} (I : Iv h) (t : Tp b n h) (x : Int32) (l : (h_i h 1 34 = -1 → pa h ≤ pz h) ∧ pa h ≤ 179) (hx : ¬ x = -1) (dl : 1 ≤ (h_i h 1 35).toInt) {T : Bool × Nat × List Tk2} {hb : Hp_} (F : Sfe b n T (k2ex b n x) hb h) : Cv (m_X12_closes (d + 1) 0 0) [.ref 1, .int x] h (fun h' => (Iv h' ∧ Fr [1033, 1034, 1035] h h' ∧ (h_i h' 1 35).toInt = (h_i h 1 35).toInt - 1 ∧ pa h + 1 ≤ pa h' ∧ (¬ h_i h 1 34 = -1 → h_i h' 1 34 = h_i h 1 34 ∧ pa h' = pa h + 1) ∧ (h_i h 1 34 = -1 → pa h' ≤ pz h + 1 ∧ (h_i h' 1 34 = -1 → pa h' ≤ pz h))) ∧ Fte b n T hb h') := by
  have t1 : (1 : Int32).toInt = 1 := rfl
  have p0 : 0 ≤ (h_i h 1 33).toInt := (pa_in I).1
  have z1 : (h_i h 1 32).toInt ≤ 160 := (pz_in I).2
  have d7 : (h_i h 1 35).toInt ≤ 7 := (dp_in7 I).2
  have st : ∀ h2, Iv h2 → Fr [1033, 1034, 1035] h h2 → h_i h2 1 35 = h_i h 1 35 → 0 ≤ pa h2 → pa h2 ≤ 179 → Iv (h_im (h_im h2 1 33 ((h_i h2 1 33) + 1)) 1 35 ((h_i h2 1 35) - 1)) ∧ Fr [1033, 1034, 1035] h (h_im (h_im h2 1 33 ((h_i h2 1 33) + 1)) 1 35 ((h_i h2 1 35) - 1)) ∧ (h_i (h_im (h_im h2 1 33 ((h_i h2 1 33) + 1)) 1 35 ((h_i h2 1 35) - 1)) 1 35).toInt = (h_i h 1 35).toInt - 1 ∧ pa (h_im (h_im h2 1 33 ((h_i h2 1 33) + 1)) 1 35 ((h_i h2 1 35) - 1)) = pa h2 + 1 ∧ h_i (h_im (h_im h2 1 33 ((h_i h2 1 33) + 1)) 1 35 ((h_i h2 1 35) - 1)) 1 34 = h_i h2 1 34 := by
    intro h2 I2 F2 e5 a0 a1
    have a0' : 0 ≤ (h_i h2 1 33).toInt := a0
    have a1' : (h_i h2 1 33).toInt ≤ 179 := a1
    have e33 : (h_i h2 1 33 + 1).toInt = (h_i h2 1 33).toInt + 1 := tx_add (by rw [t1]; omega) (by rw [t1]; omega)
    have e35 : (h_i h2 1 35 - 1).toInt = (h_i h 1 35).toInt - 1 := by rw [e5, tx_sub (by rw [t1]; omega) (by rw [t1]; omega), t1]
    refine ⟨i35 (i33 I2 ⟨by show (0 : Int) ≤ _; omega, by show _ ≤ (180 : Int); omega⟩) ⟨by show (0 : Int) ≤ _; omega, by show _ ≤ (7 : Int); omega⟩, (F2.im (by decide +kernel)).im (by decide +kernel), by rw [im_at]; exact e35, ?_, by rw [f_ne (by decide), f_ne (by decide)]⟩
    show (h_i (h_im (h_im h2 1 33 _) 1 35 _) 1 33).toInt = _
    rw [f_ne (by decide), im_at]; exact e33
  refine t_X12_closes d h I.1 x _ ⟨fun nw => ?_, fun w => ?_⟩
  · obtain ⟨s1, s2, s3, s4, s5⟩ := st h I (Fr.rf _ _) rfl p0 l.2
    exact ⟨⟨s1, s2, s3, by omega, fun _ => ⟨s5, s4⟩, fun y => absurd y nw⟩, (F.2 nw).wr nw s5⟩
  · have lw : (h_i h 1 33).toInt ≤ (h_i h 1 32).toInt := l.1 w
    refine Ci.mono (c_lookf d I t) (fun r h2 LL => ?_)
    have L := LL.1
    obtain ⟨I2, F2, l1, l2, lr⟩ := L
    have F2' : Fr [1033, 1034, 1035] h h2 := F2.more (by decide +kernel)
    have e5 : h_i h2 1 35 = h_i h 1 35 := (F2.2 1 35 (by decide +kernel)).1
    have e4 : h_i h2 1 34 = h_i h 1 34 := (F2.2 1 34 (by decide +kernel)).1
    have l1' : (h_i h 1 33).toInt ≤ (h_i h2 1 33).toInt := l1
    have l2' : (h_i h2 1 33).toInt ≤ (h_i h 1 32).toInt := by
      rcases l2 with u | u
      · have u' : (h_i h2 1 33).toInt ≤ (h_i h 1 33).toInt := u
        omega
      · exact u
    refine ⟨I2.1, fun er => ?_, fun nr => ?_⟩
    · have at2 : (h_i h2 1 33).toInt < (h_i h 1 32).toInt := by
        rcases lr with u | u
        · exact absurd (er.symm.trans u.1) hx
        · exact u.1
      obtain ⟨s1, s2, s3, s4, s5⟩ := st h2 I2 F2' e5 (by show 0 ≤ (h_i h2 1 33).toInt; omega) (by show (h_i h2 1 33).toInt ≤ 179; omega)
      refine ⟨⟨s1, s2, s3, ?_, fun y => absurd w y, fun _ => ⟨?_, fun _ => ?_⟩⟩, ?_⟩
      · rw [s4]; show (h_i h 1 33).toInt + 1 ≤ (h_i h2 1 33).toInt + 1; omega
      · rw [s4]; show (h_i h2 1 33).toInt + 1 ≤ (h_i h 1 32).toInt + 1; omega
      · rw [s4]; show (h_i h2 1 33).toInt + 1 ≤ (h_i h 1 32).toInt; omega
      · refine F.ft w ?_
        have ec : k2ex b n x (ta h) = (true, ska b n (ska b n (ta h) + 1), []) := by
          unfold k2ex
          rw [if_pos (by rw [← LL.2.2]; exact er)]
        rw [ec]
        exact Or.inl ⟨by rw [s5, e4]; exact w, rfl, by rw [nxa LL s1 s4], Cdm.f0 s2 (by decide +kernel)⟩
    · have w2 : h_i h2 1 34 = -1 := by rw [e4]; exact w
      refine Cv.mono (c_badf d I2 w2) (fun h3 k => ?_)
      have f3 : h_i h3 1 33 = h_i h2 1 33 := (k.2.1.2 1 33 (by decide +kernel)).1
      have f5 : h_i h3 1 35 = h_i h 1 35 := (k.2.1.2 1 35 (by decide +kernel)).1.trans e5
      obtain ⟨s1, s2, s3, s4, s5⟩ := st h3 k.1 (F2'.tr (k.2.1.more (by decide +kernel))) f5 (by show 0 ≤ (h_i h3 1 33).toInt; rw [f3]; omega) (by show (h_i h3 1 33).toInt ≤ 179; rw [f3]; omega)
      refine ⟨k.1.1, ⟨s1, s2, s3, ?_, fun y => absurd w y, fun _ => ⟨?_, fun y => absurd (s5.symm.trans y) k.2.2.1⟩⟩, ?_⟩
      · rw [s4]; show (h_i h 1 33).toInt + 1 ≤ (h_i h3 1 33).toInt + 1; rw [f3]; omega
      · rw [s4]; show (h_i h3 1 33).toInt + 1 ≤ (h_i h 1 32).toInt + 1; rw [f3]; omega
      · refine F.ft w ?_
        have ec : k2ex b n x (ta h) = (false, ska b n (ta h), []) := by
          unfold k2ex
          rw [if_neg (by rw [← LL.2.2]; exact nr)]
        rw [ec]
        exact Or.inr ⟨by rw [s5]; exact k.2.2.1, rfl, by rw [s5, k.2.2.2, LL.2.1]⟩
theorem c_atomg {b : Nat → Int32} {n : Nat} (s e : Nat) (D : Int) (hs : s = 1 ∨ s = 2) (z : Bool) (f : Rce) (hz : z = true ↔ ¬ D ≤ 5) (B : D ≤ 5 → Rdg b n s (D + 1) f (fun d h K => Cv (m_X12_sum (d + e + 53) 0 0) [.ref 1] h K)) : Rdg b n s D (k2at b n (ltb s) z f) (fun d h K => Cv (m_X12_atom (d + e + 61) 0 0) [.ref 1] h K) := by
  intro d h I q eD es t
  have z1 : pz h ≤ 160 := (pz_in I).2
  have q1 := q.1
  have q2 := q.2.1
  have q3 := q.2.2.1
  have q5 := q.said I
  refine t_X12_atom (d + e) h I.1 _ (Ci.mono (c_lookf (d + e) I t) (fun r h1 LL => ⟨LL.1.1.1, fun n91 => ?_, fun er => ?_⟩))
  · have L := LL.1
    have s1 : h_i h1 1 37 = Int32.ofNat s := by rw [(L.2.1.2 1 37 (by decide +kernel)).1]; exact es
    rw [s1]
    refine Ci.mono (c_isLetterf (d + e) h1 r hs) (fun r2 h2 k => ?_)
    obtain ⟨e2, k⟩ := k
    subst e2
    have w1 : h_i h2 1 34 = -1 := by rw [(L.2.1.2 1 34 (by decide +kernel)).1]; exact q1
    have z2 := zf L.2.1 (by decide +kernel)
    have a1 : pa h2 ≤ pz h := by
      rcases L.2.2.2.1 with u | u
      · omega
      · exact u
    have l3 := L.2.2.1
    have p1 : ps h2 = ps h := by show (h_i h2 1 36).toInt = _; rw [(L.2.1.2 1 36 (by decide +kernel)).1]
    refine ⟨L.1.1, fun r0 => ?_, fun r0 => ?_⟩
    · have nl : ltb s r = false := by
        rcases k with k | k
        · exact k.2
        · exact absurd r0 k.1
      have ea : ∀ v : Int32, ((nm0 b n (ta h)).1 = true → v = k2nv b n (ta h)) → ∃ t : Tk2, ((nm0 b n (ta h)).1 = true → tkm t = [0, v]) ∧ ((nm0 b n (ta h)).1 = true → k2at b n (ltb s) z f (ta h) = k2app ((nm0 b n (ta h)).1, (nm0 b n (ta h)).2, []) [t]) ∧ (k2at b n (ltb s) z f (ta h)).1 = (nm0 b n (ta h)).1 ∧ (k2at b n (ltb s) z f (ta h)).2.1 = (nm0 b n (ta h)).2 := fun v ev => by
        refine ⟨(0, k2nv b n (ta h)), fun y => by rw [ev y]; rfl, ?_⟩
        unfold k2at
        by_cases c : dgb (skv b n (ta h)) = true
        · rw [if_pos c]
          exact ⟨fun _ => rfl, rfl, rfl⟩
        · rw [if_neg c, if_neg (by rw [← LL.2.2]; exact n91)]
          unfold k2on nm0
          rw [if_neg c, if_neg (show ¬ ltb s (skv b n (ta h)) = true by rw [← LL.2.2, nl]; decide)]
          exact ⟨fun y => absurd y (by simp), rfl, rfl⟩
      refine Ci.mono (c_numberf (d + e) L.1 (LL.t t) w1 (by omega)) (fun v h3 NN => ⟨NN.1.1.1, ?_⟩)
      obtain ⟨N, NF, NV⟩ := NN
      obtain ⟨n1, n2, n3, n4, n5⟩ := N
      rw [LL.2.1, nm0_c] at NF
      have p3 : ps h3 = ps h2 := by show (h_i h3 1 36).toInt = _; rw [(n2.2 1 36 (by decide +kernel)).1]
      refine Cv.mono (c_say (d + e) n1 0 (by show ps h3 ≤ 558; omega)) (fun h4 S => ⟨S.1.1, Cv.mono (c_say (d + e) S.1 v ?_) (fun h5 S' => ⟨S'.1.1, ?_, ?_⟩)⟩)
      · have := S.2.2.1
        show ps h4 ≤ 558
        have e4 : ps h4 = ps h3 + 1 := this
        omega
      · exact Pe.two I q ((L.2.1.more (by decide +kernel)).tr n2) (by omega) (by omega) (fun w => by have := n5 w; omega) S S' (Or.inl rfl)
      · have w3 : (nm0 b n (ta h)).1 = true → h_i h3 1 34 = -1 := fun y => by
          rcases NF with NF | NF
          · exact NF.1
          · exact absurd (NF.2.1.symm.trans y) (by decide)
        obtain ⟨tk, k1, k2, k3, k4⟩ := ea v (fun y => by
          have z := (NV (w3 y)).2
          unfold k2nv
          rw [LL.2.1, ska_i] at z
          rw [z])
        have f03 : Fr [1033, 1034] h h3 := (L.2.1.more (by decide +kernel)).tr n2
        have cd3 : Cdm h h3 [] := Cdm.f0 f03 (by decide +kernel)
        rcases NF with NF | NF
        · have G : Fte b n ((nm0 b n (ta h)).1, (nm0 b n (ta h)).2, []) h h3 := Or.inl ⟨NF.1, NF.2.1, NF.2.2, cd3⟩
          have G' := G.sz n1 S S' tk k1
          rw [← k2 NF.2.1] at G'
          exact G'
        · have f := S.2.1.tr S'.2.1
          have e4 : h_i h5 1 34 = h_i h3 1 34 := (f.2 1 34 (by decide +kernel)).1
          exact Or.inr ⟨by rw [e4]; exact NF.1, k3.trans NF.2.1, by rw [e4, k4]; exact NF.2.2⟩
    · have k : ltb s r = true ∧ ¬ r = -1 ∧ okl s r = true := by
        rcases k with k | k
        · exact absurd k.1 r0
        · exact k.2
      have l5 : pa h2 < pz h := by
        rcases L.fwd rfl with u | u
        · exact absurd u k.2.1
        · exact u
      have nd := lt_dg hs k.1
      have ea : k2at b n (ltb s) z f (ta h) = k2app (true, ska b n (ska b n (ta h) + 1), []) [(1, r)] := by
        unfold k2at
        rw [if_neg (by rw [← LL.2.2]; exact nd.1), if_neg (by rw [← LL.2.2]; exact nd.2)]
        unfold k2on
        rw [if_pos (by rw [← LL.2.2]; exact k.1), ← LL.2.2]
        rfl
      have a0 : 0 ≤ pa h2 := (pa_in L.1).1
      have o1 : (1 : Int32).toInt = 1 := rfl
      have e33 : (h_i h2 1 33 + 1).toInt = pa h2 + 1 := by
        show (h_i h2 1 33 + 1).toInt = (h_i h2 1 33).toInt + 1
        have a0' : 0 ≤ (h_i h2 1 33).toInt := a0
        have l' : (h_i h2 1 33).toInt < pz h := l5
        rw [tx_add (by rw [o1]; omega) (by rw [o1]; omega), o1]
      have I3 : Iv (h_im h2 1 33 ((h_i h2 1 33) + 1)) := i33 L.1 ⟨by rw [e33]; show (0 : Int) ≤ _; omega, by rw [e33]; show _ ≤ (180 : Int); omega⟩
      have F3 : Fr [1033] h2 (h_im h2 1 33 ((h_i h2 1 33) + 1)) := (Fr.rf _ _).im (by decide +kernel)
      have ea3 : pa (h_im h2 1 33 ((h_i h2 1 33) + 1)) = pa h2 + 1 := by
        show (h_i (h_im h2 1 33 _) 1 33).toInt = _
        rw [im_at]; exact e33
      have es' : ps (h_im h2 1 33 ((h_i h2 1 33) + 1)) = ps h2 := by
        show (h_i (h_im h2 1 33 _) 1 36).toInt = _
        rw [f_ne (by decide)]
      have F0 : Fte b n (true, ska b n (ska b n (ta h) + 1), []) h (h_im h2 1 33 ((h_i h2 1 33) + 1)) := Or.inl ⟨by rw [f_ne (by decide)]; exact w1, rfl, by rw [nxa LL I3 ea3], Cdm.f0 (L.2.1.tr F3) (by decide +kernel)⟩
      refine Cv.mono (c_say (d + e) I3 1 (by show ps (h_im h2 1 33 _) ≤ 558; omega)) (fun h4 S => ⟨S.1.1, Cv.mono (c_say (d + e) S.1 r ?_) (fun h5 S' => ⟨S'.1.1, ?_, by rw [ea]; exact F0.sz I3 S S' (1, r) (fun _ => rfl)⟩)⟩)
      · have e4 : ps h4 = ps (h_im h2 1 33 ((h_i h2 1 33) + 1)) + 1 := S.2.2.1
        show ps h4 ≤ 558
        omega
      · exact Pe.two I q ((L.2.1.tr F3).more (by decide +kernel)) (by omega) (by omega) (fun w => by omega) S S' (Or.inr ⟨rfl, k.2.2⟩)
  · have L := LL.1
    have l5 : pa h1 < pz h := by
      rcases L.fwd rfl with u | u
      · rw [er] at u; exact absurd u (by decide)
      · exact u
    have z2 := zf L.2.1 (by decide +kernel)
    have e35 : pd h1 = pd h := by show (h_i h1 1 35).toInt = _; rw [(L.2.1.2 1 35 (by decide +kernel)).1]
    have w1 : h_i h1 1 34 = -1 := by rw [(L.2.1.2 1 34 (by decide +kernel)).1]; exact q1
    have e91 : skv b n (ta h) = 91 := by rw [← LL.2.2]; exact er
    have ea : k2at b n (ltb s) z f (ta h) = if z = true then (false, ska b n (ta h), []) else k2sq f (k2ex b n 93) (ska b n (ta h) + 1) := by
      unfold k2at
      rw [if_neg (by rw [e91]; decide), if_pos e91]
    refine Ci.mono (c_opensf (b := b) (n := n) (d + e) L.1 w1 (by omega) (by show pd h1 ≤ 6; omega)) (fun r2 h2 k => ?_)
    obtain ⟨I2, F2, k⟩ := k
    refine ⟨I2.1, fun r0 => ?_, fun r0 => ?_⟩
    · rcases k with k | k
      · rw [k.1] at r0; exact absurd r0 (by decide)
      · refine ⟨Pe.no I q L I2 F2 k.2.1 k.2.2.1 k.2.2.2.1, ?_⟩
        have d6 : pd h1 = 6 := k.2.2.2.2.2
        rw [ea, if_pos (hz.mpr (by omega))]
        exact Or.inr ⟨k.2.1, rfl, by rw [k.2.2.2.2.1, LL.2.1]⟩
    · rcases k with k | k
      · obtain ⟨k1, k2, k3, k4, k5⟩ := k
        obtain ⟨Q2, G2, b2, d2, d5, s2⟩ := op_q I q L l5 I2 F2 k2 k3 k4 k5
        rw [ea, if_neg (fun y => absurd (by omega) (hz.mp y))]
        refine Cv.mono (B (by omega) d h2 I2 Q2 (by omega) (by rw [s2]; exact es) (t.fr G2 (by decide +kernel))) (fun h3 PP => ?_)
        obtain ⟨P, PF⟩ := PP
        rw [nxa LL I2 k3] at PF
        refine ⟨P.1.1, Cv.mono (c_closesg (d + e) P.1 (P.tp (t.fr G2 (by decide +kernel))) 93 ?_ (by decide) ?_ (hb := h) (sqg (f := f) Cne.ex (PF.b (Cdm.f0 G2 (by decide +kernel))))) (fun h4 C => ⟨C.1.1.1, Pe.br I q G2 b2 d2 d5 P C.1, C.2⟩)⟩
        · have z3 := zf P.2.1 (by decide +kernel)
          have z4 := zf G2 (by decide +kernel)
          refine ⟨fun w => ?_, ?_⟩
          · have := (P.2.2.2.2.2.2.1 w).1
            omega
          · have d0 : 0 ≤ pd h2 := (dp_in7 I2).1
            by_cases w : h_i h3 1 34 = -1
            · have := (P.2.2.2.2.2.2.1 w).1
              omega
            · have := (P.2.2.2.2.2.2.2 w).1
              omega
        · have p3 := P.2.2.1
          have d0 : 0 ≤ pd h := (dp_in7 I).1
          show 1 ≤ pd h3
          omega
      · exact absurd k.1 r0
theorem part_lpg {b : Nat → Int32} {n : Nat} (s e : Nat) (D : Int) (u : Rce) (A : Rdg b n s D u (fun d h K => Cv (m_X12_unit (d + e + 55) 0 0) [.ref 1] h K)) (d : Nat) {h : Hp_} (I : Iv h) (q : Pq h) (eD : pd h = D) (es : h_i h 1 37 = Int32.ofNat s) (t : Tp b n h) {hb : Hp_} (T : Bool × Nat × List Tk2) :
    ∀ (k : Nat) (h2 : Hp_), Pe s h h2 → Sfe b n T (k2lp b n (isq 38) (fun _ => [(11, 0)]) u k) hb h2 → pz h - pa h2 ≤ k → AW (m_X12_part (d + e + 56) 0 0) 0 0 15 [(0, .ref 1)] [] h2 (kV (fun h' => Pe s h h' ∧ Fte b n T hb h')) := by
  intro k
  induction k with
  | zero =>
    intro h2 P F m
    refine t_X12_part_15 (d + e) h2 P.1.1 _ ⟨fun w => ⟨P, F.2 w⟩, fun w => Ci.mono (c_lookf (d + e) P.1 (P.tp t)) (fun r h5 L => ⟨L.1.1.1, fun _ => ⟨P.lk I L.1, lp0e F w L⟩, fun er => ?_⟩)⟩
    have l3 := L.1.2.2.1
    rcases L.1.fwd (zf P.2.1 (by decide +kernel)) with v | v
    · rw [er] at v; exact absurd v (by decide)
    · omega
  | succ k ih =>
    intro h2 P F m
    refine t_X12_part_15 (d + e) h2 P.1.1 _ ⟨fun w => ⟨P, F.2 w⟩, fun w => Ci.mono (c_lookf (d + e) P.1 (P.tp t)) (fun r h5 L => ⟨L.1.1.1, fun nr => ⟨P.lk I L.1, lpxe F w L (decide_eq_false nr)⟩, fun er => ?_⟩)⟩
    have P5 := P.lk I L.1
    have w5 : h_i h5 1 34 = -1 := by rw [(L.1.2.1.2 1 34 (by decide +kernel)).1]; exact w
    have l3 := L.1.2.2.1
    have l5 : pa h5 < pz h := by
      rcases L.1.fwd (zf P.2.1 (by decide +kernel)) with v | v
      · rw [er] at v; exact absurd v (by decide)
      · exact v
    obtain ⟨I6, F6, a6, q6, d6, s6⟩ := P5.nx I q w5 l5
    refine Cv.mono (A d _ I6 q6 (by omega) (by rw [s6]; exact es) ((P5.tp t).fr F6 (by decide +kernel))) (fun h9 Q => ⟨Q.1.1.1, Cv.mono (c_say (d + e) Q.1.1 38 (Q.1.room I6 q6)) (fun h12 S => ?_)⟩)
    have P12 := P5.op w5 I I6 F6 (by omega) Q.1 S (by decide)
    have e33 : pa h12 = pa h9 := by show (h_i h12 1 33).toInt = _; rw [(S.2.1.2 1 33 (by decide +kernel)).1]
    have q4 := Q.1.2.2.2.1
    have G := Q.2.sy Q.1.1 S (11, 0) rfl
    rw [nxa L I6 a6] at G
    exact ⟨S.1.1, ih h12 P12 (lpse F w L.2.2 (decide_eq_true er) (Cdm.f0 (L.1.2.1.tr F6) (by decide +kernel)) G) (by omega)⟩
theorem condition_lpg {b : Nat → Int32} {n : Nat} (s e : Nat) (D : Int) (u : Rce) (A : Rdg b n s D u (fun d h K => Cv (m_X12_part (d + e + 56) 0 0) [.ref 1, .int 0] h K)) (d : Nat) {h : Hp_} (I : Iv h) (q : Pq h) (eD : pd h = D) (es : h_i h 1 37 = Int32.ofNat s) (t : Tp b n h) {hb : Hp_} (T : Bool × Nat × List Tk2) :
    ∀ (k : Nat) (h2 : Hp_), Pe s h h2 → Sfe b n T (k2lp b n (isq 124) (fun _ => [(12, 0)]) u k) hb h2 → pz h - pa h2 ≤ k → AW (m_X12_condition (d + e + 57) 0 0) 0 0 5 [(0, .ref 1)] [] h2 (kV (fun h' => Pe s h h' ∧ Fte b n T hb h')) := by
  intro k
  induction k with
  | zero =>
    intro h2 P F m
    refine t_X12_condition_5 (d + e) h2 P.1.1 _ ⟨fun w => ⟨P, F.2 w⟩, fun w => Ci.mono (c_lookf (d + e) P.1 (P.tp t)) (fun r h5 L => ⟨L.1.1.1, fun _ => ⟨P.lk I L.1, lp0e F w L⟩, fun er => ?_⟩)⟩
    have l3 := L.1.2.2.1
    rcases L.1.fwd (zf P.2.1 (by decide +kernel)) with v | v
    · rw [er] at v; exact absurd v (by decide)
    · omega
  | succ k ih =>
    intro h2 P F m
    refine t_X12_condition_5 (d + e) h2 P.1.1 _ ⟨fun w => ⟨P, F.2 w⟩, fun w => Ci.mono (c_lookf (d + e) P.1 (P.tp t)) (fun r h5 L => ⟨L.1.1.1, fun nr => ⟨P.lk I L.1, lpxe F w L (decide_eq_false nr)⟩, fun er => ?_⟩)⟩
    have P5 := P.lk I L.1
    have w5 : h_i h5 1 34 = -1 := by rw [(L.1.2.1.2 1 34 (by decide +kernel)).1]; exact w
    have l3 := L.1.2.2.1
    have l5 : pa h5 < pz h := by
      rcases L.1.fwd (zf P.2.1 (by decide +kernel)) with v | v
      · rw [er] at v; exact absurd v (by decide)
      · exact v
    obtain ⟨I6, F6, a6, q6, d6, s6⟩ := P5.nx I q w5 l5
    refine Cv.mono (A d _ I6 q6 (by omega) (by rw [s6]; exact es) ((P5.tp t).fr F6 (by decide +kernel))) (fun h9 Q => ⟨Q.1.1.1, Cv.mono (c_say (d + e) Q.1.1 124 (Q.1.room I6 q6)) (fun h12 S => ?_)⟩)
    have P12 := P5.op w5 I I6 F6 (by omega) Q.1 S (by decide)
    have e33 : pa h12 = pa h9 := by show (h_i h12 1 33).toInt = _; rw [(S.2.1.2 1 33 (by decide +kernel)).1]
    have q4 := Q.1.2.2.2.1
    have G := Q.2.sy Q.1.1 S (12, 0) rfl
    rw [nxa L I6 a6] at G
    exact ⟨S.1.1, ih h12 P12 (lpse F w L.2.2 (decide_eq_true er) (Cdm.f0 (L.1.2.1.tr F6) (by decide +kernel)) G) (by omega)⟩
theorem c_part0g {b : Nat → Int32} {n : Nat} (s e : Nat) (D : Int) (u : Rce) (A : Rdg b n s D u (fun d h K => Cv (m_X12_unit (d + e + 55) 0 0) [.ref 1] h K)) : Rdg b n s D (k2pt b n u) (fun d h K => Cv (m_X12_part (d + e + 56) 0 0) [.ref 1, .int 0] h K) := by
  intro d h I q eD es t
  exact t_X12_part (d + e) h I.1 0 _ ⟨fun _ => Cv.mono (A d h I q eD es t) (fun h2 P => ⟨P.1.1.1, part_lpg s e D u A d I q eD es t _ 160 h2 P.1 (sqg (f := u) (Cne.lp 160) P.2) (P.1.m I)⟩), fun n => absurd rfl n⟩
theorem c_cond0g {b : Nat → Int32} {n : Nat} (s e : Nat) (D : Int) (u : Rce) (A : Rdg b n s D u (fun d h K => Cv (m_X12_unit (d + e + 55) 0 0) [.ref 1] h K)) : Rdg b n s D (k2cd b n u) (fun d h K => Cv (m_X12_condition (d + e + 57) 0 0) [.ref 1, .int 0] h K) := by
  intro d h I q eD es t
  rw [k2pt_a]
  exact t_X12_condition (d + e) h I.1 0 _ (Cv.mono (c_part0g s e D u A d h I q eD es t) (fun h2 P => ⟨P.1.1.1, condition_lpg s e D _ (c_part0g s e D u A) d I q eD es t _ 160 h2 P.1 (sqg (f := k2pt b n u) (Cne.lp 160) P.2) (P.1.m I)⟩))
/-- a condition whose first sum stands -/
theorem c_cond1g {b : Nat → Int32} {n : Nat} (s e : Nat) (D : Int) (u f : Rce) (A : Rdg b n s D u (fun d h K => Cv (m_X12_unit (d + e + 55) 0 0) [.ref 1] h K)) (B : Rdg b n s D f (fun d h K => Cv (m_X12_sum (d + e + 53) 0 0) [.ref 1] h K)) (d : Nat) {h h2 : Hp_} (I : Iv h) (q : Pq h) (eD : pd h = D) (es : h_i h 1 37 = Int32.ofNat s) (t : Tp b n h) (P : Pe s h h2) (w : h_i h2 1 34 = -1) :
    Cv (m_X12_condition (d + e + 57) 0 0) [.ref 1, .int 1] h2 (fun h' => Pe s h h' ∧ Fte b n (k2sq (k2cm b n f) (k2mp b n u) (ta h2)) h2 h') := by
  have e1 : k2sq (k2cm b n f) (k2mp b n u) = k2sq (k2sq (k2cm b n f) (k2mu b n u)) (k2lp b n (isq 124) (fun _ => [(12, 0)]) (k2pt b n u) 160) := by
    unfold k2mp
    rw [k2sq_a]
  rw [e1]
  refine t_X12_condition (d + e) h2 P.1.1 1 _ (Cv.mono (K := fun h3 => Pe s h h3 ∧ Fte b n (k2sq (k2cm b n f) (k2mu b n u) (ta h2)) h2 h3) ?_ (fun h3 P3 => ⟨P3.1.1.1, condition_lpg s e D _ (c_part0g s e D u A) d I q eD es t _ 160 h3 P3.1 (sqg (f := k2sq (k2cm b n f) (k2mu b n u)) (Cne.lp 160) P3.2) (P3.1.m I)⟩))
  exact t_X12_part (d + e) h2 P.1.1 1 _ ⟨fun n => absurd n (by decide), fun _ => Cv.mono (c_compareg s e D f B d I q eD es t P (T := k2cm b n f (ta h2)) (hb := h2) ⟨fun _ => ⟨[], rfl, Cdm.rf h2⟩, fun y => absurd w y⟩) (fun h3 P3 => ⟨P3.1.1.1, part_lpg s e D u A d I q eD es t _ 160 h3 P3.1 (sqg (f := k2cm b n f) (Cne.lp 160) P3.2) (P3.1.m I)⟩)⟩
theorem c_unitg {b : Nat → Int32} {n : Nat} (s e r0 : Nat) (D : Int) (hD : D = 6 - (r0 : Int)) (lt : Int32 → Bool) (B : Rdg b n s D (k2ss b n lt r0) (fun d h K => Cv (m_X12_sum (d + e + 53) 0 0) [.ref 1] h K)) (U : ∀ r, r0 = r + 1 → Rdg b n s (D + 1) (k2un b n lt r) (fun d h K => Cv (m_X12_unit (d + e + 55) 0 0) [.ref 1] h K)) : Rdg b n s D (k2un b n lt r0) (fun d h K => Cv (m_X12_unit (d + e + 65) 0 0) [.ref 1] h K) := by
  intro d h I q eD es t
  have z1 : pz h ≤ 160 := (pz_in I).2
  have q1 := q.1
  have q2 := q.2.1
  have q3 := q.2.2.1
  have q5 := q.said I
  have d0 : 0 ≤ pd h := (dp_in7 I).1
  refine t_X12_unit (d + e) h I.1 _ (Ci.mono (c_lookf (d + e) I t) (fun r h1 LL => ?_))
  have L := LL.1
  have z2 := zf L.2.1 (by decide +kernel)
  have e35 : pd h1 = pd h := by show (h_i h1 1 35).toInt = _; rw [(L.2.1.2 1 35 (by decide +kernel)).1]
  have e36 : h_i h1 1 36 = h_i h 1 36 := (L.2.1.2 1 36 (by decide +kernel)).1
  have f226 : h_i h1 226 = h_i h 226 := funext (fun k => fr_i L.2.1 (by decide +kernel) k)
  have ps1 : ps h1 = ps h := by show (h_i h1 1 36).toInt = _; rw [e36]
  have sn1 : sN h1 = sN h := by show (h_i h1 1 36).toNatClampNeg = _; rw [e36]
  have l3 := L.2.2.1
  have w1 : h_i h1 1 34 = -1 := by rw [(L.2.1.2 1 34 (by decide +kernel)).1]; exact q1
  have a1 : pa h1 ≤ pz h := by
    rcases L.2.2.2.1 with u | u
    · omega
    · exact u
  have op : pa h1 < pz h → Ci (m_X12_opens (d + e + 1) 0 0) [.ref 1] h1 (fun r2 h2 => Iv h2 ∧ (r2 = 0 → Pe s h h2 ∧ r0 = 0 ∧ ¬ h_i h2 1 34 = -1 ∧ h_i h2 1 34 = Int32.ofNat (ska b n (ta h))) ∧ (¬ r2 = 0 → Pq h2 ∧ Fr [1033, 1034, 1035] h h2 ∧ pa h + 1 ≤ pa h2 ∧ pd h2 = pd h + 1 ∧ pd h ≤ 5 ∧ h_i h2 1 37 = h_i h 1 37 ∧ ta h2 = ska b n (ta h) + 1)) := by
    intro l5
    refine Ci.mono (c_opensf (b := b) (n := n) (d + e) L.1 w1 (by omega) (by show pd h1 ≤ 6; omega)) (fun r2 h2 k => ?_)
    obtain ⟨I2, F2, k⟩ := k
    refine ⟨I2, fun r0 => ?_, fun r0 => ?_⟩
    · rcases k with k | k
      · rw [k.1] at r0; exact absurd r0 (by decide)
      · have d6 : pd h1 = 6 := k.2.2.2.2.2
        exact ⟨Pe.no I q L I2 F2 k.2.1 k.2.2.1 k.2.2.2.1, by omega, k.2.1, by rw [k.2.2.2.2.1, LL.2.1]⟩
    · rcases k with k | k
      · obtain ⟨k1, k2, k3, k4, k5⟩ := k
        obtain ⟨v1, v2, v3, v4, v5, v6⟩ := op_q I q L l5 I2 F2 k2 k3 k4 k5
        exact ⟨v1, v2, v3, v4, v5, v6, nxa LL I2 k3⟩
      · exact absurd k.1 r0
  refine ⟨L.1.1, fun n1 => ⟨fun n2 => ?_, fun er => ?_⟩, fun er => ?_⟩
  · have qh1 : Pq h1 := ⟨w1, by omega, by omega, by have := q.2.2.2; omega⟩
    have Pl : ∀ h6, Pe s h1 h6 → Pe s h h6 := fun h6 P => by
      obtain ⟨p1, p2, p3, p4, p5, p6, p7, p8⟩ := P
      refine ⟨p1, (L.2.1.more (by decide +kernel)).tr p2, by omega, by omega, fun k hk => by rw [p5 k (by omega), f226], by omega, fun w => ?_, fun w => ?_⟩
      · obtain ⟨t1, t2, t3, K, t4, t5⟩ := p7 w
        exact ⟨by omega, by omega, by omega, K, by omega, by rw [← sn1]; exact t5⟩
      · obtain ⟨t1, t2⟩ := p8 w
        exact ⟨by omega, by omega⟩
    have eu : k2un b n lt r0 (ta h) = k2sq (k2ss b n lt r0) (k2cm b n (k2ss b n lt r0)) (ta h1) := by
      rw [LL.2.1, Cne.sq (Cne.ss r0) (ta h)]
      have x1 : ¬ skv b n (ta h) = 33 := by rw [← LL.2.2]; exact n1
      have x2 : ¬ skv b n (ta h) = 40 := by rw [← LL.2.2]; exact n2
      cases r0 with
      | zero =>
        unfold k2un
        exact if_neg (fun y => y.elim x1 x2)
      | succ r0 =>
        unfold k2un
        rw [if_neg x1, if_neg x2]
    rw [eu]
    refine Cv.mono (B d h1 L.1 qh1 (by omega) (by rw [(L.2.1.2 1 37 (by decide +kernel)).1]; exact es) (LL.t t)) (fun h6 P => ⟨P.1.1.1, Cv.mono (c_compareg s e D _ B d I q eD es t (Pl h6 P.1) (hb := h) (sqg (f := k2ss b n lt r0) Cne.cm (P.2.b (Cdm.f0 L.2.1 (by decide +kernel))))) (fun h9 P9 => ⟨P9.1.1.1, P9⟩)⟩)
  · have l5 : pa h1 < pz h := by
      rcases L.fwd rfl with u | u
      · rw [er] at u; exact absurd u (by decide)
      · exact u
    have e40 : skv b n (ta h) = 40 := by rw [← LL.2.2]; exact er
    refine Ci.mono (op l5) (fun r2 h2 k => ⟨k.1.1, fun y => ?_, fun r0n => ?_⟩)
    · obtain ⟨k1, k2, k3, k4⟩ := k.2.1 y
      refine ⟨k1, ?_⟩
      rw [k2]
      have eu : k2un b n lt 0 (ta h) = (false, ska b n (ta h), []) := by
        unfold k2un
        exact if_pos (Or.inr e40)
      rw [eu]
      exact Or.inr ⟨k3, rfl, k4⟩
    · obtain ⟨Q2, G2, b2, d2, d5, s2, a2⟩ := k.2.2 r0n
      have t2 : Tp b n h2 := t.fr G2 (by decide +kernel)
      cases r0 with
      | zero => exact absurd d5 (by omega)
      | succ r0 =>
        have eu : k2un b n lt (r0 + 1) (ta h) = k2sq (k2cd b n (k2un b n lt r0)) (k2ex b n 41) (ta h2) := by
          show (if skv b n (ta h) = 33 then k2app (k2un b n lt r0 (ska b n (ta h) + 1)) [(2, 0)] else if skv b n (ta h) = 40 then k2sq (k2cd b n (k2un b n lt r0)) (k2ex b n 41) (ska b n (ta h) + 1) else k2sq (k2ss b n lt (r0 + 1)) (k2cm b n (k2ss b n lt (r0 + 1))) (ta h)) = _
          rw [if_neg (by rw [e40]; decide), if_pos e40, a2]
        rw [eu]
        refine Cv.mono (c_cond0g s e (D + 1) _ (U r0 rfl) d h2 k.1 Q2 (by omega) (by rw [s2]; exact es) t2) (fun h3 PP => ?_)
        obtain ⟨P, PF⟩ := PP
        refine ⟨P.1.1, Cv.mono (c_closesg (d + e) P.1 (P.tp t2) 41 ?_ (by decide) ?_ (hb := h) (sqg (f := k2cd b n (k2un b n lt r0)) Cne.ex (PF.b (Cdm.f0 G2 (by decide +kernel))))) (fun h4 C => ⟨C.1.1.1, Pe.br I q G2 b2 d2 d5 P C.1, C.2⟩)⟩
        · have z3 := zf P.2.1 (by decide +kernel)
          have z4 := zf G2 (by decide +kernel)
          refine ⟨fun w => ?_, ?_⟩
          · have := (P.2.2.2.2.2.2.1 w).1
            omega
          · by_cases w : h_i h3 1 34 = -1
            · have := (P.2.2.2.2.2.2.1 w).1
              omega
            · have := (P.2.2.2.2.2.2.2 w).1
              omega
        · have p3 := P.2.2.1
          show 1 ≤ pd h3
          omega
  · have l5 : pa h1 < pz h := by
      rcases L.fwd rfl with u | u
      · rw [er] at u; exact absurd u (by decide)
      · exact u
    have e33 : skv b n (ta h) = 33 := by rw [← LL.2.2]; exact er
    refine Ci.mono (op l5) (fun r2 h2 k => ⟨k.1.1, fun y => ?_, fun r0n => ?_⟩)
    · obtain ⟨k1, k2, k3, k4⟩ := k.2.1 y
      refine ⟨k1, ?_⟩
      rw [k2]
      have eu : k2un b n lt 0 (ta h) = (false, ska b n (ta h), []) := by
        unfold k2un
        exact if_pos (Or.inl e33)
      rw [eu]
      exact Or.inr ⟨k3, rfl, k4⟩
    · obtain ⟨Q2, G2, b2, d2, d5, s2, a2⟩ := k.2.2 r0n
      have t2 : Tp b n h2 := t.fr G2 (by decide +kernel)
      cases r0 with
      | zero => exact absurd d5 (by omega)
      | succ r0 =>
        have eu : k2un b n lt (r0 + 1) (ta h) = k2app (k2un b n lt r0 (ta h2)) [(2, 0)] := by
          rw [a2]
          show (if skv b n (ta h) = 33 then k2app (k2un b n lt r0 (ska b n (ta h) + 1)) [(2, 0)] else _) = _
          rw [if_pos e33]
        rw [eu]
        refine Cv.mono (U r0 rfl d h2 k.1 Q2 (by omega) (by rw [s2]; exact es) t2) (fun h3 PP => ?_)
        obtain ⟨P, PF⟩ := PP
        refine ⟨P.1.1, ?_⟩
        have p3 := P.2.2.1
        have o1 : (1 : Int32).toInt = 1 := rfl
        have d1 : 1 ≤ (h_i h3 1 35).toInt := by show 1 ≤ pd h3; omega
        have d7 : (h_i h3 1 35).toInt ≤ 7 := (dp_in7 P.1).2
        have e3 : (h_i h3 1 35 - 1).toInt = (h_i h3 1 35).toInt - 1 := by rw [tx_sub (by rw [o1]; omega) (by rw [o1]; omega), o1]
        have I35 : Iv (h_im h3 1 35 (h_i h3 1 35 - 1)) := i35 P.1 ⟨by rw [e3]; show (0 : Int) ≤ _; omega, by rw [e3]; show _ ≤ (7 : Int); omega⟩
        have F35 : Fr [1035] h3 (h_im h3 1 35 (h_i h3 1 35 - 1)) := (Fr.rf _ _).im (by decide +kernel)
        have PF' := (PF.b (Cdm.f0 G2 (by decide +kernel))).fr F35 (by decide +kernel) (by decide +kernel)
        refine Cv.mono (c_say (d + e) I35 33 ?_) (fun h5 S => ⟨S.1.1, Pe.nt I q G2 b2 d2 d5 P S, PF'.sy I35 S (2, 0) rfl⟩)
        rw [f_ne (by decide)]
        exact P.room k.1 Q2
theorem c_sumsg {b : Nat → Int32} {n : Nat} (s : Nat) (hs : s = 1 ∨ s = 2) : ∀ (g : Nat), g ≤ 6 → Rdg b n s (6 - (g : Int)) (k2ss b n (ltb s) g) (fun d h K => Cv (m_X12_sum (d + (10 * g + 10) + 53) 0 0) [.ref 1] h K) := by
  intro g
  induction g with
  | zero =>
    intro _
    refine c_sumg s _ _ _ (c_termg s _ _ _ ?_)
    exact c_atomg s 0 _ hs true _ ⟨fun _ => by decide, fun _ => rfl⟩ (fun n => absurd n (by decide))
  | succ g ih =>
    intro hg
    refine c_sumg s _ _ _ (c_termg s _ _ _ ?_)
    have := c_atomg (b := b) (n := n) s (10 * g + 10) (6 - ((g + 1 : Nat) : Int)) hs false (k2ss b n (ltb s) g) ⟨fun y => absurd y (by decide), fun y => absurd (by omega) y⟩ (fun _ => by rw [show (6 - ((g + 1 : Nat) : Int)) + 1 = 6 - (g : Int) by omega]; exact ih (by omega))
    intro d h I q a b' t
    have k := this d h I q a b' t
    dsimp only at k
    rw [show d + (10 * g + 10) + 61 = d + (10 * (g + 1) + 10) + 51 by omega] at k
    exact k
theorem c_unitsg {b : Nat → Int32} {n : Nat} (s : Nat) (hs : s = 1 ∨ s = 2) : ∀ (g : Nat), g ≤ 6 → Rdg b n s (6 - (g : Int)) (k2un b n (ltb s) g) (fun d h K => Cv (m_X12_unit (d + (10 * g + 10) + 65) 0 0) [.ref 1] h K) := by
  intro g
  induction g with
  | zero =>
    intro _
    exact c_unitg s _ 0 _ rfl _ (c_sumsg s hs 0 (by decide)) (fun r y => absurd y (by omega))
  | succ g ih =>
    intro hg
    refine c_unitg s _ (g + 1) _ rfl _ (c_sumsg s hs (g + 1) hg) (fun r y => ?_)
    have er : r = g := by omega
    subst er
    rw [show (6 - ((r + 1 : Nat) : Int)) + 1 = 6 - (r : Int) by omega]
    intro d h I q a b' t
    have k := ih (by omega) d h I q a b' t
    dsimp only at k
    rw [show d + (10 * r + 10) + 65 = d + (10 * (r + 1) + 10) + 55 by omega] at k
    exact k
theorem r_sumg {b : Nat → Int32} {n : Nat} (s : Nat) (hs : s = 1 ∨ s = 2) : Rdg b n s 0 (k2ss b n (ltb s) 6) (fun d h K => Cv (m_X12_sum (d + 80 + 53) 0 0) [.ref 1] h K) := by
  intro d h I q a b' t
  have k := c_sumsg (b := b) (n := n) s hs 6 (by decide) (d + 10) h I q (by omega) b' t
  dsimp only at k
  rw [show d + 10 + (10 * 6 + 10) + 53 = d + 80 + 53 by omega] at k
  exact k
theorem r_unitg {b : Nat → Int32} {n : Nat} (s : Nat) (hs : s = 1 ∨ s = 2) : Rdg b n s 0 (k2un b n (ltb s) 6) (fun d h K => Cv (m_X12_unit (d + 80 + 55) 0 0) [.ref 1] h K) := by
  intro d h I q a b' t
  exact c_unitsg (b := b) (n := n) s hs 6 (by decide) d h I q (by omega) b' t
end
section
/-! the reference: clauses, with what they put down -/
noncomputable def clM (c : Cl2) : List Int32 := (if c.1.length = 0 then [0, 1] else c.1.flatMap tkm) ++ 2 :: (c.2.flatMap tkm ++ [3])
/-- what was found, and what was put down -/
noncomputable def Fq (b : Nat → Int32) (n : Nat) (R : Bool × Nat) (E : List Int32) (h0 h : Hp_) : Prop := (h_i h 1 34 = -1 ∧ R.1 = true ∧ ska b n (ta h) = R.2 ∧ Cdm h0 h E) ∨ (¬ h_i h 1 34 = -1 ∧ R.1 = false ∧ h_i h 1 34 = Int32.ofNat R.2)
theorem Fq.ok {b : Nat → Int32} {n : Nat} {R : Bool × Nat} {E : List Int32} {h0 h : Hp_} (F : Fq b n R E h0 h) (w : h_i h 1 34 = -1) : R.1 = true ∧ ska b n (ta h) = R.2 ∧ Cdm h0 h E := by
  rcases F with F | F
  · exact F.2
  · exact absurd w F.1
theorem Fq.no {b : Nat → Int32} {n : Nat} {R : Bool × Nat} {E : List Int32} {h0 h : Hp_} (F : Fq b n R E h0 h) (w : ¬ h_i h 1 34 = -1) : R.1 = false ∧ h_i h 1 34 = Int32.ofNat R.2 := by
  rcases F with F | F
  · exact absurd F.1 w
  · exact F.2
theorem Fq.b {b : Nat → Int32} {n : Nat} {R : Bool × Nat} {E : List Int32} {h0 h1 h : Hp_} (F : Fq b n R E h0 h) (c : Cdm h1 h0 []) : Fq b n R E h1 h := by
  rcases F with F | F
  · exact Or.inl ⟨F.1, F.2.1, F.2.2.1, c.tr F.2.2.2⟩
  · exact Or.inr F
/-- behind a fault nothing more is found -/
noncomputable def Nof (h7 h : Hp_) : Prop := ¬ h_i h 1 34 = -1 ∧ h_i h 1 34 = h_i h7 1 34
theorem c_askg (s d : Nat) {b : Nat → Int32} {n : Nat} {h h7 : Hp_} (I : Iv h) (q : Pq h) (t : Tp b n h) (P : Pe s h h7) : Cv (m_X12_ask (d + 1) 0 0) [.ref 1] h7 (fun h' => Ak s h h' ∧ (h_i h7 1 34 = -1 → Fq b n (exr b n 63 (ta h7)) [2] h7 h') ∧ (¬ h_i h7 1 34 = -1 → Nof h7 h')) := by
  have ro := P.room I q
  have z1 : pz h ≤ 160 := (pz_in I).2
  have d0 : 0 ≤ pd h := (dp_in7 I).1
  have a0 : 0 ≤ pa h := (pa_in I).1
  have n0 := sN_i I
  have PP := P
  obtain ⟨p1, p2, p3, p4, p5, p6, p7, p8⟩ := PP
  obtain ⟨q1, q2, q3, q4⟩ := q
  have z7 := zf p2 (by decide +kernel)
  have no : ∀ h5 : Hp_, Iv h5 → Fr [1033, 1034] h7 h5 → pa h5 ≤ 179 → ¬ h_i h5 1 34 = -1 → (h_i h7 1 34 = -1 → (exr b n 63 (ta h7)).1 = false ∧ h_i h5 1 34 = Int32.ofNat (exr b n 63 (ta h7)).2) → (¬ h_i h7 1 34 = -1 → h_i h5 1 34 = h_i h7 1 34) → Cv (m_X12_say (d + 0) 0 0) [.ref 1, .int 2] (h_im h5 1 33 ((h_i h5 1 33) + 1)) (fun h9 => Wf h9 ∧ Ak s h h9 ∧ (h_i h7 1 34 = -1 → Fq b n (exr b n 63 (ta h7)) [2] h7 h9) ∧ (¬ h_i h7 1 34 = -1 → Nof h7 h9)) := by
    intro h5 i5 f5 a5 w5 F5 N5
    obtain ⟨k1, k2, k3⟩ := at1 i5 a5
    generalize h_im h5 1 33 ((h_i h5 1 33) + 1) = h6 at k1 k2 k3 ⊢
    have g5 := f36 f5 (by decide +kernel)
    have g6 := f36 k2 (by decide +kernel)
    have e5 := f35 f5 (by decide +kernel)
    have e6 := f35 k2 (by decide +kernel)
    refine Cv.mono (c_say d k1 2 (by show ps h6 ≤ 558; omega)) (fun h9 S => ⟨S.1.1, ?_⟩)
    obtain ⟨s1, s2, s3, s4, s5⟩ := Sa.q (h := h6) (x := 2) (h' := h9) S
    have n6 := sN_i k1
    have e9 : h_i h9 1 34 = h_i h5 1 34 := s2.trans (f34 k2 (by decide +kernel))
    refine ⟨⟨S.1, (p2.tr (f5.more (by decide +kernel))).tr ((k2.more (by decide +kernel)).tr (S.2.1.more (by decide +kernel))), by omega, fun k hk => ?_, by omega, fun w => ?_⟩, fun w => Or.inr ⟨by rw [e9]; exact w5, (F5 w).1, by rw [e9]; exact (F5 w).2⟩, fun w => ⟨by rw [e9]; exact w5, e9.trans (N5 w)⟩⟩
    · rw [S.2.2.2.2 k (by show k ≠ sN h6; omega), fr_i k2 (a := 226) (by decide +kernel), fr_i f5 (a := 226) (by decide +kernel)]
      exact p5 k hk
    · rw [s2, f34 k2 (by decide +kernel)] at w
      exact absurd w w5
  refine t_X12_ask d h7 p1.1 _ ⟨fun w => ?_, fun w => ?_⟩
  · have t' := (p8 w).1
    exact no h7 p1 (Fr.rf _ _) (by omega) w (fun y => absurd y w) (fun _ => rfl)
  · obtain ⟨t1, t2, t3, _⟩ := p7 w
    refine Ci.mono (c_lookf d p1 (P.tp t)) (fun r h5 LL => ⟨LL.1.1.1, fun er => ?_, fun nr => ?_⟩)
    · have L := LL.1
      have l5 : pa h5 < pz h := by
        rcases L.fwd z7 with u | u
        · rw [er] at u; exact absurd u (by decide)
        · exact u
      have P5 := P.lk I L
      have w5 : h_i h5 1 34 = -1 := by rw [f34 L.2.1 (by decide +kernel)]; exact w
      obtain ⟨c1, c2, c3, c4, c5, c6, c7, _⟩ := P5
      obtain ⟨b1, b2, b3, K, b4, b5⟩ := c7 w5
      obtain ⟨k1, k2, k3⟩ := at1 c1 (by omega)
      have a6 := nxa LL k1 k3
      generalize h_im h5 1 33 ((h_i h5 1 33) + 1) = h6 at k1 k2 k3 a6 ⊢
      have g6 := f36 k2 (by decide +kernel)
      have e6 := f35 k2 (by decide +kernel)
      refine Cv.mono (c_say d k1 2 (by show ps h6 ≤ 558; omega)) (fun h9 S => ⟨S.1.1, ?_⟩)
      obtain ⟨s1, s2, s3, s4, s5⟩ := Sa.q (h := h6) (x := 2) (h' := h9) S
      have n5 := sN_i c1
      have n6 := sN_i k1
      have n9 := sN_i S.1
      have m6 : sN h6 = sN h5 := by omega
      have cc : ∀ k, k < sN h5 → h_i h9 226 k = h_i h5 226 k := fun k hk => by rw [S.2.2.2.2 k (by show k ≠ sN h6; omega), fr_i k2 (a := 226) (by decide +kernel)]
      have w9 : h_i h9 1 34 = -1 := by rw [s2, f34 k2 (by decide +kernel)]; exact w5
      have a9 : ta h9 = ska b n (ta h7) + 1 := by
        show (h_i h9 1 33).toNatClampNeg = _
        rw [(S.2.1.2 1 33 (by decide +kernel)).1]
        exact a6
      have ee : exr b n 63 (ta h7) = (true, ska b n (ska b n (ta h7) + 1)) := by
        unfold exr
        exact if_pos (by rw [← LL.2.2]; exact er)
      have cd : Cdm h7 h9 [2] := (Cdm.f0 (L.2.1.tr k2) (by decide +kernel)).tr (Cdm.say k1 S)
      have G : Fq b n (exr b n 63 (ta h7)) [2] h7 h9 := by
        rw [ee]
        exact Or.inl ⟨w9, rfl, by rw [a9], cd⟩
      refine ⟨⟨S.1, (c2.tr (k2.more (by decide +kernel))).tr (S.2.1.more (by decide +kernel)), by omega, fun k hk => ?_, by omega, fun _ => ⟨by omega, by omega, by omega, sN h5, K, by omega, PR.same (fun k _ b => cc k b) b5, ?_, by omega⟩⟩, fun _ => G, fun y => absurd w y⟩
      · rw [cc k (by omega)]; exact c5 k hk
      · rw [← m6]; exact S.2.2.2.1
    · have L := LL.1
      have w5 : h_i h5 1 34 = -1 := by rw [f34 L.2.1 (by decide +kernel)]; exact w
      refine Cv.mono (c_badf d L.1 w5) (fun h6 k => ⟨k.1.1, ?_⟩)
      obtain ⟨k1, k2, k3, k4⟩ := k
      have e6 := f33 k2 (by decide +kernel)
      have l4 := L.2.2.2.1
      have ee : exr b n 63 (ta h7) = (false, ska b n (ta h7)) := by
        unfold exr
        exact if_neg (by rw [← LL.2.2]; exact nr)
      exact no h6 k1 ((L.2.1.more (by decide +kernel)).tr (k2.more (by decide +kernel))) (by omega) k3 (fun _ => by rw [ee]; exact ⟨rfl, by rw [k4, LL.2.1]⟩) (fun y => absurd w y)
/-- a pair's condition failed -/
theorem fq_c {b : Nat → Int32} {n : Nat} {f g : Rce} {a : Nat} {E : List Int32} {h0 h1 h7 h : Hp_} (F : Fte b n (f a) h0 h7) (w : ¬ h_i h7 1 34 = -1) (k : Nof h7 h) : Fq b n ((k2pr f g a).1, (k2pr f g a).2.1) E h1 h := by
  have q := F.no w
  have e1 : k2pr f g a = (false, (f a).2.1, ([], [])) := by
    unfold k2pr
    exact if_neg (by rw [q.1]; decide)
  rw [e1]
  exact Or.inr ⟨k.1, rfl, by rw [k.2]; exact q.2⟩
/-- a pair whose condition stands -/
theorem k2pr_ok {b : Nat → Int32} {n : Nat} {f g : Rce} {a : Nat} {h0 h7 : Hp_} (c : Cne b n g) (F : Fte b n (f a) h0 h7) (w : h_i h7 1 34 = -1) : k2pr f g a = ((g (ta h7)).1, (g (ta h7)).2.1, ((f a).2.2, (g (ta h7)).2.2)) := by
  have q := F.ok w
  unfold k2pr
  rw [if_pos q.1, ← q.2.1, c]
/-- behind '?' the answer follows, or not -/
theorem k2q_n {b : Nat → Int32} {n : Nat} {g : Rce} {a : Nat} (q : (exr b n 63 a).1 = false) : (k2sq (k2ex b n 63) g a).1 = false ∧ (k2sq (k2ex b n 63) g a).2.1 = (exr b n 63 a).2 := by
  have e1 : k2sq (k2ex b n 63) g a = k2ex b n 63 a := by
    unfold k2sq
    exact if_neg (by rw [(Pje.ex a).1, q]; decide)
  rw [e1, (Pje.ex a).1, (Pje.ex a).2]
  exact ⟨q, rfl⟩
theorem k2q_y {b : Nat → Int32} {n : Nat} {g : Rce} (c : Cne b n g) {a p : Nat} (q : (exr b n 63 a).1 = true) (e : ska b n p = (exr b n 63 a).2) : k2sq (k2ex b n 63) g a = g p := by
  have e2 : (k2ex b n 63 a).2.2 = [] := by
    unfold k2ex
    split <;> rfl
  unfold k2sq
  rw [if_pos ((Pje.ex a).1.trans q), e2, (Pje.ex a).2, ← e, c]
  rfl
theorem cl_restg (s : Nat) (hs : s = 1 ∨ s = 2) (d : Nat) {b : Nat → Int32} {n : Nat} {h h7 : Hp_} (I : Iv h) (q : Pq h) (q0 : ps h ≤ 3 * pa h) (e0 : pd h = 0) (es : h_i h 1 37 = Int32.ofNat s) (t : Tp b n h) (P : Pe s h h7) {fc : Rce} {a : Nat} (F : Fte b n (fc a) h h7) (nz : (fc a).1 = true → ¬ (fc a).2.2.length = 0) {K : Hp_ → Prop} (up : ∀ h', Pc s h h' → Fq b n ((k2pr fc (k2sq (k2ex b n 63) (k2ss b n (ltb s) 6)) a).1, (k2pr fc (k2sq (k2ex b n 63) (k2ss b n (ltb s) 6)) a).2.1) (clM (k2pr fc (k2sq (k2ex b n 63) (k2ss b n (ltb s) 6)) a).2.2) h h' → K h') :
    Cv (m_X12_ask (d + 80 + 1) 0 0) [.ref 1] h7 (fun h10 => Wf h10 ∧ ((¬ (h_i h10 1 34) = (-1) → K h10) ∧ ((h_i h10 1 34) = (-1) → Cv (m_X12_sum (d + 80 + 53) 0 0) [.ref 1] h10 (fun h14 => Wf h14 ∧ (Cv (m_X12_say (d + 80 + 0) 0 0) [.ref 1, .int 3] h14 (fun h17 => Wf h17 ∧ (K h17))))))) := by
  have z1 : pz h ≤ 160 := (pz_in I).2
  have n0 := sN_i I
  have a0 : 0 ≤ pa h := (pa_in I).1
  refine Cv.mono (c_askg s (d + 80) I q t P) (fun h10 AA => ?_)
  obtain ⟨A, F10, N10⟩ := AA
  have cg : Cne b n (k2sq (k2ex b n 63) (k2ss b n (ltb s) 6)) := Cne.sq Cne.ex
  obtain ⟨a1, a2, a3, a4, a6, a5⟩ := A
  refine ⟨a1.1, fun w => up _ ⟨a1, a2, a3, a4, fun y => absurd y w⟩ (by
    by_cases w7 : h_i h7 1 34 = -1
    · have q := (F10 w7).no w
      have z := k2q_n (g := k2ss b n (ltb s) 6) q.1
      rw [k2pr_ok cg F w7]
      exact Or.inr ⟨w, z.1, by rw [q.2]; show _ = Int32.ofNat ((k2sq (k2ex b n 63) (k2ss b n (ltb s) 6)) (ta h7)).2.1; rw [z.2]⟩
    · exact fq_c F w7 (N10 w7)), fun w => ?_⟩
  have w7 : h_i h7 1 34 = -1 := Decidable.byContradiction (fun y => (N10 y).1 w)
  have f10 := (F10 w7).ok w
  have e10 : (k2sq (k2ex b n 63) (k2ss b n (ltb s) 6)) (ta h7) = k2ss b n (ltb s) 6 (ta h10) := k2q_y (Cne.ss 6) f10.1 f10.2.1
  obtain ⟨b1, b2, b3, m, K1, b4, b5, b6, b7⟩ := a5 w
  have z10 := zf a2 (by decide +kernel)
  have s10 : h_i h10 1 37 = Int32.ofNat s := by rw [(a2.2 1 37 (by decide +kernel)).1]; exact es
  have q10 : Pq h10 := ⟨w, by omega, by omega, by omega⟩
  refine Cv.mono (r_sumg s hs d h10 a1 q10 (by omega) s10 (t.fr a2 (by decide +kernel))) (fun h14 QQ => ⟨QQ.1.1.1, ?_⟩)
  obtain ⟨Q, QF⟩ := QQ
  refine Cv.mono (c_say (d + 80) Q.1 3 (Q.room a1 q10)) (fun h17 S => ⟨S.1.1, up _ ?_ (by
    have e4 : h_i h17 1 34 = h_i h14 1 34 := (S.2.1.2 1 34 (by decide +kernel)).1
    have e3 : ta h17 = ta h14 := by
      show (h_i h17 1 33).toNatClampNeg = _
      rw [(S.2.1.2 1 33 (by decide +kernel)).1]
    rw [k2pr_ok cg F w7, e10]
    by_cases w14 : h_i h14 1 34 = -1
    · have q := F.ok w7
      have qq := QF.ok w14
      refine Or.inl ⟨by rw [e4]; exact w14, qq.1, by rw [e3]; exact qq.2.1, ?_⟩
      show Cdm h h17 (clM ((fc a).2.2, (k2ss b n (ltb s) 6 (ta h10)).2.2))
      unfold clM
      rw [if_neg (nz q.1)]
      have z := ((q.2.2.tr f10.2.2).tr qq.2.2).tr (Cdm.say Q.1 S)
      rw [List.append_assoc, List.append_assoc] at z
      exact z
    · have k := QF.no w14
      exact Or.inr ⟨by rw [e4]; exact w14, k.1, by rw [e4]; exact k.2⟩)⟩)
  obtain ⟨u1, u2, u3, u4, u5⟩ := Sa.q (h := h14) (x := 3) (h' := h17) S
  obtain ⟨c1, c2, c3, c4, c5, c6, c7, c8⟩ := Q
  have n10 := sN_i a1
  have n14 := sN_i c1
  have n17 := sN_i S.1
  have m17 : sN h17 = sN h14 + 1 := by omega
  have cc : ∀ k, k < sN h14 → h_i h17 226 k = h_i h14 226 k := fun k hk => S.2.2.2.2 k (by show k ≠ sN h14; omega)
  refine ⟨S.1, (a2.tr c2).tr (S.2.1.more (by decide +kernel)), by omega, fun k hk => ?_, fun w17 => ?_⟩
  · rw [cc k (by omega), c5 k (by omega)]; exact a4 k hk
  · rw [u2] at w17
    obtain ⟨t1, t2, t3, K2, t4, t5⟩ := c7 w17
    refine ⟨by omega, by omega, by omega, by omega, m, sN h14, ?_, ?_, ?_, ?_, m17⟩
    · exact PR.ex (PR.same (fun k _ b => by rw [cc k (by omega), c5 k (by omega)]) b5) (by omega)
    · rw [cc m (by omega), c5 m (by omega)]; exact b6
    · rw [← b7]; exact PR.ex (PR.same (fun k _ b => cc k b) t5) (by omega)
    · exact S.2.2.2.1
theorem cl_ansg (s d : Nat) {b : Nat → Int32} {n : Nat} {h h3 h7 : Hp_} {r : Int32} (I : Iv h) (q0 : ps h ≤ 3 * pa h) (A : Ak s h h3) (w : h_i h3 1 34 = -1) (LL : Lkf b n h3 r h7) (l : pa h7 < pz h) (vr : vdb r = true) {K : Hp_ → Prop} (up : ∀ h', Pc s h h' → h_i h' 1 34 = -1 → ska b n (ta h') = ska b n (ska b n (ta h3) + 1) → Cdm h3 h' [0, vdv r, 3] → K h') :
    Cv (m_X12_say (d + 0) 0 0) [.ref 1, .int 0] (h_im h7 1 33 ((h_i h7 1 33) + 1)) (fun h71 => Wf h71 ∧ ∀ c : Int32, c = vdv r → Cv (m_X12_say (d + 0) 0 0) [.ref 1, .int c] h71 (fun h77 => Wf h77 ∧ (Cv (m_X12_say (d + 0) 0 0) [.ref 1, .int 3] h77 (fun h80 => Wf h80 ∧ (K h80))))) := by
  have z1 : pz h ≤ 160 := (pz_in I).2
  have n0 := sN_i I
  have a0 : 0 ≤ pa h := (pa_in I).1
  have L := LL.1
  obtain ⟨a1, a2, a3, a4, a6, a5⟩ := A
  obtain ⟨b1, b2, b3, m, K1, b4, b5, b6, b7⟩ := a5 w
  have z3 := zf a2 (by decide +kernel)
  obtain ⟨k1, k2, k3⟩ := nx1 a1 L (by omega)
  have l3 := L.2.2.1
  have aa := nxa LL k1 k3
  have w7 : h_i (h_im h7 1 33 ((h_i h7 1 33) + 1)) 1 34 = -1 := by rw [f_ne (by decide), f34 L.2.1 (by decide +kernel)]; exact w
  generalize h_im h7 1 33 ((h_i h7 1 33) + 1) = h2 at k1 k2 k3 aa w7 ⊢
  have g2 := f36 k2 (by decide +kernel)
  have e2 := f35 k2 (by decide +kernel)
  have Y0 : Sy h3 [] h2 := (Sy.rf a1).mv k1 (k2.more (by decide +kernel))
  refine Cv.mono (c_say d k1 0 (by show ps h2 ≤ 558; omega)) (fun h71 S => ⟨S.1.1, fun c ec => ?_⟩)
  obtain ⟨s1, s2, s3, s4, s5⟩ := Sa.q (h := h2) (x := 0) (h' := h71) S
  refine Cv.mono (c_say d S.1 c (by show ps h71 ≤ 558; omega)) (fun h77 T => ⟨T.1.1, ?_⟩)
  obtain ⟨t1, t2, t3, t4, t5⟩ := Sa.q (h := h71) (x := c) (h' := h77) T
  refine Cv.mono (c_say d T.1 3 (by show ps h77 ≤ 558; omega)) (fun h80 U => ⟨U.1.1, up _ ?_ ?_ ?_ ?_⟩)
  case refine_2 =>
    have f := (S.2.1.tr T.2.1).tr U.2.1
    rw [(f.2 1 34 (by decide +kernel)).1]
    exact w7
  case refine_3 =>
    have f := (S.2.1.tr T.2.1).tr U.2.1
    show ska b n (h_i h80 1 33).toNatClampNeg = _
    rw [(f.2 1 33 (by decide +kernel)).1]
    show ska b n (ta h2) = _
    rw [aa]
  case refine_4 =>
    rw [← ec]
    exact (((Cdm.f0 k2 (by decide +kernel)).tr (Cdm.say k1 S)).tr (Cdm.say S.1 T)).tr (Cdm.say T.1 U)
  obtain ⟨u1, u2, u3, u4, u5⟩ := Sa.q (h := h77) (x := 3) (h' := h80) U
  have Y : Sy h3 [0, c, 3] h80 := ((Y0.say a1 S).say a1 T).say a1 U
  obtain ⟨y1, y2, y3, y4, y5⟩ := Y
  have y4' : ps h80 = ps h3 + 3 := y4
  have n3 := sN_i a1
  have n80 := sN_i y1
  have x0 := y5 0 0 rfl
  have x2 := y5 2 3 rfl
  refine ⟨y1, a2.tr y2, by omega, fun k hk => ?_, fun _ => ⟨by omega, by omega, by omega, by omega, m, sN h3 + 2, ?_, ?_, ?_, x2, by omega⟩⟩
  · rw [y3 k (by omega)]; exact a4 k hk
  · exact PR.ex (PR.same (fun k _ b => y3 k (by omega)) b5) (by omega)
  · rw [y3 m (by omega)]; exact b6
  · rw [← b7]; exact PR.ex (PR.num x0) (by decide)
/-- a plain sum: put behind 0 1 2, place and fault as they were -/
theorem cl_shiftg (s d : Nat) {h h0 : Hp_} (I : Iv h) (q0 : ps h ≤ 3 * pa h) (P : Pe s h h0) (w : h_i h0 1 34 = -1) (x3 : Int32) (e3 : x3 = h_i h 1 36) {E : List Int32} (cE : Cdm h h0 E) {K : Hp_ → Prop} (up : ∀ h', Pc s h h' → h_i h' 1 34 = h_i h0 1 34 → h_i h' 1 33 = h_i h0 1 33 → Cdm h h' ([0, 1] ++ 2 :: (E ++ [3])) → K h') :
    ∀ (n : Nat) (h2 : Hp_) (x4 : Int32), x4.toInt = (sN h : Int) + n - 1 → Iv h2 → Fr [226999] h0 h2 → sN h + n ≤ sN h0 → (∀ j, j < sN h + n → h_i h2 226 j = h_i h0 226 j) → (∀ j, sN h + n ≤ j → j < sN h0 → h_i h2 226 (j + 3) = h_i h0 226 j) →
    AW (m_X12_clause (d + 58) 0 0) 0 0 179 [(0, .ref 1), (3, .int x3), (4, .int x4)] [] h2 (kV K) := by
  have z1 : pz h ≤ 160 := (pz_in I).2
  have n0 := sN_i I
  have a0 : 0 ≤ pa h := (pa_in I).1
  obtain ⟨p1, p2, p3, p4, p5, p6, p7, p8⟩ := P
  obtain ⟨t1, t2, t3, K1, t4, t5⟩ := p7 w
  have nh0 := sN_i p1
  have i3 : x3.toInt = (sN h : Int) := by rw [e3]; exact n0.symm
  have j3 : x3.toNatClampNeg = sN h := by rw [e3]
  have o1 : (1 : Int32).toInt = 1 := rfl
  have o2 : (2 : Int32).toInt = 2 := rfl
  have o3 : (3 : Int32).toInt = 3 := rfl
  have om : (-1 : Int32).toInt = -1 := rfl
  intro n
  induction n with
  | zero =>
    intro h2 x4 e4 I2 F2 l2 c1 c2
    have e1' : (x3 + 1).toInt = x3.toInt + 1 := by rw [tx_add (by rw [o1]; omega) (by rw [o1]; omega), o1]
    have e2' : (x3 + 2).toInt = x3.toInt + 2 := by rw [tx_add (by rw [o2]; omega) (by rw [o2]; omega), o2]
    have k1 : (x3 + 1).toNatClampNeg = sN h + 1 := by have := n_nat (x := x3 + 1) (by omega); omega
    have k2 : (x3 + 2).toNatClampNeg = sN h + 2 := by have := n_nat (x := x3 + 2) (by omega); omega
    refine t_X12_clause_179 d h2 I2.1 x3 x4 _ ⟨fun _ => ⟨dp_in (lo := 0) (hi := 559) ⟨by show (0 : Int) ≤ _; omega, by show _ ≤ (559 : Int); omega⟩ (by decide) (by decide), dp_in (lo := 0) (hi := 559) ⟨by show (0 : Int) ≤ _; omega, by show _ ≤ (559 : Int); omega⟩ (by decide) (by decide), dp_in (lo := 0) (hi := 559) ⟨by show (0 : Int) ≤ _; omega, by show _ ≤ (559 : Int); omega⟩ (by decide) (by decide), ?_⟩, fun z => absurd (q_lt.mpr (by omega)) z⟩
    rw [j3, k1, k2]
    have g2 : ps h2 = ps h0 := f36 F2 (by decide +kernel)
    have es : (h_i h2 1 36 + 3).toInt = ps h2 + 3 := by
      have g : (h_i h2 1 36).toInt = ps h0 := g2
      show _ = (h_i h2 1 36).toInt + 3
      rw [tx_add (by rw [o3]; omega) (by rw [o3]; omega), o3]
    have I3 : Iv (h_im (h_im (h_im (h_im h2 226 (sN h) 0) 226 (sN h + 1) 1) 226 (sN h + 2) 2) 1 36 ((h_i h2 1 36) + 3)) := i36 (i226 (i226 (i226 I2 _ _) _ _) _ _) ⟨by rw [es]; show (0 : Int) ≤ _; omega, by rw [es]; show _ ≤ (559 : Int); omega⟩
    have F3 : Fr wzp h0 (h_im (h_im (h_im (h_im h2 226 (sN h) 0) 226 (sN h + 1) 1) 226 (sN h + 2) 2) 1 36 ((h_i h2 1 36) + 3)) := ((((F2.more (by decide +kernel)).im (inw_row (by decide +kernel) _)).im (inw_row (by decide +kernel) _)).im (inw_row (by decide +kernel) _)).im (by decide +kernel)
    have s3 : ps (h_im (h_im (h_im (h_im h2 226 (sN h) 0) 226 (sN h + 1) 1) 226 (sN h + 2) 2) 1 36 ((h_i h2 1 36) + 3)) = ps h2 + 3 := by
      show (h_i (h_im _ 1 36 _) 1 36).toInt = _
      rw [im_at]; exact es
    have c3 : ∀ k, h_i (h_im (h_im (h_im (h_im h2 226 (sN h) 0) 226 (sN h + 1) 1) 226 (sN h + 2) 2) 1 36 ((h_i h2 1 36) + 3)) 226 k = if k = sN h + 2 then 2 else if k = sN h + 1 then 1 else if k = sN h then 0 else h_i h2 226 k := by
      intro k
      rw [im_ne (by decide), h_i_im, h_i_im, h_i_im]
      by_cases y2 : k = sN h + 2
      · rw [if_pos ⟨rfl, y2⟩, if_pos y2]
      · rw [if_neg (fun z => y2 z.2), if_neg y2]
        by_cases y1 : k = sN h + 1
        · rw [if_pos ⟨rfl, y1⟩, if_pos y1]
        · rw [if_neg (fun z => y1 z.2), if_neg y1]
          by_cases y0 : k = sN h
          · rw [if_pos ⟨rfl, y0⟩, if_pos y0]
          · rw [if_neg (fun z => y0 z.2), if_neg y0]
    have a3 : pa (h_im (h_im (h_im (h_im h2 226 (sN h) 0) 226 (sN h + 1) 1) 226 (sN h + 2) 2) 1 36 ((h_i h2 1 36) + 3)) = pa h0 := by
      show (h_i (h_im _ 1 36 _) 1 33).toInt = _
      rw [f_ne (by decide), im_ne (by decide), im_ne (by decide), im_ne (by decide)]
      exact f33 F2 (by decide +kernel)
    have d3 : pd (h_im (h_im (h_im (h_im h2 226 (sN h) 0) 226 (sN h + 1) 1) 226 (sN h + 2) 2) 1 36 ((h_i h2 1 36) + 3)) = pd h0 := by
      show (h_i (h_im _ 1 36 _) 1 35).toInt = _
      rw [f_ne (by decide), im_ne (by decide), im_ne (by decide), im_ne (by decide)]
      exact f35 F2 (by decide +kernel)
    have G4 : h_i (h_im (h_im (h_im (h_im h2 226 (sN h) 0) 226 (sN h + 1) 1) 226 (sN h + 2) 2) 1 36 ((h_i h2 1 36) + 3)) 1 34 = h_i h0 1 34 := by
      rw [f_ne (by decide), im_ne (by decide), im_ne (by decide), im_ne (by decide)]
      exact (F2.2 1 34 (by decide +kernel)).1
    have G3 : h_i (h_im (h_im (h_im (h_im h2 226 (sN h) 0) 226 (sN h + 1) 1) 226 (sN h + 2) 2) 1 36 ((h_i h2 1 36) + 3)) 1 33 = h_i h0 1 33 := by
      rw [f_ne (by decide), im_ne (by decide), im_ne (by decide), im_ne (by decide)]
      exact (F2.2 1 33 (by decide +kernel)).1
    generalize h_im (h_im (h_im (h_im h2 226 (sN h) 0) 226 (sN h + 1) 1) 226 (sN h + 2) 2) 1 36 ((h_i h2 1 36) + 3) = h3 at I3 F3 s3 c3 a3 d3 G3 G4 ⊢
    refine Cv.mono (c_say d I3 3 (by show ps h3 ≤ 558; omega)) (fun h9 S => ⟨S.1.1, ?_⟩)
    obtain ⟨u1, u2, u3, u4, u5⟩ := Sa.q (h := h3) (x := 3) (h' := h9) S
    have nh3 := sN_i I3
    have nh9 := sN_i S.1
    have m3 : sN h3 = sN h0 + 3 := by omega
    have cc : ∀ k, k < sN h0 + 3 → h_i h9 226 k = if k = sN h + 2 then 2 else if k = sN h + 1 then 1 else if k = sN h then 0 else h_i h2 226 k := fun k hk => by rw [S.2.2.2.2 k (by show k ≠ sN h3; omega)]; exact c3 k
    have eN : sN h9 = sN h0 + 4 := by
      have u : ps h9 = ps h3 + 1 := S.2.2.1
      omega
    have lE := cE.1
    refine up _ ?_ ((S.2.1.2 1 34 (by decide +kernel)).1.trans G4) ((S.2.1.2 1 33 (by decide +kernel)).1.trans G3) ?_
    · refine ⟨S.1, (p2.tr F3).tr (S.2.1.more (by decide +kernel)), by omega, fun k hk => ?_, fun _ => ⟨by omega, by omega, by omega, by omega, sN h + 2, sN h0 + 3, ?_, ?_, ?_, ?_, by omega⟩⟩
      · rw [cc k (by omega), if_neg (by omega), if_neg (by omega), if_neg (by omega), c1 k (by omega)]
        exact p5 k hk
      · exact PR.ex (PR.num (by rw [cc _ (by omega), if_neg (by omega), if_neg (by omega), if_pos rfl])) (by decide)
      · rw [cc _ (by omega), if_pos rfl]
      · refine PR.ex (k := K1) ?_ (by omega)
        rw [show sN h + 2 + 1 = sN h + 3 by omega]
        refine PR.sh (t := 3) (fun x a b => ?_) t5
        rw [cc _ (by omega), if_neg (by omega), if_neg (by omega), if_neg (by omega)]
        exact c2 x (by omega) b
      · rw [← m3]; exact S.2.2.2.1
    · refine ⟨?_, fun k hk => ?_, fun i v ev => ?_⟩
      · show sN h9 = sN h + ((E ++ [(3 : Int32)]).length + 1 + 1 + 1)
        rw [List.length_append]
        show sN h9 = sN h + (E.length + 1 + 1 + 1 + 1)
        omega
      · rw [cc k (by omega), if_neg (by omega), if_neg (by omega), if_neg (by omega), c1 k (by omega)]
        exact p5 k hk
      · match i, ev with
        | 0, ev =>
          have ev : some (0 : Int32) = some v := ev
          rw [Nat.add_zero, cc _ (by omega), if_neg (by omega), if_neg (by omega), if_pos rfl]
          exact Option.some.inj ev
        | 1, ev =>
          have ev : some (1 : Int32) = some v := ev
          rw [cc _ (by omega), if_neg (by omega), if_pos rfl]
          exact Option.some.inj ev
        | 2, ev =>
          have ev : some (2 : Int32) = some v := ev
          rw [cc _ (by omega), if_pos rfl]
          exact Option.some.inj ev
        | j + 3, ev =>
          have ev : (E ++ [(3 : Int32)])[j]? = some v := ev
          by_cases lj : j < E.length
          · rw [List.getElem?_append_left lj] at ev
            rw [cc _ (by omega), if_neg (by omega), if_neg (by omega), if_neg (by omega), show sN h + (j + 3) = sN h + j + 3 by omega, c2 (sN h + j) (by omega) (by omega)]
            exact cE.2.2 j v ev
          · rw [List.getElem?_append_right (by omega)] at ev
            have lt : j - E.length < 1 := (List.getElem?_eq_some_iff.mp ev).1
            have e0 : j - E.length = 0 := by omega
            rw [e0] at ev
            have ev : some (3 : Int32) = some v := ev
            rw [show sN h + (j + 3) = sN h3 by omega, ← Option.some.inj ev]
            exact S.2.2.2.1
  | succ n ih =>
    intro h2 x4 e4 I2 F2 l2 c1 c2
    have j4 : x4.toNatClampNeg = sN h + n := by have := n_nat (x := x4) (by omega); omega
    have e3' : (x4 + 3).toInt = x4.toInt + 3 := by rw [tx_add (by rw [o3]; omega) (by rw [o3]; omega), o3]
    have k3 : (x4 + 3).toNatClampNeg = sN h + n + 3 := by have := n_nat (x := x4 + 3) (by omega); omega
    refine t_X12_clause_179 d h2 I2.1 x3 x4 _ ⟨fun z => absurd (q_lt.mp z) (by omega), fun _ => ⟨dp_in (lo := 0) (hi := 559) ⟨by show (0 : Int) ≤ _; omega, by show _ ≤ (559 : Int); omega⟩ (by decide) (by decide), dp_in (lo := 0) (hi := 559) ⟨by show (0 : Int) ≤ _; omega, by show _ ≤ (559 : Int); omega⟩ (by decide) (by decide), ?_⟩⟩
    rw [j4, k3]
    have em : (x4 + (-1)).toInt = x4.toInt - 1 := by rw [tx_add (by rw [om]; omega) (by rw [om]; omega), om]; omega
    generalize x4 + (-1) = y at em ⊢
    refine ih _ y (by omega) (i226 I2 _ _) (F2.im (inw_row (by decide +kernel) _)) (by omega) (fun j hj => ?_) (fun j a b => ?_)
    · rw [h_i_im, if_neg (fun u => by have := u.2; omega)]; exact c1 j (by omega)
    · rw [h_i_im]
      by_cases y0 : j = sN h + n
      · rw [if_pos ⟨rfl, by omega⟩, y0]; exact c1 _ (by omega)
      · rw [if_neg (fun u => by have := u.2; omega)]; exact c2 j (by omega) b
theorem c_clauseg (s : Nat) (hs : s = 1 ∨ s = 2) (d : Nat) {b : Nat → Int32} {n : Nat} {h : Hp_} (I : Iv h) (q : Pq h) (q0 : ps h ≤ 3 * pa h) (e0 : pd h = 0) (es : h_i h 1 37 = Int32.ofNat s) (t : Tp b n h) : Cv (m_X12_clause (d + 80 + 58) 0 0) [.ref 1] h (fun h' => Pc s h h' ∧ Fq b n ((k2c b n s (ta h)).1, (k2c b n s (ta h)).2.1) (clM (k2c b n s (ta h)).2.2) h h') := by
  have z1 : pz h ≤ 160 := (pz_in I).2
  refine t_X12_clause (d + 80) h I.1 _ (Ci.mono (c_lookf (d + 80) I t) (fun r h1 LL => ?_))
  have L := LL.1
  have l3 := L.2.2.1
  have l4 := L.2.2.2.1
  have zz := zf L.2.1 (by decide +kernel)
  have g1 := f36 L.2.1 (by decide +kernel)
  have d1 := f35 L.2.1 (by decide +kernel)
  have n0 := sN_i I
  have n1 := sN_i L.1
  have m1 : sN h1 = sN h := by omega
  have s1 : h_i h1 1 37 = Int32.ofNat s := by rw [(L.2.1.2 1 37 (by decide +kernel)).1]; exact es
  have q1 : Pq h1 := ⟨by rw [f34 L.2.1 (by decide +kernel)]; exact q.1, by have := q.2.1; omega, by omega, by omega⟩
  have q01 : ps h1 ≤ 3 * pa h1 := by omega
  have t1 : Tp b n h1 := LL.t t
  have ta1 : k2c b n s (ta h) = k2c b n s (ta h1) := by rw [LL.2.1, k2c_c]
  have cd1 : Cdm h h1 [] := Cdm.f0 L.2.1 (by decide +kernel)
  have er1 : r = skv b n (ta h1) := by rw [LL.2.1, skv_i]; exact LL.2.2
  have up : ∀ h', Pc s h1 h' → Fq b n ((k2c b n s (ta h1)).1, (k2c b n s (ta h1)).2.1) (clM (k2c b n s (ta h1)).2.2) h1 h' → Pc s h h' ∧ Fq b n ((k2c b n s (ta h)).1, (k2c b n s (ta h)).2.1) (clM (k2c b n s (ta h)).2.2) h h' := by
    intro h' P G
    obtain ⟨p1, p2, p3, p4, p5⟩ := P
    refine ⟨⟨p1, (L.2.1.more (by decide +kernel)).tr p2, by omega, fun k hk => ?_, fun w => ?_⟩, by rw [ta1]; exact G.b cd1⟩
    · rw [p4 k (by omega)]; exact fr_i L.2.1 (by decide +kernel) k
    · obtain ⟨t1, t2, t3, t4, t5⟩ := p5 w
      exact ⟨by omega, by omega, by omega, by omega, by rw [← m1]; exact t5⟩
  have cond : Cv (m_X12_condition (d + 80 + 57) 0 0) [.ref 1, .int 0] h1 (fun h7 => Pe s h1 h7 ∧ Fte b n (k2cd b n (k2un b n (ltb s) 6) (ta h1)) h1 h7) := c_cond0g s 80 0 _ (r_unitg s hs) d h1 L.1 q1 (by omega) s1 t1
  have s2 : ¬ h_i h1 1 37 = 1 → s = 2 := fun y => by
    rcases hs with u | u
    · subst u
      exact absurd s1 y
    · exact u
  have pay : ¬ h_i h1 1 37 = 1 → (r = 33 ∨ r = 40) → Cv (m_X12_condition (d + 80 + 57) 0 0) [.ref 1, .int 0] h1 (fun h7 => Wf h7 ∧ (Cv (m_X12_ask (d + 80 + 1) 0 0) [.ref 1] h7 (fun h10 => Wf h10 ∧ ((¬ (h_i h10 1 34) = (-1) → Pc s h h10 ∧ Fq b n ((k2c b n s (ta h)).1, (k2c b n s (ta h)).2.1) (clM (k2c b n s (ta h)).2.2) h h10) ∧ ((h_i h10 1 34) = (-1) → Cv (m_X12_sum (d + 80 + 53) 0 0) [.ref 1] h10 (fun h14 => Wf h14 ∧ (Cv (m_X12_say (d + 80 + 0) 0 0) [.ref 1, .int 3] h14 (fun h17 => Wf h17 ∧ (Pc s h h17 ∧ Fq b n ((k2c b n s (ta h)).1, (k2c b n s (ta h)).2.1) (clM (k2c b n s (ta h)).2.2) h h17))))))))) := fun ns c => by
    have e2 := s2 ns
    subst e2
    have ec : k2c b n 2 (ta h1) = k2pr (k2cd b n (k2un b n ltp 6)) (k2pa b n) (ta h1) := by
      show k2pc b n (ta h1) = _
      unfold k2pc
      exact if_pos (by rw [← er1]; exact c)
    rw [ec] at up
    exact Cv.mono cond (fun h7 P => ⟨P.1.1.1, cl_restg 2 hs d L.1 q1 q01 (by omega) s1 t1 P.1 (fc := k2cd b n (k2un b n ltp 6)) (a := ta h1) P.2 (fun y => (Wty.cd (Wty.un 6) (ta h1) y).nz) up⟩)
  refine ⟨L.1.1, fun ns => ⟨fun e33 => pay ns (Or.inl e33), fun n33 => ⟨fun e40 => pay ns (Or.inr e40), fun n40 => ?_⟩⟩, fun ys => ?_⟩
  · have e2 := s2 ns
    subst e2
    have eb : k2c b n 2 (ta h1) = if (k2ss b n ltp 6 (ta h1)).1 = true then (if sgb (skv b n (k2ss b n ltp 6 (ta h1)).2.1) = true then k2pr (k2p1 b n) (k2pa b n) (ta h1) else (true, (k2ss b n ltp 6 (ta h1)).2.1, ([], (k2ss b n ltp 6 (ta h1)).2.2))) else (false, (k2ss b n ltp 6 (ta h1)).2.1, ([], [])) := by
      show k2pc b n (ta h1) = _
      unfold k2pc
      rw [if_neg (by rw [← er1]; exact fun y => y.elim n33 n40)]
    refine Cv.mono (r_sumg 2 hs d h1 L.1 q1 (by omega) s1 t1) (fun h6 PP => ⟨PP.1.1.1, fun w => ?_, fun w => ?_⟩)
    · obtain ⟨P, PF⟩ := PP
      have k6 := PF.ok w
      have k1 : (k2ss b n ltp 6 (ta h1)).1 = true := k6.1
      have k2' : ska b n (ta h6) = (k2ss b n ltp 6 (ta h1)).2.1 := k6.2.1
      rw [eb, if_pos k1, ← k2', skv_i] at up
      refine Ci.mono (c_lookf (d + 80) P.1 (P.tp t1)) (fun r2 h4 LL4 => ⟨LL4.1.1.1, ?_⟩)
      have L4 := LL4.1
      have P4 := P.lk L.1 L4
      have w4 : h_i h4 1 34 = -1 := by rw [f34 L4.2.1 (by decide +kernel)]; exact w
      refine Ci.mono (c_isSignf (d + 80) h4 r2) (fun r5 h5 k => ?_)
      obtain ⟨e5, k⟩ := k
      subst e5
      refine ⟨L4.1.1, fun n5 => ?_, fun y5 => ?_⟩
      · have sg : sgb (skv b n (ta h6)) = true := by
          rcases k with k | k
          · rw [← LL4.2.2]
            exact k.2.1
          · exact absurd k.1 n5
        rw [if_pos sg] at up
        refine Cv.mono (c_cond1g 2 80 0 _ _ (r_unitg 2 hs) (r_sumg 2 hs) d L.1 q1 (by omega) s1 t1 P4 w4) (fun h7 P7 => ⟨P7.1.1.1, cl_restg 2 hs d L.1 q1 q01 (by omega) s1 t1 P7.1 (fc := k2p1 b n) (a := ta h1) ?_ (fun y => ((Wty.ss 6).cp ((Wcp.cm (Wty.ss 6)).sw (Wsw.mp (Wty.un 6))) (ta h1) y).nz) up⟩)
        have G7 := P7.2
        rw [LL4.2.1, Cne.sq Cne.cm] at G7
        have S6 := sqg (f := k2ss b n ltp 6) (g := k2sq (k2cm b n (k2ss b n ltp 6)) (k2mp b n (k2un b n ltp 6))) (Cne.sq Cne.cm) PF
        exact S6.ft w (G7.b (Cdm.f0 L4.2.1 (by decide +kernel)))
      · have sg : ¬ sgb (skv b n (ta h6)) = true := by
          rcases k with k | k
          · rw [y5] at k
            exact absurd k.1 (by decide)
          · rw [← LL4.2.2, k.2]
            decide
        rw [if_neg sg] at up
        have cE : Cdm h1 h5 ((k2ss b n ltp 6 (ta h1)).2.2.flatMap tkm) := k6.2.2.fr L4.2.1 (by decide +kernel)
        have up' : ∀ h', Pc 2 h1 h' → h_i h' 1 34 = h_i h5 1 34 → h_i h' 1 33 = h_i h5 1 33 → Cdm h1 h' ([0, 1] ++ 2 :: ((k2ss b n ltp 6 (ta h1)).2.2.flatMap tkm ++ [3])) → Pc 2 h h' ∧ Fq b n ((k2c b n 2 (ta h)).1, (k2c b n 2 (ta h)).2.1) (clM (k2c b n 2 (ta h)).2.2) h h' := fun h' p e4 e3 c => up h' p (Or.inl ⟨by rw [e4]; exact w4, rfl, by
          show ska b n (h_i h' 1 33).toNatClampNeg = ska b n (ta h6)
          rw [e3]
          show ska b n (ta h5) = _
          rw [LL4.i, LL4.2.1], c⟩)
        have n5 := sN_i P4.1
        have o1 : (1 : Int32).toInt = 1 := rfl
        have a0 : 0 ≤ pa h1 := (pa_in L.1).1
        obtain ⟨t1', t2, t3, _⟩ := P4.2.2.2.2.2.2.1 w4
        have p6 := P4.2.2.2.2.2.1
        have t3' : (h_i h5 1 36).toInt ≤ ps h1 + 2 * (pa h5 - pa h1) := t3
        have p6' : ps h1 ≤ (h_i h5 1 36).toInt := p6
        have n1' : 0 ≤ ps h1 := (ps_in L.1).1
        have ex : (h_i h5 1 36 - 1).toInt = (h_i h5 1 36).toInt - 1 := by rw [tx_sub (by rw [o1]; omega) (by rw [o1]; omega), o1]
        have ex' : (h_i h5 1 36 - 1).toInt = ps h5 - 1 := ex
        refine cl_shiftg 2 (d + 80) L.1 q01 P4 w4 _ rfl cE up' (sN h5 - sN h1) h5 _ (by omega) P4.1 (Fr.rf _ _) (by omega) (fun _ _ => rfl) (fun j a b => absurd a (by omega))
    · refine up _ (PP.1.wr w) ?_
      have k := PP.2.no w
      have k1 : (k2ss b n ltp 6 (ta h1)).1 = false := k.1
      rw [eb, if_neg (by rw [k1]; decide)]
      exact Or.inr ⟨w, rfl, k.2⟩
  · have e1 : s = 1 := by
      rcases hs with u | u
      · exact u
      · subst u
        rw [s1] at ys
        exact absurd ys (by decide)
    subst e1
    refine Cv.mono cond (fun h7 P => ⟨P.1.1.1, ?_⟩)
    have e7 : k2c b n 1 (ta h1) = k2pr (k2cd b n (k2un b n lta 6)) (k2av b n) (ta h1) := rfl
    have cg : Cne b n (k2av b n) := Cne.sq Cne.ex
    have F7 : Fte b n (k2cd b n (k2un b n lta 6) (ta h1)) h1 h7 := P.2
    rw [e7] at up
    refine Cv.mono (c_askg 1 (d + 80) L.1 q1 t1 P.1) (fun h3 AA => ?_)
    obtain ⟨A, F10, N10⟩ := AA
    refine ⟨A.1.1, fun w => ?_, fun w => up _ ⟨A.1, A.2.1, A.2.2.1, A.2.2.2.1, fun y => absurd y w⟩ (by
      by_cases w7 : h_i h7 1 34 = -1
      · have q := (F10 w7).no w
        have z := k2q_n (g := k2vd b n) q.1
        rw [k2pr_ok cg F7 w7]
        exact Or.inr ⟨w, z.1, by rw [q.2]; show _ = Int32.ofNat (k2sq (k2ex b n 63) (k2vd b n) (ta h7)).2.1; rw [z.2]⟩
      · exact fq_c F7 w7 (N10 w7))⟩
    have w7 : h_i h7 1 34 = -1 := Decidable.byContradiction (fun y => (N10 y).1 w)
    have f10 := (F10 w7).ok w
    have e10 : k2av b n (ta h7) = k2vd b n (ta h3) := k2q_y Cne.vd f10.1 f10.2.1
    have nz : ¬ (k2cd b n (k2un b n lta 6) (ta h1)).2.2.length = 0 := (Wty.cd (Wty.un 6) (ta h1) (F7.ok w7).1).nz
    rw [k2pr_ok cg F7 w7, e10] at up
    refine Ci.mono (c_lookf (d + 80) A.1 (t1.fr A.2.1 (by decide +kernel))) (fun r2 h4 LL4 => ?_)
    have L4 := LL4.1
    have z3 := zf A.2.1 (by decide +kernel)
    have fw : ∀ c : Int32, r2 = c → ¬ c = -1 → pa h4 < pz h1 := fun c ec nc => by
      rcases L4.fwd z3 with u | u
      · exact absurd (ec.symm.trans u) nc
      · exact u
    have four : pa h4 < pz h1 → vdb r2 = true → Cv (m_X12_say (d + 80 + 0) 0 0) [.ref 1, .int 0] (h_im h4 1 33 ((h_i h4 1 33) + 1)) (fun h71 => Wf h71 ∧ ((¬ r2 = 120 → (¬ r2 = 110 → (¬ r2 = 114 → Cv (m_X12_say (d + 80 + 0) 0 0) [.ref 1, .int 3] h71 (fun h77 => Wf h77 ∧ (Cv (m_X12_say (d + 80 + 0) 0 0) [.ref 1, .int 3] h77 (fun h80 => Wf h80 ∧ (Pc 1 h h80 ∧ Fq b n ((k2c b n 1 (ta h)).1, (k2c b n 1 (ta h)).2.1) (clM (k2c b n 1 (ta h)).2.2) h h80))))) ∧ (r2 = 114 → Cv (m_X12_say (d + 80 + 0) 0 0) [.ref 1, .int 2] h71 (fun h77 => Wf h77 ∧ (Cv (m_X12_say (d + 80 + 0) 0 0) [.ref 1, .int 3] h77 (fun h80 => Wf h80 ∧ (Pc 1 h h80 ∧ Fq b n ((k2c b n 1 (ta h)).1, (k2c b n 1 (ta h)).2.1) (clM (k2c b n 1 (ta h)).2.2) h h80)))))) ∧ (r2 = 110 → Cv (m_X12_say (d + 80 + 0) 0 0) [.ref 1, .int 1] h71 (fun h77 => Wf h77 ∧ (Cv (m_X12_say (d + 80 + 0) 0 0) [.ref 1, .int 3] h77 (fun h80 => Wf h80 ∧ (Pc 1 h h80 ∧ Fq b n ((k2c b n 1 (ta h)).1, (k2c b n 1 (ta h)).2.1) (clM (k2c b n 1 (ta h)).2.2) h h80)))))) ∧ (r2 = 120 → Cv (m_X12_say (d + 80 + 0) 0 0) [.ref 1, .int 0] h71 (fun h77 => Wf h77 ∧ (Cv (m_X12_say (d + 80 + 0) 0 0) [.ref 1, .int 3] h77 (fun h80 => Wf h80 ∧ (Pc 1 h h80 ∧ Fq b n ((k2c b n 1 (ta h)).1, (k2c b n 1 (ta h)).2.1) (clM (k2c b n 1 (ta h)).2.2) h h80))))))) := fun l v => by
      have ev : k2vd b n (ta h3) = (true, ska b n (ska b n (ta h3) + 1), [(0, vdv r2)]) := by
        unfold k2vd
        rw [← LL4.2.2, if_pos v]
      rw [ev] at up
      have up2 : ∀ h', Pc 1 h1 h' → h_i h' 1 34 = -1 → ska b n (ta h') = ska b n (ska b n (ta h3) + 1) → Cdm h3 h' [0, vdv r2, 3] → _ := fun h' p w' e' c => up h' p (Or.inl ⟨w', rfl, e', by
        show Cdm h1 h' (clM ((k2cd b n (k2un b n lta 6) (ta h1)).2.2, [(0, vdv r2)]))
        unfold clM
        rw [if_neg nz]
        have z := ((F7.ok w7).2.2.tr f10.2.2).tr c
        rw [List.append_assoc] at z
        exact z⟩)
      exact Cv.mono (cl_ansg 1 (d + 80) L.1 q01 A w LL4 l v up2) (fun h71 k => ⟨k.1, fun n1 => ⟨fun n2 => ⟨fun n3 => k.2 3 (by unfold vdv; rw [if_neg n1, if_neg n2, if_neg n3]), fun e3 => k.2 2 (by unfold vdv; rw [if_neg n1, if_neg n2, if_pos e3])⟩, fun e2 => k.2 1 (by unfold vdv; rw [if_neg n1, if_pos e2])⟩, fun e1 => k.2 0 (by unfold vdv; rw [if_pos e1])⟩)
    have w4 : h_i h4 1 34 = -1 := by rw [f34 L4.2.1 (by decide +kernel)]; exact w
    refine ⟨L4.1.1, fun e => four (fw _ e (by decide)) (by rw [e]; decide), fun n1 => ⟨fun e => four (fw _ e (by decide)) (by rw [e]; decide), fun n2 => ⟨fun e => four (fw _ e (by decide)) (by rw [e]; decide), fun n3 => ⟨fun e => four (fw _ e (by decide)) (by rw [e]; decide), fun n4 => Cv.mono (c_badf (d + 80) L4.1 w4) (fun h9 b9 => ⟨b9.1.1, up _ ⟨b9.1, (A.2.1.tr (L4.2.1.more (by decide +kernel))).tr (b9.2.1.more (by decide +kernel)), ?_, ?_, fun y => absurd y b9.2.2.1⟩ ?_⟩)⟩⟩⟩⟩
    · have b5 := f35 b9.2.1 (by decide +kernel)
      have l5 := f35 L4.2.1 (by decide +kernel)
      have a5 := A.2.2.1
      omega
    · intro k hk
      rw [fr_i b9.2.1 (a := 226) (by decide +kernel), fr_i L4.2.1 (a := 226) (by decide +kernel)]
      exact A.2.2.2.1 k hk
    · have ev : k2vd b n (ta h3) = (false, ska b n (ta h3), []) := by
        unfold k2vd
        exact if_neg (by rw [← LL4.2.2]; exact fun y => (of_decide_eq_true y).elim n1 (fun y => y.elim n2 (fun y => y.elim n3 n4)))
      rw [ev]
      exact Or.inr ⟨b9.2.2.1, rfl, by rw [b9.2.2.2, LL4.2.1]⟩
/-! the reference: a whole text, with what is put down -/
noncomputable def rlM (C : List Cl2) : List Int32 := C.flatMap clM
noncomputable def Sge (b : Nat → Int32) (n : Nat) (T : Bool × Nat × List Cl2) (g : Rcf Cl2) (h0 h : Hp_) : Prop := (h_i h 1 34 = -1 → ∃ C : List Cl2, T = k2pre C (g (ta h)) ∧ Cdm h0 h (rlM C)) ∧ (¬ h_i h 1 34 = -1 → T.1 = false ∧ h_i h 1 34 = Int32.ofNat T.2.1)
theorem rlM_a (C D : List Cl2) : rlM (C ++ D) = rlM C ++ rlM D := List.flatMap_append
theorem rlM_1 (c : Cl2) : rlM [c] = clM c := by
  unfold rlM
  simp
theorem sge_1 {b : Nat → Int32} {n s : Nat} {g : Rcf Cl2} {a : Nat} {h0 h : Hp_} (c : Cne b n g) (F : Fq b n ((k2c b n s a).1, (k2c b n s a).2.1) (clM (k2c b n s a).2.2) h0 h) : Sge b n (k2sq (k21 (k2c b n s)) g a) g h0 h := by
  refine ⟨fun w => ?_, fun w => ?_⟩
  · have k := F.ok w
    have y : (k21 (k2c b n s) a).1 = true := k.1
    have p : ska b n (ta h) = (k21 (k2c b n s) a).2.1 := k.2.1
    refine ⟨[(k2c b n s a).2.2], ?_, by rw [rlM_1]; exact k.2.2⟩
    unfold k2sq
    rw [if_pos y, ← p, c]
    rfl
  · have k := F.no w
    have e : k2sq (k21 (k2c b n s)) g a = k21 (k2c b n s) a := by
      unfold k2sq
      exact if_neg (by rw [show (k21 (k2c b n s) a).1 = false from k.1]; decide)
    rw [e]
    exact k
/-- all clauses were found -/
noncomputable def Fge (b : Nat → Int32) (n : Nat) (T : Bool × Nat × List Cl2) (h0 h : Hp_) : Prop := T.1 = true ∧ ska b n (ta h) = T.2.1 ∧ Cdm h0 h (rlM T.2.2)
theorem lge_x {b : Nat → Int32} {n s k : Nat} {T : Bool × Nat × List Cl2} {h0 h h5 : Hp_} {r : Int32} (F : Sge b n T (k2lp b n (isq 59) (fun _ => []) (k21 (k2c b n s)) k) h0 h) (w : h_i h 1 34 = -1) (L : Lkf b n h r h5) (ns : k = 0 ∨ isq 59 r = false) : Fge b n T h0 h5 := by
  obtain ⟨C, e, c⟩ := F.1 w
  have e2 : k2lp b n (isq 59) (fun _ => []) (k21 (k2c b n s)) k (ta h) = (true, ska b n (ta h), []) := by
    cases k with
    | zero => rfl
    | succ k =>
      rcases ns with u | u
      · cases u
      · unfold k2lp
        exact if_neg (by rw [← L.2.2, u]; decide)
  rw [e2] at e
  rw [e]
  refine ⟨rfl, by rw [L.i, L.2.1]; rfl, ?_⟩
  show Cdm h0 h5 (rlM (C ++ []))
  rw [List.append_nil]
  exact c.fr L.1.2.1 (by decide +kernel)
theorem lge_s {b : Nat → Int32} {n s k : Nat} {T : Bool × Nat × List Cl2} {h0 h h6 h9 : Hp_} {r : Int32} (F : Sge b n T (k2lp b n (isq 59) (fun _ => []) (k21 (k2c b n s)) (k + 1)) h0 h) (w : h_i h 1 34 = -1) (er : r = skv b n (ta h)) (ys : isq 59 r = true) (c6 : Cdm h h6 []) (G : Fq b n ((k2c b n s (ska b n (ta h) + 1)).1, (k2c b n s (ska b n (ta h) + 1)).2.1) (clM (k2c b n s (ska b n (ta h) + 1)).2.2) h6 h9) : Sge b n T (k2lp b n (isq 59) (fun _ => []) (k21 (k2c b n s)) k) h0 h9 := by
  obtain ⟨C, e, c⟩ := F.1 w
  have e2 : k2lp b n (isq 59) (fun _ => []) (k21 (k2c b n s)) (k + 1) (ta h) = if (k21 (k2c b n s) (ska b n (ta h) + 1)).1 = true then k2pre ((k21 (k2c b n s) (ska b n (ta h) + 1)).2.2 ++ []) (k2lp b n (isq 59) (fun _ => []) (k21 (k2c b n s)) k (k21 (k2c b n s) (ska b n (ta h) + 1)).2.1) else k21 (k2c b n s) (ska b n (ta h) + 1) := by
    show (if isq 59 (skv b n (ta h)) = true then _ else _) = _
    rw [if_pos (by rw [← er]; exact ys)]
  rw [e2, List.append_nil] at e
  refine ⟨fun w9 => ?_, fun w9 => ?_⟩
  · have g := G.ok w9
    have g2 : (k21 (k2c b n s) (ska b n (ta h) + 1)).1 = true := g.1
    have g3 : ska b n (ta h9) = (k21 (k2c b n s) (ska b n (ta h) + 1)).2.1 := g.2.1
    rw [if_pos g2, ← g3, Cne.lp k, k2pre_a] at e
    refine ⟨_, e, ?_⟩
    show Cdm h0 h9 (rlM (C ++ [(k2c b n s (ska b n (ta h) + 1)).2.2]))
    rw [rlM_a, rlM_1]
    exact c.tr (c6.tr g.2.2)
  · have g := G.no w9
    have g2 : (k21 (k2c b n s) (ska b n (ta h) + 1)).1 = false := g.1
    rw [if_neg (by rw [g2]; decide)] at e
    rw [e]
    exact g
/-- the codes of a whole text stand in the reference -/
noncomputable def Crm (C : List Cl2) (h : Hp_) : Prop := sN h = (rlM C).length ∧ ∀ i v, (rlM C)[i]? = some v → h_i h 226 i = v
theorem fl_loopg (s : Nat) (hs : s = 1 ∨ s = 2) (d : Nat) {b : Nat → Int32} {nn : Nat} (bb : ∀ k, k < nn → ¬ b k = -1) {h h0 : Hp_} (x1 : Int32) (e1 : x1 = Int32.ofNat s) (I0 : Iv h0) (F0 : Fr wzf h h0) (es : h_i h0 1 37 = Int32.ofNat s) (t0 : Tp b nn h0) (z0 : sN h0 = 0) :
    ∀ (n : Nat) (h2 : Hp_), Fl s h0 h2 → Sge b nn (k2ru b nn s 0) (k2lp b nn (isq 59) (fun _ => []) (k21 (k2c b nn s)) n) h0 h2 → pz h0 - pa h2 ≤ n → AW (m_X12_fault (d + 80 + 59) 0 0) 0 0 52 [(0, .ref 1)] [] h2 (kI (fun r h' => Fa x1 h r h' ∧ r = enq b nn (ruq b nn (clq b nn s)) ∧ (r = -1 → (k2ru b nn s 0).1 = true ∧ Crm (k2ru b nn s 0).2.2 h'))) := by
  have z1 : pz h0 ≤ 160 := (pz_in I0).2
  have dn : ∀ h', Fl s h0 h' → Fa x1 h (h_i h' 1 34) h' := by
    intro h' G
    refine ⟨G.1, F0.tr (G.2.1.more (by decide +kernel)), fun w => ⟨fun e => ?_, fun t ht et => ?_⟩⟩
    · rw [e1] at e
      rcases hs with u | u <;> subst u <;> exact absurd e (by decide)
    · have tt : t = s := by
        rw [e1] at et
        rcases hs with u | u <;> subst u <;> rcases ht with v | v <;> subst v <;> first | rfl | exact absurd et (by decide)
      subst tt
      exact (G.2.2.2 w).2.2
  have pj := pj_ru (b := b) (n := nn) hs 0
  have bad : ∀ h' : Hp_, ¬ h_i h' 1 34 = -1 → (k2ru b nn s 0).1 = false → h_i h' 1 34 = Int32.ofNat (k2ru b nn s 0).2.1 → h_i h' 1 34 = enq b nn (ruq b nn (clq b nn s)) ∧ (h_i h' 1 34 = -1 → (k2ru b nn s 0).1 = true ∧ Crm (k2ru b nn s 0).2.2 h') := fun h' w e1 e2 => by
    refine ⟨?_, fun y => absurd y w⟩
    unfold enq
    rw [if_neg (by rw [← pj.1, e1]; decide), ← pj.2]
    exact e2
  have ends : ∀ h1, Fl s h0 h1 → h_i h1 1 34 = -1 → Fge b nn (k2ru b nn s 0) h0 h1 → Ci (m_X12_look (d + 80 + 0) 0 0) [.ref 1] h1 (fun r h5 => Wf h5 ∧ ((r = (-1) → Fa x1 h (h_i h5 1 34) h5 ∧ h_i h5 1 34 = enq b nn (ruq b nn (clq b nn s)) ∧ (h_i h5 1 34 = -1 → (k2ru b nn s 0).1 = true ∧ Crm (k2ru b nn s 0).2.2 h5)) ∧ (¬ r = (-1) → Cv (m_X12_bad (d + 80 + 0) 0 0) [.ref 1] h5 (fun h9 => Wf h9 ∧ (Fa x1 h (h_i h9 1 34) h9 ∧ h_i h9 1 34 = enq b nn (ruq b nn (clq b nn s)) ∧ (h_i h9 1 34 = -1 → (k2ru b nn s 0).1 = true ∧ Crm (k2ru b nn s 0).2.2 h9)))))) := by
    intro h1 G w FT
    refine Ci.mono (c_lookf (d + 80) G.1 (t0.fr G.2.1 (by decide +kernel))) (fun r h5 LL => ?_)
    have FT' : Ft b nn (ruq b nn (clq b nn s) 0) h1 := Or.inl ⟨w, by rw [← pj.1]; exact FT.1, by rw [← pj.2]; exact FT.2.1⟩
    have E := enq_y bb FT' w LL
    have cr : Crm (k2ru b nn s 0).2.2 h5 := by
      have z := FT.2.2.fr LL.1.2.1 (by decide +kernel)
      have z1 := z.1
      rw [z0, Nat.zero_add] at z1
      refine ⟨z1, fun i v e => ?_⟩
      have q := z.2.2 i v e
      rw [z0, Nat.zero_add] at q
      exact q
    have L := LL.1
    have G5 := G.lk L
    refine ⟨L.1.1, fun er => ⟨dn _ G5, E.1 er, fun _ => ⟨FT.1, cr⟩⟩, fun nr => ?_⟩
    exact Cv.mono (c_badf (d + 80) L.1 (by rw [f34 L.2.1 (by decide +kernel)]; exact w)) (fun h9 k => ⟨k.1.1, ⟨k.1, F0.tr ((G5.2.1.tr (k.2.1.more (by decide +kernel))).more (by decide +kernel)), fun y => absurd y k.2.2.1⟩, by rw [k.2.2.2]; exact E.2 nr, fun y => absurd y k.2.2.1⟩)
  intro n
  induction n with
  | zero =>
    intro h2 G F m
    have zz := zf G.2.1 (by decide +kernel)
    have t2 : Tp b nn h2 := t0.fr G.2.1 (by decide +kernel)
    refine t_X12_fault_52 (d + 80) h2 G.1.1 _ ⟨fun w => ⟨fun _ => ⟨dn _ G, bad h2 w (F.2 w).1 (F.2 w).2⟩, fun y => absurd y w⟩, fun w => Ci.mono (c_lookf (d + 80) G.1 t2) (fun r h5 LL => ⟨LL.1.1.1, fun _ => ⟨fun y => absurd (by rw [f34 LL.1.2.1 (by decide +kernel)]; exact w) y, fun w5 => ends _ (G.lk LL.1) w5 (lge_x F w LL (Or.inl rfl))⟩, fun er => ?_⟩)⟩
    have l3 := LL.1.2.2.1
    rcases LL.1.fwd zz with u | u
    · rw [er] at u; exact absurd u (by decide)
    · omega
  | succ n ih =>
    intro h2 G F m
    have zz := zf G.2.1 (by decide +kernel)
    have t2 : Tp b nn h2 := t0.fr G.2.1 (by decide +kernel)
    refine t_X12_fault_52 (d + 80) h2 G.1.1 _ ⟨fun w => ⟨fun _ => ⟨dn _ G, bad h2 w (F.2 w).1 (F.2 w).2⟩, fun y => absurd y w⟩, fun w => Ci.mono (c_lookf (d + 80) G.1 t2) (fun r h5 LL => ⟨LL.1.1.1, fun nr => ⟨fun y => absurd (by rw [f34 LL.1.2.1 (by decide +kernel)]; exact w) y, fun w5 => ends _ (G.lk LL.1) w5 (lge_x F w LL (Or.inr (decide_eq_false nr)))⟩, fun er => ?_⟩)⟩
    have L := LL.1
    have G5 := G.lk L
    have w5 : h_i h5 1 34 = -1 := by rw [f34 L.2.1 (by decide +kernel)]; exact w
    have l3 := L.2.2.1
    have l5 : pa h5 < pz h0 := by
      rcases L.fwd zz with u | u
      · rw [er] at u; exact absurd u (by decide)
      · exact u
    obtain ⟨t1, t2', f, t3⟩ := G5.2.2.2 w5
    obtain ⟨k1, k2, k3⟩ := at1 L.1 (by omega)
    have na := nxa LL k1 k3
    generalize h_im h5 1 33 ((h_i h5 1 33) + 1) = h6 at k1 k2 k3 na ⊢
    have e5 := f35 k2 (by decide +kernel)
    have e6 := f36 k2 (by decide +kernel)
    have z6 := zf k2 (by decide +kernel)
    have z5 := zf G5.2.1 (by decide +kernel)
    have g3 := G5.2.2.1
    have n5 := sN_i G5.1
    have n6 := sN_i k1
    have m6 : sN h6 = sN h5 := by omega
    have F6 : Fr wzp h0 h6 := G5.2.1.tr (k2.more (by decide +kernel))
    refine Cv.mono (c_clauseg s hs d k1 ⟨by rw [f34 k2 (by decide +kernel)]; exact w5, by omega, by omega, by omega⟩ (by omega) (by omega) (by rw [(F6.2 1 37 (by decide +kernel)).1]; exact es) (t0.fr F6 (by decide +kernel))) (fun h9 PP => ?_)
    obtain ⟨P, PF⟩ := PP
    obtain ⟨p1, p2, p3, p4, p5⟩ := P
    rw [na] at PF
    have S9 := lge_s F w LL.2.2 (decide_eq_true er) (Cdm.f0 (L.2.1.tr k2) (by decide +kernel)) PF
    have c9 : ∀ k, k < sN h5 → h_i h9 226 k = h_i h5 226 k := fun k hk => by rw [p4 k (by omega)]; exact fr_i k2 (by decide +kernel) k
    refine ⟨p1.1, ?_⟩
    by_cases w9 : h_i h9 1 34 = -1
    · obtain ⟨u1, u2, u3, u4, u5⟩ := p5 w9
      refine ih h9 ⟨p1, F6.tr p2, by omega, fun _ => ⟨by omega, by omega, f + 1, ?_⟩⟩ S9 (by omega)
      refine pcl_snoc (pcl_same (fun x _ b => c9 x b) t3) ?_
      rw [← m6]; exact u5
    · refine t_X12_fault_52 (d + 80) h9 p1.1 _ ⟨fun w => ⟨fun _ => ?_, fun y => absurd y w⟩, fun w => absurd w w9⟩
      exact ⟨dn _ ⟨p1, F6.tr p2, by omega, fun y => absurd y w9⟩, bad h9 w9 (S9.2 w9).1 (S9.2 w9).2⟩
theorem c_faultg (d : Nat) {b : Nat → Int32} {n : Nat} (bb : ∀ k, k < n → ¬ b k = -1) {h : Hp_} (I : Iv h) (t : Tp b n h) (s : Nat) (hs : s = 1 ∨ s = 2) : Ci (m_X12_fault (d + 80 + 59) 0 0) [.ref 1, .int (Int32.ofNat s)] h (fun r h' => Fa (Int32.ofNat s) h r h' ∧ r = enq b n (ruq b n (clq b n s)) ∧ (r = -1 → (k2ru b n s 0).1 = true ∧ Crm (k2ru b n s 0).2.2 h')) := by
  have z0 : 0 ≤ pz h := (pz_in I).1
  have z1 : pz h ≤ 160 := (pz_in I).2
  have b0 : rin (0 : Int32).toInt (0, 180) := ⟨by decide, by decide⟩
  have I0 : Iv (h_im (h_im (h_im (h_im (h_im h 1 37 (Int32.ofNat s)) 1 33 0) 1 34 (-1)) 1 35 0) 1 36 0) := i36 (i35 (i34 (i33 (I.im (by rw [show tf 1 37 = rtop by decide +kernel]; exact rtop_in _) (by decide)) b0) _) ⟨by decide, by decide⟩) ⟨by decide, by decide⟩
  have F0 : Fr wzf h (h_im (h_im (h_im (h_im (h_im h 1 37 (Int32.ofNat s)) 1 33 0) 1 34 (-1)) 1 35 0) 1 36 0) := (((((Fr.rf _ _).im (by decide +kernel)).im (by decide +kernel)).im (by decide +kernel)).im (by decide +kernel)).im (by decide +kernel)
  have e36 : h_i (h_im (h_im (h_im (h_im (h_im h 1 37 (Int32.ofNat s)) 1 33 0) 1 34 (-1)) 1 35 0) 1 36 0) 1 36 = 0 := im_at
  have e35 : h_i (h_im (h_im (h_im (h_im (h_im h 1 37 (Int32.ofNat s)) 1 33 0) 1 34 (-1)) 1 35 0) 1 36 0) 1 35 = 0 := by rw [f_ne (by decide), im_at]
  have e34 : h_i (h_im (h_im (h_im (h_im (h_im h 1 37 (Int32.ofNat s)) 1 33 0) 1 34 (-1)) 1 35 0) 1 36 0) 1 34 = -1 := by rw [f_ne (by decide), f_ne (by decide), im_at]
  have e33 : h_i (h_im (h_im (h_im (h_im (h_im h 1 37 (Int32.ofNat s)) 1 33 0) 1 34 (-1)) 1 35 0) 1 36 0) 1 33 = 0 := by rw [f_ne (by decide), f_ne (by decide), f_ne (by decide), im_at]
  have e37 : h_i (h_im (h_im (h_im (h_im (h_im h 1 37 (Int32.ofNat s)) 1 33 0) 1 34 (-1)) 1 35 0) 1 36 0) 1 37 = Int32.ofNat s := by rw [f_ne (by decide), f_ne (by decide), f_ne (by decide), f_ne (by decide), im_at]
  have bs : 0 ≤ Int32.ofNat s ∧ Int32.ofNat s ≤ 2 := by rcases hs with u | u <;> subst u <;> decide
  have ns : ¬ Int32.ofNat s = 0 := by rcases hs with u | u <;> subst u <;> decide
  refine t_X12_fault (d + 80) h I.1 (Int32.ofNat s) _ ⟨fun _ => ?_, fun y => absurd bs y⟩
  generalize h_im (h_im (h_im (h_im (h_im h 1 37 (Int32.ofNat s)) 1 33 0) 1 34 (-1)) 1 35 0) 1 36 0 = h0 at I0 F0 e36 e35 e34 e33 e37 ⊢
  have zz := zf F0 (by decide +kernel)
  have a0 : pa h0 = 0 := by show (h_i h0 1 33).toInt = 0; rw [e33]; rfl
  have ta0 : ta h0 = 0 := by have := ta_i I0; omega
  have d0 : pd h0 = 0 := by show (h_i h0 1 35).toInt = 0; rw [e35]; rfl
  have s0 : ps h0 = 0 := by show (h_i h0 1 36).toInt = 0; rw [e36]; rfl
  have n0 := sN_i I0
  have nz : sN h0 = 0 := by omega
  have t0 : Tp b n h0 := t.fr F0 (by decide +kernel)
  refine ⟨fun _ => ?_, fun y => absurd y ns⟩
  refine Cv.mono (c_clauseg s hs d I0 ⟨e34, by omega, by omega, by omega⟩ (by omega) d0 e37 t0) (fun h5 PP => ?_)
  obtain ⟨P, PF⟩ := PP
  obtain ⟨p1, p2, p3, p4, p5⟩ := P
  have a5 : 0 ≤ pa h5 := (pa_in p1).1
  rw [ta0] at PF
  refine ⟨p1.1, fl_loopg s hs d bb (Int32.ofNat s) rfl I0 F0 e37 t0 nz 160 h5 ⟨p1, p2, by omega, fun w => ?_⟩ (sge_1 (Cne.lp 160) PF) (by omega)⟩
  obtain ⟨u1, u2, u3, u4, u5⟩ := p5 w
  refine ⟨by omega, by omega, 1, ?_⟩
  rw [nz] at u5
  exact pcl_snoc (f := 0) (e := 0) rfl u5
/-! texts at work: what they tell -/
theorem lg_le (x y : Int64) : lg_cmp x y ≤ 0 ↔ ¬ y < x := by
  unfold lg_cmp
  by_cases c : x > y
  · rw [if_pos c]
    exact ⟨fun h => absurd h (by decide), fun h => absurd c h⟩
  · rw [if_neg c]
    by_cases e : x = y
    · rw [if_pos e]
      exact ⟨fun _ => c, fun _ => by decide⟩
    · rw [if_neg e]
      exact ⟨fun _ => c, fun _ => by decide⟩
theorem lg_ge (x y : Int64) : 0 ≤ lg_cmp x y ↔ ¬ x < y := by
  unfold lg_cmp
  by_cases c : x > y
  · rw [if_pos c]
    refine ⟨fun _ z => ?_, fun _ => by decide⟩
    have a := Int64.lt_iff_toInt_lt.mp c
    have b := Int64.lt_iff_toInt_lt.mp z
    omega
  · rw [if_neg c]
    by_cases e : x = y
    · rw [if_pos e, e]
      refine ⟨fun _ z => ?_, fun _ => by decide⟩
      have b := Int64.lt_iff_toInt_lt.mp z
      omega
    · rw [if_neg e]
      refine ⟨fun h => absurd h (by decide), fun h => ?_⟩
      have a : ¬ y.toInt < x.toInt := fun z => c (Int64.lt_iff_toInt_lt.mpr z)
      have b : ¬ x.toInt < y.toInt := fun z => h (Int64.lt_iff_toInt_lt.mpr z)
      exact absurd (Int64.toInt_inj.mp (by omega)) e
noncomputable def kbd (x : Int64) : Int32 := if lg_cmp x (1000000 : Int64) ≤ 0 then (if 0 ≤ lg_cmp x (-1000000 : Int64) then x.toInt32 else -1000000) else 1000000
theorem kbd_b (x : Int64) : kbd x = bndv x := by
  have m1 : (1000000 : Int64).toInt = 1000000 := by decide
  have m2 : (-1000000 : Int64).toInt = -1000000 := by decide
  unfold kbd bndv
  by_cases a : (1000000 : Int64) < x
  · have a' := Int64.lt_iff_toInt_lt.mp a
    have n1 : ¬ x < (1000000 : Int64) := fun z => by
      have := Int64.lt_iff_toInt_lt.mp z
      omega
    rw [if_neg (fun z => (lg_le _ _).mp z a), if_neg n1, if_neg (by decide)]
    decide
  · rw [if_pos ((lg_le _ _).mpr a)]
    have a' : ¬ (1000000 : Int64).toInt < x.toInt := fun z => a (Int64.lt_iff_toInt_lt.mpr z)
    by_cases c : x < (-1000000 : Int64)
    · have c' := Int64.lt_iff_toInt_lt.mp c
      have y1 : x < (1000000 : Int64) := Int64.lt_iff_toInt_lt.mpr (by omega)
      rw [if_neg (fun z => (lg_ge _ _).mp z c), if_pos y1, if_pos c]
      decide
    · rw [if_pos ((lg_ge _ _).mpr c)]
      by_cases y1 : x < (1000000 : Int64)
      · rw [if_pos y1, if_neg c]
      · have y1' : ¬ x.toInt < (1000000 : Int64).toInt := fun z => y1 (Int64.lt_iff_toInt_lt.mpr z)
        have e : x = 1000000 := Int64.toInt_inj.mp (by omega)
        rw [if_neg y1, if_neg (by decide), e]
noncomputable def cmb (o x y : Int32) : Int32 := if o = 5 then kbd (x.toInt64 + y.toInt64) else if o = 6 then kbd (x.toInt64 - y.toInt64) else if o = 7 then kbd (x.toInt64 * y.toInt64) else if o = 8 then (if x = y then 1 else 0) else if o = 9 then (if y ≤ x then 0 else 1) else if o = 10 then (if x ≤ y then 0 else 1) else if o = 11 then x &&& y else x ||| y
noncomputable def skt (v : Int32 → Int32) (t : Tk2) (st : List Int32) : List Int32 := if t.1 = 0 then t.2 :: st else if t.1 = 1 then v t.2 :: st else if t.1 = 2 then (match st with | x :: st => (1 - x) :: st | [] => []) else (match st with | y :: x :: st => cmb t.1 x y :: st | _ => [])
noncomputable def run2 (v : Int32 → Int32) : List Tk2 → List Int32 → List Int32
  | [], st => st
  | t :: E, st => run2 v E (skt v t st)
noncomputable def top2 : List Int32 → Int32
  | [] => 0
  | x :: _ => x
/-- what a text of clauses tells -/
noncomputable def evC (v : Int32 → Int32) : List Cl2 → Int32
  | [] => 0
  | c :: C => if c.1.length = 0 ∨ ¬ top2 (run2 v c.1 []) = 0 then top2 (run2 v c.2 []) else evC v C
/-- numbers on the pile: those that say yes or no are 1 or 0 -/
noncomputable def Vty : List Bool → List Int32 → Prop
  | [], [] => True
  | y :: s, x :: st => (y = true → x = 0 ∨ x = 1) ∧ Vty s st
  | _, _ => False
theorem ty1_c {t : Tk2} {s s' : List Bool} (h : ty1 t s = some s') : ((t.1 = 0 ∨ t.1 = 1) ∧ s' = false :: s) ∨ (t.1 = 2 ∧ ∃ q, s = true :: q ∧ s' = true :: q) ∨ ((t.1 = 5 ∨ t.1 = 6 ∨ t.1 = 7) ∧ ∃ q, s = false :: false :: q ∧ s' = false :: q) ∨ ((t.1 = 8 ∨ t.1 = 9 ∨ t.1 = 10) ∧ ∃ q, s = false :: false :: q ∧ s' = true :: q) ∨ ((t.1 = 11 ∨ t.1 = 12) ∧ ∃ q, s = true :: true :: q ∧ s' = true :: q) := by
  unfold ty1 at h
  by_cases c0 : t.1 = 0 ∨ t.1 = 1
  · rw [if_pos c0] at h
    exact Or.inl ⟨c0, (Option.some.inj h).symm⟩
  · rw [if_neg c0] at h
    by_cases c2 : t.1 = 2
    · rw [if_pos c2] at h
      match s, h with
      | true :: q, h => exact Or.inr (Or.inl ⟨c2, q, rfl, (Option.some.inj h).symm⟩)
      | false :: q, h => cases h
      | [], h => cases h
    · rw [if_neg c2] at h
      by_cases c5 : t.1 = 5 ∨ t.1 = 6 ∨ t.1 = 7
      · rw [if_pos c5] at h
        match s, h with
        | false :: false :: q, h => exact Or.inr (Or.inr (Or.inl ⟨c5, q, rfl, (Option.some.inj h).symm⟩))
        | false :: true :: q, h => cases h
        | true :: q, h => cases h
        | [false], h => cases h
        | [], h => cases h
      · rw [if_neg c5] at h
        by_cases c8 : t.1 = 8 ∨ t.1 = 9 ∨ t.1 = 10
        · rw [if_pos c8] at h
          match s, h with
          | false :: false :: q, h => exact Or.inr (Or.inr (Or.inr (Or.inl ⟨c8, q, rfl, (Option.some.inj h).symm⟩)))
          | false :: true :: q, h => cases h
          | true :: q, h => cases h
          | [false], h => cases h
          | [], h => cases h
        · rw [if_neg c8] at h
          by_cases c11 : t.1 = 11 ∨ t.1 = 12
          · rw [if_pos c11] at h
            match s, h with
            | true :: true :: q, h => exact Or.inr (Or.inr (Or.inr (Or.inr ⟨c11, q, rfl, (Option.some.inj h).symm⟩)))
            | true :: false :: q, h => cases h
            | false :: q, h => cases h
            | [true], h => cases h
            | [], h => cases h
          · rw [if_neg c11] at h
            cases h
theorem skt_p {v : Int32 → Int32} {t : Tk2} {st : List Int32} (h : t.1 = 0 ∨ t.1 = 1) : skt v t st = (if t.1 = 0 then t.2 else v t.2) :: st := by
  unfold skt
  rcases h with e | e
  · rw [if_pos e, if_pos e]
  · have n : ¬ t.1 = 0 := by rw [e]; decide
    rw [if_neg n, if_pos e, if_neg n]
theorem skt_n {v : Int32 → Int32} {t : Tk2} {st : List Int32} {x : Int32} (h : t.1 = 2) : skt v t (x :: st) = (1 - x) :: st := by
  unfold skt
  rw [if_neg (by rw [h]; decide), if_neg (by rw [h]; decide), if_pos h]
theorem skt_b {v : Int32 → Int32} {t : Tk2} {st : List Int32} {x y : Int32} (h : ¬ t.1 = 0 ∧ ¬ t.1 = 1 ∧ ¬ t.1 = 2) : skt v t (y :: x :: st) = cmb t.1 x y :: st := by
  unfold skt
  rw [if_neg h.1, if_neg h.2.1, if_neg h.2.2]
theorem n02 {x : Int32} (h : x = 5 ∨ x = 6 ∨ x = 7 ∨ x = 8 ∨ x = 9 ∨ x = 10 ∨ x = 11 ∨ x = 12) : ¬ x = 0 ∧ ¬ x = 1 ∧ ¬ x = 2 := by
  rcases h with e | e | e | e | e | e | e | e <;> rw [e] <;> decide
theorem ite_01 (p : Prop) [Decidable p] : (if p then (1 : Int32) else 0) = 0 ∨ (if p then (1 : Int32) else 0) = 1 := by
  by_cases h : p
  · rw [if_pos h]
    exact Or.inr rfl
  · rw [if_neg h]
    exact Or.inl rfl
theorem ite_10 (p : Prop) [Decidable p] : (if p then (0 : Int32) else 1) = 0 ∨ (if p then (0 : Int32) else 1) = 1 := by
  by_cases h : p
  · rw [if_pos h]
    exact Or.inl rfl
  · rw [if_neg h]
    exact Or.inr rfl
theorem cmb_8 {o x y : Int32} (h : o = 8 ∨ o = 9 ∨ o = 10) : cmb o x y = 0 ∨ cmb o x y = 1 := by
  unfold cmb
  rcases h with e | e | e
  · rw [if_neg (by rw [e]; decide), if_neg (by rw [e]; decide), if_neg (by rw [e]; decide), if_pos e]
    exact ite_01 _
  · rw [if_neg (by rw [e]; decide), if_neg (by rw [e]; decide), if_neg (by rw [e]; decide), if_neg (by rw [e]; decide), if_pos e]
    exact ite_10 _
  · rw [if_neg (by rw [e]; decide), if_neg (by rw [e]; decide), if_neg (by rw [e]; decide), if_neg (by rw [e]; decide), if_neg (by rw [e]; decide), if_pos e]
    exact ite_10 _
theorem cmb_11 {o x y : Int32} (h : o = 11 ∨ o = 12) (hx : x = 0 ∨ x = 1) (hy : y = 0 ∨ y = 1) : cmb o x y = 0 ∨ cmb o x y = 1 := by
  rcases h with e | e <;> subst e <;> rcases hx with e | e <;> subst e <;> rcases hy with e | e <;> subst e <;> decide
/-- one token, both ways of reading: the kinds stay true -/
theorem skt_t {v : Int32 → Int32} {t : Tk2} {s s' : List Bool} {st : List Int32} (h : ty1 t s = some s') (V : Vty s st) : Vty s' (skt v t st) := by
  rcases ty1_c h with ⟨c, e⟩ | ⟨c, q, e, e'⟩ | ⟨c, q, e, e'⟩ | ⟨c, q, e, e'⟩ | ⟨c, q, e, e'⟩
  · rw [e, skt_p c]
    exact ⟨fun y => absurd y (by decide), V⟩
  · subst e e'
    match st, V with
    | x :: st, V =>
      rw [skt_n c]
      refine ⟨fun _ => ?_, V.2⟩
      rcases V.1 rfl with u | u <;> subst u <;> decide
  · subst e e'
    match st, V with
    | y :: x :: st, V =>
      rw [skt_b (n02 (by rcases c with u | u | u <;> rw [u] <;> decide))]
      exact ⟨fun y => absurd y (by decide), V.2.2⟩
    | [y], V => exact V.2.elim
  · subst e e'
    match st, V with
    | y :: x :: st, V =>
      rw [skt_b (n02 (by rcases c with u | u | u <;> rw [u] <;> decide))]
      exact ⟨fun _ => cmb_8 c, V.2.2⟩
    | [y], V => exact V.2.elim
  · subst e e'
    match st, V with
    | y :: x :: st, V =>
      rw [skt_b (n02 (by rcases c with u | u <;> rw [u] <;> decide))]
      exact ⟨fun _ => cmb_11 c (V.2.1 rfl) (V.1 rfl), V.2.2⟩
    | [y], V => exact V.2.elim
theorem Vty.l : ∀ {s : List Bool} {st : List Int32}, Vty s st → s.length = st.length
  | [], [], _ => rfl
  | _ :: s, _ :: st, V => by
    show s.length + 1 = st.length + 1
    rw [Vty.l V.2]
  | [], _ :: _, V => V.elim
  | _ :: _, [], V => V.elim
theorem run2_t {v : Int32 → Int32} : ∀ (E : List Tk2) {s s' : List Bool} {st : List Int32}, tyL E s = some s' → Vty s st → Vty s' (run2 v E st)
  | [], s, s', st, h, V => by
    have h : some s = some s' := h
    rw [← Option.some.inj h]
    exact V
  | t :: E, s, s', st, h, V => by
    have h : (match ty1 t s with | some s' => tyL E s' | none => none) = some s' := h
    cases e : ty1 t s with
    | none =>
      rw [e] at h
      cases h
    | some q =>
      rw [e] at h
      exact run2_t E h (skt_t e V)
/-- a sum, or a condition, leaves one number -/
theorem run2_1 {v : Int32 → Int32} {y : Bool} {E : List Tk2} (p : Put1 y E) : ∃ x, run2 v E [] = [x] := by
  have V := run2_t (v := v) E (p []) (st := []) trivial
  have l := V.l
  match e : run2 v E [], l with
  | [x], _ => exact ⟨x, rfl⟩
/-- letters that are alike tell alike -/
theorem run2_v {v w : Int32 → Int32} : ∀ (E : List Tk2) (st : List Int32), (∀ t ∈ E, t.1 = 1 → v t.2 = w t.2) → run2 v E st = run2 w E st
  | [], _, _ => rfl
  | t :: E, st, h => by
    have e : skt v t st = skt w t st := by
      unfold skt
      by_cases c : t.1 = 1
      · rw [if_pos c, if_pos c, h t (List.mem_cons_self ..) c]
      · rw [if_neg c, if_neg c]
    show run2 v E (skt v t st) = run2 w E (skt w t st)
    rw [e]
    exact run2_v E _ (fun t ht => h t (List.mem_cons_of_mem _ ht))
theorem evC_v {s : Nat} {v w : Int32 → Int32} (h : ∀ c, ltb s c = true → v c = w c) : ∀ C : List Cl2, (∀ c ∈ C, clO s c) → evC v C = evC w C
  | [], _ => rfl
  | c :: C, hc => by
    have k := hc c (List.mem_cons_self ..)
    show (if c.1.length = 0 ∨ ¬ top2 (run2 v c.1 []) = 0 then top2 (run2 v c.2 []) else evC v C) = (if c.1.length = 0 ∨ ¬ top2 (run2 w c.1 []) = 0 then top2 (run2 w c.2 []) else evC w C)
    rw [run2_v c.1 [] (fun t ht e => h _ ((k.2.2.1 t ht).1 e)), run2_v c.2 [] (fun t ht e => h _ ((k.2.2.2 t ht).1 e)), evC_v h C (fun c hc' => hc c (List.mem_cons_of_mem _ hc'))]
/-- the pile, as a row holds it -/
noncomputable def Pil (p : Nat → Int32) : List Int32 → Prop
  | [] => True
  | x :: st => p st.length = x ∧ Pil p st
theorem Pil.cg {p q : Nat → Int32} : ∀ {st : List Int32}, Pil p st → (∀ k, k < st.length → q k = p k) → Pil q st
  | [], _, _ => trivial
  | x :: st, P, e => ⟨(e _ (by show st.length < st.length + 1; omega)).trans P.1, Pil.cg P.2 (fun k hk => e k (by show k < st.length + 1; omega))⟩
theorem Pil.up {p : Nat → Int32} {st : List Int32} (P : Pil p st) (x : Int32) : Pil (upp p st.length x) (x :: st) := ⟨if_pos rfl, P.cg (fun k hk => if_neg (by omega))⟩
/-! what the reference's codes tell -/
noncomputable def At_ (cd : Nat → Int32) (i : Nat) (L : List Int32) : Prop := ∀ k v, L[k]? = some v → cd (i + k) = v
theorem At_.l {cd : Nat → Int32} {i : Nat} {L M : List Int32} (a : At_ cd i (L ++ M)) : At_ cd i L := fun k v e => a k v (by
  have l : k < L.length := (List.getElem?_eq_some_iff.mp e).1
  rw [List.getElem?_append_left l]
  exact e)
theorem At_.r {cd : Nat → Int32} {i : Nat} {L M : List Int32} (a : At_ cd i (L ++ M)) : At_ cd (i + L.length) M := fun k v e => by
  have z := a (L.length + k) v (by
    rw [List.getElem?_append_right (by omega), show L.length + k - L.length = k by omega]
    exact e)
  rw [← Nat.add_assoc] at z
  exact z
theorem At_.h {cd : Nat → Int32} {i : Nat} {x : Int32} {L : List Int32} (a : At_ cd i (x :: L)) : cd i = x := a 0 x rfl
theorem bnd_and {x y : Int32} (hx : x = 0 ∨ x = 1) (hy : y = 0 ∨ y = 1) : bothv 38 x y = cmb 11 x y ∧ bothv 124 x y = cmb 12 x y := by
  rcases hx with e | e <;> subst e <;> rcases hy with e | e <;> subst e <;> decide
theorem both_cmb {o x y : Int32} (h : (o = 5 ∨ o = 6 ∨ o = 7) ∨ (o = 8 ∨ o = 9 ∨ o = 10) ∨ ((o = 11 ∨ o = 12) ∧ (x = 0 ∨ x = 1) ∧ (y = 0 ∨ y = 1))) : bothv (opm o) x y = cmb o x y := by
  rcases h with (e | e | e) | (e | e | e) | ⟨e, hx, hy⟩
  · subst e
    show bndv (x.toInt64 + y.toInt64) = kbd (x.toInt64 + y.toInt64)
    exact (kbd_b _).symm
  · subst e
    show bndv (x.toInt64 - y.toInt64) = kbd (x.toInt64 - y.toInt64)
    exact (kbd_b _).symm
  · subst e
    show bndv (x.toInt64 * y.toInt64) = kbd (x.toInt64 * y.toInt64)
    exact (kbd_b _).symm
  · subst e
    rfl
  · subst e
    rfl
  · subst e
    rfl
  · rcases e with e | e <;> subst e
    · exact (bnd_and hx hy).1
    · exact (bnd_and hx hy).2
theorem opm_n {o : Int32} (h : o = 5 ∨ o = 6 ∨ o = 7 ∨ o = 8 ∨ o = 9 ∨ o = 10 ∨ o = 11 ∨ o = 12) : ¬ opm o = 0 ∧ ¬ opm o = 1 ∧ ¬ opm o = 33 ∧ ¬ opm o = 2 ∧ ¬ opm o = 3 := by
  rcases h with e | e | e | e | e | e | e | e <;> subst e <;> decide
theorem tkm_b {t : Tk2} (h : ¬ t.1 = 0 ∧ ¬ t.1 = 1) : tkm t = [opm t.1] := by
  unfold tkm
  rw [if_neg h.1, if_neg h.2]
/-- one token of the reference at work -/
theorem rt_one {s : Nat} {cd lt : Nat → Int32} {j : Nat} (hj : cd j = 2 ∨ cd j = 3) {t : Tk2} {g i m : Nat} {p : Nat → Int32} {st : List Int32} {ts ts' : List Bool} (P : prun s cd g i st.length j m) (L : Pil p st) (ht : ty1 t ts = some ts') (V : Vty ts st) (a : At_ cd i (tkm t)) : ∃ g' p', prun s cd g' (i + (tkm t).length) (skt (fun c => lt c.toNatClampNeg) t st).length j m ∧ wev cd lt g i st.length p = wev cd lt g' (i + (tkm t).length) (skt (fun c => lt c.toNatClampNeg) t st).length p' ∧ Pil p' (skt (fun c => lt c.toNatClampNeg) t st) := by
  have fst : ¬ cd i = 2 ∧ ¬ cd i = 3 := by
    rcases ty1_c ht with ⟨c, _⟩ | ⟨c, _⟩ | ⟨c, _⟩ | ⟨c, _⟩ | ⟨c, _⟩
    · unfold tkm at a
      rcases c with c | c
      · rw [if_pos c] at a
        rw [a.h]
        decide
      · rw [if_neg (by rw [c]; decide), if_pos c] at a
        rw [a.h]
        decide
    · rw [tkm_b (by rw [c]; decide), c] at a
      rw [a.h]
      decide
    · rw [tkm_b (by rcases c with u | u | u <;> rw [u] <;> decide)] at a
      rw [a.h]
      exact (opm_n (by rcases c with u | u | u <;> rw [u] <;> decide)).2.2.2
    · rw [tkm_b (by rcases c with u | u | u <;> rw [u] <;> decide)] at a
      rw [a.h]
      exact (opm_n (by rcases c with u | u | u <;> rw [u] <;> decide)).2.2.2
    · rw [tkm_b (by rcases c with u | u <;> rw [u] <;> decide)] at a
      rw [a.h]
      exact (opm_n (by rcases c with u | u <;> rw [u] <;> decide)).2.2.2
  cases g with
  | zero =>
    have e : i = j := P.1
    rw [e] at fst
    exact (hj.elim fst.1 fst.2).elim
  | succ g =>
    obtain ⟨i', n', h1, h2⟩ := P
    rw [wev_s]
    have bin : ∀ (x y : Int32) (st0 : List Int32), st = y :: x :: st0 → (¬ t.1 = 0 ∧ ¬ t.1 = 1 ∧ ¬ t.1 = 2) → (¬ opm t.1 = 0 ∧ ¬ opm t.1 = 1 ∧ ¬ opm t.1 = 33 ∧ ¬ opm t.1 = 2 ∧ ¬ opm t.1 = 3) → bothv (opm t.1) x y = cmb t.1 x y → ∃ g' p', prun s cd g' (i + (tkm t).length) (skt (fun c => lt c.toNatClampNeg) t st).length j m ∧ (if cd i = 0 then wev cd lt g (i + 2) (st.length + 1) (upp p st.length (cd (i + 1))) else if cd i = 1 then wev cd lt g (i + 2) (st.length + 1) (upp p st.length (lt (cd (i + 1)).toNatClampNeg)) else if cd i = 33 then wev cd lt g (i + 1) st.length (upp p (st.length - 1) (if p (st.length - 1) = 0 then 1 else 0)) else wev cd lt g (i + 1) (st.length - 1) (upp p (st.length - 2) (bothv (cd i) (p (st.length - 2)) (p (st.length - 1))))) = wev cd lt g' (i + (tkm t).length) (skt (fun c => lt c.toNatClampNeg) t st).length p' ∧ Pil p' (skt (fun c => lt c.toNatClampNeg) t st) := fun x y st0 est nt no eb => by
      subst est
      rw [tkm_b ⟨nt.1, nt.2.1⟩] at a ⊢
      have ci := a.h
      rw [skt_b nt, if_neg (by rw [ci]; exact no.1), if_neg (by rw [ci]; exact no.2.1), if_neg (by rw [ci]; exact no.2.2.1)]
      have q : i' = i + 1 ∧ n' = (y :: x :: st0).length - 1 := by
        rcases pst_0 h1 with ⟨c, _⟩ | ⟨c, _⟩ | ⟨c, _⟩ | ⟨_, _, q2, q3⟩
        · exact absurd (ci.symm.trans c) no.1
        · exact absurd (ci.symm.trans c) no.2.1
        · exact absurd (ci.symm.trans c) no.2.2.1
        · exact ⟨q2, q3⟩
      have l1 : (y :: x :: st0).length - 1 = (cmb t.1 x y :: st0).length := rfl
      rw [q.1, q.2, l1] at h2
      refine ⟨g, upp p st0.length (cmb t.1 x y), h2, ?_, L.2.2.up _⟩
      have p1 : p ((y :: x :: st0).length - 1) = y := L.1
      have p2 : p ((y :: x :: st0).length - 2) = x := L.2.1
      rw [p1, p2, ci, eb]
      rfl
    rcases ty1_c ht with ⟨c, e⟩ | ⟨c, q, e, e'⟩ | ⟨c, q, e, e'⟩ | ⟨c, q, e, e'⟩ | ⟨c, q, e, e'⟩
    · rw [skt_p c]
      rcases c with c | c
      · have et : tkm t = [0, t.2] := by
          unfold tkm
          rw [if_pos c]
        rw [et] at a ⊢
        have ci := a.h
        have c1 : cd (i + 1) = t.2 := a 1 t.2 rfl
        rw [if_pos ci, if_pos c, c1]
        have q : i' = i + 2 ∧ n' = st.length + 1 := by
          rcases pst_0 h1 with ⟨_, _, q2, q3⟩ | ⟨c, _⟩ | ⟨c, _⟩ | ⟨c, _⟩
          · exact ⟨q2, q3⟩
          · rw [ci] at c
            exact absurd c (by decide)
          · rw [ci] at c
            exact absurd c (by decide)
          · exact absurd ci c.1
        rw [q.1, q.2] at h2
        exact ⟨g, _, h2, rfl, L.up _⟩
      · have n0 : ¬ t.1 = 0 := by rw [c]; decide
        have et : tkm t = [1, t.2] := by
          unfold tkm
          rw [if_neg n0, if_pos c]
        rw [et] at a ⊢
        have ci := a.h
        have c1 : cd (i + 1) = t.2 := a 1 t.2 rfl
        rw [if_neg n0, if_neg (show ¬ cd i = 0 by rw [ci]; decide), if_pos ci, c1]
        have q : i' = i + 2 ∧ n' = st.length + 1 := by
          rcases pst_0 h1 with ⟨c, _⟩ | ⟨_, _, _, q2, q3⟩ | ⟨c, _⟩ | ⟨c, _⟩
          · rw [ci] at c
            exact absurd c (by decide)
          · exact ⟨q2, q3⟩
          · rw [ci] at c
            exact absurd c (by decide)
          · exact absurd ci c.2.1
        rw [q.1, q.2] at h2
        exact ⟨g, _, h2, rfl, L.up _⟩
    · subst e
      match st, V, L, h1, h2, bin with
      | x :: st0, V, L, h1, h2, bin =>
        rw [skt_n c]
        have et : tkm t = [33] := by
          rw [tkm_b (by rw [c]; decide), c]
          rfl
        rw [et] at a ⊢
        have ci := a.h
        rw [if_neg (by rw [ci]; decide), if_neg (by rw [ci]; decide), if_pos ci]
        have q : i' = i + 1 ∧ n' = (x :: st0).length := by
          rcases pst_0 h1 with ⟨c, _⟩ | ⟨c, _⟩ | ⟨_, _, q2, q3⟩ | ⟨c, _⟩
          · rw [ci] at c
            exact absurd c (by decide)
          · rw [ci] at c
            exact absurd c (by decide)
          · exact ⟨q2, q3⟩
          · exact absurd ci c.2.2.1
        rw [q.1, q.2] at h2
        have p1 : p ((x :: st0).length - 1) = x := L.1
        have ex : (if x = 0 then (1 : Int32) else 0) = 1 - x := by
          rcases V.1 rfl with u | u <;> subst u <;> decide
        rw [p1, ex]
        exact ⟨g, _, h2, rfl, L.2.up _⟩
    · subst e
      match st, V with
      | y :: x :: st0, V => exact bin x y st0 rfl (n02 (by rcases c with u | u | u <;> rw [u] <;> decide)) (opm_n (by rcases c with u | u | u <;> rw [u] <;> decide)) (both_cmb (Or.inl c))
      | [y], V => exact V.2.elim
    · subst e
      match st, V with
      | y :: x :: st0, V => exact bin x y st0 rfl (n02 (by rcases c with u | u | u <;> rw [u] <;> decide)) (opm_n (by rcases c with u | u | u <;> rw [u] <;> decide)) (both_cmb (Or.inr (Or.inl c)))
      | [y], V => exact V.2.elim
    · subst e
      match st, V with
      | y :: x :: st0, V => exact bin x y st0 rfl (n02 (by rcases c with u | u <;> rw [u] <;> decide)) (opm_n (by rcases c with u | u <;> rw [u] <;> decide)) (both_cmb (Or.inr (Or.inr ⟨c, V.2.1 rfl, V.1 rfl⟩)))
      | [y], V => exact V.2.elim
theorem rt_tok {s : Nat} {cd lt : Nat → Int32} {j : Nat} (hj : cd j = 2 ∨ cd j = 3) : ∀ (E : List Tk2) {g i m : Nat} {p : Nat → Int32} {st : List Int32} {ts ts' : List Bool}, prun s cd g i st.length j m → Pil p st → tyL E ts = some ts' → Vty ts st → At_ cd i (E.flatMap tkm) → ∃ g' p', prun s cd g' (i + (E.flatMap tkm).length) (run2 (fun c => lt c.toNatClampNeg) E st).length j m ∧ wev cd lt g i st.length p = wev cd lt g' (i + (E.flatMap tkm).length) (run2 (fun c => lt c.toNatClampNeg) E st).length p' ∧ Pil p' (run2 (fun c => lt c.toNatClampNeg) E st)
  | [], g, i, m, p, st, ts, ts', P, L, _, _, _ => ⟨g, p, P, rfl, L⟩
  | t :: E, g, i, m, p, st, ts, ts', P, L, h, V, a => by
    have h : (match ty1 t ts with | some s' => tyL E s' | none => none) = some ts' := h
    have ef : (t :: E).flatMap tkm = tkm t ++ E.flatMap tkm := List.flatMap_cons
    rw [ef] at a ⊢
    cases e : ty1 t ts with
    | none =>
      rw [e] at h
      cases h
    | some q =>
      rw [e] at h
      obtain ⟨g1, p1, P1, e1, L1⟩ := rt_one (lt := lt) hj P L e V a.l
      obtain ⟨g2, p2, P2, e2, L2⟩ := rt_tok hj E P1 L1 h (skt_t e V) a.r
      refine ⟨g2, p2, ?_, ?_, L2⟩
      · rw [List.length_append, ← Nat.add_assoc]
        exact P2
      · rw [List.length_append, ← Nat.add_assoc, e1]
        exact e2
/-- a whole sum or condition -/
theorem rt_all {s : Nat} {cd lt : Nat → Int32} {j : Nat} (hj : cd j = 2 ∨ cd j = 3) {y : Bool} {E : List Tk2} (p : Put1 y E) {g i : Nat} (P : prun s cd g i 0 j 1) (a : At_ cd i (E.flatMap tkm)) (en : cd (i + (E.flatMap tkm).length) = 2 ∨ cd (i + (E.flatMap tkm).length) = 3) (q : Nat → Int32) : j = i + (E.flatMap tkm).length ∧ wev cd lt g i 0 q = top2 (run2 (fun c => lt c.toNatClampNeg) E []) := by
  obtain ⟨g', p', P', e', L'⟩ := rt_tok (lt := lt) hj E (st := []) (p := q) P trivial (p []) trivial a
  obtain ⟨x, ex⟩ := run2_1 (v := fun c => lt c.toNatClampNeg) p
  rw [ex] at P' e' L'
  cases g' with
  | zero =>
    refine ⟨P'.1.symm, ?_⟩
    rw [ex]
    refine e'.trans ?_
    show p' 0 = x
    exact L'.1
  | succ g' =>
    obtain ⟨i1, n1, h1, _⟩ := P'
    rcases pst_0 h1 with ⟨c, _⟩ | ⟨c, _⟩ | ⟨c, _⟩ | ⟨c, _⟩
    · rw [c] at en
      exact absurd en (by decide)
    · rw [c] at en
      exact absurd en (by decide)
    · rw [c] at en
      exact absurd en (by decide)
    · exact (en.elim c.2.2.2.1 c.2.2.2.2).elim
/-- the condition of a clause, also of one that has none -/
noncomputable def cnE (c : Cl2) : List Tk2 := if c.1.length = 0 then [(0, 1)] else c.1
theorem clM_e (c : Cl2) : clM c = (cnE c).flatMap tkm ++ 2 :: (c.2.flatMap tkm ++ [3]) := by
  unfold clM cnE
  split
  · rfl
  · rfl
theorem cnE_p {s : Nat} {c : Cl2} (o : clO s c) : ∃ y, Put1 y (cnE c) := by
  unfold cnE
  split
  · exact ⟨false, fun _ => rfl⟩
  · rename_i n
    rcases o.1 with e | e
    · exact absurd e n
    · exact ⟨true, e⟩
theorem cnE_t {v : Int32 → Int32} (c : Cl2) : (c.1.length = 0 ∨ ¬ top2 (run2 v c.1 []) = 0) ↔ ¬ top2 (run2 v (cnE c) []) = 0 := by
  unfold cnE
  split
  · rename_i e
    exact ⟨fun _ => (show ¬ (1 : Int32) = 0 from by decide), fun _ => Or.inl e⟩
  · rename_i n
    exact ⟨fun h => h.elim (fun e => absurd e n) id, Or.inr⟩
theorem clM_2 (c : Cl2) : 2 ≤ (clM c).length := by
  rw [clM_e, List.length_append, List.length_cons, List.length_append]
  show 2 ≤ _ + (_ + 1 + 1)
  omega
theorem tel_ev {s : Nat} {cd lt : Nat → Int32} : ∀ (C : List Cl2) (f i e : Nat) (r : Int32), pcl s cd f i e → tel s cd lt f i e r → At_ cd i (rlM C) → e = i + (rlM C).length → (∀ c ∈ C, clO s c) → r = evC (fun c => lt c.toNatClampNeg) C
  | [], 0, i, e, r, _, t, _, _, _ => t
  | [], f + 1, i, e, r, p, _, _, ee, _ => by
    obtain ⟨j, k, ⟨g1, p1⟩, _, ⟨g2, p2⟩, _, h2⟩ := p
    have l1 := prun_le p1
    have l2 := prun_le p2
    have l3 := pcl_le h2
    have ee : e = i + 0 := ee
    omega
  | c :: C, 0, i, e, r, p, _, _, ee, _ => by
    have p : i = e := p
    have l := clM_2 c
    have q : (rlM (c :: C)).length = (clM c).length + (rlM C).length := by
      rw [show c :: C = [c] ++ C from rfl, rlM_a, rlM_1, List.length_append]
    omega
  | c :: C, f + 1, i, e, r, p, t, a, ee, o => by
    have oc := o c (List.mem_cons_self ..)
    have eq : rlM (c :: C) = clM c ++ rlM C := by rw [show c :: C = [c] ++ C from rfl, rlM_a, rlM_1]
    rw [eq] at a ee
    have ac := a.l
    have aC := a.r
    rw [clM_e] at ac
    have a1 := ac.l
    have a2 := ac.r
    have m2 : cd (i + ((cnE c).flatMap tkm).length) = 2 := a2.h
    have a3 : At_ cd (i + ((cnE c).flatMap tkm).length + 1) (c.2.flatMap tkm ++ [3]) := fun k v e => by
      have z := a2 (k + 1) v e
      rw [show i + ((cnE c).flatMap tkm).length + (k + 1) = i + ((cnE c).flatMap tkm).length + 1 + k by omega] at z
      exact z
    have m3 : cd (i + ((cnE c).flatMap tkm).length + 1 + (c.2.flatMap tkm).length) = 3 := a3.r.h
    have ln : (clM c).length = ((cnE c).flatMap tkm).length + 1 + (c.2.flatMap tkm).length + 1 := by
      rw [clM_e, List.length_append, List.length_cons, List.length_append]
      show _ + (_ + 1 + 1) = _
      omega
    obtain ⟨y, py⟩ := cnE_p oc
    obtain ⟨j', k', ⟨h1, p1⟩, u2, ⟨h2, p2⟩, u3, pC⟩ := p
    obtain ⟨j, k, g1, g2, q1, cj, q2, ck, w⟩ := t
    have r1 := rt_all (lt := lt) (Or.inl cj) py q1 a1 (Or.inl m2) (fun _ => 0)
    have r1' := rt_all (lt := lt) (Or.inl u2) py p1 a1 (Or.inl m2) (fun _ => 0)
    obtain ⟨ej, v1⟩ := r1
    obtain ⟨ej', _⟩ := r1'
    rw [ej] at q2
    rw [ej'] at p2
    have r2 := rt_all (lt := lt) (Or.inr ck) oc.2.1 q2 a3.l (Or.inr m3) (fun _ => 0)
    have r2' := rt_all (lt := lt) (Or.inr u3) oc.2.1 p2 a3.l (Or.inr m3) (fun _ => 0)
    obtain ⟨ek, v2⟩ := r2
    obtain ⟨ek', _⟩ := r2'
    have nx : i + ((cnE c).flatMap tkm).length + 1 + (c.2.flatMap tkm).length + 1 = i + (clM c).length := by omega
    rw [ek', nx] at pC
    rw [v1, ej, v2, ek, nx] at w
    show r = if c.1.length = 0 ∨ ¬ top2 (run2 (fun c => lt c.toNatClampNeg) c.1 []) = 0 then top2 (run2 (fun c => lt c.toNatClampNeg) c.2 []) else evC (fun c => lt c.toNatClampNeg) C
    rcases w with ⟨w1, w2⟩ | ⟨w1, w2⟩
    · rw [if_pos ((cnE_t c).mpr w1)]
      exact w2
    · rw [if_neg (fun z => (cnE_t c).mp z w1)]
      exact tel_ev C f _ e r pC w2 aC (by rw [List.length_append] at ee; omega) (fun c hc => o c (List.mem_cons_of_mem _ hc))
end
section
/-! the class's texts at work -/
theorem nv_p4 {o x : Int32} (ho : 0 ≤ o.toInt ∧ o.toInt ≤ 15) (hx : 0 ≤ x.toInt ∧ x.toInt ≤ 100000) : nv (pk4 o x) = 16 * nv x + nv o ∧ (nv o : Int) = o.toInt ∧ (nv x : Int) = x.toInt := by
  have o1 := (nv_of ho.1).1
  have x1 := (nv_of hx.1).1
  refine ⟨?_, o1.symm, x1.symm⟩
  unfold pk4
  rw [nv_or, nv_shl (by decide) (by decide), show nv 4 = 4 from rfl, Nat.mod_eq_of_lt (show nv x * 2 ^ 4 < 4294967296 by omega), or_add (show nv o < 2 ^ 4 by omega)]
  omega
theorem pk4_15 {o x : Int32} (ho : 0 ≤ o.toInt ∧ o.toInt ≤ 15) (hx : 0 ≤ x.toInt ∧ x.toInt ≤ 100000) : pk4 o x &&& 15 = o := by
  have q := nv_p4 ho hx
  refine nv_i ?_
  rw [nv_and, q.1, show nv 15 = 2 ^ 4 - 1 from rfl, Nat.and_two_pow_sub_one_eq_mod]
  omega
theorem pk4_sh {o x : Int32} (ho : 0 ≤ o.toInt ∧ o.toInt ≤ 15) (hx : 0 ≤ x.toInt ∧ x.toInt ≤ 100000) : pk4 o x >>> ((4 : Int32) &&& 31) = x := by
  have q := nv_p4 ho hx
  have p : 0 ≤ (pk4 o x).toInt := by
    rw [nv_pos (by omega)]
    omega
  refine nv_i ?_
  rw [nv_shr p (by decide) (by decide), q.1, show nv 4 = 4 from rfl]
  omega
theorem c_kbd (d : Nat) (h : Hp_) (x : Int64) : Ci (m_X10_bounded (d + 0) 0 0) [.long x] h (fun r h' => r = kbd x ∧ h' = h) := by
  refine t_X10_bounded d h x _ ⟨fun a => ⟨fun c => ⟨?_, rfl⟩, fun c => ⟨?_, rfl⟩⟩, fun a => ⟨?_, rfl⟩⟩
  · unfold kbd
    rw [if_pos a, if_pos c]
  · unfold kbd
    rw [if_pos a, if_neg c]
  · unfold kbd
    rw [if_neg a]
theorem c_cmb (d : Nat) (h : Hp_) (w : Wf h) (o x y : Int32) : Ci (m_X10_combine (d + 1) 0 0) [.int o, .int x, .int y] h (fun r h' => r = cmb o x y ∧ h' = h) := by
  have bd : ∀ v, Ci (m_X10_bounded (d + 0) 0 0) [.long v] h (fun r h' => Wf h' ∧ r = kbd v ∧ h' = h) := fun v => Ci.mono (c_kbd d h v) (fun r h' e => ⟨by rw [e.2]; exact w, e⟩)
  refine t_X10_combine d h o x y _ ⟨fun e => ?_, fun e => ?_, fun e => ?_, fun e => ⟨fun z => ⟨?_, rfl⟩, fun z => ⟨?_, rfl⟩⟩, fun e => ⟨fun z => ⟨?_, rfl⟩, fun z => ⟨?_, rfl⟩⟩, fun e => ⟨fun z => ⟨?_, rfl⟩, fun z => ⟨?_, rfl⟩⟩, fun e => ⟨?_, rfl⟩, fun e => ⟨?_, rfl⟩⟩
  · subst e
    exact bd _
  · subst e
    exact bd _
  · subst e
    exact bd _
  · subst e
    show (0 : Int32) = if x = y then 1 else 0
    rw [if_neg z]
  · subst e
    show (1 : Int32) = if x = y then 1 else 0
    rw [if_pos z]
  · subst e
    show (0 : Int32) = if y ≤ x then 0 else 1
    rw [if_pos z]
  · subst e
    show (1 : Int32) = if y ≤ x then 0 else 1
    rw [if_neg z]
  · subst e
    show (0 : Int32) = if x ≤ y then 0 else 1
    rw [if_pos z]
  · subst e
    show (1 : Int32) = if x ≤ y then 0 else 1
    rw [if_neg z]
  · subst e
    rfl
  · unfold cmb
    rw [if_neg e.1, if_neg e.2.1, if_neg e.2.2.1, if_neg e.2.2.2.1, if_neg e.2.2.2.2.1, if_neg e.2.2.2.2.2.1, if_neg e.2.2.2.2.2.2]
theorem lt_all : (List.range 256).all (fun j => decide ((ltb 1 (Int32.ofNat j) = true → 0 ≤ (ixq 1 (xch (Int32.ofNat j))).toInt ∧ (ixq 1 (xch (Int32.ofNat j))).toInt ≤ 8) ∧ (ltb 2 (Int32.ofNat j) = true → 0 ≤ (ixq 2 (xch (Int32.ofNat j))).toInt ∧ (ixq 2 (xch (Int32.ofNat j))).toInt ≤ 5))) = true := by decide +kernel
theorem ltb_in {s : Nat} (hs : s = 1 ∨ s = 2) {c : Int32} (h : ltb s c = true) : 0 ≤ c.toInt ∧ c.toInt ≤ 255 := by
  have key : ∀ y : Int32, (y = 107 ∨ y = 119 ∨ y = 112 ∨ y = 104 ∨ y = 100 ∨ y = 99 ∨ y = 110 ∨ y = 101 ∨ y = 116 ∨ y = 121 ∨ y = 109 ∨ y = 120 ∨ y = 97) → 0 ≤ y.toInt ∧ y.toInt ≤ 255 := by
    rintro y (u | u | u | u | u | u | u | u | u | u | u | u | u) <;> rw [u] <;> decide
  rcases hs with u | u <;> subst u
  · have h' := of_decide_eq_true (show decide (c = 107 ∨ c = 119 ∨ c = 112 ∨ c = 104 ∨ c = 100 ∨ c = 99 ∨ c = 110 ∨ c = 101 ∨ c = 116) = true from h)
    rcases h' with u | u | u | u | u | u | u | u | u <;> exact key c (by rw [u]; decide)
  · have h' := of_decide_eq_true (show decide (c = 99 ∨ c = 121 ∨ c = 109 ∨ c = 120 ∨ c = 116 ∨ c = 97) = true from h)
    rcases h' with u | u | u | u | u | u <;> exact key c (by rw [u]; decide)
theorem ix_in {s : Nat} (hs : s = 1 ∨ s = 2) {c : Int32} (h : ltb s c = true) : 0 ≤ (ixq s (xch c)).toInt ∧ (ixq s (xch c)).toInt ≤ (if s = 1 then 8 else 5) := by
  have b := ltb_in hs h
  have e := of_nat32 b.1
  have k := n_nat b.1
  rw [← e] at h ⊢
  have z := of_decide_eq_true (List.all_eq_true.mp lt_all _ (List.mem_range.mpr (show c.toNatClampNeg < 256 by omega)))
  rcases hs with u | u <;> subst u
  · exact z.1 h
  · exact z.2 h
/-- a token's number taken apart -/
theorem tkx_q {s : Nat} (hs : s = 1 ∨ s = 2) {t : Tk2} (h : tkO (ltb s) t) : tkx s t &&& 15 = t.1 ∧ tkx s t >>> ((4 : Int32) &&& 31) = if t.1 = 1 then ixq s (xch t.2) else t.2 := by
  have ho : 0 ≤ t.1.toInt ∧ t.1.toInt ≤ 15 := by
    rcases h.2.2.2 with u | u | u | u | u | u | u | u | u | u | u <;> rw [u] <;> decide
  have hx : 0 ≤ (if t.1 = 1 then ixq s (xch t.2) else t.2).toInt ∧ (if t.1 = 1 then ixq s (xch t.2) else t.2).toInt ≤ 100000 := by
    by_cases c : t.1 = 1
    · rw [if_pos c]
      have z := ix_in hs (h.1 c)
      have b8 : (if s = 1 then (8 : Int) else 5) ≤ 8 := by split <;> decide
      exact ⟨z.1, by omega⟩
    · rw [if_neg c]
      by_cases c0 : t.1 = 0
      · have z := h.2.1 c0
        exact ⟨z.1, by omega⟩
      · rw [h.2.2.1 c0 c]
        decide
  exact ⟨pk4_15 ho hx, pk4_sh ho hx⟩
theorem Vty.u {y : Bool} {s : List Bool} {st : List Int32} (V : Vty (y :: s) st) : ∃ x st0, st = x :: st0 ∧ (y = true → x = 0 ∨ x = 1) ∧ Vty s st0 := match st, V with
  | x :: st0, V => ⟨x, st0, rfl, V.1, V.2⟩
theorem up_41 {a : Nat} (h : Hp_) (k : Nat) (x : Int32) : h_i (h_im h a k x) a = upp (h_i h a) k x := funext (fun j => by
  rw [h_i_im]
  unfold upp
  by_cases e : j = k
  · rw [if_pos ⟨rfl, e⟩, if_pos e]
  · rw [if_neg (fun z => e z.2), if_neg e])
/-- the code of rule r, and what stands while it works -/
noncomputable def Anc_13 (h0 : Hp_) (r : Nat) (L : List Int32) : Prop := r < 20 ∧ L.length ≤ 164 ∧ h_i h0 39 r = Int32.ofNat L.length ∧ ∀ i v, L[i]? = some v → h_i h0 40 (164 * r + i) = v
noncomputable def Ans_13 (h0 h : Hp_) (st : List Int32) : Prop := Iv h ∧ Fr [41999] h0 h ∧ Pil (h_i h 41) st
theorem Ans_13.im {h0 h : Hp_} {st : List Int32} (A : Ans_13 h0 h st) (x : Int32) {k : Nat} {st' : List Int32} (ek : k = st'.length) (P : Pil (h_i h 41) st') : Ans_13 h0 (h_im h 41 k x) (x :: st') := ⟨tr_ 41 (by decide +kernel) A.1 _ _ (by decide) (by decide), A.2.1.im (inw_row (by decide +kernel) _), by rw [up_41, ek]; exact P.up x⟩
theorem an_ix_13 {h0 h : Hp_} {st : List Int32} {r i : Nat} {L : List Int32} {w : Int32} (N : Anc_13 h0 r L) (A : Ans_13 h0 h st) (e : L[i]? = some w) : vp_in (Int32.ofNat r) 20 ∧ ¬ h_i h 39 (Int32.ofNat r).toNatClampNeg ≤ Int32.ofNat i ∧ vp_in ((Int32.ofNat r * 164) + Int32.ofNat i) 3280 ∧ h_i h 40 (((Int32.ofNat r * 164) + Int32.ofNat i) : Int32).toNatClampNeg = w := by
  have li : i < L.length := (List.getElem?_eq_some_iff.mp e).1
  obtain ⟨n1, n2, n3, n4⟩ := N
  have t164 : (164 : Int32).toInt = 164 := rfl
  have m1 : (Int32.ofNat r * 164).toInt = (r : Int) * 164 := by rw [tx_mul (by rw [t164, on_j (by omega)]; omega) (by rw [t164, on_j (by omega)]; omega), t164, on_j (by omega)]
  have m2 : (Int32.ofNat r * 164 + Int32.ofNat i).toInt = (r : Int) * 164 + (i : Int) := by rw [tx_add (by rw [m1, on_j (by omega)]; omega) (by rw [m1, on_j (by omega)]; omega), m1, on_j (by omega)]
  have k := n_nat (x := Int32.ofNat r * 164 + Int32.ofNat i) (by omega)
  refine ⟨on_in n1 (by decide), fun z => ?_, dp_in (lo := 0) (hi := 3279) ⟨by show (0 : Int) ≤ _; omega, by show _ ≤ (3279 : Int); omega⟩ (by decide) (by decide), ?_⟩
  · have z := q_le.mp z
    rw [on_k (by omega), fr_i A.2.1 (by decide +kernel), n3, on_j (by omega), on_j (by omega)] at z
    omega
  · rw [fr_i A.2.1 (by decide +kernel), show (Int32.ofNat r * 164 + Int32.ofNat i).toNatClampNeg = 164 * r + i by omega]
    exact n4 i w e
noncomputable abbrev av_13 (h : Hp_) (x3 : Int32) (c : Int32) : Int32 := h_i h 70 (x3 + ixq 1 (xch c)).toNatClampNeg
theorem an_bin_13 (d : Nat) {h0 : Hp_} {r : Nat} {L : List Int32} (N : Anc_13 h0 r L) (x3 : Int32) {K : Int32 → Hp_ → Prop} {t : Tk2} {i : Nat} {st0 : List Int32} {x y : Int32} {h : Hp_} (A : Ans_13 h0 h (y :: x :: st0)) (nt : ¬ t.1 = 0 ∧ ¬ t.1 = 1 ∧ ¬ t.1 = 2) (g5 : ¬ t.1 < 5) (o : tkO (ltb 1) t) (e : L[i]? = some (tkx 1 t)) (li : (y :: x :: st0).length ≤ i)
    (k : ∀ h', Ans_13 h0 h' (cmb t.1 x y :: st0) → AW (m_X10_answer (d + 2) 0 0) 0 0 22 [(0, .ref 13), (1, .int (Int32.ofNat r)), (2, .ref 70), (3, .int x3), (4, .int (Int32.ofNat (cmb t.1 x y :: st0).length)), (5, .int (Int32.ofNat (i + 1)))] [] h' (kI K)) :
    AW (m_X10_answer (d + 2) 0 0) 0 0 22 [(0, .ref 13), (1, .int (Int32.ofNat r)), (2, .ref 70), (3, .int x3), (4, .int (Int32.ofNat (y :: x :: st0).length)), (5, .int (Int32.ofNat i))] [] h (kI K) := by
  obtain ⟨v1, v2, v3, ew⟩ := an_ix_13 N A e
  have lL : i < L.length := (List.getElem?_eq_some_iff.mp e).1
  have l164 := N.2.1
  have q := tkx_q (s := 1) (by decide) o
  have ll : (y :: x :: st0).length = st0.length + 2 := rfl
  have ll1 : (cmb t.1 x y :: st0).length = st0.length + 1 := rfl
  rw [ll1] at k
  rw [ll] at li ⊢
  have i1 : Int32.ofNat i + 1 = Int32.ofNat (i + 1) := on_s (by omega)
  have t2 : (2 : Int32).toInt = 2 := rfl
  have m1 : Int32.ofNat (st0.length + 2) + (-1) = Int32.ofNat (st0.length + 1) := on_m (by omega)
  have m2 : Int32.ofNat (st0.length + 1) - 1 = Int32.ofNat st0.length := on_p (by omega)
  have ka : (Int32.ofNat (st0.length + 1)).toNatClampNeg = st0.length + 1 := on_k (by omega)
  have kb : (Int32.ofNat st0.length).toNatClampNeg = st0.length := on_k (by omega)
  have py : h_i h 41 (st0.length + 1) = y := A.2.2.1
  have px : h_i h 41 st0.length = x := A.2.2.2.1
  have g2 : (2 : Int32) ≤ Int32.ofNat (st0.length + 2) := q_le.mpr (by rw [on_j (by omega), t2]; omega)
  refine t_X10_answer_13_22 d h A.1.1 _ _ _ _ _ ?_
  rw [ew, q.1, q.2, i1, m1, m2, ka, kb, py, px]
  refine ⟨v1, fun z => absurd z v2, fun _ => ⟨v3, v3, fun e0 => absurd e0 nt.1, fun _ => ⟨fun _ => ⟨fun l5 => absurd l5 g5, fun _ => ⟨fun _ => ⟨on_in (by omega) (by decide), on_in (by omega) (by decide), Ci.mono (c_cmb d h A.1.1 t.1 x y) (fun r31 h29 z => ?_)⟩, fun z => absurd g2 z⟩⟩, fun e1 => absurd e1 nt.2.1⟩⟩⟩
  obtain ⟨er, eh⟩ := z
  subst er eh
  exact ⟨A.1.1, on_in (by omega) (by decide), k _ (A.im _ rfl A.2.2.2.2)⟩
theorem an_not_13 (d : Nat) {h0 : Hp_} {r : Nat} {L : List Int32} (N : Anc_13 h0 r L) (x3 : Int32) {K : Int32 → Hp_ → Prop} {t : Tk2} {i : Nat} {st0 : List Int32} {x : Int32} {h : Hp_} (A : Ans_13 h0 h (x :: st0)) (c : t.1 = 2) (o : tkO (ltb 1) t) (e : L[i]? = some (tkx 1 t)) (li : (x :: st0).length ≤ i)
    (k : ∀ h', Ans_13 h0 h' ((1 - x) :: st0) → AW (m_X10_answer (d + 2) 0 0) 0 0 22 [(0, .ref 13), (1, .int (Int32.ofNat r)), (2, .ref 70), (3, .int x3), (4, .int (Int32.ofNat ((1 - x) :: st0).length)), (5, .int (Int32.ofNat (i + 1)))] [] h' (kI K)) :
    AW (m_X10_answer (d + 2) 0 0) 0 0 22 [(0, .ref 13), (1, .int (Int32.ofNat r)), (2, .ref 70), (3, .int x3), (4, .int (Int32.ofNat (x :: st0).length)), (5, .int (Int32.ofNat i))] [] h (kI K) := by
  obtain ⟨v1, v2, v3, ew⟩ := an_ix_13 N A e
  have lL : i < L.length := (List.getElem?_eq_some_iff.mp e).1
  have l164 := N.2.1
  have q := tkx_q (s := 1) (by decide) o
  have ll : (x :: st0).length = st0.length + 1 := rfl
  have ll1 : ((1 - x) :: st0).length = st0.length + 1 := rfl
  rw [ll1] at k
  rw [ll] at li ⊢
  have i1 : Int32.ofNat i + 1 = Int32.ofNat (i + 1) := on_s (by omega)
  have t1 : (1 : Int32).toInt = 1 := rfl
  have m1 : Int32.ofNat (st0.length + 1) - 1 = Int32.ofNat st0.length := on_p (by omega)
  have kb : (Int32.ofNat st0.length).toNatClampNeg = st0.length := on_k (by omega)
  have px : h_i h 41 st0.length = x := A.2.2.1
  have n0 : ¬ t.1 = 0 := by rw [c]; decide
  have n1 : ¬ t.1 = 1 := by rw [c]; decide
  have l5 : t.1 < 5 := by rw [c]; decide
  have g1 : (1 : Int32) ≤ Int32.ofNat (st0.length + 1) := q_le.mpr (by rw [on_j (by omega), t1]; omega)
  refine t_X10_answer_13_22 d h A.1.1 _ _ _ _ _ ?_
  rw [ew, q.1, q.2, i1, m1, kb, px]
  exact ⟨v1, fun z => absurd z v2, fun _ => ⟨v3, v3, fun e0 => absurd e0 n0, fun _ => ⟨fun _ => ⟨fun _ => ⟨fun _ => ⟨fun n2 => absurd c n2, fun _ => ⟨on_in (by omega) (by decide), on_in (by omega) (by decide), k _ (A.im _ rfl A.2.2.2)⟩⟩, fun z => absurd g1 z⟩, fun g5 => absurd l5 g5⟩, fun e1 => absurd e1 n1⟩⟩⟩
theorem an_one_13 (d : Nat) {h0 : Hp_} {r : Nat} {L : List Int32} (N : Anc_13 h0 r L) (x3 : Int32) (b3 : ∀ c, ltb 1 c = true → 0 ≤ x3 + ixq 1 (xch c) ∧ x3 + ixq 1 (xch c) ≤ ((2700 : Int32) - 1)) (b3' : ∀ c, ltb 1 c = true → vp_in (x3 + ixq 1 (xch c)) 2700) {K : Int32 → Hp_ → Prop} {t : Tk2} {i : Nat} {st : List Int32} {ts ts' : List Bool} {h : Hp_} (A : Ans_13 h0 h st) (ht : ty1 t ts = some ts') (V : Vty ts st) (o : tkO (ltb 1) t) (e : L[i]? = some (tkx 1 t)) (li : st.length ≤ i)
    (k : ∀ h', Ans_13 h0 h' (skt (av_13 h0 x3) t st) → AW (m_X10_answer (d + 2) 0 0) 0 0 22 [(0, .ref 13), (1, .int (Int32.ofNat r)), (2, .ref 70), (3, .int x3), (4, .int (Int32.ofNat (skt (av_13 h0 x3) t st).length)), (5, .int (Int32.ofNat (i + 1)))] [] h' (kI K)) :
    AW (m_X10_answer (d + 2) 0 0) 0 0 22 [(0, .ref 13), (1, .int (Int32.ofNat r)), (2, .ref 70), (3, .int x3), (4, .int (Int32.ofNat st.length)), (5, .int (Int32.ofNat i))] [] h (kI K) := by
  rcases ty1_c ht with ⟨c, _⟩ | ⟨c, qq, es, _⟩ | ⟨c, qq, es, _⟩ | ⟨c, qq, es, _⟩ | ⟨c, qq, es, _⟩
  · obtain ⟨v1, v2, v3, ew⟩ := an_ix_13 N A e
    have lL : i < L.length := (List.getElem?_eq_some_iff.mp e).1
    have l164 := N.2.1
    have q := tkx_q (s := 1) (by decide) o
    have i1 : Int32.ofNat i + 1 = Int32.ofNat (i + 1) := on_s (by omega)
    have t164 : (164 : Int32).toInt = 164 := rfl
    have lt4 : Int32.ofNat st.length < 164 := q_lt.mpr (by rw [on_j (by omega), t164]; omega)
    have v4 : vp_in (Int32.ofNat st.length) 164 := on_in (by omega) (by decide)
    have k4 : (Int32.ofNat st.length).toNatClampNeg = st.length := on_k (by omega)
    rw [skt_p c] at k
    refine t_X10_answer_13_22 d h A.1.1 _ _ _ _ _ ?_
    rw [ew, q.1, q.2, i1, k4, on_s (show st.length < 1000000 by omega)]
    rcases c with c | c
    · have n1 : ¬ t.1 = 1 := by rw [c]; decide
      rw [if_pos c] at k
      rw [if_neg n1]
      exact ⟨v1, fun z => absurd z v2, fun _ => ⟨v3, v3, fun _ => ⟨fun _ => ⟨fun n => absurd c n, fun _ => ⟨v4, k _ (A.im t.2 rfl A.2.2)⟩⟩, fun z => absurd lt4 z⟩, fun n => absurd c n⟩⟩
    · have n0 : ¬ t.1 = 0 := by rw [c]; decide
      rw [if_neg n0] at k
      rw [if_pos c]
      refine ⟨v1, fun z => absurd z v2, fun _ => ⟨v3, v3, fun e0 => absurd e0 n0, fun _ => ⟨fun n1 => absurd c n1, fun _ => ⟨fun _ => ⟨fun _ => t_X10_valueOf_70 d h A.1.1 _ _ ⟨fun z => absurd (b3 _ (o.1 c)) z, fun _ => ⟨b3' _ (o.1 c), A.1.1, v4, ?_⟩⟩, fun e0 => absurd e0 n0⟩, fun z => absurd lt4 z⟩⟩⟩⟩
      have ev : h_i h 70 (x3 + ixq 1 (xch t.2)).toNatClampNeg = av_13 h0 x3 t.2 := fr_i A.2.1 (by decide +kernel) _
      rw [ev]
      exact k _ (A.im _ rfl A.2.2)
  · subst es
    obtain ⟨x, st0, e1, _, _⟩ := V.u
    subst e1
    rw [skt_n c] at k
    exact an_not_13 d N x3 A c o e li k
  · subst es
    obtain ⟨y, st1, e1, _, V1⟩ := V.u
    obtain ⟨x, st0, e2, _, _⟩ := V1.u
    subst e1 e2
    have nt := n02 (x := t.1) (by rcases c with u | u | u <;> rw [u] <;> decide)
    rw [skt_b nt] at k
    exact an_bin_13 d N x3 A nt (by rcases c with u | u | u <;> rw [u] <;> decide) o e li k
  · subst es
    obtain ⟨y, st1, e1, _, V1⟩ := V.u
    obtain ⟨x, st0, e2, _, _⟩ := V1.u
    subst e1 e2
    have nt := n02 (x := t.1) (by rcases c with u | u | u <;> rw [u] <;> decide)
    rw [skt_b nt] at k
    exact an_bin_13 d N x3 A nt (by rcases c with u | u | u <;> rw [u] <;> decide) o e li k
  · subst es
    obtain ⟨y, st1, e1, _, V1⟩ := V.u
    obtain ⟨x, st0, e2, _, _⟩ := V1.u
    subst e1 e2
    have nt := n02 (x := t.1) (by rcases c with u | u <;> rw [u] <;> decide)
    rw [skt_b nt] at k
    exact an_bin_13 d N x3 A nt (by rcases c with u | u <;> rw [u] <;> decide) o e li k
theorem an_tok_13 (d : Nat) {h0 : Hp_} {r : Nat} {L : List Int32} (N : Anc_13 h0 r L) (x3 : Int32) (b3 : ∀ c, ltb 1 c = true → 0 ≤ x3 + ixq 1 (xch c) ∧ x3 + ixq 1 (xch c) ≤ ((2700 : Int32) - 1)) (b3' : ∀ c, ltb 1 c = true → vp_in (x3 + ixq 1 (xch c)) 2700) {K : Int32 → Hp_ → Prop} : ∀ (E : List Tk2) {i : Nat} {st : List Int32} {ts ts' : List Bool} {h : Hp_}, Ans_13 h0 h st → tyL E ts = some ts' → Vty ts st → (∀ t ∈ E, tkO (ltb 1) t) → (∀ k w, (E.map (tkx 1))[k]? = some w → L[i + k]? = some w) → st.length ≤ i →
    (∀ h', Ans_13 h0 h' (run2 (av_13 h0 x3) E st) → (run2 (av_13 h0 x3) E st).length ≤ i + E.length → AW (m_X10_answer (d + 2) 0 0) 0 0 22 [(0, .ref 13), (1, .int (Int32.ofNat r)), (2, .ref 70), (3, .int x3), (4, .int (Int32.ofNat (run2 (av_13 h0 x3) E st).length)), (5, .int (Int32.ofNat (i + E.length)))] [] h' (kI K)) →
    AW (m_X10_answer (d + 2) 0 0) 0 0 22 [(0, .ref 13), (1, .int (Int32.ofNat r)), (2, .ref 70), (3, .int x3), (4, .int (Int32.ofNat st.length)), (5, .int (Int32.ofNat i))] [] h (kI K)
  | [], i, st, ts, ts', h, A, _, _, _, _, li, k => k h A li
  | t :: E, i, st, ts, ts', h, A, hE, V, o, c, li, k => by
    have hE : (match ty1 t ts with | some s' => tyL E s' | none => none) = some ts' := hE
    cases e : ty1 t ts with
    | none =>
      rw [e] at hE
      cases hE
    | some q =>
      rw [e] at hE
      have V' := skt_t (v := av_13 h0 x3) e V
      have sl : (skt (av_13 h0 x3) t st).length ≤ i + 1 := by
        have a := V'.l
        have b := V.l
        rcases ty1_c e with ⟨_, u⟩ | ⟨_, w, u, u'⟩ | ⟨_, w, u, u'⟩ | ⟨_, w, u, u'⟩ | ⟨_, w, u, u'⟩
        · rw [u] at a
          have : (false :: ts).length = ts.length + 1 := rfl
          omega
        all_goals
          subst u u'
          simp only [List.length_cons] at a b
          omega
      refine an_one_13 d N x3 b3 b3' A e V (o t (List.mem_cons_self ..)) (c 0 _ rfl) li (fun h' A' => ?_)
      refine an_tok_13 d N x3 b3 b3' E A' hE V' (fun t ht => o t (List.mem_cons_of_mem _ ht)) (fun k w z => ?_) sl (fun h2 A2 l2 => ?_)
      · have y := c (k + 1) w z
        rw [show i + (k + 1) = i + 1 + k by omega] at y
        exact y
      · have y := k h2 A2 (by show _ ≤ i + (E.length + 1); have : (run2 (av_13 h0 x3) E (skt (av_13 h0 x3) t st)).length ≤ i + 1 + E.length := l2; show (run2 (av_13 h0 x3) E (skt (av_13 h0 x3) t st)).length ≤ _; omega)
        rw [show i + (t :: E).length = i + 1 + E.length by show i + (E.length + 1) = _; omega] at y
        exact y
/-- all clauses from one on -/
theorem an_cls_13 (d : Nat) {h0 : Hp_} {r : Nat} {L : List Int32} (N : Anc_13 h0 r L) (x3 : Int32) (b3 : ∀ c, ltb 1 c = true → 0 ≤ x3 + ixq 1 (xch c) ∧ x3 + ixq 1 (xch c) ≤ ((2700 : Int32) - 1)) (b3' : ∀ c, ltb 1 c = true → vp_in (x3 + ixq 1 (xch c)) 2700) : ∀ (C : List Cl2) {i : Nat} {h : Hp_}, Ans_13 h0 h [] → (∀ c ∈ C, clO 1 c) → (∀ k w, (rlX 1 i C)[k]? = some w → L[i + k]? = some w) → i + rlN C = L.length →
    AW (m_X10_answer (d + 2) 0 0) 0 0 22 [(0, .ref 13), (1, .int (Int32.ofNat r)), (2, .ref 70), (3, .int x3), (4, .int (Int32.ofNat 0)), (5, .int (Int32.ofNat i))] [] h (kI (fun q h' => Iv h' ∧ Fr [41999] h0 h' ∧ q = evC (av_13 h0 x3) C))
  | [], i, h, A, _, _, le => by
    have le : i + 0 = L.length := le
    have l164 := N.2.1
    refine t_X10_answer_13_22 d h A.1.1 _ _ _ _ _ ⟨on_in N.1 (by decide), fun _ => ⟨A.1, A.2.1, rfl⟩, fun z => ?_⟩
    have n1 := N.1
    have z := q_nle z
    rw [on_k (by omega), fr_i A.2.1 (by decide +kernel), N.2.2.1, on_j (by omega), on_j (by omega)] at z
    omega
  | c :: C, i, h, A, o, cd, le => by
    have oc := o c (List.mem_cons_self ..)
    have l164 := N.2.1
    have t1 : (1 : Int32).toInt = 1 := rfl
    have t0 : (0 : Int32).toInt = 0 := rfl
    have le : i + (clN c + rlN C) = L.length := le
    have cd : ∀ k w, (clX 1 i c ++ rlX 1 (i + clN c) C)[k]? = some w → L[i + k]? = some w := cd
    have cc : ∀ k w, (clX 1 i c)[k]? = some w → L[i + k]? = some w := fun k w e => cd k w (by
      rw [List.getElem?_append_left ((List.getElem?_eq_some_iff.mp e).1)]
      exact e)
    have cC : ∀ k w, (rlX 1 (i + clN c) C)[k]? = some w → L[i + clN c + k]? = some w := fun k w e => by
      have z := cd (clN c + k) w (by
        rw [List.getElem?_append_right (by rw [clX_l]; omega), clX_l, show clN c + k - clN c = k by omega]
        exact e)
      rw [show i + (clN c + k) = i + clN c + k by omega] at z
      exact z
    obtain ⟨xa_, ea⟩ := run2_1 (v := av_13 h0 x3) oc.2.1
    have ans : ∀ (j : Nat) (h' : Hp_), Ans_13 h0 h' [] → (∀ k w, (c.2.map (tkx 1) ++ [pk4 4 0])[k]? = some w → L[j + k]? = some w) → AW (m_X10_answer (d + 2) 0 0) 0 0 22 [(0, .ref 13), (1, .int (Int32.ofNat r)), (2, .ref 70), (3, .int x3), (4, .int (Int32.ofNat 0)), (5, .int (Int32.ofNat j))] [] h' (kI (fun q h' => Iv h' ∧ Fr [41999] h0 h' ∧ q = top2 (run2 (av_13 h0 x3) c.2 []))) := fun j h' A' cj => by
      refine an_tok_13 d N x3 b3 b3' c.2 (st := []) A' (oc.2.1 []) trivial oc.2.2.2 (fun k w e => cj k w (by
        rw [List.getElem?_append_left ((List.getElem?_eq_some_iff.mp e).1)]
        exact e)) (Nat.zero_le _) (fun h2 A2 l2 => ?_)
      rw [ea] at A2 l2 ⊢
      have ce : L[j + c.2.length]? = some (pk4 4 0) := by
        have z := cj c.2.length (pk4 4 0) (by
          rw [List.getElem?_append_right (by rw [List.length_map]; exact Nat.le_refl _), List.length_map, Nat.sub_self]
          rfl)
        exact z
      obtain ⟨v1, v2, v3, ew⟩ := an_ix_13 N A2 ce
      rw [show Int32.ofNat [xa_].length = 1 from rfl]
      refine t_X10_answer_13_22 d h2 A2.1.1 _ _ _ _ _ ?_
      rw [ew, show pk4 4 0 &&& 15 = 4 from by decide, show (1 : Int32) - 1 = 0 from rfl]
      have z0 : (0 : Int32).toNatClampNeg = 0 := by simp
      have px : h_i h2 41 0 = xa_ := A2.2.2.1
      rw [z0]
      exact ⟨v1, fun z => absurd z v2, fun _ => ⟨v3, v3, fun e0 => absurd e0 (by decide), fun _ => ⟨fun _ => ⟨fun _ => ⟨fun _ => ⟨fun _ => ⟨fun n4 => absurd rfl n4, fun _ => ⟨(show vp_in (Int32.ofNat 0) 164 from on_in (by decide) (by decide)), A2.1, A2.2.1, px⟩⟩, fun e2 => absurd e2 (by decide)⟩, fun z => absurd (by decide) z⟩, fun g5 => absurd (by decide) g5⟩, fun e1 => absurd e1 (by decide)⟩⟩⟩
    show AW _ 0 0 22 _ [] h (kI (fun q h' => Iv h' ∧ Fr [41999] h0 h' ∧ q = if c.1.length = 0 ∨ ¬ top2 (run2 (av_13 h0 x3) c.1 []) = 0 then top2 (run2 (av_13 h0 x3) c.2 []) else evC (av_13 h0 x3) C))
    by_cases n0 : c.1.length = 0
    · rw [if_pos (Or.inl n0)]
      refine ans i h A (fun k w e => cc k w ?_)
      unfold clX
      rw [if_pos n0]
      exact e
    · have eX : clX 1 i c = c.1.map (tkx 1) ++ anX 1 (i + c.1.length) c.2 := by
        unfold clX
        rw [if_neg n0]
      have nN : clN c = c.1.length + (c.2.length + 2) := by
        unfold clN
        rw [if_neg n0]
      rw [eX] at cc
      have p1 : Put1 true c.1 := oc.1.elim (fun e => absurd e n0) id
      obtain ⟨xc_, ec⟩ := run2_1 (v := av_13 h0 x3) p1
      refine an_tok_13 d N x3 b3 b3' c.1 (st := []) A (p1 []) trivial oc.2.2.1 (fun k w e => cc k w (by
        rw [List.getElem?_append_left ((List.getElem?_eq_some_iff.mp e).1)]
        exact e)) (Nat.zero_le _) (fun h2 A2 l2 => ?_)
      rw [ec] at A2 l2 ⊢
      have cu : ∀ k w, (anX 1 (i + c.1.length) c.2)[k]? = some w → L[i + c.1.length + k]? = some w := fun k w e => by
        have z := cc (c.1.length + k) w (by
          rw [List.getElem?_append_right (by rw [List.length_map]; omega), List.length_map, show c.1.length + k - c.1.length = k by omega]
          exact e)
        rw [show i + (c.1.length + k) = i + c.1.length + k by omega] at z
        exact z
      have ce : L[i + c.1.length]? = some (pk4 3 (Int32.ofNat (i + c.1.length + 1 + c.2.length + 1))) := cu 0 _ rfl
      have tg : 0 ≤ (Int32.ofNat (i + c.1.length + 1 + c.2.length + 1)).toInt ∧ (Int32.ofNat (i + c.1.length + 1 + c.2.length + 1)).toInt ≤ 100000 := by
        rw [on_j (by omega)]
        omega
      have w15 := pk4_15 (o := 3) (by decide) tg
      have wsh := pk4_sh (o := 3) (by decide) tg
      obtain ⟨v1, v2, v3, ew⟩ := an_ix_13 N A2 ce
      rw [show Int32.ofNat [xc_].length = 1 from rfl]
      refine t_X10_answer_13_22 d h2 A2.1.1 _ _ _ _ _ ?_
      rw [ew, w15, wsh, show (1 : Int32) + (-1) = 0 from rfl]
      have z0 : (0 : Int32).toNatClampNeg = 0 := by simp
      have px : h_i h2 41 0 = xc_ := A2.2.2.1
      rw [z0]
      have i1 : Int32.ofNat (i + c.1.length) + 1 = Int32.ofNat (i + c.1.length + 1) := on_s (by omega)
      have A3 : Ans_13 h0 h2 [] := ⟨A2.1, A2.2.1, trivial⟩
      refine ⟨v1, fun z => absurd z v2, fun _ => ⟨v3, v3, fun e0 => absurd e0 (by decide), fun _ => ⟨fun _ => ⟨fun _ => ⟨fun _ => ⟨fun _ => ⟨fun _ => ⟨(show vp_in (Int32.ofNat 0) 164 from on_in (by decide) (by decide)), fun nx => ?_, fun ex => ?_⟩, fun e4 => absurd e4 (by decide)⟩, fun e2 => absurd e2 (by decide)⟩, fun z => absurd (by decide) z⟩, fun g5 => absurd (by decide) g5⟩, fun e1 => absurd e1 (by decide)⟩⟩⟩
      · have nx : ¬ xc_ = 0 := fun y => nx (px.trans y)
        rw [if_pos (show c.1.length = 0 ∨ ¬ top2 [xc_] = 0 from Or.inr nx), i1]
        refine ans (i + c.1.length + 1) h2 A3 (fun k w e => ?_)
        have z := cu (k + 1) w e
        rw [show i + c.1.length + (k + 1) = i + c.1.length + 1 + k by omega] at z
        exact z
      · have ex : xc_ = 0 := px.symm.trans ex
        rw [if_neg (show ¬ (c.1.length = 0 ∨ ¬ top2 [xc_] = 0) from fun y => y.elim n0 (fun z => z ex))]
        have jt : (if Int32.ofNat (i + c.1.length) < Int32.ofNat (i + c.1.length + 1 + c.2.length + 1) - 1 then Int32.ofNat (i + c.1.length + 1 + c.2.length + 1) - 1 else Int32.ofNat (i + c.1.length)) + 1 = Int32.ofNat (i + clN c) := by
          rw [on_p (show i + c.1.length + 1 + c.2.length < 1000000 by omega), if_pos (q_lt.mpr (by rw [on_j (by omega), on_j (by omega)]; omega)), on_s (by omega)]
          congr 1
          omega
        rw [jt]
        exact an_cls_13 d N x3 b3 b3' C A3 (fun c hc => o c (List.mem_cons_of_mem _ hc)) cC (by omega)
/-- what a text of the class tells -/
theorem c_an_13 (d : Nat) {h : Hp_} (I : Iv h) {r : Nat} (hr : (r : Int) < (h_i h 13 5).toInt) {C : List Cl2} (o : ∀ c ∈ C, clO 1 c) (len : h_i h 39 r = Int32.ofNat (rlN C)) (l164 : rlN C ≤ 164) (cd : ∀ i v, (rlX 1 0 C)[i]? = some v → h_i h 40 (164 * r + i) = v) (x3 : Int32) (b3 : ∀ c, ltb 1 c = true → 0 ≤ x3 + ixq 1 (xch c) ∧ x3 + ixq 1 (xch c) ≤ ((2700 : Int32) - 1)) (b3' : ∀ c, ltb 1 c = true → vp_in (x3 + ixq 1 (xch c)) 2700) : Ci (m_X10_answer (d + 2) 0 0) [.ref 13, .int (Int32.ofNat r), .ref 70, .int x3] h (fun q h' => Iv h' ∧ Fr [41999] h h' ∧ q = evC (av_13 h x3) C) := by
  have rg := I.2.1 13 5
  rw [show tf 13 5 = (0, 20) by decide +kernel] at rg
  have r20 : (h_i h 13 5).toInt ≤ 20 := rg.2
  have t1 : (1 : Int32).toInt = 1 := rfl
  have t0 : (0 : Int32).toInt = 0 := rfl
  have m1 : (h_i h 13 5 - 1).toInt = (h_i h 13 5).toInt - 1 := by rw [tx_sub (by rw [t1]; omega) (by rw [t1]; omega), t1]
  refine t_X10_answer_13 d h I.1 _ x3 _ ⟨fun _ => ?_, fun z => absurd ⟨q_le.mpr (by rw [t0, on_j (by omega)]; omega), q_le.mpr (by rw [m1, on_j (by omega)]; omega)⟩ z⟩
  exact an_cls_13 d (L := rlX 1 0 C) ⟨by omega, by rw [rlX_l]; exact l164, by rw [rlX_l]; exact len, cd⟩ x3 b3 b3' C (i := 0) ⟨I, Fr.rf _ _, trivial⟩ o (fun k w e => by rw [Nat.zero_add]; exact e) (by rw [rlX_l, Nat.zero_add])
/-- no text: nothing is told -/
theorem c_an0_13 (d : Nat) {h : Hp_} (I : Iv h) (x3 : Int32) : Ci (m_X10_answer (d + 2) 0 0) [.ref 13, .int (-1), .ref 70, .int x3] h (fun q h' => h' = h ∧ q = 0) := t_X10_answer_13 d h I.1 _ x3 _ ⟨fun z => absurd z.1 (by decide), fun _ => ⟨rfl, rfl⟩⟩
noncomputable def Ans_14 (h0 h : Hp_) (st : List Int32) : Prop := Iv h ∧ Fr [46999] h0 h ∧ Pil (h_i h 46) st
theorem Ans_14.im {h0 h : Hp_} {st : List Int32} (A : Ans_14 h0 h st) (x : Int32) {k : Nat} {st' : List Int32} (ek : k = st'.length) (P : Pil (h_i h 46) st') : Ans_14 h0 (h_im h 46 k x) (x :: st') := ⟨tr_ 46 (by decide +kernel) A.1 _ _ (by decide) (by decide), A.2.1.im (inw_row (by decide +kernel) _), by rw [up_41, ek]; exact P.up x⟩
end
section
/-! act and pay, with the codes that are kept: the reference -/
noncomputable def Txn (s m : Nat) (x2 : Int32) (h6 : Hp_) (r : Int32) (h' : Hp_) : Prop := r = Int32.ofNat m ∧ h_i h' 1 32 = 0 ∧ (∀ k, h_i h' 235 k = if k = s then Int32.ofNat m + 1 else h_i h6 235 k) ∧ (∀ k, h_i h' 233 k = if k = 20 * s + m then x2 else h_i h6 233 k) ∧ (∀ k, h_i h' 234 k = if k = 20 * s + m then h_i h6 1 0 else h_i h6 234 k) ∧ (∀ j, j < sN h6 → h_i h' 231 (560 * (20 * s + m) + j) = h_i h6 226 j) ∧ (∀ j, (j < 560 * (20 * s + m) ∨ 560 * (20 * s + m) + 560 ≤ j) → h_i h' 231 j = h_i h6 231 j) ∧ (∀ k, h_i h' 232 k = if k = 20 * s + m then h_i h6 1 36 else h_i h6 232 k)
theorem tx_loopg (d s m : Nat) (hs : s < 2) (lm : m < 20) {h h6 : Hp_} (x2 x3 : Int32) (I6 : Iv h6) (hm : h_i h6 235 s = Int32.ofNat m) (e3 : x3.toInt = ((20 * s + m : Nat) : Int)) (pc : ∃ f, pcl (s + 1) (h_i h6 226) f 0 (sN h6)) :
    ∀ (n k : Nat) (h2 : Hp_), k + n = sN h6 → (∀ a j, a ≠ 231 → h_i h2 a j = h_i h6 a j) → h_sh h2 = h_sh h6 → h_r h2 = h_r h6 → Fr wzt h h2 → (∀ j, j < k → h_i h2 231 (560 * (20 * s + m) + j) = h_i h6 226 j) → (∀ j, (j < 560 * (20 * s + m) ∨ 560 * (20 * s + m) + 560 ≤ j) → h_i h2 231 j = h_i h6 231 j) →
    AW (m_X12_text (d + 60) 0 0) 0 0 49 [(0, .ref 1), (1, .int (Int32.ofNat s)), (2, .int x2), (3, .int x3), (4, .int (Int32.ofNat k))] [] h2 (kI (fun r h' => (Iv h' ∧ Fr wzt h h') ∧ Txn s m x2 h6 r h')) := by
  have n6 := sN_i I6
  have p6 : ps h6 ≤ 559 := (ps_in I6).2
  have n3 := n_nat (x := x3) (by omega)
  have k3 : x3.toNatClampNeg = 20 * s + m := by omega
  have v3 : vp_in x3 40 := dp_in (lo := 0) (hi := 39) ⟨by show (0 : Int) ≤ _; omega, by show _ ≤ (39 : Int); omega⟩ (by decide) (by decide)
  have v1 : vp_in (Int32.ofNat s) 2 := on_in hs (by decide)
  have k1 : (Int32.ofNat s).toNatClampNeg = s := on_k (by omega)
  have t560 : (560 : Int32).toInt = 560 := rfl
  intro n
  induction n with
  | zero =>
    intro k h2 e he hsh hr F c1 c2
    have ek : (Int32.ofNat k).toInt = (k : Int) := on_j (by omega)
    have es : h_i h2 1 36 = h_i h6 1 36 := he 1 36 (by decide)
    have w2 : Wf h2 := ⟨fun q hq => by rw [hsh]; exact I6.1.1 q hq, fun q hq => by rw [hr]; exact I6.1.2 q hq⟩
    refine t_X12_text_49 d h2 w2 _ x2 x3 _ _ ⟨fun _ => ⟨v3, v3, v3, v1, v1, v1, ?_⟩, fun z => ?_⟩
    · rw [k3, k1, es, he 235 s (by decide), hm]
      have kk : k = sN h6 := by omega
      have I3 : Iv (h_im h2 232 (20 * s + m) (h_i h6 1 36)) := by
        refine Iv_codes I6 he hsh hr (by omega) ⟨by show (0 : Int) ≤ ps h6; omega, by show ps h6 ≤ (560 : Int); omega⟩ c2 ?_
        obtain ⟨f, p⟩ := pc
        have p2 := pcl_sh (t := 560 * (20 * s + m)) (cd' := h_i h2 231) (fun x _ b => by rw [Nat.add_comm]; exact c1 x (by omega)) p
        rw [Nat.zero_add, Nat.add_comm (sN h6)] at p2
        rw [show (20 * s + m) / 20 + 1 = s + 1 by omega]
        exact ⟨f, p2⟩
      have e20 : (Int32.ofNat m + 1).toInt = ((m + 1 : Nat) : Int) := by rw [on_s (by omega)]; exact on_j (by omega)
      refine ⟨⟨i32 (i235 (i2xx 234 (by decide +kernel) (by decide) (by decide) (i2xx 233 (by decide +kernel) (by decide) (by decide) I3 _ _) _ _) _ ⟨by rw [e20]; show (0 : Int) ≤ _; omega, by rw [e20]; show _ ≤ (20 : Int); omega⟩) ⟨by decide, by decide⟩, ((((F.im (inw_row (by decide +kernel) _)).im (inw_row (by decide +kernel) _)).im (inw_row (by decide +kernel) _)).im (inw_row (by decide +kernel) _)).im (by decide +kernel)⟩, ?_, ?_, fun q => ?_, fun q => ?_, fun q => ?_, fun j hj => ?_, fun j hj => ?_, fun q => ?_⟩
      · rw [on_s (by omega)]
        refine Int32.toInt_inj.mp ?_
        have o1 : (1 : Int32).toInt = 1 := rfl
        rw [tx_sub (by rw [o1, on_j (by omega)]; omega) (by rw [o1, on_j (by omega)]; omega), o1, on_j (by omega), on_j (by omega)]
        omega
      · rw [im_at]
      · rw [im_ne (by decide), h_i_im]
        by_cases y : q = s
        · rw [if_pos ⟨rfl, y⟩, if_pos y]
        · rw [if_neg (fun u => y u.2), if_neg y, im_ne (by decide), im_ne (by decide), im_ne (by decide)]
          exact he 235 q (by decide)
      · rw [im_ne (by decide), im_ne (by decide), im_ne (by decide), h_i_im]
        by_cases y : q = 20 * s + m
        · rw [if_pos ⟨rfl, y⟩, if_pos y]
        · rw [if_neg (fun u => y u.2), if_neg y, im_ne (by decide)]
          exact he 233 q (by decide)
      · rw [im_ne (by decide), im_ne (by decide), h_i_im]
        by_cases y : q = 20 * s + m
        · rw [if_pos ⟨rfl, y⟩, if_pos y]
          exact he 1 0 (by decide)
        · rw [if_neg (fun u => y u.2), if_neg y, im_ne (by decide), im_ne (by decide)]
          exact he 234 q (by decide)
      · rw [im_ne (by decide), im_ne (by decide), im_ne (by decide), im_ne (by decide), im_ne (by decide)]
        exact c1 j (by omega)
      · rw [im_ne (by decide), im_ne (by decide), im_ne (by decide), im_ne (by decide), im_ne (by decide)]
        exact c2 j hj
      · rw [im_ne (by decide), im_ne (by decide), im_ne (by decide), im_ne (by decide), h_i_im]
        by_cases y : q = 20 * s + m
        · rw [if_pos ⟨rfl, y⟩, if_pos y]
        · rw [if_neg (fun u => y u.2), if_neg y]
          exact he 232 q (by decide)
    · rw [es] at z
      have z := q_nle z
      have z' : (Int32.ofNat k).toInt < ps h6 := z
      omega
  | succ n ih =>
    intro k h2 e he hsh hr F c1 c2
    have ek : (Int32.ofNat k).toInt = (k : Int) := on_j (by omega)
    have nk : (Int32.ofNat k).toNatClampNeg = k := on_k (by omega)
    have es : h_i h2 1 36 = h_i h6 1 36 := he 1 36 (by decide)
    have w2 : Wf h2 := ⟨fun q hq => by rw [hsh]; exact I6.1.1 q hq, fun q hq => by rw [hr]; exact I6.1.2 q hq⟩
    have m1 : (560 * x3).toInt = 560 * x3.toInt := by rw [tx_mul (by rw [t560]; omega) (by rw [t560]; omega), t560]
    have m2 : (560 * x3 + Int32.ofNat k).toInt = 560 * ((20 * s + m : Nat) : Int) + k := by rw [tx_add (by omega) (by omega), m1, ek, e3]
    have nm := n_nat (x := 560 * x3 + Int32.ofNat k) (by omega)
    have km : (560 * x3 + Int32.ofNat k).toNatClampNeg = 560 * (20 * s + m) + k := by omega
    refine t_X12_text_49 d h2 w2 _ x2 x3 _ _ ⟨fun z => ?_, fun _ => ⟨on_in (by omega) (by decide), dp_in (lo := 0) (hi := 22399) ⟨by show (0 : Int) ≤ _; omega, by show _ ≤ (22399 : Int); omega⟩ (by decide) (by decide), ?_⟩⟩
    · rw [es] at z
      have z := q_le.mp z
      have z' : ps h6 ≤ (Int32.ofNat k).toInt := z
      omega
    · rw [km, nk, on_s (by omega)]
      refine ih (k + 1) _ (by omega) (fun a j na => ?_) hsh hr (F.im (inw_row (by decide +kernel) _)) (fun j hj => ?_) (fun j hj => ?_)
      · rw [im_ne na]; exact he a j na
      · rw [h_i_im]
        by_cases y : j = k
        · rw [if_pos ⟨rfl, by omega⟩, y]; exact he 226 k (by decide)
        · rw [if_neg (fun u => by have := u.2; omega)]; exact c1 j (by omega)
      · rw [h_i_im, if_neg (fun u => by have := u.2; omega)]; exact c2 j hj
/-- the codes of the reference's texts behind an act or pay -/
noncomputable def RcM (b : Nat → Int32) (n s : Nat) (x2 : Int32) (h h' : Hp_) : Prop := (¬ okR b n s x2 (h_i h 235 s) → (∀ k, h_i h' 231 k = h_i h 231 k) ∧ (∀ k, h_i h' 232 k = h_i h 232 k)) ∧ (okR b n s x2 (h_i h 235 s) → (k2ru b n (s + 1) 0).1 = true ∧ At_ (h_i h' 231) (560 * (20 * s + (h_i h 235 s).toNatClampNeg)) (rlM (k2ru b n (s + 1) 0).2.2) ∧ h_i h' 232 (20 * s + (h_i h 235 s).toNatClampNeg) = Int32.ofNat (rlM (k2ru b n (s + 1) 0).2.2).length ∧ (rlM (k2ru b n (s + 1) 0).2.2).length ≤ 560 ∧ (∀ k, k ≠ 20 * s + (h_i h 235 s).toNatClampNeg → h_i h' 232 k = h_i h 232 k) ∧ (∀ j, (j < 560 * (20 * s + (h_i h 235 s).toNatClampNeg) ∨ 560 * (20 * s + (h_i h 235 s).toNatClampNeg) + 560 ≤ j) → h_i h' 231 j = h_i h 231 j))
theorem c_textg (d s : Nat) (hs : s < 2) {b : Nat → Int32} {n : Nat} (bb : ∀ k, k < n → ¬ b k = -1) {h : Hp_} (I : Iv h) (t : Tp b n h) (x2 : Int32) : Ci (m_X12_text (d + 80 + 60) 0 0) [.ref 1, .int (Int32.ofNat s), .int x2] h (fun r h' => ((Iv h' ∧ Fr wzt h h') ∧ Rlm b n s x2 h r h') ∧ RcM b n s x2 h h') := by
  have v1 : vp_in (Int32.ofNat s) 2 := on_in hs (by decide)
  have k1 : (Int32.ofNat s).toNatClampNeg = s := on_k (by omega)
  refine t_X12_text (d + 80) h I.1 _ x2 _ ⟨fun nb => ⟨⟨⟨I, Fr.rf _ _⟩, fun _ => ⟨rfl, rfl, fun _ => rfl, fun _ => rfl, fun _ => rfl⟩, fun o => absurd o.1 nb⟩, fun _ => ⟨fun _ => rfl, fun _ => rfl⟩, fun o => absurd o.1 nb⟩, fun bd => ⟨v1, fun e20 => ⟨⟨⟨I, Fr.rf _ _⟩, fun _ => ⟨rfl, rfl, fun _ => rfl, fun _ => rfl, fun _ => rfl⟩, fun o => absurd (k1 ▸ e20) o.2.1⟩, fun _ => ⟨fun _ => rfl, fun _ => rfl⟩, fun o => absurd (k1 ▸ e20) o.2.1⟩, fun ne => ?_⟩⟩
  rw [on_s (n := s) (by omega)]
  refine Ci.mono (c_faultg d bb I t (s + 1) (by omega)) (fun r h6 k => ?_)
  obtain ⟨⟨I6, F6, g⟩, ev, cr⟩ := k
  have e32 : h_i h6 1 32 = h_i h 1 32 := (F6.2 1 32 (by decide +kernel)).1
  have e10 : h_i h6 1 0 = h_i h 1 0 := (F6.2 1 0 (by decide +kernel)).1
  have r5 : ∀ k, h_i h6 235 k = h_i h 235 k := fun k => fr_i F6 (by decide +kernel) k
  have r3 : ∀ k, h_i h6 233 k = h_i h 233 k := fun k => fr_i F6 (by decide +kernel) k
  have r4 : ∀ k, h_i h6 234 k = h_i h 234 k := fun k => fr_i F6 (by decide +kernel) k
  have r1 : ∀ k, h_i h6 231 k = h_i h 231 k := fun k => fr_i F6 (by decide +kernel) k
  have r2 : ∀ k, h_i h6 232 k = h_i h 232 k := fun k => fr_i F6 (by decide +kernel) k
  refine ⟨I6.1, fun er => ⟨v1, ?_⟩, fun nr => ⟨⟨⟨I6, F6.more (by decide +kernel)⟩, fun _ => ⟨rfl, e32, r5, r3, r4⟩, fun o => absurd (ev.trans o.2.2) nr⟩, fun _ => ⟨r1, r2⟩, fun o => absurd (ev.trans o.2.2) nr⟩⟩
  rw [k1] at ne ⊢
  have e235 : h_i h6 235 s = h_i h 235 s := r5 s
  have br := dp_rg I6 235 s (show tfa 235 = some (0, 20) by decide +kernel)
  have b0 : 0 ≤ (h_i h6 235 s).toInt := br.1
  have b1 : (h_i h6 235 s).toInt ≤ 20 := br.2
  have nb := n_nat b0
  have t20 : (20 : Int32).toInt = 20 := rfl
  have lt : (h_i h6 235 s).toInt < 20 := by
    rcases Int.lt_or_le (h_i h6 235 s).toInt 20 with u | u
    · exact u
    · exact absurd (Int32.toInt_inj.mp (by rw [← e235, t20]; omega)) ne
  have hm : h_i h6 235 s = Int32.ofNat (h_i h6 235 s).toNatClampNeg := Int32.toInt_inj.mp (by rw [on_j (by omega)]; exact nb.symm)
  have es : (Int32.ofNat s).toInt = (s : Int) := on_j (by omega)
  have m1 : (20 * Int32.ofNat s).toInt = 20 * (s : Int) := by rw [tx_mul (by rw [t20, es]; omega) (by rw [t20, es]; omega), t20, es]
  have e3 : (20 * Int32.ofNat s + h_i h6 235 s).toInt = ((20 * s + (h_i h6 235 s).toNatClampNeg : Nat) : Int) := by rw [tx_add (by omega) (by omega), m1]; omega
  have pc : ∃ f, pcl (s + 1) (h_i h6 226) f 0 (sN h6) := (g er).2 (s + 1) (by omega) rfl
  refine AW.mono (tx_loopg (d + 80) s _ hs (by omega) x2 _ I6 hm e3 pc (sN h6) 0 h6 (by omega) (fun _ _ _ => rfl) rfl rfl (F6.more (by decide +kernel)) (fun j hj => absurd hj (by omega)) (fun _ _ => rfl)) (fun v h' q => ?_)
  obtain ⟨r', er', q1, q2, q3, q4, q5, q6, q7, q8, q9⟩ := q
  have C := cr er
  have p6 : ps h6 ≤ 559 := (ps_in I6).2
  have n6 := sN_i I6
  refine ⟨r', er', ⟨q1, fun no => absurd ⟨bd, ne, ev.symm.trans er⟩ no, fun _ => ⟨?_, q3, fun k => ?_, fun k => ?_, fun k => ?_⟩⟩, fun no => absurd ⟨bd, ne, ev.symm.trans er⟩ no, fun _ => ⟨C.1, fun i v e => ?_, ?_, ?_, fun k hk => ?_, fun j hj => ?_⟩⟩
  · rw [q2, ← hm, e235]
  · rw [q4 k, ← hm, e235, r5]
  · rw [q5 k, e235, r3]
  · rw [q6 k, e235, r4, e10]
  · have li : i < sN h6 := by
      rw [C.2.1]
      exact (List.getElem?_eq_some_iff.mp e).1
    rw [← e235, q7 i li]
    exact C.2.2 i v e
  · rw [← e235, q9, if_pos rfl, ← C.2.1]
    exact (of_nat32 (by show 0 ≤ ps h6; omega)).symm
  · rw [← C.2.1]
    omega
  · rw [← e235] at hk
    rw [q9 k, if_neg hk, r2]
  · rw [← e235] at hj
    rw [q8 j hj, r1]
theorem c_actg (d : Nat) {b : Nat → Int32} {n : Nat} (bb : ∀ k, k < n → ¬ b k = -1) {h : Hp_} (I : Iv h) (t : Tp b n h) (x1 : Int32) : Ci (m_X12_act (d + 80 + 61) 0 0) [.ref 1, .int x1] h (fun r h' => ((Iv h' ∧ Fr wzt h h') ∧ Rlm b n 0 x1 h r h') ∧ RcM b n 0 x1 h h') := t_X12_act (d + 80) h I.1 x1 _ (Ci.mono (c_textg d 0 (by decide) bb I t x1) (fun _ h' k => ⟨k.1.1.1.1, k⟩))
theorem c_payg (d : Nat) {b : Nat → Int32} {n : Nat} (bb : ∀ k, k < n → ¬ b k = -1) {h : Hp_} (I : Iv h) (t : Tp b n h) (x1 : Int32) : Ci (m_X12_pay (d + 80 + 61) 0 0) [.ref 1, .int x1] h (fun r h' => ((Iv h' ∧ Fr wzt h h') ∧ Rlm b n 1 x1 h r h') ∧ RcM b n 1 x1 h h') := t_X12_pay (d + 80) h I.1 x1 _ (Ci.mono (c_textg d 1 (by decide) bb I t x1) (fun _ h' k => ⟨k.1.1.1.1, k⟩))
/-! the class -/
theorem c_kpg_13 (d : Nat) {h : Hp_} (I : Iv h) (x1 x2 : Int32) : Ci (m_X10_keep (d + 1) 0 0) [.ref 13, .int x1, .int x2, .ref 11] h (fun r h' => Iv h' ∧ Fr wkr_13 h h' ∧ (h_i h 13 5 = 20 → r = -1 ∧ h' = h) ∧ (¬ h_i h 13 5 = 20 → ¬ r = -1 ∧ r = h_i h 13 5 ∧ h_i h' 13 5 = h_i h 13 5 + 1 ∧ (∀ k, h_i h' 37 k = if k = (h_i h 13 5).toNatClampNeg then x1 else h_i h 37 k) ∧ (∀ k, h_i h' 38 k = if k = (h_i h 13 5).toNatClampNeg then x2 else h_i h 38 k) ∧ (∀ k, h_i h' 39 k = if k = (h_i h 13 5).toNatClampNeg then h_i h 11 9 else h_i h 39 k) ∧ (∀ j, j < xc h → h_i h' 40 (164 * (h_i h 13 5).toNatClampNeg + j) = h_i h 33 j) ∧ (∀ j, j < 164 * (h_i h 13 5).toNatClampNeg → h_i h' 40 j = h_i h 40 j))) := by
  have t20 : (20 : Int32).toInt = 20 := rfl
  have t1 : (1 : Int32).toInt = 1 := rfl
  have t0 : (0 : Int32).toInt = 0 := rfl
  have t164 : (164 : Int32).toInt = 164 := rfl
  have rg := I.2.1 13 5
  rw [show tf 13 5 = (0, 20) by decide +kernel] at rg
  have b0 : 0 ≤ (h_i h 13 5).toInt := rg.1
  have b1 : (h_i h 13 5).toInt ≤ 20 := rg.2
  have r9 := I.2.1 11 9
  rw [show tf 11 9 = (0, 164) by decide +kernel] at r9
  have c0 : 0 ≤ (h_i h 11 9).toInt := r9.1
  have c1 : (h_i h 11 9).toInt ≤ 164 := r9.2
  refine t_X10_keep_13 d h I.1 x1 x2 _ ⟨fun z => ?_, fun z => ⟨I, Fr.rf _ _, fun _ => ⟨rfl, rfl⟩, fun n => ?_⟩⟩
  · have z := q_lt.mp z
    have n20 : ¬ h_i h 13 5 = 20 := fun e => by rw [e] at z; exact absurd z (by decide)
    have v : vp_in (h_i h 13 5) 20 := dp_in (lo := 0) (hi := 19) ⟨b0, by show _ ≤ (19 : Int); omega⟩ (by decide) (by decide)
    have m1 : (h_i h 13 5 * 164).toInt = (h_i h 13 5).toInt * 164 := by rw [tx_mul (by rw [t164]; omega) (by rw [t164]; omega), t164]
    have nn : ∀ x : Int32, 0 ≤ x.toInt → ¬ x < 0 := fun x hx y => by
      have y := q_lt.mp y
      omega
    have n5 := n_nat (x := h_i h 13 5 * 164) (by omega)
    have n9 := n_nat (x := h_i h 11 9) c0
    refine ⟨v, v, v, ⟨by decide, nn _ (by omega), nn _ c0, ?_, by omega⟩, ?_⟩
    · show 0 + (h_i h 11 9).toNatClampNeg ≤ 164
      omega
    · have I3 : Iv (h_im (h_im (h_im h 37 ((h_i h 13 5) : Int32).toNatClampNeg x1) 38 ((h_i h 13 5) : Int32).toNatClampNeg x2) 39 ((h_i h 13 5) : Int32).toNatClampNeg (h_i h 11 9)) := (i2xx 38 (by decide +kernel) (by decide) (by decide) (i2xx 37 (by decide +kernel) (by decide) (by decide) I _ _) _ _).im (a := 39) (by rw [tfa_tf (show tfa 39 = some (0, 164) by decide +kernel)]; exact ⟨c0, c1⟩) (jw_jr (by decide) (by decide) _)
      have F3 : Fr wkr_13 h (h_im (h_im (h_im h 37 ((h_i h 13 5) : Int32).toNatClampNeg x1) 38 ((h_i h 13 5) : Int32).toNatClampNeg x2) 39 ((h_i h 13 5) : Int32).toNatClampNeg (h_i h 11 9)) := (((Fr.rf _ _).im (inw_row (by decide +kernel) _)).im (inw_row (by decide +kernel) _)).im (inw_row (by decide +kernel) _)
      have w37 : ∀ k, h_i (h_im (h_im (h_im h 37 ((h_i h 13 5) : Int32).toNatClampNeg x1) 38 ((h_i h 13 5) : Int32).toNatClampNeg x2) 39 ((h_i h 13 5) : Int32).toNatClampNeg (h_i h 11 9)) 37 k = if k = (h_i h 13 5).toNatClampNeg then x1 else h_i h 37 k := fun k => by
        rw [im_ne (by decide), im_ne (by decide), h_i_im]
        by_cases y : k = (h_i h 13 5).toNatClampNeg
        · rw [if_pos ⟨rfl, y⟩, if_pos y]
        · rw [if_neg (fun u => y u.2), if_neg y]
      have w38 : ∀ k, h_i (h_im (h_im (h_im h 37 ((h_i h 13 5) : Int32).toNatClampNeg x1) 38 ((h_i h 13 5) : Int32).toNatClampNeg x2) 39 ((h_i h 13 5) : Int32).toNatClampNeg (h_i h 11 9)) 38 k = if k = (h_i h 13 5).toNatClampNeg then x2 else h_i h 38 k := fun k => by
        rw [im_ne (by decide), h_i_im]
        by_cases y : k = (h_i h 13 5).toNatClampNeg
        · rw [if_pos ⟨rfl, y⟩, if_pos y]
        · rw [if_neg (fun u => y u.2), if_neg y, im_ne (by decide)]
      have w39 : ∀ k, h_i (h_im (h_im (h_im h 37 ((h_i h 13 5) : Int32).toNatClampNeg x1) 38 ((h_i h 13 5) : Int32).toNatClampNeg x2) 39 ((h_i h 13 5) : Int32).toNatClampNeg (h_i h 11 9)) 39 k = if k = (h_i h 13 5).toNatClampNeg then h_i h 11 9 else h_i h 39 k := fun k => by
        rw [h_i_im]
        by_cases y : k = (h_i h 13 5).toNatClampNeg
        · rw [if_pos ⟨rfl, y⟩, if_pos y]
        · rw [if_neg (fun u => y u.2), if_neg y, im_ne (by decide), im_ne (by decide)]
      have w33 : ∀ k, h_i (h_im (h_im (h_im h 37 ((h_i h 13 5) : Int32).toNatClampNeg x1) 38 ((h_i h 13 5) : Int32).toNatClampNeg x2) 39 ((h_i h 13 5) : Int32).toNatClampNeg (h_i h 11 9)) 33 k = h_i h 33 k := fun k => by rw [im_ne (by decide), im_ne (by decide), im_ne (by decide)]
      have w40 : ∀ k, h_i (h_im (h_im (h_im h 37 ((h_i h 13 5) : Int32).toNatClampNeg x1) 38 ((h_i h 13 5) : Int32).toNatClampNeg x2) 39 ((h_i h 13 5) : Int32).toNatClampNeg (h_i h 11 9)) 40 k = h_i h 40 k := fun k => by rw [im_ne (by decide), im_ne (by decide), im_ne (by decide)]
      have w5 : h_i (h_im (h_im (h_im h 37 ((h_i h 13 5) : Int32).toNatClampNeg x1) 38 ((h_i h 13 5) : Int32).toNatClampNeg x2) 39 ((h_i h 13 5) : Int32).toNatClampNeg (h_i h 11 9)) 13 5 = h_i h 13 5 := by rw [im_ne (by decide), im_ne (by decide), im_ne (by decide)]
      generalize h_im (h_im (h_im h 37 ((h_i h 13 5) : Int32).toNatClampNeg x1) 38 ((h_i h 13 5) : Int32).toNatClampNeg x2) 39 ((h_i h 13 5) : Int32).toNatClampNeg (h_i h 11 9) = h3 at I3 F3 w37 w38 w39 w33 w40 w5 ⊢
      have cpA : ∀ j, j < xc h → va_cpy (h_i h3 33) (h_i h3 40) (0 : Int32).toNatClampNeg ((h_i h 13 5) * 164).toNatClampNeg (h_i h 11 9).toNatClampNeg (164 * (h_i h 13 5).toNatClampNeg + j) = h_i h 33 j := fun j hj => by
        have n5' : ((h_i h 13 5) * 164).toNatClampNeg = 164 * (h_i h 13 5).toNatClampNeg := by
          have k0 := n_nat b0
          omega
        rw [n5']
        unfold va_cpy
        rw [if_pos ⟨by omega, by show _ < _ + xc h; omega⟩, ← w33]
        congr 1
        show 0 + (164 * (h_i h 13 5).toNatClampNeg + j - 164 * (h_i h 13 5).toNatClampNeg) = j
        omega
      have cpB : ∀ j, j < 164 * (h_i h 13 5).toNatClampNeg → va_cpy (h_i h3 33) (h_i h3 40) (0 : Int32).toNatClampNeg ((h_i h 13 5) * 164).toNatClampNeg (h_i h 11 9).toNatClampNeg j = h_i h 40 j := fun j hj => by
        have n5' : ((h_i h 13 5) * 164).toNatClampNeg = 164 * (h_i h 13 5).toNatClampNeg := by
          have k0 := n_nat b0
          omega
        rw [n5']
        unfold va_cpy
        rw [if_neg (fun y => by have := y.1; omega)]
        exact w40 j
      generalize va_cpy (h_i h3 33) (h_i h3 40) (0 : Int32).toNatClampNeg ((h_i h 13 5) * 164).toNatClampNeg (h_i h 11 9).toNatClampNeg = fc at cpA cpB ⊢
      have I4 : Iv (h_iw h3 40 fc) := I3.iw (fun k => by rw [tfa_tf (show tfa 40 = some rtop by decide +kernel)]; exact rtop_in _) (by decide) (by decide)
      have F4 : Fr wkr_13 h (h_iw h3 40 fc) := F3.iw (by decide +kernel)
      have ne : ∀ a, a ≠ 40 → ∀ k, h_i (h_iw h3 40 fc) a k = h_i h3 a k := fun a na k => by rw [h_i_iw, if_neg na]
      have ex : (h_i h 13 5 + 1).toInt = (h_i h 13 5).toInt + 1 := tx_add (by rw [t1]; omega) (by rw [t1]; omega)
      refine t_X10_keep_13_68 d _ I4.1 _ ⟨?_, F4.im (by decide +kernel), fun y => absurd y n20, fun _ => ⟨?_, ?_, ?_, fun k => ?_, fun k => ?_, fun k => ?_, fun j hj => ?_, fun j hj => ?_⟩⟩
      · exact I4.im (a := 13) (k := 5) (by rw [show tf 13 5 = (0, 20) by decide +kernel, ne 13 (by decide), w5, ex]; exact ⟨by show (0 : Int) ≤ _; omega, by show _ ≤ (20 : Int); omega⟩) (by decide)
      · rw [ne 13 (by decide), w5]
        intro y
        have y := congrArg Int32.toInt y
        rw [tx_sub (by rw [t1]; omega) (by rw [t1]; omega), ex, t1, show (-1 : Int32).toInt = -1 from rfl] at y
        omega
      · rw [ne 13 (by decide), w5]
        refine Int32.toInt_inj.mp ?_
        rw [tx_sub (by rw [t1]; omega) (by rw [t1]; omega), ex, t1]
        omega
      · rw [im_at, ne 13 (by decide), w5]
      · rw [im_ne (by decide), ne 37 (by decide)]
        exact w37 k
      · rw [im_ne (by decide), ne 38 (by decide)]
        exact w38 k
      · rw [im_ne (by decide), ne 39 (by decide)]
        exact w39 k
      · rw [im_ne (by decide), h_i_iw, if_pos rfl]
        exact cpA j hj
      · rw [im_ne (by decide), h_i_iw, if_pos rfl]
        exact cpB j hj
  · have n20 : ¬ (h_i h 13 5).toInt < 20 := fun y => z (q_lt.mpr (by rw [t20]; exact y))
    exact absurd (Int32.toInt_inj.mp (by rw [t20]; omega)) n
/-- the codes of the class's texts behind it -/
noncomputable def RcX_13 (x1 : Int32) (h h' : Hp_) : Prop := (¬ okR (h_i h 31) (xn h) 0 x1 (h_i h 13 5) → (∀ k, h_i h' 39 k = h_i h 39 k) ∧ (∀ k, h_i h' 40 k = h_i h 40 k)) ∧ (okR (h_i h 31) (xn h) 0 x1 (h_i h 13 5) → (k2ru (h_i h 31) (xn h) (0 + 1) 0).1 = true ∧ rlN (k2ru (h_i h 31) (xn h) (0 + 1) 0).2.2 ≤ 164 ∧ h_i h' 39 (h_i h 13 5).toNatClampNeg = Int32.ofNat (rlN (k2ru (h_i h 31) (xn h) (0 + 1) 0).2.2) ∧ (∀ i v, (rlX (0 + 1) 0 (k2ru (h_i h 31) (xn h) (0 + 1) 0).2.2)[i]? = some v → h_i h' 40 (164 * (h_i h 13 5).toNatClampNeg + i) = v) ∧ (∀ k, k ≠ (h_i h 13 5).toNatClampNeg → h_i h' 39 k = h_i h 39 k) ∧ (∀ j, j < 164 * (h_i h 13 5).toNatClampNeg → h_i h' 40 j = h_i h 40 j))
theorem c_acty (d : Nat) {h : Hp_} (I : Iv h) (x1 : Int32) : Ci (m_X11_act (d + 141) 0 0) [.ref 0, .int x1] h (fun r h' => Iv h' ∧ Fr wrx_13 h h' ∧ Rlx_13 x1 h r h' ∧ RcX_13 x1 h h') := by
  have k := c_rre (b := h_i h 31) (n := xn h) (0 + 1) (by decide) d I rfl rfl 1 (by decide)
  rw [show d + 80 + 60 = d + 140 by omega] at k
  refine t_X11_act d h I.1 x1 _ ⟨fun nb => ⟨I, Fr.rf _ _, ⟨fun _ => ⟨rfl, rfl, rfl, fun _ => rfl, fun _ => rfl⟩, fun o => absurd o.1 nb⟩, fun _ => ⟨fun _ => rfl, fun _ => rfl⟩, fun o => absurd o.1 nb⟩, fun bd => Ci.mono k (fun r6 h4 X => ?_)⟩
  obtain ⟨e3, I4, F4, ee, cr⟩ := X
  have W4 : Fr wrx_13 h h4 := F4.more (by decide +kernel)
  have e11 : h_i h4 11 1 = h_i h 11 1 := (F4.2 11 1 (by decide +kernel)).1
  have e5 : h_i h4 13 5 = h_i h 13 5 := (F4.2 13 5 (by decide +kernel)).1
  have e00 : h_i h4 0 0 = h_i h 0 0 := (F4.2 0 0 (by decide +kernel)).1
  have rd : ∀ k, h_i h4 37 k = h_i h 37 k := fun k => fr_i F4 (by decide +kernel) k
  have rt : ∀ k, h_i h4 38 k = h_i h 38 k := fun k => fr_i F4 (by decide +kernel) k
  have rl : ∀ k, h_i h4 39 k = h_i h 39 k := fun k => fr_i F4 (by decide +kernel) k
  have rc : ∀ k, h_i h4 40 k = h_i h 40 k := fun k => fr_i F4 (by decide +kernel) k
  refine ⟨I4.1, fun er => t_X11_keepRule_13 d h4 I4.1 x1 _ (Ci.mono (c_kpg_13 d I4 x1 (h_i h4 0 0)) (fun r3 h5 Y => ?_)), fun nr => ⟨I4, W4, ⟨fun _ => ⟨rfl, e11, e5, rd, rt⟩, fun o => absurd (e3.trans (ee.trans o.2.2)) nr⟩, fun _ => ⟨rl, rc⟩, fun o => absurd (e3.trans (ee.trans o.2.2)) nr⟩⟩
  have ev : enq (h_i h 31) (xn h) (ruq (h_i h 31) (xn h) (clq (h_i h 31) (xn h) (0 + 1))) = -1 := ee.symm.trans (e3.symm.trans er)
  obtain ⟨I5, F5, Yn, Yy⟩ := Y
  rw [e5] at Yn Yy
  rw [e00] at Yy
  have W5 : Fr wrx_13 h h5 := W4.tr (F5.more (by decide +kernel))
  refine ⟨I5.1, fun e7 => ⟨I5.1, I5, W5, ⟨fun _ => ?_, fun o => absurd e7 (Yy o.2.1).1⟩, fun _ => ?_, fun o => absurd e7 (Yy o.2.1).1⟩, fun n7 => Ci.mono (c_cut0 d I5) (fun _ h9 e9 => ?_)⟩
  · by_cases z : h_i h 13 5 = 20
    · have q := (Yn z).2
      subst q
      exact ⟨e7, e11, e5, rd, rt⟩
    · exact absurd e7 (Yy z).1
  · by_cases z : h_i h 13 5 = 20
    · have q := (Yn z).2
      subst q
      exact ⟨rl, rc⟩
    · exact absurd e7 (Yy z).1
  · have z : ¬ h_i h 13 5 = 20 := fun z => n7 (Yn z).1
    obtain ⟨q0, q1, q2, q3, q4, q5, q6, q7⟩ := Yy z
    subst e9
    refine ⟨(y1 I5).1, (y1 I5).1, y1 I5, W5.im (by decide +kernel), ⟨fun no => absurd ⟨bd, z, ev⟩ no, fun _ => ⟨q1, im_at, by rw [im_ne (by decide)]; exact q2, fun k => ?_, fun k => ?_⟩⟩, fun no => absurd ⟨bd, z, ev⟩ no, fun _ => ?_⟩
    · rw [im_ne (by decide), q3 k, rd]
    · rw [im_ne (by decide), q4 k, rt]
    · obtain ⟨c1, c2, c3⟩ := cr (e3.symm.trans er)
      have b9 := x9_in I4
      have ci := xc_i I4
      refine ⟨c1, by omega, ?_, fun i v e => ?_, fun k hk => ?_, fun j hj => ?_⟩
      · rw [im_ne (by decide), q5, if_pos rfl, ← c2]
        exact (of_nat32 b9.1).symm
      · have li : i < xc h4 := by
          rw [c2, ← rlX_l (0 + 1)]
          exact (List.getElem?_eq_some_iff.mp e).1
        rw [im_ne (by decide), q6 i li]
        exact c3 i v e
      · rw [im_ne (by decide), q5 k, if_neg hk, rl]
      · rw [im_ne (by decide), q7 j hj, rc]
end
section
/-! LOOKS: the act in force, the rank on a day (as in the comparisons of force and ranked) -/
noncomputable def fob (da to : Nat → Int32) (dy q : Int32) : Nat → Int32
  | 0 => -1
  | i + 1 => if q < to i then fob da to dy q i else if dy < da i then fob da to dy q i else if fob da to dy q i = -1 then Int32.ofNat i else if da i < da (fob da to dy q i).toNatClampNeg then fob da to dy q i else Int32.ofNat i
theorem fob_b (da to : Nat → Int32) (dy q : Int32) : ∀ i, i ≤ 20 → fob da to dy q i = -1 ∨ (0 ≤ (fob da to dy q i).toInt ∧ (fob da to dy q i).toInt < (i : Int))
  | 0, _ => Or.inl rfl
  | i + 1, h => by
    have ih := fob_b da to dy q i (by omega)
    have o : (Int32.ofNat i).toInt = (i : Int) := on_j (by omega)
    have up : fob da to dy q i = -1 ∨ (0 ≤ (fob da to dy q i).toInt ∧ (fob da to dy q i).toInt < ((i + 1 : Nat) : Int)) := ih.elim Or.inl (fun y => Or.inr ⟨y.1, by have := y.2; omega⟩)
    have nw : Int32.ofNat i = -1 ∨ (0 ≤ (Int32.ofNat i).toInt ∧ (Int32.ofNat i).toInt < ((i + 1 : Nat) : Int)) := Or.inr ⟨by omega, by omega⟩
    unfold fob
    split
    · exact up
    · split
      · exact up
      · split
        · exact nw
        · split
          · exact up
          · exact nw
theorem fob_c {da to da' to' : Nat → Int32} {dy q : Int32} : ∀ n, n ≤ 20 → (∀ k, k < n → da' k = da k ∧ to' k = to k) → fob da' to' dy q n = fob da to dy q n
  | 0, _, _ => rfl
  | i + 1, h, e => by
    have ih := fob_c (dy := dy) (q := q) i (by omega) (fun k hk => e k (by omega))
    have ei := e i (by omega)
    unfold fob
    rw [ih, ei.1, ei.2]
    rcases fob_b da to dy q i (by omega) with z | z
    · rw [z, if_pos rfl, if_pos rfl]
    · have nz : ¬ fob da to dy q i = -1 := fun y => by
        rw [y] at z
        exact absurd z.1 (by decide)
      have nn := n_nat z.1
      rw [if_neg nz, if_neg nz, (e (fob da to dy q i).toNatClampNeg (by omega)).1]
theorem c_inf (d : Nat) {h : Hp_} (I : Iv h) (x1 x2 : Int32) : Ci (m_X10_inForce (d + 0) 0 0) [.ref 13, .int x1, .int x2] h (fun r h' => h' = h ∧ r = fob (h_i h 37) (h_i h 38) x1 x2 (h_i h 13 5).toNatClampNeg) := by
  have c13 := I.2.1 13 5
  rw [show tf 13 5 = (0, 20) by decide +kernel] at c13
  have c0 : 0 ≤ (h_i h 13 5).toInt := c13.1
  have c1 : (h_i h 13 5).toInt ≤ 20 := c13.2
  have n13 := n_nat c0
  have lp : ∀ (n i : Nat), i + n = (h_i h 13 5).toNatClampNeg → AW (m_X10_inForce (d + 0) 0 0) 0 0 5 [(0, .ref 13), (1, .int x1), (2, .int x2), (3, .int (fob (h_i h 37) (h_i h 38) x1 x2 i)), (4, .int (Int32.ofNat i))] [] h (kI (fun r h' => h' = h ∧ r = fob (h_i h 37) (h_i h 38) x1 x2 (h_i h 13 5).toNatClampNeg)) := by
    intro n
    induction n with
    | zero =>
      intro i e
      have oi := on_j (n := i) (by omega)
      refine t_X10_inForce_13_5 d h I.1 x1 x2 _ _ _ ⟨fun _ => ⟨rfl, by rw [← e]; rfl⟩, fun z => ?_⟩
      have z := q_nle z
      omega
    | succ n ih =>
      intro i e
      have oi := on_j (n := i) (by omega)
      have ki := on_k (n := i) (by omega)
      have vi : vp_in (Int32.ofNat i) 20 := on_in (by omega) (by decide)
      have ih := ih (i + 1) (by omega)
      refine t_X10_inForce_13_5 d h I.1 x1 x2 _ _ _ ⟨fun z => ?_, fun _ => ?_⟩
      · have z := q_le.mp z
        omega
      · rw [ki, on_s (n := i) (by omega)]
        refine ⟨vi, fun a => ?_, fun a => ⟨vi, fun b => ?_, fun b => ⟨fun c => ?_, fun c => ⟨vi, ?_, fun e => ?_, fun e => ?_⟩⟩⟩⟩
        · have q : fob (h_i h 37) (h_i h 38) x1 x2 (i + 1) = fob (h_i h 37) (h_i h 38) x1 x2 i := if_pos a
          rw [q] at ih
          exact ih
        · have q : fob (h_i h 37) (h_i h 38) x1 x2 (i + 1) = fob (h_i h 37) (h_i h 38) x1 x2 i := (if_neg a).trans (if_pos b)
          rw [q] at ih
          exact ih
        · have q : fob (h_i h 37) (h_i h 38) x1 x2 (i + 1) = Int32.ofNat i := (if_neg a).trans ((if_neg b).trans (if_pos c))
          rw [q] at ih
          exact ih
        · rcases fob_b (h_i h 37) (h_i h 38) x1 x2 i (by omega) with z | z
          · exact absurd z c
          · exact dp_in (lo := 0) (hi := 19) ⟨z.1, by show _ ≤ (19 : Int); omega⟩ (by decide) (by decide)
        · have q : fob (h_i h 37) (h_i h 38) x1 x2 (i + 1) = fob (h_i h 37) (h_i h 38) x1 x2 i := (if_neg a).trans ((if_neg b).trans ((if_neg c).trans (if_pos e)))
          rw [q] at ih
          exact ih
        · have q : fob (h_i h 37) (h_i h 38) x1 x2 (i + 1) = Int32.ofNat i := (if_neg a).trans ((if_neg b).trans ((if_neg c).trans (if_neg e)))
          rw [q] at ih
          exact ih
  exact t_X10_inForce_13 d h x1 x2 _ (lp (h_i h 13 5).toNatClampNeg 0 (by omega))
theorem z20 (x : Int32) : 20 * (0 : Int32) + x = x := by rw [show (20 : Int32) * 0 = 0 by decide, Int32.zero_add]
theorem c_fof (d : Nat) {h : Hp_} (I : Iv h) (x1 x2 : Int32) : Ci (m_X12_forceOf (d + 0) 0 0) [.ref 1, .int 0, .int x1, .int x2] h (fun r h' => h' = h ∧ r = fob (h_i h 233) (h_i h 234) x1 x2 (h_i h 235 0).toNatClampNeg) := by
  have c13 := dp_rg I 235 0 (show tfa 235 = some (0, 20) by decide +kernel)
  have c0 : 0 ≤ (h_i h 235 0).toInt := c13.1
  have c1 : (h_i h 235 0).toInt ≤ 20 := c13.2
  have n13 := n_nat c0
  have k0 : (0 : Int32).toNatClampNeg = 0 := rfl
  have v0 : vp_in (0 : Int32) 2 := on_in (n := 0) (by omega) (by decide)
  have lp : ∀ (n i : Nat), i + n = (h_i h 235 0).toNatClampNeg → AW (m_X12_forceOf (d + 0) 0 0) 0 0 6 [(0, .ref 1), (1, .int 0), (2, .int x1), (3, .int x2), (4, .int (fob (h_i h 233) (h_i h 234) x1 x2 i)), (5, .int (Int32.ofNat i))] [] h (kI (fun r h' => h' = h ∧ r = fob (h_i h 233) (h_i h 234) x1 x2 (h_i h 235 0).toNatClampNeg)) := by
    intro n
    induction n with
    | zero =>
      intro i e
      have oi := on_j (n := i) (by omega)
      refine t_X12_forceOf_6 d h I.1 0 x1 x2 _ _ _ ⟨v0, fun _ => ⟨rfl, by rw [← e]; rfl⟩, fun z => ?_⟩
      rw [k0] at z
      have z := q_nle z
      omega
    | succ n ih =>
      intro i e
      have oi := on_j (n := i) (by omega)
      have ki := on_k (n := i) (by omega)
      have vi : vp_in (Int32.ofNat i) 40 := on_in (by omega) (by decide)
      have ih := ih (i + 1) (by omega)
      refine t_X12_forceOf_6 d h I.1 0 x1 x2 _ _ _ ⟨v0, fun z => ?_, fun _ => ?_⟩
      · rw [k0] at z
        have z := q_le.mp z
        omega
      · rw [z20, z20, ki, on_s (n := i) (by omega)]
        refine ⟨vi, fun a => ?_, fun a => ⟨vi, fun b => ?_, fun b => ⟨fun c => ?_, fun c => ⟨vi, ?_, fun e => ?_, fun e => ?_⟩⟩⟩⟩
        · have q : fob (h_i h 233) (h_i h 234) x1 x2 (i + 1) = fob (h_i h 233) (h_i h 234) x1 x2 i := if_pos a
          rw [q] at ih
          exact ih
        · have q : fob (h_i h 233) (h_i h 234) x1 x2 (i + 1) = fob (h_i h 233) (h_i h 234) x1 x2 i := (if_neg a).trans (if_pos b)
          rw [q] at ih
          exact ih
        · have q : fob (h_i h 233) (h_i h 234) x1 x2 (i + 1) = Int32.ofNat i := (if_neg a).trans ((if_neg b).trans (if_pos c))
          rw [q] at ih
          exact ih
        · rcases fob_b (h_i h 233) (h_i h 234) x1 x2 i (by omega) with z | z
          · exact absurd z c
          · exact dp_in (lo := 0) (hi := 39) ⟨z.1, by show _ ≤ (39 : Int); omega⟩ (by decide) (by decide)
        · have q : fob (h_i h 233) (h_i h 234) x1 x2 (i + 1) = fob (h_i h 233) (h_i h 234) x1 x2 i := (if_neg a).trans ((if_neg b).trans ((if_neg c).trans (if_pos e)))
          rw [q] at ih
          exact ih
        · have q : fob (h_i h 233) (h_i h 234) x1 x2 (i + 1) = Int32.ofNat i := (if_neg a).trans ((if_neg b).trans ((if_neg c).trans (if_neg e)))
          rw [q] at ih
          exact ih
  exact t_X12_forceOf d h 0 x1 x2 _ (lp (h_i h 235 0).toNatClampNeg 0 (by omega))
noncomputable def rkv (A B C D : Nat → Int32) (m day q : Int32) : Nat → Nat → Int32 → Int32 → Int32
  | 0, _, r, _ => r
  | n + 1, i, r, f => if A i = m ∧ D i ≤ q ∧ C i ≤ day ∧ f ≤ C i then rkv A B C D m day q n (i + 1) (B i) (C i) else rkv A B C D m day q n (i + 1) r f
theorem rkv_eq {A B C D A' B' C' D' : Nat → Int32} {m day q : Int32} (E : ∀ k, k < 40 → A k = A' k ∧ B k = B' k ∧ C k = C' k ∧ D k = D' k) : ∀ (n i : Nat) (r f : Int32), i + n ≤ 40 → rkv A B C D m day q n i r f = rkv A' B' C' D' m day q n i r f
  | 0, _, _, _, _ => rfl
  | n + 1, i, r, f, l => by
    have e := E i (by omega)
    unfold rkv
    rw [e.1, e.2.1, e.2.2.1, e.2.2.2, rkv_eq E n (i + 1) _ _ (by omega), rkv_eq E n (i + 1) r f (by omega)]
theorem rk_X (d : Nat) {h : Hp_} (I : Iv h) (x1 : Nat) (hs : h_sh h x1 = some (12, 17)) (lb : 400 ≤ x1) (x2 x3 : Int32) : ∀ (n i : Nat) (x4 x5 x6 : Int32), x6.toInt = (i : Int) → (i : Int) + n = (h_i h 21 4).toInt → AW (m_X5_classOf (d + 1) 0 0) 0 0 12 [(0, .ref 21), (1, .ref x1), (2, .int x2), (3, .int x3), (4, .int x4), (5, .int x5), (6, .int x6)] [] h (kI (fun v h' => v = rkv (h_i h 104) (h_i h 105) (h_i h 106) (h_i h 107) (h_i h x1 0) x2 x3 n i x4 x5 ∧ h' = h)) := by
  have t1 : (1 : Int32).toInt = 1 := rfl
  have rg := I.2.1 21 4
  rw [show tf 21 4 = (0, 40) by decide +kernel] at rg
  have r1 : (h_i h 21 4).toInt ≤ 40 := rg.2
  intro n
  induction n with
  | zero =>
    intro i x4 x5 x6 e6 ec
    exact t_X5_classOf_12 d h I.1 x1 hs lb x2 x3 x4 x5 x6 _ ⟨fun _ => ⟨rfl, rfl⟩, fun z => absurd (q_le.mpr (by omega)) z⟩
  | succ n ih =>
    intro i x4 x5 x6 e6 ec
    have e7 : (x6 + 1).toInt = ((i + 1 : Nat) : Int) := by rw [tx_add (by rw [t1]; omega) (by rw [t1]; omega), t1]; omega
    have v : vp_in x6 40 := dp_in (lo := 0) (hi := 39) ⟨by show (0 : Int) ≤ _; omega, by show _ ≤ (39 : Int); omega⟩ (by decide) (by decide)
    have nx := n_nat (x := x6) (by omega)
    have ei : x6.toNatClampNeg = i := by omega
    have no := ih (i + 1) x4 x5 (x6 + 1) e7 (by omega)
    refine t_X5_classOf_12 d h I.1 x1 hs lb x2 x3 x4 x5 x6 _ ⟨fun z => by have := q_le.mp z; omega, fun _ => ⟨v, ?_⟩⟩
    rw [ei]
    unfold rkv
    refine ⟨fun a => ?_, fun a => ⟨v, fun b => ?_, fun b => ⟨v, fun c => ?_, fun c => ⟨v, v, ?_⟩⟩⟩⟩
    · rw [if_neg (fun w => a w.1)]; exact no
    · rw [if_neg (fun w => by have := q_lt.mp b; have := q_le.mp w.2.1; omega)]; exact no
    · rw [if_neg (fun w => c ⟨w.2.2.2, w.2.2.1⟩)]; exact no
    · rw [if_pos ⟨a, q_le.mpr (q_nlt b), c.2, c.1⟩]
      exact ih (i + 1) _ _ (x6 + 1) e7 (by omega)
theorem rk_M (d : Nat) {h : Hp_} (I : Iv h) (x1 x2 x3 : Int32) : ∀ (n i : Nat) (x4 x5 x6 : Int32), x6.toInt = (i : Int) → (i : Int) + n = (h_i h 1 29).toInt → AW (m_X12_rankOn (d + 0) 0 0) 0 0 14 [(0, .ref 1), (1, .int x1), (2, .int x2), (3, .int x3), (4, .int x4), (5, .int x5), (6, .int x6)] [] h (kI (fun v h' => v = rkv (h_i h 221) (h_i h 222) (h_i h 223) (h_i h 224) x1 x2 x3 n i x4 x5 ∧ h' = h)) := by
  have t1 : (1 : Int32).toInt = 1 := rfl
  have rg := I.2.1 1 29
  rw [show tf 1 29 = (0, 40) by decide +kernel] at rg
  have r1 : (h_i h 1 29).toInt ≤ 40 := rg.2
  intro n
  induction n with
  | zero =>
    intro i x4 x5 x6 e6 ec
    exact t_X12_rankOn_14 d h I.1 x1 x2 x3 x4 x5 x6 _ ⟨fun _ => ⟨rfl, rfl⟩, fun z => absurd (q_le.mpr (by omega)) z⟩
  | succ n ih =>
    intro i x4 x5 x6 e6 ec
    have e7 : (x6 + 1).toInt = ((i + 1 : Nat) : Int) := by rw [tx_add (by rw [t1]; omega) (by rw [t1]; omega), t1]; omega
    have v : vp_in x6 40 := dp_in (lo := 0) (hi := 39) ⟨by show (0 : Int) ≤ _; omega, by show _ ≤ (39 : Int); omega⟩ (by decide) (by decide)
    have nx := n_nat (x := x6) (by omega)
    have ei : x6.toNatClampNeg = i := by omega
    have no := ih (i + 1) x4 x5 (x6 + 1) e7 (by omega)
    refine t_X12_rankOn_14 d h I.1 x1 x2 x3 x4 x5 x6 _ ⟨fun z => by have := q_le.mp z; omega, fun _ => ⟨v, ?_⟩⟩
    rw [ei]
    unfold rkv
    refine ⟨fun a => ?_, fun a => ⟨v, fun b => ?_, fun b => ⟨v, fun c => ?_, fun c => ⟨v, fun g => ?_, fun g => ⟨v, v, ?_⟩⟩⟩⟩⟩
    · rw [if_neg (fun w => a w.1)]; exact no
    · rw [if_neg (fun w => by have := q_lt.mp b; have := q_le.mp w.2.1; omega)]; exact no
    · rw [if_neg (fun w => by have := q_lt.mp c; have := q_le.mp w.2.2.1; omega)]; exact no
    · rw [if_neg (fun w => by have := q_lt.mp g; have := q_le.mp w.2.2.2; omega)]; exact no
    · rw [if_pos ⟨a, q_le.mpr (q_nlt b), q_le.mpr (q_nlt c), q_le.mpr (q_nlt g)⟩]
      exact ih (i + 1) _ _ (x6 + 1) e7 (by omega)
/-! LOOKS: sightings and cases as rows (numbers of the class's cells); what a look does to them -/
noncomputable abbrev Bl : Type := Nat → Nat → Int32
/-- the acts' clauses, minutes between places, how many men, their first ranks -/
noncomputable abbrev Enl : Type := (Nat → List Cl2) × (Int32 → Int32 → Int32) × Nat × (Nat → Int32)
noncomputable abbrev nsB (b : Bl) : Nat := (b 17 16).toNatClampNeg
noncomputable abbrev csn (f : Nat) (p n : Int32) (b : Bl) : Prop := ¬ 300 ≤ b 17 16 ∧ b 63 f = 0 ∧ b 58 f = p ∧ b 59 f ≤ n ∧ n ≤ b 60 f
noncomputable def cAt (pl : Nat → Int32) (p : Int32) : Nat → Int32
  | 0 => 0
  | k + 1 => if pl k = p then cAt pl p k + 1 else cAt pl p k
noncomputable def hrN (n : Int32) : Int32 := (n - n / 1440 * 1440) / 60
noncomputable def ltR (r : Nat → Int32) (i : Nat) (v0 v1 v2 v3 v4 v5 v6 v7 v8 : Int32) : Nat → Int32 := up1 (up1 (up1 (up1 (up1 (up1 (up1 (up1 (up1 r (9 * i) v0) (9 * i + 1) v1) (9 * i + 2) v2) (9 * i + 3) v3) (9 * i + 4) v4) (9 * i + 7) v7) (9 * i + 8) v8) (9 * i + 5) v5) (9 * i + 6) v6
noncomputable def rkB (E : Enl) (j : Nat) (n : Int32) (b : Bl) : Int32 := rkv (b 104) (b 105) (b 106) (b 107) (Int32.ofNat j) (n / 1440) n (b 21 4).toNatClampNeg 0 (E.2.2.2 j) (-1)
noncomputable def lrB (E : Enl) (j : Nat) (n : Int32) (pl : Nat → Int32) (f : Nat) (b : Bl) : Nat → Int32 := ltR (b 70) (nsB b) (b 57 f) (b 61 f) (b 58 f) (hrN n) (n / 1440) (rkB E j n b) (cAt pl (pl j) E.2.2.1) (b 62 f) (n - b 59 f)
noncomputable def foB (dy n : Int32) (b : Bl) : Int32 := fob (b 37) (b 38) dy n (b 13 5).toNatClampNeg
/-- what the act in force says of the letters from 9 i on -/
noncomputable def evB (E : Enl) (dy q : Int32) (L : Nat → Int32) (i : Nat) (b : Bl) : Int32 := if foB dy q b = -1 then 0 else evC (fun c => L (9 * i + (ixq 1 (xch c)).toNatClampNeg)) (E.1 (foB dy q b).toNatClampNeg)
noncomputable def dnB (E : Enl) (j : Nat) (n : Int32) (pl : Nat → Int32) (f : Nat) (b : Bl) : Int32 := evB E (n / 1440) n (lrB E j n pl f b) (nsB b) b
/-- a sighting more -/
noncomputable def sg1 (E : Enl) (j : Nat) (n : Int32) (pl : Nat → Int32) (f : Nat) (b : Bl) : Bl := fun a =>
  if a = 64 then up1 (b 64) (nsB b) (Int32.ofNat j)
  else if a = 65 then up1 (b 65) (nsB b) (Int32.ofNat f)
  else if a = 66 then up1 (b 66) (nsB b) n
  else if a = 67 then up1 (b 67) (nsB b) (dnB E j n pl f b)
  else if a = 68 then up1 (b 68) (nsB b) (if dnB E j n pl f b = 3 ∧ b 18 3 < 30 then b 18 3 else -1)
  else if a = 69 then up1 (b 69) (nsB b) (if ¬ dnB E j n pl f b ≤ 1 ∧ ¬ E.2.1 (pl j) 0 = -1 then n + E.2.1 (pl j) 0 else -1)
  else if a = 70 then lrB E j n pl f b
  else if a = 62 then up1 (b 62) f (b 62 f + 1)
  else if a = 63 then (if dnB E j n pl f b = 3 then up1 (b 63) f 1 else b 63)
  else if a = 17 then (if dnB E j n pl f b = 3 then up1 (up1 (b 17) 16 (b 17 16 + 1)) 8 (b 17 8 + 1) else up1 (b 17) 16 (b 17 16 + 1))
  else if a = 71 then (if dnB E j n pl f b = 3 ∧ b 18 3 < 30 then up1 (b 71) (b 18 3).toNatClampNeg (b 57 f) else b 71)
  else if a = 72 then (if dnB E j n pl f b = 3 ∧ b 18 3 < 30 then up1 (b 72) (b 18 3).toNatClampNeg n else b 72)
  else if a = 18 then (if dnB E j n pl f b = 3 ∧ b 18 3 < 30 then up1 (b 18) 3 (b 18 3 + 1) else b 18)
  else b a
noncomputable def lk1 (E : Enl) (j : Nat) (n : Int32) (pl : Nat → Int32) (f : Nat) (b : Bl) : Bl := if csn f (pl j) n b then sg1 E j n pl f b else b
noncomputable def lkN (E : Enl) (j : Nat) (n : Int32) (pl : Nat → Int32) : Nat → Bl → Bl
  | 0, b => b
  | k + 1, b => lk1 E j n pl k (lkN E j n pl k b)
noncomputable def lPB (E : Enl) (j : Nat) (n : Int32) (pl : Nat → Int32) (b : Bl) : Bl := lkN E j n pl (b 17 7).toNatClampNeg b
/-- the first i sightings of one who is free are told -/
noncomputable def tnK (i : Nat) (x1 x2 : Int32) (b : Bl) : Nat → Int32 := fun k => if k < i ∧ b 64 k = x1 ∧ b 67 k = 1 ∧ b 69 k = -1 then x2 else b 69 k
noncomputable def tnB (x1 x2 : Int32) (b : Bl) : Bl := fun a => if a = 69 then tnK (nsB b) x1 x2 b else b a
/-! rows that stay, and rows that are written -/
noncomputable def lkS : List Nat := [13, 21, 37, 38, 57, 58, 59, 60, 61, 104, 105, 106, 107]
theorem sg1_s {E : Enl} {j : Nat} {n : Int32} {pl : Nat → Int32} {f : Nat} {b : Bl} {a : Nat} (ha : a ∈ lkS) : sg1 E j n pl f b a = b a := by
  simp only [lkS, List.mem_cons, List.not_mem_nil, or_false] at ha
  rcases ha with e | e | e | e | e | e | e | e | e | e | e | e | e <;> subst e <;> rfl
/-- the rows that are written -/
noncomputable def Rws (b : Bl) (h : Hp_) : Prop := h_i h 17 = b 17 ∧ h_i h 18 = b 18 ∧ h_i h 62 = b 62 ∧ h_i h 63 = b 63 ∧ h_i h 64 = b 64 ∧ h_i h 65 = b 65 ∧ h_i h 66 = b 66 ∧ h_i h 67 = b 67 ∧ h_i h 68 = b 68 ∧ h_i h 69 = b 69 ∧ h_i h 70 = b 70 ∧ h_i h 71 = b 71 ∧ h_i h 72 = b 72
noncomputable def TX (CC : Nat → List Cl2) (h : Hp_) : Prop := ∀ k : Nat, (k : Int) < (h_i h 13 5).toInt → (∀ c ∈ CC k, clO 1 c) ∧ h_i h 39 k = Int32.ofNat (rlN (CC k)) ∧ rlN (CC k) ≤ 164 ∧ ∀ i v, (rlX 1 0 (CC k))[i]? = some v → h_i h 40 (164 * k + i) = v
/-- what it hangs on, in the class -/
noncomputable def PE (E : Enl) (h : Hp_) : Prop := (∀ j : Nat, j < E.2.2.1 → h_i h (401 + j) 0 = Int32.ofNat j ∧ h_i h (401 + j) 1 = E.2.2.2 j ∧ h_r h 15 j = some (401 + j)) ∧ (h_i h 0 7 = Int32.ofNat E.2.2.1 ∧ E.2.2.1 ≤ 12) ∧ wI h = E.2.1 ∧ TX E.1 h
noncomputable def PBl (E : Enl) (b : Bl) (h : Hp_) : Prop := (∀ a ∈ lkS, h_i h a = b a) ∧ Rws b h ∧ PE E h
theorem TX.cg {CC : Nat → List Cl2} {h h' : Hp_} (t : TX CC h) (a : h_i h' 13 5 = h_i h 13 5) (b : ∀ k, h_i h' 39 k = h_i h 39 k) (c : ∀ k, h_i h' 40 k = h_i h 40 k) : TX CC h' := fun k hk => by
  rw [a] at hk
  have t := t k hk
  refine ⟨t.1, by rw [b]; exact t.2.1, t.2.2.1, fun i v e => ?_⟩
  rw [c]
  exact t.2.2.2 i v e
theorem PE.cg {E : Enl} {h h' : Hp_} (p : PE E h) (m : ∀ j : Nat, j < 12 → h_i h' (401 + j) 0 = h_i h (401 + j) 0 ∧ h_i h' (401 + j) 1 = h_i h (401 + j) 1 ∧ h_r h' 15 j = h_r h 15 j) (z : h_i h' 0 7 = h_i h 0 7) (w : ∀ k, h_i h' 30 k = h_i h 30 k) (a : h_i h' 13 5 = h_i h 13 5) (b : ∀ k, h_i h' 39 k = h_i h 39 k) (c : ∀ k, h_i h' 40 k = h_i h 40 k) : PE E h' := by
  refine ⟨fun j hj => ?_, ⟨by rw [z]; exact p.2.1.1, p.2.1.2⟩, ?_, p.2.2.2.cg a b c⟩
  · have q := m j (by have := p.2.1.2; omega)
    rw [q.1, q.2.1, q.2.2]
    exact p.1 j hj
  · rw [← p.2.2.1]
    funext x y
    unfold wI
    rw [w]
noncomputable def peo (ws : List Nat) : Bool := !inw ws 0 7 && off ws 15 && off ws 30 && !inw ws 13 5 && off ws 39 && off ws 40 && !inw ws 401 0 && !inw ws 401 1
theorem PE.fr {E : Enl} {ws : List Nat} {h h' : Hp_} (p : PE E h) (f : Fr ws h h') (o : peo ws = true) : PE E h' := by
  unfold peo at o
  simp only [Bool.and_eq_true, Bool.not_eq_true'] at o
  obtain ⟨⟨⟨⟨⟨⟨⟨o1, o2⟩, o3⟩, o4⟩, o5⟩, o6⟩, o7⟩, o8⟩ := o
  refine p.cg (fun j hj => ?_) (f.2 0 7 o1).1 (fun k => fr_i f o3 k) (f.2 13 5 o4).1 (fun k => fr_i f o5 k) (fun k => fr_i f o6 k)
  have c1 : cn (401 + j) = cn 401 := (cn_man hj).trans (by decide)
  exact ⟨(f.2 (401 + j) 0 (by rw [inw_ce c1]; exact o7)).1, (f.2 (401 + j) 1 (by rw [inw_ce c1]; exact o8)).1, (f.2 15 j (off_inw o2 j)).2.2⟩
theorem PBl.fr {E : Enl} {b : Bl} {ws : List Nat} {h h' : Hp_} (p : PBl E b h) (f : Fr ws h h') (o : (peo ws && lkS.all (fun a => off ws a) && [17, 18, 62, 63, 64, 65, 66, 67, 68, 69, 70, 71, 72].all (fun a => off ws a)) = true) : PBl E b h' := by
  rw [Bool.and_eq_true, Bool.and_eq_true] at o
  have g : ∀ a, a ∈ [17, 18, 62, 63, 64, 65, 66, 67, 68, 69, 70, 71, 72] → h_i h' a = h_i h a := fun a ha => funext (fun k => fr_i f (List.all_eq_true.mp o.2 a ha) k)
  refine ⟨fun a ha => (funext (fun k => fr_i f (List.all_eq_true.mp o.1.2 a ha) k)).trans (p.1 a ha), ?_, p.2.2.fr f o.1.1⟩
  obtain ⟨r1, r2, r3, r4, r5, r6, r7, r8, r9, r10, r11, r12, r13⟩ := p.2.1
  exact ⟨(g 17 (by decide)).trans r1, (g 18 (by decide)).trans r2, (g 62 (by decide)).trans r3, (g 63 (by decide)).trans r4, (g 64 (by decide)).trans r5, (g 65 (by decide)).trans r6, (g 66 (by decide)).trans r7, (g 67 (by decide)).trans r8, (g 68 (by decide)).trans r9, (g 69 (by decide)).trans r10, (g 70 (by decide)).trans r11, (g 71 (by decide)).trans r12, (g 72 (by decide)).trans r13⟩
/-- stores elsewhere -/
theorem PBl.im {E : Enl} {b : Bl} {h : Hp_} {a k : Nat} {x : Int32} (p : PBl E b h) (o : (401 ≤ a ∧ a ≤ 412 ∧ 4 ≤ k) ∨ (47 ≤ a ∧ a ≤ 53) ∨ (a = 16 ∧ k = 7) ∨ (a = 0 ∧ k = 0)) : PBl E b (h_im h a k x) := by
  have g : ∀ c, c ∈ [13, 21, 37, 38, 57, 58, 59, 60, 61, 104, 105, 106, 107, 17, 18, 62, 63, 64, 65, 66, 67, 68, 69, 70, 71, 72, 30, 39, 40] → h_i (h_im h a k x) c = h_i h c := fun c hc => im_oth (fun e => by
    subst e
    have z : [13, 21, 37, 38, 57, 58, 59, 60, 61, 104, 105, 106, 107, 17, 18, 62, 63, 64, 65, 66, 67, 68, 69, 70, 71, 72, 30, 39, 40].all (fun c => decide (¬ ((401 ≤ c ∧ c ≤ 412) ∨ (47 ≤ c ∧ c ≤ 53) ∨ c = 16 ∨ c = 0))) = true := by decide
    have y := of_decide_eq_true (List.all_eq_true.mp z c hc)
    omega)
  have sm : ∀ c, c ∈ lkS → c ∈ [13, 21, 37, 38, 57, 58, 59, 60, 61, 104, 105, 106, 107, 17, 18, 62, 63, 64, 65, 66, 67, 68, 69, 70, 71, 72, 30, 39, 40] := fun c hc => by
    have z : lkS.all (fun c => decide (c ∈ [13, 21, 37, 38, 57, 58, 59, 60, 61, 104, 105, 106, 107, 17, 18, 62, 63, 64, 65, 66, 67, 68, 69, 70, 71, 72, 30, 39, 40])) = true := by decide
    exact of_decide_eq_true (List.all_eq_true.mp z c hc)
  have ne : ∀ c j : Nat, ¬ (a = c ∧ k = j) → h_i (h_im h a k x) c j = h_i h c j := fun c j n => by rw [h_i_im, if_neg (fun e => n ⟨e.1.symm, e.2.symm⟩)]
  obtain ⟨r1, r2, r3, r4, r5, r6, r7, r8, r9, r10, r11, r12, r13⟩ := p.2.1
  refine ⟨fun c hc => (g c (sm c hc)).trans (p.1 c hc), ⟨(g 17 (by decide)).trans r1, (g 18 (by decide)).trans r2, (g 62 (by decide)).trans r3, (g 63 (by decide)).trans r4, (g 64 (by decide)).trans r5, (g 65 (by decide)).trans r6, (g 66 (by decide)).trans r7, (g 67 (by decide)).trans r8, (g 68 (by decide)).trans r9, (g 69 (by decide)).trans r10, (g 70 (by decide)).trans r11, (g 71 (by decide)).trans r12, (g 72 (by decide)).trans r13⟩, p.2.2.cg (fun j hj => ⟨ne _ _ (by omega), ne _ _ (by omega), rfl⟩) (ne _ _ (by omega)) (fun k => by rw [g 30 (by decide)]) (by rw [g 13 (by decide)]) (fun k => by rw [g 39 (by decide)]) (fun k => by rw [g 40 (by decide)])⟩
theorem PBl.cs {E : Enl} {b : Bl} {h h' : Hp_} (p : PBl E b h) (i : ∀ a k, (a = 0 → k = 7) → (a < 200 ∨ (401 ≤ a ∧ a ≤ 412)) → h_i h' a k = h_i h a k) (r : ∀ k, h_r h' 15 k = h_r h 15 k) : PBl E b h' := by
  have g : ∀ a, a < 200 → a ≠ 0 → h_i h' a = h_i h a := fun a l n => funext (fun k => i a k (fun e => absurd e n) (Or.inl l))
  obtain ⟨r1, r2, r3, r4, r5, r6, r7, r8, r9, r10, r11, r12, r13⟩ := p.2.1
  refine ⟨fun c hc => (g c ?_ ?_).trans (p.1 c hc), ⟨(g 17 (by decide) (by decide)).trans r1, (g 18 (by decide) (by decide)).trans r2, (g 62 (by decide) (by decide)).trans r3, (g 63 (by decide) (by decide)).trans r4, (g 64 (by decide) (by decide)).trans r5, (g 65 (by decide) (by decide)).trans r6, (g 66 (by decide) (by decide)).trans r7, (g 67 (by decide) (by decide)).trans r8, (g 68 (by decide) (by decide)).trans r9, (g 69 (by decide) (by decide)).trans r10, (g 70 (by decide) (by decide)).trans r11, (g 71 (by decide) (by decide)).trans r12, (g 72 (by decide) (by decide)).trans r13⟩, p.2.2.cg (fun j hj => ⟨i _ _ (by omega) (by omega), i _ _ (by omega) (by omega), r j⟩) (i 0 7 (fun _ => rfl) (by omega)) (fun k => i 30 k (by omega) (by omega)) (i 13 5 (by omega) (by omega)) (fun k => i 39 k (by omega) (by omega)) (fun k => i 40 k (by omega) (by omega))⟩
  · have z : lkS.all (fun c => decide (c < 200)) = true := by decide
    exact of_decide_eq_true (List.all_eq_true.mp z c hc)
  · have z : lkS.all (fun c => decide (c ≠ 0)) = true := by decide
    exact of_decide_eq_true (List.all_eq_true.mp z c hc)
/-! LOOKS, the class -/
theorem iq17 {h : Hp_} (I : Iv h) : (0 ≤ (h_i h 17 7).toInt ∧ (h_i h 17 7).toInt ≤ 80) ∧ 0 ≤ (h_i h 17 16).toInt ∧ (h_i h 17 16).toInt ≤ 300 := by
  have a := I.2.1 17 7
  have b := I.2.1 17 16
  rw [show tf 17 7 = (0, 80) by decide +kernel] at a
  rw [show tf 17 16 = (0, 300) by decide +kernel] at b
  exact ⟨⟨a.1, a.2⟩, b.1, b.2⟩
theorem iq18 {h : Hp_} (I : Iv h) : 0 ≤ (h_i h 18 3).toInt ∧ (h_i h 18 3).toInt ≤ 30 := by
  have a := I.2.1 18 3
  rw [show tf 18 3 = (0, 30) by decide +kernel] at a
  exact ⟨a.1, a.2⟩
theorem ix9 {x y : Int32} (b : 0 ≤ x.toInt ∧ x.toInt ≤ 299) {t : Nat} (ey : y.toInt = (t : Int)) (ht : t ≤ 8) : vp_in (x * 9 + y) 2700 ∧ (x * 9 + y).toNatClampNeg = 9 * x.toNatClampNeg + t ∧ (x * 9 + y).toInt = 9 * x.toInt + t := by
  have t9 : (9 : Int32).toInt = 9 := rfl
  have m1 : (x * 9).toInt = 9 * x.toInt := by rw [tx_mul (by rw [t9]; omega) (by rw [t9]; omega), t9]; omega
  have m2 : (x * 9 + y).toInt = 9 * x.toInt + t := by rw [tx_add (by omega) (by omega), m1, ey]
  have nx := n_nat b.1
  have ny := n_nat (x := x * 9 + y) (by omega)
  exact ⟨dp_in (lo := 0) (hi := 2699) ⟨by show (0 : Int) ≤ _; omega, by show _ ≤ (2699 : Int); omega⟩ (by decide) (by decide), by omega, m2⟩
theorem ix90 {x : Int32} (b : 0 ≤ x.toInt ∧ x.toInt ≤ 299) : vp_in (x * 9) 2700 ∧ (x * 9).toNatClampNeg = 9 * x.toNatClampNeg := by
  have t9 : (9 : Int32).toInt = 9 := rfl
  have m1 : (x * 9).toInt = 9 * x.toInt := by rw [tx_mul (by rw [t9]; omega) (by rw [t9]; omega), t9]; omega
  have nx := n_nat b.1
  have ny := n_nat (x := x * 9) (by omega)
  exact ⟨dp_in (lo := 0) (hi := 2699) ⟨by show (0 : Int) ≤ _; omega, by show _ ≤ (2699 : Int); omega⟩ (by decide) (by decide), by omega⟩
theorem v300 {x : Int32} (b : 0 ≤ x.toInt ∧ x.toInt ≤ 299) : vp_in x 300 := dp_in (lo := 0) (hi := 299) ⟨b.1, b.2⟩ (by decide) (by decide)
theorem fq_le {h : Hp_} (I : Iv h) {f : Nat} (hf : (f : Int) < (h_i h 17 7).toInt) : 0 ≤ Int32.ofNat f ∧ Int32.ofNat f ≤ h_i h 17 7 - 1 := by
  have r := iq17 I
  have of := on_j (n := f) (by omega)
  have t1 : (1 : Int32).toInt = 1 := rfl
  refine ⟨q_le.mpr ?_, q_le.mpr ?_⟩
  · rw [show (0 : Int32).toInt = 0 from rfl]
    omega
  · rw [tx_sub (by rw [t1]; omega) (by rw [t1]; omega), t1]
    omega
theorem c_cbs (d : Nat) {h : Hp_} (I : Iv h) {f : Nat} (hf : (f : Int) < (h_i h 17 7).toInt) (x2 x3 : Int32) : Ci (m_X4_canBeSeen (d + 1) 0 0) [.ref 17, .int (Int32.ofNat f), .int x2, .int x3] h (fun r h' => h' = h ∧ ((csn f x2 x3 (h_i h) ∧ r = 1) ∨ (¬ csn f x2 x3 (h_i h) ∧ r = 0))) := by
  have r := iq17 I
  have of := on_j (n := f) (by omega)
  have kf := on_k (n := f) (by omega)
  have v : vp_in (Int32.ofNat f) 80 := on_in (by omega) (by decide)
  have t1 : (1 : Int32).toInt = 1 := rfl
  have t0 : (0 : Int32).toInt = 0 := rfl
  refine t_X4_canBeSeen d h I.1 _ x2 x3 _ ⟨fun z => absurd (fq_le I hf) z, fun _ => ⟨fun z => ⟨rfl, Or.inr ⟨fun y => y.1 z, rfl⟩⟩, fun a1 => ⟨v, ?_⟩⟩⟩
  rw [kf]
  exact ⟨fun z => ⟨rfl, Or.inr ⟨fun y => z y.2.1, rfl⟩⟩, fun a2 => ⟨v, fun z => ⟨rfl, Or.inr ⟨fun y => z y.2.2.1, rfl⟩⟩, fun a3 => ⟨v, v, fun z => ⟨rfl, Or.inr ⟨fun y => z y.2.2.2, rfl⟩⟩, fun a4 => ⟨rfl, Or.inl ⟨⟨a1, a2, a3, a4⟩, rfl⟩⟩⟩⟩⟩
theorem iq65 {h : Hp_} (I : Iv h) (k : Nat) {x : Int32} (b : rin x.toInt (0, 79)) : Iv (h_im h 65 k x) := I.im (by rw [tfa_tf (show tfa 65 = some (0, 79) by decide +kernel)]; exact b) (jw_jr (by decide) (by decide) _)
theorem iq63 {h : Hp_} (I : Iv h) (k : Nat) {x : Int32} (b : rin x.toInt (0, 1)) : Iv (h_im h 63 k x) := I.im (by rw [tfa_tf (show tfa 63 = some (0, 1) by decide +kernel)]; exact b) (jw_jr (by decide) (by decide) _)
theorem iq71 {h : Hp_} (I : Iv h) (k : Nat) {x : Int32} (b : rin x.toInt (0, 9)) : Iv (h_im h 71 k x) := I.im (by rw [tfa_tf (show tfa 71 = some (0, 9) by decide +kernel)]; exact b) (jw_jr (by decide) (by decide) _)
theorem i1716 {h : Hp_} (I : Iv h) {x : Int32} (b : rin x.toInt (0, 300)) : Iv (h_im h 17 16 x) := I.im (by rw [show tf 17 16 = (0, 300) by decide +kernel]; exact b) (jw_jr (by decide) (by decide) _)
theorem i178 {h : Hp_} (I : Iv h) (x : Int32) : Iv (h_im h 17 8 x) := I.im (by rw [show tf 17 8 = rtop by decide +kernel]; exact rtop_in _) (jw_jr (by decide) (by decide) _)
theorem i183 {h : Hp_} (I : Iv h) {x : Int32} (b : rin x.toInt (0, 30)) : Iv (h_im h 18 3 x) := I.im (by rw [show tf 18 3 = (0, 30) by decide +kernel]; exact b) (jw_jr (by decide) (by decide) _)
/-- the letters but the class and the company -/
noncomputable def lt7 (r : Nat → Int32) (i : Nat) (v0 v1 v2 v3 v4 v7 v8 : Int32) : Nat → Int32 := up1 (up1 (up1 (up1 (up1 (up1 (up1 r (9 * i) v0) (9 * i + 1) v1) (9 * i + 2) v2) (9 * i + 3) v3) (9 * i + 4) v4) (9 * i + 7) v7) (9 * i + 8) v8
noncomputable def Wrq (x1 : Int32) (f : Nat) (n : Int32) (h h' : Hp_) : Prop := Iv h' ∧ Fr wz_X4_write h h' ∧ h_i h' 17 = up1 (h_i h 17) 16 (h_i h 17 16 + 1) ∧ h_i h' 62 = up1 (h_i h 62) f (h_i h 62 f + 1) ∧ h_i h' 64 = up1 (h_i h 64) (nsB (h_i h)) x1 ∧ h_i h' 65 = up1 (h_i h 65) (nsB (h_i h)) (Int32.ofNat f) ∧ h_i h' 66 = up1 (h_i h 66) (nsB (h_i h)) n ∧ h_i h' 67 = up1 (h_i h 67) (nsB (h_i h)) 0 ∧ h_i h' 68 = up1 (h_i h 68) (nsB (h_i h)) (-1) ∧ h_i h' 69 = up1 (h_i h 69) (nsB (h_i h)) (-1) ∧ h_i h' 70 = lt7 (h_i h 70) (nsB (h_i h)) (h_i h 57 f) (h_i h 61 f) (h_i h 58 f) (hrN n) (n / 1440) (h_i h 62 f) (n - h_i h 59 f)
theorem c_wrt (d : Nat) {h : Hp_} (I : Iv h) {f : Nat} (hf : (f : Int) < (h_i h 17 7).toInt) (ns : ¬ 300 ≤ h_i h 17 16) (x1 n : Int32) : Ci (m_X4_write (d + 1) 0 0) [.ref 17, .int x1, .int (Int32.ofNat f), .int n] h (fun r h' => r = h_i h 17 16 ∧ Wrq x1 f n h h') := by
  have r := iq17 I
  have of := on_j (n := f) (by omega)
  have kf := on_k (n := f) (by omega)
  have v : vp_in (Int32.ofNat f) 80 := on_in (by omega) (by decide)
  have ns := q_nle ns
  have t300 : (300 : Int32).toInt = 300 := rfl
  have t1 : (1 : Int32).toInt = 1 := rfl
  have b : 0 ≤ (h_i h 17 16).toInt ∧ (h_i h 17 16).toInt ≤ 299 := ⟨r.2.1, by omega⟩
  have vi := v300 b
  have j0 := ix90 b
  have j1 := ix9 b (y := 1) (t := 1) rfl (by decide)
  have j2 := ix9 b (y := 2) (t := 2) rfl (by decide)
  have j3 := ix9 b (y := 3) (t := 3) rfl (by decide)
  have j4 := ix9 b (y := 4) (t := 4) rfl (by decide)
  have j7 := ix9 b (y := 7) (t := 7) rfl (by decide)
  have j8 := ix9 b (y := 8) (t := 8) rfl (by decide)
  have e16 : (h_i h 17 16 + 1).toInt = (h_i h 17 16).toInt + 1 := by rw [tx_add (by rw [t1]; omega) (by rw [t1]; omega), t1]
  refine t_X4_write d h I.1 x1 _ n _ ⟨fun z => ?_, fun _ => ⟨fun _ => ⟨vi, vi, vi, vi, vi, vi, v, j0.1, v, j1.1, v, j2.1, j3.1, j4.1, v, j7.1, v, j8.1, v, v, ?_⟩, fun z => absurd (fq_le I hf) z⟩⟩
  · have z := q_le.mp z
    omega
  · rw [kf, j0.2, j1.2.1, j2.2.1, j3.2.1, j4.2.1, j7.2.1, j8.2.1]
    refine ⟨rfl, ?_, ?_, ?_, ?_, ?_, ?_, ?_, ?_, ?_, ?_, ?_⟩
    · refine tr_ 62 (by decide +kernel) (tr_ 70 (by decide +kernel) (tr_ 70 (by decide +kernel) (tr_ 70 (by decide +kernel) (tr_ 70 (by decide +kernel) (tr_ 70 (by decide +kernel) (tr_ 70 (by decide +kernel) (tr_ 70 (by decide +kernel) (i1716 (tr_ 69 (by decide +kernel) (tr_ 68 (by decide +kernel) (tr_ 67 (by decide +kernel) (tr_ 66 (by decide +kernel) (iq65 (tr_ 64 (by decide +kernel) I _ _ (by decide) (by decide)) _ ?_) _ _ (by decide) (by decide)) _ _ (by decide) (by decide)) _ _ (by decide) (by decide)) _ _ (by decide) (by decide)) ?_) _ _ (by decide) (by decide)) _ _ (by decide) (by decide)) _ _ (by decide) (by decide)) _ _ (by decide) (by decide)) _ _ (by decide) (by decide)) _ _ (by decide) (by decide)) _ _ (by decide) (by decide)) _ _ (by decide) (by decide)
      · exact ⟨by rw [of]; show (0 : Int) ≤ _; omega, by rw [of]; show _ ≤ (79 : Int); omega⟩
      · exact ⟨by rw [e16]; show (0 : Int) ≤ _; omega, by rw [e16]; show _ ≤ (300 : Int); omega⟩
    · exact ((((((((((((((((Fr.rf _ _).im (inw_row (by decide +kernel) _)).im (inw_row (by decide +kernel) _)).im (inw_row (by decide +kernel) _)).im (inw_row (by decide +kernel) _)).im (inw_row (by decide +kernel) _)).im (inw_row (by decide +kernel) _)).im (by decide +kernel)).im (inw_row (by decide +kernel) _)).im (inw_row (by decide +kernel) _)).im (inw_row (by decide +kernel) _)).im (inw_row (by decide +kernel) _)).im (inw_row (by decide +kernel) _)).im (inw_row (by decide +kernel) _)).im (inw_row (by decide +kernel) _)).im (inw_row (by decide +kernel) _))
    · repeat first | rw [im_row] | rw [im_oth (by decide)]
    · repeat first | rw [im_row] | rw [im_oth (by decide)]
    · repeat first | rw [im_row] | rw [im_oth (by decide)]
    · repeat first | rw [im_row] | rw [im_oth (by decide)]
    · repeat first | rw [im_row] | rw [im_oth (by decide)]
    · repeat first | rw [im_row] | rw [im_oth (by decide)]
    · repeat first | rw [im_row] | rw [im_oth (by decide)]
    · repeat first | rw [im_row] | rw [im_oth (by decide)]
    · repeat first | rw [im_row] | rw [im_oth (by decide)]
      rfl
theorem c_has4 (d : Nat) {h : Hp_} (w : Wf h) {x1 : Int32} (b : 0 ≤ x1.toInt ∧ x1.toInt < (h_i h 17 16).toInt) : Ci (m_X4_has (d + 0) 0 0) [.ref 17, .int x1] h (fun r h' => r = 1 ∧ h' = h) := t_X4_has d h w x1 _ ⟨fun z => by
  have z := q_lt.mp z
  rw [show (0 : Int32).toInt = 0 from rfl] at z
  omega, fun _ => ⟨fun z => by
  have z := q_le.mp z
  omega, fun _ => ⟨rfl, rfl⟩⟩⟩
theorem c_sl (d : Nat) {h : Hp_} (I : Iv h) {x1 : Int32} (b : 0 ≤ x1.toInt ∧ x1.toInt < (h_i h 17 16).toInt) (x2 : Int32) {t : Nat} (e2 : x2.toInt = (t : Int)) (ht : t ≤ 8) (x3 : Int32) : Cv (m_X4_setLetter (d + 1) 0 0) [.ref 17, .int x1, .int x2, .int x3] h (fun h' => Iv h' ∧ h' = h_im h 70 (9 * x1.toNatClampNeg + t) x3) := by
  have r := iq17 I
  have j := ix9 (x := x1) ⟨b.1, by omega⟩ e2 ht
  have l8 : 0 ≤ x2 ∧ x2 ≤ 8 := ⟨q_le.mpr (by rw [show (0 : Int32).toInt = 0 from rfl]; omega), q_le.mpr (by rw [show (8 : Int32).toInt = 8 from rfl]; omega)⟩
  refine t_X4_setLetter d h I.1 x1 x2 x3 _ (Ci.mono (c_has4 d I.1 b) (fun r h' k => ?_))
  rw [k.1, k.2]
  refine ⟨I.1, fun z => absurd z (by decide), fun _ => ⟨fun z => absurd l8 z, fun _ => ⟨j.1, ?_⟩⟩⟩
  rw [j.2.1]
  exact ⟨tr_ 70 (by decide +kernel) I _ _ (by decide) (by decide), rfl⟩
theorem c_cma (d : Nat) {h : Hp_} (I : Iv h) {m : Nat} (em : h_i h 0 7 = Int32.ofNat m) (m12 : m ≤ 12) (mr : ∀ j, j < m → h_r h 15 j = some (401 + j)) (x1 : Int32) : Ci (m_X11_countMenAt (d + 0) 0 0) [.ref 0, .int x1] h (fun r h' => h' = h ∧ r = cAt (fun k => h_i h (401 + k) 5) x1 m) := by
  have lp : ∀ (n i : Nat), i + n = m → AW (m_X11_countMenAt (d + 0) 0 0) 0 0 4 [(0, .ref 0), (1, .int x1), (2, .int (cAt (fun k => h_i h (401 + k) 5) x1 i)), (3, .int (Int32.ofNat i))] [] h (kI (fun r h' => h' = h ∧ r = cAt (fun k => h_i h (401 + k) 5) x1 m)) := by
    intro n
    induction n with
    | zero =>
      intro i e
      refine t_X11_countMenAt_4 d h I.1 x1 _ _ _ ⟨fun _ => ⟨rfl, by rw [← e]; rfl⟩, fun z => ?_⟩
      have z := q_nle z
      rw [em, on_j (by omega), on_j (by omega)] at z
      omega
    | succ n ih =>
      intro i e
      have ki := on_k (n := i) (by omega)
      have vi : vp_in (Int32.ofNat i) 12 := on_in (by omega) (by decide)
      refine t_X11_countMenAt_4 d h I.1 x1 _ _ _ ⟨fun z => ?_, fun _ => ⟨vi, fun z => ?_, fun b3 e3 => ?_⟩⟩
      · have z := q_le.mp z
        rw [em, on_j (by omega), on_j (by omega)] at z
        omega
      · rw [ki, mr i (by omega)] at z
        cases z
      · rw [ki, mr i (by omega)] at e3
        have e3 := Option.some.inj e3
        subst e3
        have sh : h_sh h (401 + i) = some (12, 17) := by
          rcases I.2.2.1 i with u | ⟨c, u, w⟩
          · rw [mr i (by omega)] at u
            cases u
          · rw [mr i (by omega)] at u
            rw [Option.some.inj u]
            exact w.2.2
        have y := ih (i + 1) (by omega)
        rw [← on_s (by omega)] at y
        refine ⟨sh, by omega, vi, fun z => ?_, fun z => ?_⟩
        · rw [show cAt (fun k => h_i h (401 + k) 5) x1 (i + 1) = cAt (fun k => h_i h (401 + k) 5) x1 i from if_neg z] at y
          exact y
        · rw [show cAt (fun k => h_i h (401 + k) 5) x1 (i + 1) = cAt (fun k => h_i h (401 + k) 5) x1 i + 1 from if_pos z] at y
          exact y
  exact t_X11_countMenAt d h x1 _ (lp m 0 (by omega))
/-- settle: what, to which case, the walk -/
noncomputable def Stq (x1 x2 x3 x4 : Int32) (h h' : Hp_) : Prop := Iv h' ∧ Fr wz_X4_settle h h' ∧ h_i h' 67 = up1 (h_i h 67) x1.toNatClampNeg x2 ∧ h_i h' 68 = up1 (h_i h 68) x1.toNatClampNeg x3 ∧ h_i h' 69 = (if ¬ x2 ≤ 1 ∧ ¬ x4 = -1 then up1 (h_i h 69) x1.toNatClampNeg (h_i h 66 x1.toNatClampNeg + x4) else h_i h 69) ∧ h_i h' 63 = (if x2 = 3 then up1 (h_i h 63) (h_i h 65 x1.toNatClampNeg).toNatClampNeg 1 else h_i h 63) ∧ h_i h' 17 = (if x2 = 3 then up1 (h_i h 17) 8 (h_i h 17 8 + 1) else h_i h 17)
theorem c_stl (d : Nat) {h : Hp_} (I : Iv h) {x1 : Int32} (b : 0 ≤ x1.toInt ∧ x1.toInt < (h_i h 17 16).toInt) (x2 x3 x4 : Int32) : Cv (m_X4_settle (d + 1) 0 0) [.ref 17, .int x1, .int x2, .int x3, .int x4] h (fun h' => Stq x1 x2 x3 x4 h h') := by
  have r := iq17 I
  have v := v300 (x := x1) ⟨b.1, by omega⟩
  have vf : vp_in (h_i h 65 x1.toNatClampNeg) 80 := dp_in (dp_rg I 65 _ (show tfa 65 = some (0, 79) by decide +kernel)) (by decide) (by decide)
  have I68 : Iv (h_im (h_im h 67 x1.toNatClampNeg x2) 68 x1.toNatClampNeg x3) := tr_ 68 (by decide +kernel) (tr_ 67 (by decide +kernel) I _ _ (by decide) (by decide)) _ _ (by decide) (by decide)
  have F68 : Fr wz_X4_settle h (h_im (h_im h 67 x1.toNatClampNeg x2) 68 x1.toNatClampNeg x3) := ((Fr.rf _ _).im (inw_row (by decide +kernel) _)).im (inw_row (by decide +kernel) _)
  have I69 : Iv (h_im (h_im (h_im h 67 x1.toNatClampNeg x2) 68 x1.toNatClampNeg x3) 69 x1.toNatClampNeg (h_i h 66 x1.toNatClampNeg + x4)) := tr_ 69 (by decide +kernel) I68 _ _ (by decide) (by decide)
  have F69 : Fr wz_X4_settle h (h_im (h_im (h_im h 67 x1.toNatClampNeg x2) 68 x1.toNatClampNeg x3) 69 x1.toNatClampNeg (h_i h 66 x1.toNatClampNeg + x4)) := F68.im (inw_row (by decide +kernel) _)
  have nb : vp_nar .boolean 1 = (1 : Int32) := by decide
  refine t_X4_settle d h I.1 x1 x2 x3 x4 _ (Ci.mono (c_has4 d I.1 b) (fun r h' k => ?_))
  rw [k.1, k.2]
  refine ⟨I.1, fun _ => ⟨v, v, fun y => ⟨fun n => ?_, fun e => ?_⟩, fun y => ⟨fun w => ⟨fun n => ?_, fun e => ⟨v, vf, ?_⟩⟩, fun w => ⟨v, v, fun n => ?_, fun e => ⟨v, vf, ?_⟩⟩⟩⟩, fun z => absurd z (by decide)⟩
  · refine ⟨I68, F68, ?_, ?_, ?_, ?_, ?_⟩
    · repeat first | rw [im_row] | rw [im_oth (by decide)]
    · repeat first | rw [im_row] | rw [im_oth (by decide)]
    · rw [if_neg (fun u => u.1 y)]
      repeat first | rw [im_row] | rw [im_oth (by decide)]
    · rw [if_neg n]
      repeat first | rw [im_row] | rw [im_oth (by decide)]
    · rw [if_neg n]
      repeat first | rw [im_row] | rw [im_oth (by decide)]
  · rw [e] at y
    exact absurd y (by decide)
  · refine ⟨I68, F68, ?_, ?_, ?_, ?_, ?_⟩
    · repeat first | rw [im_row] | rw [im_oth (by decide)]
    · repeat first | rw [im_row] | rw [im_oth (by decide)]
    · rw [if_neg (fun u => u.2 w)]
      repeat first | rw [im_row] | rw [im_oth (by decide)]
    · rw [if_neg n]
      repeat first | rw [im_row] | rw [im_oth (by decide)]
    · rw [if_neg n]
      repeat first | rw [im_row] | rw [im_oth (by decide)]
  · rw [nb]
    refine ⟨i178 (iq63 I68 _ ⟨by decide, by decide⟩) _, (F68.im (inw_row (by decide +kernel) _)).im (by decide +kernel), ?_, ?_, ?_, ?_, ?_⟩
    · repeat first | rw [im_row] | rw [im_oth (by decide)]
    · repeat first | rw [im_row] | rw [im_oth (by decide)]
    · rw [if_neg (fun u => u.2 w)]
      repeat first | rw [im_row] | rw [im_oth (by decide)]
    · rw [if_pos e]
      repeat first | rw [im_row] | rw [im_oth (by decide)]
    · rw [if_pos e]
      repeat first | rw [im_row] | rw [im_oth (by decide)]
  · refine ⟨I69, F69, ?_, ?_, ?_, ?_, ?_⟩
    · repeat first | rw [im_row] | rw [im_oth (by decide)]
    · repeat first | rw [im_row] | rw [im_oth (by decide)]
    · rw [if_pos ⟨y, w⟩]
      repeat first | rw [im_row] | rw [im_oth (by decide)]
    · rw [if_neg n]
      repeat first | rw [im_row] | rw [im_oth (by decide)]
    · rw [if_neg n]
      repeat first | rw [im_row] | rw [im_oth (by decide)]
  · rw [nb]
    refine ⟨i178 (iq63 I69 _ ⟨by decide, by decide⟩) _, (F69.im (inw_row (by decide +kernel) _)).im (by decide +kernel), ?_, ?_, ?_, ?_, ?_⟩
    · repeat first | rw [im_row] | rw [im_oth (by decide)]
    · repeat first | rw [im_row] | rw [im_oth (by decide)]
    · rw [if_pos ⟨y, w⟩]
      repeat first | rw [im_row] | rw [im_oth (by decide)]
    · rw [if_pos e]
      repeat first | rw [im_row] | rw [im_oth (by decide)]
    · rw [if_pos e]
      repeat first | rw [im_row] | rw [im_oth (by decide)]
theorem c_kof (d : Nat) {h : Hp_} (I : Iv h) {f : Nat} (hf : (f : Int) < (h_i h 17 7).toInt) : Ci (m_X4_kindOf (d + 1) 0 0) [.ref 17, .int (Int32.ofNat f)] h (fun r h' => r = h_i h 57 f ∧ h' = h) := by
  have r := iq17 I
  have of := on_j (n := f) (by omega)
  have kf := on_k (n := f) (by omega)
  refine t_X4_kindOf d h I.1 _ _ ⟨fun z => absurd (fq_le I hf) z, fun _ => ⟨on_in (by omega) (by decide), ?_⟩⟩
  rw [kf]
  exact ⟨rfl, rfl⟩
noncomputable def Saq (x1 x2 : Int32) (h : Hp_) (r : Int32) (h' : Hp_) : Prop := Iv h' ∧ Fr [18003, 71999, 72999] h h' ∧ r = (if h_i h 18 3 < 30 then h_i h 18 3 else -1) ∧ h_i h' 71 = (if h_i h 18 3 < 30 then up1 (h_i h 71) (h_i h 18 3).toNatClampNeg x1 else h_i h 71) ∧ h_i h' 72 = (if h_i h 18 3 < 30 then up1 (h_i h 72) (h_i h 18 3).toNatClampNeg x2 else h_i h 72) ∧ h_i h' 18 = (if h_i h 18 3 < 30 then up1 (h_i h 18) 3 (h_i h 18 3 + 1) else h_i h 18)
theorem c_sta (d : Nat) {h : Hp_} (I : Iv h) {x1 : Int32} (b : rin x1.toInt (0, 9)) (x2 : Int32) : Ci (m_X1_start (d + 0) 0 0) [.ref 18, .int x1, .int x2] h (Saq x1 x2 h) := by
  have r := iq18 I
  have t1 : (1 : Int32).toInt = 1 := rfl
  have t30 : (30 : Int32).toInt = 30 := rfl
  refine t_X1_start d h I.1 x1 x2 _ ⟨fun y => ?_, fun n => ?_⟩
  · have y' := q_lt.mp y
    have v : vp_in (h_i h 18 3) 30 := dp_in (lo := 0) (hi := 29) ⟨r.1, by show _ ≤ (29 : Int); omega⟩ (by decide) (by decide)
    have e1 : (h_i h 18 3 + 1).toInt = (h_i h 18 3).toInt + 1 := by rw [tx_add (by rw [t1]; omega) (by rw [t1]; omega), t1]
    refine ⟨v, v, i183 (tr_ 72 (by decide +kernel) (iq71 I _ b) _ _ (by decide) (by decide)) ⟨by rw [e1]; show (0 : Int) ≤ _; omega, by rw [e1]; show _ ≤ (30 : Int); omega⟩, (((Fr.rf _ _).im (inw_row (by decide +kernel) _)).im (inw_row (by decide +kernel) _)).im (by decide +kernel), ?_, ?_, ?_, ?_⟩
    · rw [if_pos y, Int32.add_sub_cancel]
    · rw [if_pos y]
      repeat first | rw [im_row] | rw [im_oth (by decide)]
    · rw [if_pos y]
      repeat first | rw [im_row] | rw [im_oth (by decide)]
    · rw [if_pos y]
      repeat first | rw [im_row] | rw [im_oth (by decide)]
  · refine ⟨I, Fr.rf _ _, ?_, ?_, ?_, ?_⟩
    · rw [if_neg n]
    · rw [if_neg n]
    · rw [if_neg n]
    · rw [if_neg n]
theorem c_cls (d : Nat) {h : Hp_} (I : Iv h) {c : Nat} (hc : Cn h c) (x2 x3 : Int32) : Ci (m_X5_classOf (d + 1) 0 0) [.ref 21, .ref c, .int x2, .int x3] h (fun r h' => r = rkv (h_i h 104) (h_i h 105) (h_i h 106) (h_i h 107) (h_i h c 0) x2 x3 (h_i h 21 4).toNatClampNeg 0 (h_i h c 1) (-1) ∧ h' = h) := by
  have a := I.2.1 21 4
  rw [show tf 21 4 = (0, 40) by decide +kernel] at a
  have n := n_nat a.1
  have c1 := hc.1
  exact t_X5_classOf d h c hc.2.2 (by omega) x2 x3 _ (rk_X d I c hc.2.2 (by omega) x2 x3 _ 0 _ _ 0 rfl (by omega))
/-- the act in force says it of the letters from 9 i on -/
theorem c_ans (d : Nat) {E : Enl} {h : Hp_} (I : Iv h) (T : TX E.1 h) {x3 : Int32} (b3 : 0 ≤ x3.toInt ∧ x3.toInt ≤ 299) (dy q : Int32) : Ci (m_X10_answer (d + 2) 0 0) [.ref 13, .int (fob (h_i h 37) (h_i h 38) dy q (h_i h 13 5).toNatClampNeg), .ref 70, .int (x3 * 9)] h (fun r h' => Iv h' ∧ Fr [41999] h h' ∧ r = evB E dy q (h_i h 70) x3.toNatClampNeg (h_i h)) := by
  have c13 := I.2.1 13 5
  rw [show tf 13 5 = (0, 20) by decide +kernel] at c13
  have c0 : 0 ≤ (h_i h 13 5).toInt := c13.1
  have c1 : (h_i h 13 5).toInt ≤ 20 := c13.2
  have n13 := n_nat c0
  have fb := fob_b (h_i h 37) (h_i h 38) dy q (h_i h 13 5).toNatClampNeg (by omega)
  unfold evB foB
  generalize fob (h_i h 37) (h_i h 38) dy q (h_i h 13 5).toNatClampNeg = k at fb
  rcases fb with e | e
  · rw [e]
    refine Ci.mono (c_an0_13 d I _) (fun r h' u => ?_)
    rw [u.1, u.2]
    exact ⟨I, Fr.rf _ _, (if_pos rfl).symm⟩
  · have nk := n_nat e.1
    have ek : Int32.ofNat k.toNatClampNeg = k := of_nat32 e.1
    have t := T k.toNatClampNeg (by omega)
    have nm : ¬ k = -1 := fun z => by
      rw [z] at e
      exact absurd e.1 (by decide)
    have ix : ∀ c, ltb 1 c = true → vp_in (x3 * 9 + ixq 1 (xch c)) 2700 ∧ (x3 * 9 + ixq 1 (xch c)).toNatClampNeg = 9 * x3.toNatClampNeg + (ixq 1 (xch c)).toNatClampNeg ∧ (x3 * 9 + ixq 1 (xch c)).toInt = 9 * x3.toInt + (ixq 1 (xch c)).toNatClampNeg := fun c hc => by
      have b := ix_in (Or.inl rfl) hc
      have b2 : (ixq 1 (xch c)).toInt ≤ 8 := b.2
      have nb := n_nat b.1
      exact ix9 b3 nb.symm (by omega)
    have A := c_an_13 d I (r := k.toNatClampNeg) (by omega) t.1 t.2.1 t.2.2.1 t.2.2.2 (x3 * 9) (fun c hc => by
      have j := ix c hc
      have b := ix_in (Or.inl rfl) hc
      have b2 : (ixq 1 (xch c)).toInt ≤ 8 := b.2
      have nb := n_nat b.1
      refine ⟨q_le.mpr ?_, q_le.mpr ?_⟩
      · rw [show (0 : Int32).toInt = 0 from rfl, j.2.2]
        omega
      · rw [show ((2700 : Int32) - 1).toInt = 2699 from rfl, j.2.2]
        omega) (fun c hc => (ix c hc).1)
    rw [ek] at A
    refine Ci.mono A (fun r h' u => ⟨u.1, u.2.1, ?_⟩)
    rw [u.2.2, if_neg nm]
    refine evC_v (s := 1) (fun c hc => ?_) _ t.1
    show h_i h 70 (x3 * 9 + ixq 1 (xch c)).toNatClampNeg = _
    rw [(ix c hc).2.1]
end
