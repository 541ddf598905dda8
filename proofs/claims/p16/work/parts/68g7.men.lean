/-! MEN: draw and ill -/
theorem dp_ev {cz : Int32} {M : Nat → Int32} : ∀ e ∈ (fDp cz M).2, e.1 = 1 ∨ e.1 = 2 := fun e he => by
  unfold fDp at he
  split at he
  · rw [(List.mem_replicate.mp he).2]
    exact Or.inr rfl
  · cases he
theorem dp_le {cz : Int32} {M : Nat → Int32} {w : Int32 → Int32 → Int32} {BL : Nat → List Sp3} {nb rw : Nat} (K : Km w BL nb rw M) (r4 : rw ≤ 400) : (fDp cz M).2 = [] ∨ (M 4 = 1 ∧ (M 11).toInt + ((fDp cz M).2.length : Int) ≤ (M 12).toInt) := by
  by_cases e : M 4 = 1
  · obtain ⟨i, x, L, q1, q2, q3⟩ := K.2 e
    have a := q3.2.2.1
    have b := q3.2.2.2.1
    have c := q3.2.2.2.2
    have s : (M 12 - M 11).toInt = (M 12).toInt - (M 11).toInt := tx_sub (by omega) (by omega)
    have n := n_nat (x := M 12 - M 11) (by omega)
    refine Or.inr ⟨e, ?_⟩
    unfold fDp
    rw [if_pos e]
    show _ + ((List.replicate (M 12 - M 11).toNatClampNeg ((2, cz) : Ev2)).length : Int) ≤ _
    rw [List.length_replicate]
    omega
  · refine Or.inl ?_
    unfold fDp
    rw [if_neg e]
theorem fHome_4 {n : Int32} {w : Int32 → Int32 → Int32} {M : Nat → Int32} : ¬ fHome n w M 4 = 1 := by
  unfold fHome
  split
  · exact fun e => absurd (show (2 : Int32) = 1 from e) (by decide)
  · exact fun e => absurd (show (0 : Int32) = 1 from e) (by decide)
theorem fDr_4 {n : Int32} {w : Int32 → Int32 → Int32} {M : Nat → Int32} (e4 : M 4 = 3) : ¬ fDr n w M 4 = 1 := by
  unfold fDr
  split
  · exact fun e => absurd (e4.symm.trans (show M 4 = 1 from e)) (by decide)
  · split
    · exact fun e => absurd (e4.symm.trans (show M 4 = 1 from e)) (by decide)
    · exact fHome_4
theorem fDw_4 {n : Int32} {w : Int32 → Int32 → Int32} {x2 x3 : Int32} {M : Nat → Int32} : ¬ (fDw n w x2 x3 M).1 4 = 1 := by
  unfold fDw
  show ¬ (if (fDp 3 M).1 6 = -1 then _ else _ : Nat → Int32) 4 = 1
  split
  · exact fDr_4 rfl
  · exact fun e => absurd (show (3 : Int32) = 1 from e) (by decide)
theorem fDw_0 {n : Int32} {w : Int32 → Int32 → Int32} {x2 x3 : Int32} {M : Nat → Int32} : (fDw n w x2 x3 M).1 0 = M 0 := by
  unfold fDw
  show (if (fDp 3 M).1 6 = -1 then _ else _ : Nat → Int32) 0 = M 0
  split
  · refine ((Rk.dr (m := 0)).1 0 (by decide)).trans ?_
    show (fDp 3 M).1 0 = M 0
    exact fDp_k (by decide) (by decide) (by decide)
  · show (fDp 3 M).1 0 = M 0
    exact fDp_k (by decide) (by decide) (by decide)
theorem km_dw {n : Int32} {w : Int32 → Int32 → Int32} {BL : Nat → List Sp3} {nb rw : Nat} {x2 x3 : Int32} {M : Nat → Int32} (W : WOk w) (K : Km w BL nb rw M) (p2 : 0 ≤ x2.toInt ∧ x2.toInt ≤ 15) (c2 : ¬ w (M 3) x2 = -1) : Km w BL nb rw (fDw n w x2 x3 M).1 := by
  have d3 : (fDp 3 M).1 3 = M 3 := fDp_k (by decide) (by decide) (by decide)
  have d5 : (fDp 3 M).1 5 = M 5 := fDp_k (by decide) (by decide) (by decide)
  have d6 : (fDp 3 M).1 6 = M 6 := fDp_k (by decide) (by decide) (by decide)
  obtain ⟨⟨a3, a5, a6, _, _, _, _, al⟩, _⟩ := K
  unfold fDw
  show Km w BL nb rw (if (fDp 3 M).1 6 = -1 then _ else _)
  by_cases c : (fDp 3 M).1 6 = -1
  · rw [if_pos c]
    rw [d6] at c
    rw [if_pos c] at al
    refine km_dr W ?_ ?_ ?_ rfl ?_ p2 ?_
    · show 0 ≤ ((fDp 3 M).1 3).toInt ∧ ((fDp 3 M).1 3).toInt ≤ 15
      rw [d3]
      exact a3
    · show (fDp 3 M).1 6 = -1
      rw [d6]
      exact c
    · show 0 ≤ ((fDp 3 M).1 5).toInt
      rw [d5]
      exact a5 c
    · show ¬ w ((fDp 3 M).1 3) ((fDp 3 M).1 5) = -1
      rw [d3, d5]
      exact al
    · show ¬ w ((fDp 3 M).1 3) x2 = -1
      rw [d3]
      exact c2
  · rw [if_neg c]
    rw [d6] at c
    rw [if_neg c] at al
    refine ⟨⟨?_, fun e => ?_, fun _ => ?_, fun e => absurd (show (3 : Int32) = 0 from e) (by decide), fun e => absurd (show (3 : Int32) = 4 from e) (by decide), fun e => absurd (show (3 : Int32) = 2 from e) (by decide), fun _ => ⟨p2, ?_, fun e => ?_⟩, ?_⟩, fun e => absurd (show (3 : Int32) = 1 from e) (by decide)⟩
    · show 0 ≤ ((fDp 3 M).1 3).toInt ∧ ((fDp 3 M).1 3).toInt ≤ 15
      rw [d3]
      exact a3
    · exact absurd (d6.symm.trans (show (fDp 3 M).1 6 = -1 from e)) c
    · show 0 ≤ ((fDp 3 M).1 6).toInt
      rw [d6]
      exact a6 c
    · show ¬ w ((fDp 3 M).1 3) x2 = -1
      rw [d3]
      exact c2
    · exact absurd (d6.symm.trans (show (fDp 3 M).1 6 = -1 from e)) c
    · show ¬ w ((fDp 3 M).1 3) (if (fDp 3 M).1 6 = -1 then (fDp 3 M).1 5 else (fDp 3 M).1 6) = -1
      rw [d6, if_neg c, d3]
      exact al
theorem km_il {w : Int32 → Int32 → Int32} {BL : Nat → List Sp3} {nb rw : Nat} {M : Nat → Int32} (W : WOk w) (K : Km w BL nb rw M) : Km w BL nb rw (fIl M).1 := by
  have d3 : (fDp 4 M).1 3 = M 3 := fDp_k (by decide) (by decide) (by decide)
  have a3 := K.1.1
  unfold fIl
  refine ⟨⟨?_, fun _ => ?_, fun e => absurd rfl e, fun e => absurd (show (4 : Int32) = 0 from e) (by decide), fun _ => ⟨rfl, ?_⟩, fun e => absurd (show (4 : Int32) = 2 from e) (by decide), fun e => absurd (show (4 : Int32) = 3 from e) (by decide), ?_⟩, fun e => absurd (show (4 : Int32) = 1 from e) (by decide)⟩
  · show 0 ≤ ((fDp 4 M).1 3).toInt ∧ ((fDp 4 M).1 3).toInt ≤ 15
    rw [d3]
    exact a3
  · exact a3.1
  · exact d3.symm
  · show ¬ w ((fDp 4 M).1 3) (if (-1 : Int32) = -1 then M 3 else -1) = -1
    rw [d3, if_pos rfl]
    exact W.2.1 _ a3
theorem km_fr {w : Int32 → Int32 → Int32} {BL : Nat → List Sp3} {nb rw : Nat} {M : Nat → Int32} (K : Km w BL nb rw M) (e4 : M 4 = 4) : Km w BL nb rw (fFree M) := by
  obtain ⟨a3, a5, a6, a0, a4, a2, aw, al⟩ := K.1
  have e6 := (a4 e4).1
  exact ⟨⟨a3, a5, a6, fun _ => ⟨e6, rfl⟩, fun e => absurd (show (0 : Int32) = 4 from e) (by decide), fun e => absurd (show (0 : Int32) = 2 from e) (by decide), fun e => absurd (show (0 : Int32) = 3 from e) (by decide), al⟩, fun e => absurd (show (0 : Int32) = 1 from e) (by decide)⟩
theorem rwX_in {h : Hp_} (I : Iv h) : (h_i h 16 7).toNatClampNeg ≤ 400 ∧ (((h_i h 16 7).toNatClampNeg : Nat) : Int) = (h_i h 16 7).toInt := by
  have rg := I.2.1 16 7
  rw [show tf 16 7 = (0, 400) by decide +kernel] at rg
  have a : 0 ≤ (h_i h 16 7).toInt := rg.1
  have b : (h_i h 16 7).toInt ≤ 400 := rg.2
  have n := n_nat a
  omega
/-- a man of the reference, as the class has him -/
theorem ExM.rp {h h1 : Hp_} (I : Iv h) (x : ExM h) (f : Fr wMx h h1) {x1 : Int32} (y : isN h1 x1) : (x1.toNatClampNeg < (h_i h 0 7).toNatClampNeg ∧ isM h x1) ∧ RMp x1.toNatClampNeg (h_i h (401 + x1.toNatClampNeg)) h1 ∧ h_i h (401 + x1.toNatClampNeg) 0 = x1 ∧ Km (wI h) (bL h) (h_i h 12 3).toNatClampNeg (h_i h 16 7).toNatClampNeg (h_i h (401 + x1.toNatClampNeg)) ∧ Opn h1 (h_i h (401 + x1.toNatClampNeg)) := by
  obtain ⟨y1, y2⟩ := y
  rw [(f.2 1 7 (by decide +kernel)).1, ← x.1.1] at y2
  have mm := menX_in I
  have nm := n_nat mm.1
  have nx := n_nat y1
  have hj : x1.toNatClampNeg < (h_i h 0 7).toNatClampNeg := by omega
  obtain ⟨K, e0, O⟩ := x.2.2.1 x1.toNatClampNeg hj
  have rr := rwX_in I
  refine ⟨⟨hj, y1, y2⟩, (x.2.2.2.1 _ hj).cg (fun a ha => fr_i f (List.all_eq_true.mp (show (206 :: mrL).all (fun a => off wMx a) = true by decide +kernel) a ha) _), e0.trans (on_of ⟨y1, by omega⟩), K, fun e4 => ?_⟩
  obtain ⟨i, q, L, q1, q2, q3⟩ := K.2 e4
  have q11 : 0 ≤ (h_i h (401 + x1.toNatClampNeg) 11).toInt := q3.2.2.1
  have qs : (h_i h (401 + x1.toNatClampNeg) 11).toInt + ((_ : Nat) : Int) = (h_i h (401 + x1.toNatClampNeg) 12).toInt := q3.2.2.2.1
  have q12 : (h_i h (401 + x1.toNatClampNeg) 12).toInt ≤ ((h_i h 16 7).toNatClampNeg : Int) := q3.2.2.2.2
  refine ⟨q11, by omega, by omega, fun k k1 k2 => ?_⟩
  have o := (O e4 k k1 k2).1
  have s := (x.2.2.2.2.1 k (by omega)).1
  rw [show h_i h 51 k = 0 from o] at s
  rw [fr_i f (by decide +kernel), fr_i f (by decide +kernel)]
  rcases s with s | s | s
  · exact s.2
  · exact absurd s.1 (by decide)
  · exact absurd s.1 (by decide)
theorem ExM.rk {h : Hp_} (I : Iv h) (x : ExM h) {x1 : Int32} (y : isM h x1) : (x1.toNatClampNeg < (h_i h 0 7).toNatClampNeg) ∧ (h_i h (401 + x1.toNatClampNeg) 4 = 1 → Rok h (h_i h (401 + x1.toNatClampNeg)) 0) := by
  have nm := n_nat (menX_in I).1
  have nx := n_nat y.1
  have hj : x1.toNatClampNeg < (h_i h 0 7).toNatClampNeg := by have := y.2; omega
  have rr := rwX_in I
  refine ⟨hj, fun e4 => ?_⟩
  obtain ⟨i, q, L, q1, q2, q3⟩ := (x.2.2.1 _ hj).1.2 e4
  have q11 : 0 ≤ (h_i h (401 + x1.toNatClampNeg) 11).toInt := q3.2.2.1
  have qs : (h_i h (401 + x1.toNatClampNeg) 11).toInt + ((_ : Nat) : Int) = (h_i h (401 + x1.toNatClampNeg) 12).toInt := q3.2.2.2.1
  have q12 : (h_i h (401 + x1.toNatClampNeg) 12).toInt ≤ ((h_i h 16 7).toNatClampNeg : Int) := q3.2.2.2.2
  exact ⟨q11, by show _ + ((0 : Nat) : Int) ≤ _; omega, by omega⟩
def DxX (x1 x2 x3 : Int32) (h : Hp_) (r : Int32) (h' : Hp_) : Prop := ((isM h x1 ∧ okDw h (h_i h (401 + x1.toNatClampNeg)) x2 x3) → r = 1 ∧ Sxm PU (401 + x1.toNatClampNeg) (h_i h 0 0) (fDw (h_i h 0 0) (wI h) x2 x3 (h_i h (401 + x1.toNatClampNeg))).1 (h_i h (401 + x1.toNatClampNeg) 11).toNatClampNeg (fDw (h_i h 0 0) (wI h) x2 x3 (h_i h (401 + x1.toNatClampNeg))).2 () h h') ∧ (¬ (isM h x1 ∧ okDw h (h_i h (401 + x1.toNatClampNeg)) x2 x3) → r = 0 ∧ h' = h)
theorem c_dwX (d : Nat) {h : Hp_} (I : Iv h) (x : ExM h) (x1 x2 x3 : Int32) : Ci (m_X11_draw (d + 5) 0 0) [.ref 0, .int x1, .int x2, .int x3] h (fun r h' => Iv h' ∧ Fr wMx h h' ∧ DxX x1 x2 x3 h r h') := by
  refine Ci.mono (c_dw pbU d I x.2.1 (b := ()) trivial x1 x2 x3 (fun y => (x.rk I y).2)) (fun r h' k => ?_)
  by_cases c : isM h x1 ∧ okDw h (h_i h (401 + x1.toNatClampNeg)) x2 x3
  · have z := k.1 c
    have hj := (x.rk I c.1).1
    have m12 := x.1.2.2.2
    exact ⟨z.2.1, gw_fr z.2.2.1 (by omega) (by omega) (by decide +kernel) (fun k => inw_row (by decide +kernel) k) (by decide +kernel), fun _ => z, fun n => absurd c n⟩
  · have z := k.2 c
    rw [z.2]
    exact ⟨I, Fr.rf _ _, fun n => absurd n c, fun _ => ⟨z.1, rfl⟩⟩
theorem isN_M {h h1 : Hp_} (x : ExM h) (f : Fr wMx h h1) {x1 : Int32} : isN h1 x1 ↔ isM h x1 := by
  unfold isN isM
  rw [(f.2 1 7 (by decide +kernel)).1, ← x.1.1]
theorem c_dwM (d : Nat) {h h1 : Hp_} (I1 : Iv h1) (I : Iv h) (x : ExM h) (R : ExR h) (f : Fr wMx h h1) (x1 x2 x3 : Int32) : Ci (m_X12_draw (d + 5) 0 0) [.ref 1, .int x1, .int x2, .int x3] h1 (DwP PU (fun _ _ b => b) x1 x2 x3 (h_i h (401 + x1.toNatClampNeg)) () h1) := by
  have R1 : ExP h1 := R.2.fr f (by decide +kernel)
  refine m_dw pmU d I1 R1 x1 x2 x3 (b := ()) trivial (h_i h (401 + x1.toNatClampNeg)) (fun y => ?_)
  obtain ⟨_, q1, q2, q3, q4⟩ := x.rp I f y
  have ew : wI h1 = wI h := wI_cg (funext (fun k => fr_i f (by decide +kernel) k))
  refine ⟨q1, q2, q3.1.2.1, q4, fun q e6 a => ?_⟩
  have al := q3.1.2.2.2.2.2.2.2
  rw [if_pos e6] at al
  rw [ew] at a ⊢
  exact (wok I R.2).2.2.2.1 _ _ _ al a
theorem ExM.dw {h h1 h2 : Hp_} {x1 x2 x3 r1 r2 : Int32} (I : Iv h) (x : ExM h) (R : ExR h) (f : Fr wMx h h1) (k1 : DxX x1 x2 x3 h r1 h1) (k2 : DwP PU (fun _ _ b => b) x1 x2 x3 (h_i h (401 + x1.toNatClampNeg)) () h1 r2 h2) : Iv h2 ∧ Fr mwR h1 h2 ∧ ExM h2 ∧ r1 = r2 := by
  have ew : wI h1 = wI h := wI_cg (funext (fun k => fr_i f (by decide +kernel) k))
  have e10 : h_i h1 1 0 = h_i h 0 0 := ((f.2 1 0 (by decide +kernel)).1).trans x.1.2.1.symm
  have pn : 0 ≤ (h_i h 0 0).toInt := by
    have rg := I.2.1 0 0
    rw [show tf 0 0 = (0, 20000) by decide +kernel] at rg
    exact rg.1
  unfold DwP at k2
  rw [e10, ew] at k2
  have ok : (isN h1 x1 ∧ (0 ≤ x2 ∧ x2 ≤ 15) ∧ (h_i h 0 0 ≤ x3 ∧ x3 ≤ 30000) ∧ ¬ wI h (h_i h (401 + x1.toNatClampNeg) 3) x2 = -1 ∧ ¬ h_i h (401 + x1.toNatClampNeg) 4 = 3 ∧ ¬ h_i h (401 + x1.toNatClampNeg) 4 = 4) ↔ (isM h x1 ∧ okDw h (h_i h (401 + x1.toNatClampNeg)) x2 x3) := by
    unfold okDw
    rw [isN_M x f, p15]
  rw [ok] at k2
  by_cases c : isM h x1 ∧ okDw h (h_i h (401 + x1.toNatClampNeg)) x2 x3
  · have z1 := k1.1 c
    have z2 := k2.1 c
    have hj := (x.rk I c.1).1
    have K := (x.2.2.1 _ hj).1
    have p2 := c.2.1
    have t16 : (16 : Int32).toInt = 16 := rfl
    have t0 : (0 : Int32).toInt = 0 := rfl
    have u1 := q_le.mp p2.1
    have u2 := q_lt.mp p2.2
    have z := x.ev hj z1.2 z2.2 (km_dw (wok I R.2) K ⟨by omega, by omega⟩ c.2.2.2.1) fDw_0 (dp_le (cz := 3) K (rwX_in I).1) fDw_4 dp_ev pn rfl
    exact ⟨z2.2.1, z.2.1, z.2.2, z1.1.trans z2.1.symm⟩
  · have z1 := k1.2 c
    have z2 := k2.2 c
    have e := z1.2
    subst e
    exact ⟨z2.2.1, z2.2.2.more (by decide +kernel), x.fr z2.2.2 (by decide +kernel), z1.1.trans z2.1.symm⟩
/-! MEN: ill -/
def IxX (x1 x2 : Int32) (h : Hp_) (r : Int32) (h' : Hp_) : Prop := ((isM h x1 ∧ ¬ h_i h (401 + x1.toNatClampNeg) 4 = 4 ∧ x2 = 1) → r = 1 ∧ Sxm PU (401 + x1.toNatClampNeg) (h_i h 0 0) (fIl (h_i h (401 + x1.toNatClampNeg))).1 (h_i h (401 + x1.toNatClampNeg) 11).toNatClampNeg (fIl (h_i h (401 + x1.toNatClampNeg))).2 () h h') ∧ ((isM h x1 ∧ h_i h (401 + x1.toNatClampNeg) 4 = 4 ∧ x2 = 0) → r = 1 ∧ Sxm PU (401 + x1.toNatClampNeg) (h_i h 0 0) (fFree (h_i h (401 + x1.toNatClampNeg))) (h_i h (401 + x1.toNatClampNeg) 11).toNatClampNeg [] () h h') ∧ (¬ (isM h x1 ∧ ((¬ h_i h (401 + x1.toNatClampNeg) 4 = 4 ∧ x2 = 1) ∨ (h_i h (401 + x1.toNatClampNeg) 4 = 4 ∧ x2 = 0))) → r = 0 ∧ h' = h)
theorem sx_fr {h h' : Hp_} {j : Nat} {n : Int32} {M' : Nat → Int32} {r : Nat} {E : List Ev2} (hj : j < 12) (z : Sxm PU (401 + j) n M' r E () h h') : Fr wMx h h' := gw_fr z.2.1 (by omega) (by omega) (by decide +kernel) (fun k => inw_row (by decide +kernel) k) (by decide +kernel)
theorem il_cs {P Q : Prop} {x2 : Int32} (b2 : x2 = 0 ∨ x2 = 1) : (P ∧ ¬ Q ∧ x2 = 1) ∨ (P ∧ Q ∧ x2 = 0) ∨ ¬ (P ∧ ((¬ Q ∧ x2 = 1) ∨ (Q ∧ x2 = 0))) := by
  by_cases p : P
  · by_cases q : Q
    · rcases b2 with e | e
      · exact Or.inr (Or.inl ⟨p, q, e⟩)
      · exact Or.inr (Or.inr (fun y => y.2.elim (fun z => z.1 q) (fun z => absurd (e.symm.trans z.2) (by decide))))
    · rcases b2 with e | e
      · exact Or.inr (Or.inr (fun y => y.2.elim (fun z => absurd (e.symm.trans z.2) (by decide)) (fun z => q z.1)))
      · exact Or.inl ⟨p, q, e⟩
  · exact Or.inr (Or.inr (fun y => p y.1))
theorem c_ilX (d : Nat) {h : Hp_} (I : Iv h) (x : ExM h) (x1 x2 : Int32) (b2 : x2 = 0 ∨ x2 = 1) : Ci (m_X11_ill (d + 3) 0 0) [.ref 0, .int x1, .int x2] h (fun r h' => Iv h' ∧ Fr wMx h h' ∧ IxX x1 x2 h r h') := by
  have m12 := x.1.2.2.2
  refine Ci.mono (c_il pbU d I x.2.1 (b := ()) trivial x1 x2 b2 (fun y => (x.rk I y).2)) (fun r h' k => ?_)
  rcases il_cs (P := isM h x1) (Q := h_i h (401 + x1.toNatClampNeg) 4 = 4) b2 with c | c | c
  · have z := k.1 c
    have hj := (x.rk I c.1).1
    exact ⟨z.2.1, sx_fr (by omega) z.2, k⟩
  · have z := k.2.1 c
    have hj := (x.rk I c.1).1
    exact ⟨z.2.1, sx_fr (by omega) z.2, k⟩
  · have z := k.2.2 c
    have e := z.2
    subst e
    exact ⟨I, Fr.rf _ _, k⟩
def IxM (x1 x2 : Int32) (M : Nat → Int32) (h : Hp_) (r : Int32) (h' : Hp_) : Prop := ((isN h x1 ∧ ¬ M 4 = 4 ∧ x2 = 1) → r = 1 ∧ Mx PU x1.toNatClampNeg (h_i h 1 0) (fIl M).1 (M 11).toNatClampNeg (fIl M).2 () h h') ∧ ((isN h x1 ∧ M 4 = 4 ∧ x2 = 0) → r = 1 ∧ Mx PU x1.toNatClampNeg (h_i h 1 0) (fFree M) (M 11).toNatClampNeg [] () h h') ∧ (¬ (isN h x1 ∧ ((¬ M 4 = 4 ∧ x2 = 1) ∨ (M 4 = 4 ∧ x2 = 0))) → r = 0 ∧ h' = h)
theorem c_ilM (d : Nat) {h h1 : Hp_} (I1 : Iv h1) (I : Iv h) (x : ExM h) (f : Fr wMx h h1) (x1 x2 : Int32) (b2 : x2 = 0 ∨ x2 = 1) : Ci (m_X12_ill (d + 2) 0 0) [.ref 1, .int x1, .int x2] h1 (IxM x1 x2 (h_i h (401 + x1.toNatClampNeg)) h1) := by
  refine m_il pmU d I1 x1 x2 b2 (b := ()) trivial (h_i h (401 + x1.toNatClampNeg)) (fun y => ?_)
  obtain ⟨_, q1, q2, q3, q4⟩ := x.rp I f y
  exact ⟨q1, q2, q3.1.2.2.2.2.1, q4⟩
theorem ExM.il {h h1 h2 : Hp_} {x1 x2 r1 r2 : Int32} (I : Iv h) (x : ExM h) (R : ExR h) (f : Fr wMx h h1) (b2 : x2 = 0 ∨ x2 = 1) (I1 : Iv h1) (k1 : IxX x1 x2 h r1 h1) (k2 : IxM x1 x2 (h_i h (401 + x1.toNatClampNeg)) h1 r2 h2) : Iv h2 ∧ Fr mwR h1 h2 ∧ ExM h2 ∧ r1 = r2 := by
  have e10 : h_i h1 1 0 = h_i h 0 0 := ((f.2 1 0 (by decide +kernel)).1).trans x.1.2.1.symm
  have pn : 0 ≤ (h_i h 0 0).toInt := by
    have rg := I.2.1 0 0
    rw [show tf 0 0 = (0, 20000) by decide +kernel] at rg
    exact rg.1
  unfold IxM at k2
  rw [e10, isN_M x f] at k2
  rcases il_cs (P := isM h x1) (Q := h_i h (401 + x1.toNatClampNeg) 4 = 4) b2 with c | c | c
  · have z1 := k1.1 c
    have z2 := k2.1 c
    have hj := (x.rk I c.1).1
    have K := (x.2.2.1 _ hj).1
    have z := x.ev hj z1.2 z2.2 (km_il (wok I R.2) K) (fDp_k (by decide) (by decide) (by decide)) (dp_le (cz := 4) K (rwX_in I).1) (fun e => absurd (show (4 : Int32) = 1 from e) (by decide)) dp_ev pn rfl
    exact ⟨z2.2.1, z.2.1, z.2.2, z1.1.trans z2.1.symm⟩
  · have z1 := k1.2.1 c
    have z2 := k2.2.1 c
    have hj := (x.rk I c.1).1
    have K := (x.2.2.1 _ hj).1
    have z := x.ev hj z1.2 z2.2 (km_fr K c.2.1) rfl (Or.inl rfl) (fun e => absurd (show (0 : Int32) = 1 from e) (by decide)) (fun e he => (by cases he)) pn rfl
    exact ⟨z2.2.1, z.2.1, z.2.2, z1.1.trans z2.1.symm⟩
  · have z1 := k1.2.2 c
    have z2 := k2.2.2 c
    have e := z1.2
    subst e
    have e := z2.2
    subst e
    exact ⟨I, Fr.rf _ _, x, z1.1.trans z2.1.symm⟩
/-! MEN: tick -/
section MEN
variable {β : Type}
/-- rows that are not given yet stay so -/
theorem po_man {lP : Nat → Int32 → (Nat → Int32) → β → β} {tB : Int32 → Int32 → β → β} {n : Int32} {w : Int32 → Int32 → Int32} {BL : Nat → List Sp3} {nb rw m : Nat} {own : Nat → Int32} {s : Pst β} (hl : ∀ k, k < nb → (BL k).length ≤ 150) (H : pI w BL nb rw own m s) {j : Nat} (hj : j < m) {k : Nat} (hk : rw ≤ k) : (pMan lP tB n w BL j s).2.1 k = s.2.1 k := by
  unfold pMan
  by_cases y : s.1 j 7 = n
  · rw [if_pos y]
    show rz Prod.fst (s.1 j 11).toNatClampNeg (pGo n w BL (s.1 j)).2 s.2.1 k = _
    refine rz_o _ _ _ _ _ ?_
    by_cases y1 : s.1 j 4 = 1
    · obtain ⟨i', _, _, b8, hd, e9, _, r0, r1, r2⟩ := kmb_x hl ((H j hj).1.2 y1)
      have n11 := n_nat r0
      have ll : (pGo n w BL (s.1 j)).2.length ≤ _ := (Rk.go (n := n) (w := w) (x := (pX BL (s.1 j)).1) (L := (pX BL (s.1 j)).2) (M := s.1 j)).2.2.1
      right
      omega
    · have e : (pGo n w BL (s.1 j)).2 = [] := fGo_e y1
      rw [e]
      show k < _ ∨ _ + 0 ≤ k
      omega
  · rw [if_neg y]
theorem po_men {lP : Nat → Int32 → (Nat → Int32) → β → β} {tB : Int32 → Int32 → β → β} {n : Int32} {w : Int32 → Int32 → Int32} {BL : Nat → List Sp3} {nb rw m : Nat} {own : Nat → Int32} (W : WOk w) (hb : ∀ k x, k < nb → x ∈ BL k → stR x) (hl : ∀ k, k < nb → (BL k).length ≤ 150) (r4 : rw ≤ 400) (p0 : 0 ≤ n.toInt) (m12 : m ≤ 12) {k : Nat} (hk : rw ≤ k) : ∀ (j : Nat) {s : Pst β}, j ≤ m → pI w BL nb rw own m s → (pMen lP tB n w BL j s).2.1 k = s.2.1 k
  | 0, _, _, _ => rfl
  | j + 1, _, hj, H => (po_man hl (pI_men W hb hl r4 p0 m12 j (by omega) H) (by omega) hk).trans (po_men W hb hl r4 p0 m12 hk j (by omega) H)
theorem po_tk {lP : Nat → Int32 → (Nat → Int32) → β → β} {tB : Int32 → Int32 → β → β} {nB : Int32 → (Nat → Int32) → β → β} {n : Int32} {w : Int32 → Int32 → Int32} {BL : Nat → List Sp3} {nb rw m : Nat} {own : Nat → Int32} (W : WOk w) (hb : ∀ k x, k < nb → x ∈ BL k → stR x) (hl : ∀ k, k < nb → (BL k).length ≤ 150) (r4 : rw ≤ 400) (p0 : 0 ≤ n.toInt ∧ n.toInt ≤ 20000) (m12 : m ≤ 12) {k : Nat} (hk : rw ≤ k) : ∀ (i : Nat) {s : Pst β}, i ≤ 20000 → pI w BL nb rw own m s → (pTk lP tB nB w BL m n i s).2.1 k = s.2.1 k
  | 0, _, _, _ => rfl
  | i + 1, s, hi, H => (po_men W hb hl r4 (by rw [tx_add (by rw [on_j (by omega)]; omega) (by rw [on_j (by omega)]; omega), on_j (by omega)]; omega) m12 hk m (s := pOv nB (n + Int32.ofNat i) (pTk lP tB nB w BL m n i s)) (Nat.le_refl _) (pI_tk W hb hl r4 p0 m12 i (by omega) H)).trans (po_tk W hb hl r4 p0 m12 hk i (by omega) H)
theorem tm_man {lP : Nat → Int32 → (Nat → Int32) → β → β} {tB : Int32 → Int32 → β → β} {n : Int32} {w : Int32 → Int32 → Int32} {BL : Nat → List Sp3} {s : Pst β} {j k : Nat} {N : Int} (h : ¬ s.2.1 k = 0 → (s.2.2.1 k).toInt ≤ N) (l : N ≤ n.toInt) : ¬ (pMan lP tB n w BL j s).2.1 k = 0 → ((pMan lP tB n w BL j s).2.2.1 k).toInt ≤ n.toInt := by
  unfold pMan
  by_cases y : s.1 j 7 = n
  · rw [if_pos y]
    exact tm_rz h l
  · rw [if_neg y]
    exact fun ne => Int.le_trans (h ne) l
theorem tm_men {lP : Nat → Int32 → (Nat → Int32) → β → β} {tB : Int32 → Int32 → β → β} {n : Int32} {w : Int32 → Int32 → Int32} {BL : Nat → List Sp3} {k : Nat} {N : Int} (l : N ≤ n.toInt) : ∀ (j : Nat) {s : Pst β}, (¬ s.2.1 k = 0 → (s.2.2.1 k).toInt ≤ N) → ¬ (pMen lP tB n w BL j s).2.1 k = 0 → ((pMen lP tB n w BL j s).2.2.1 k).toInt ≤ n.toInt
  | 0, _, h => fun ne => Int.le_trans (h ne) l
  | j + 1, _, h => tm_man (tm_men l j h) (Int.le_refl _)
theorem tm_tk {lP : Nat → Int32 → (Nat → Int32) → β → β} {tB : Int32 → Int32 → β → β} {nB : Int32 → (Nat → Int32) → β → β} {n : Int32} {w : Int32 → Int32 → Int32} {BL : Nat → List Sp3} {m k : Nat} (p0 : 0 ≤ n.toInt ∧ n.toInt ≤ 20000) : ∀ (i : Nat) {s : Pst β}, i ≤ 20000 → (¬ s.2.1 k = 0 → (s.2.2.1 k).toInt ≤ n.toInt) → ¬ (pTk lP tB nB w BL m n i s).2.1 k = 0 → ((pTk lP tB nB w BL m n i s).2.2.1 k).toInt ≤ n.toInt + (i : Int)
  | 0, s, _, h => fun ne => by
    have z : (s.2.2.1 k).toInt ≤ n.toInt := h ne
    show (s.2.2.1 k).toInt ≤ n.toInt + ((0 : Nat) : Int)
    omega
  | i + 1, s, hi, h => fun ne => by
    have e : (n + Int32.ofNat (i + 1)).toInt = n.toInt + ((i + 1 : Nat) : Int) := by rw [tx_add (by rw [on_j (by omega)]; omega) (by rw [on_j (by omega)]; omega), on_j (by omega)]
    have z := tm_men (lP := lP) (tB := tB) (n := n + Int32.ofNat (i + 1)) (w := w) (BL := BL) (k := k) (N := n.toInt + (i : Int)) (by rw [e]; omega) m (s := pOv nB (n + Int32.ofNat i) (pTk lP tB nB w BL m n i s)) (tm_tk p0 i (by omega) h) ne
    rw [e] at z
    exact z
end MEN
abbrev lU : Nat → Int32 → (Nat → Int32) → Unit → Unit := fun _ _ _ b => b
abbrev tU : Int32 → Int32 → Unit → Unit := fun _ _ b => b
abbrev nU : Int32 → (Nat → Int32) → Unit → Unit := fun _ _ b => b
def B35 (h : Hp_) : Prop := ∀ k, k < (h_i h 12 3).toNatClampNeg → h_i h 35 k = h_i h 227 k
theorem ExM.m {h : Hp_} (I : Iv h) (x : ExM h) : h_i h 0 7 = Int32.ofNat (h_i h 0 7).toNatClampNeg := (on_of ⟨(menX_in I).1, by have := (menX_in I).2; omega⟩).symm
theorem c_tkU (d : Nat) {h : Hp_} (I : Iv h) (x : ExM h) (R : ExR h) (S : ExS h) (B : B35 h) (x1 : Int32) {c N : Nat} (hc : h_r h 0 15 = some c) (hs : h_sh h c = some (3, N)) (hN : N ≤ 20000) : ∃ mc ms N', N' ≤ 20000 ∧ hcost mc ms N N' ∧ Ci (m_X11_tick (d + 8) mc ms) [.ref 0, .int x1] h (Tkx PU lU tU nU (h_i h 0 7).toNatClampNeg N' (sX h) x1 h) := c_tkX (PB := PU) (lP := lU) (tB := tU) (nB := nU) pbU ⟨fun _ _ _ _ _ _ _ _ _ _ => trivial, fun _ _ _ _ _ _ _ => trivial⟩ d I ⟨R.2, S, B, x.2.1, x.m I, x.1.2.2.2, x.2.2.1⟩ ⟨fun _ _ => rfl, ⟨rfl, rfl, rfl⟩, trivial⟩ (fun _ _ _ _ _ _ _ => rfl) (fun _ _ _ _ _ => rfl) x1 hc hs hN
theorem c_tmU (d : Nat) {h h1 : Hp_} (I1 : Iv h1) (J1 : J2 h1) (I : Iv h) (x : ExM h) (R : ExR h) (S : ExS h) (e42 : h_i h 12 3 = h_i h 1 42) (f : Mf wsX h h1) (x1 : Int32) : Ci (m_X12_tick (d + 10) 0 0) [.ref 1, .int x1] h1 (Tkm PU lU tU nU (h_i h 0 7).toNatClampNeg (h_i h 16 7).toNatClampNeg (sX h) x1 h1) := by
  have rr : ∀ a, 200 ≤ a → a < 300 → h_i h1 a = h_i h a := fun a p q => funext (fun k => f.2.1 a p q k)
  have ew : wI h1 = wI h := wI_cg (funext (fun k => (f.2.2.2 30 k (Or.inl (by decide)) (off_inw (by decide +kernel) k)).1))
  have eb : bL h1 = bL h := bL_cg (rr 227 (by decide) (by decide)) (rr 228 (by decide) (by decide)) (rr 229 (by decide) (by decide)) (rr 230 (by decide) (by decide))
  have es : ∀ k, sB h1 k = sB h k := fun k => by
    funext i
    unfold sB
    rw [rr 228 (by decide) (by decide), rr 229 (by decide) (by decide), rr 230 (by decide) (by decide)]
  refine c_tkM (PM := PU) (lP := lU) (tB := tU) (nB := nU) pmU d I1 J1 (fun _ _ _ _ _ _ _ _ => trivial) ⟨R.2.mf f (by decide +kernel), fun k hk i hi => ?_, ?_, x.1.2.2.2, (rwX_in I).1, h_i h 47, ?_⟩ ⟨fun j hj => (x.2.2.2.1 j hj).cg (fun a ha => ?_), fun k hk => ?_, trivial⟩ (fun _ _ _ _ _ _ _ => rfl) (fun _ _ _ _ _ => rfl) x1
  · rw [f.1 42, ← e42] at hk
    rw [rr 227 (by decide) (by decide)] at hi
    rw [es]
    exact (S k hk i hi).2
  · rw [f.1 7, ← x.1.1]
    exact x.m I
  · rw [ew, eb, f.1 42, ← e42]
    exact x.2.2.1
  · have z : ∀ a ∈ 206 :: mrL, 200 ≤ a ∧ a < 300 := by decide
    exact f.2.1 a (z a ha).1 (z a ha).2 j
  · rw [rr 241 (by decide) (by decide), rr 242 (by decide) (by decide), rr 243 (by decide) (by decide)]
    exact (x.2.2.2.2.1 k hk).1
theorem ExM.tk {h h1 h2 : Hp_} {x1 r1 r2 : Int32} {N' : Nat} (I : Iv h) (x : ExM h) (R : ExR h) (S : ExS h) (k1 : Tkx PU lU tU nU (h_i h 0 7).toNatClampNeg N' (sX h) x1 h r1 h1) (k2 : Tkm PU lU tU nU (h_i h 0 7).toNatClampNeg (h_i h 16 7).toNatClampNeg (sX h) x1 h1 r2 h2) : ExM h2 := by
  have f := k1.1.2.1
  have rr : ∀ a, 200 ≤ a → a < 300 → h_i h1 a = h_i h a := fun a p q => funext (fun k => f.2.1 a p q k)
  have ew : wI h1 = wI h := wI_cg (funext (fun k => (f.2.2.2 30 k (Or.inl (by decide)) (off_inw (by decide +kernel) k)).1))
  have eb : bL h1 = bL h := bL_cg (rr 227 (by decide) (by decide)) (rr 228 (by decide) (by decide)) (rr 229 (by decide) (by decide)) (rr 230 (by decide) (by decide))
  have e10 : h_i h1 1 0 = h_i h 0 0 := (f.1 0).trans x.1.2.1.symm
  have rg := I.2.1 0 0
  rw [show tf 0 0 = (0, 20000) by decide +kernel] at rg
  have g0 : 0 ≤ (h_i h 0 0).toInt := rg.1
  have g1 : (h_i h 0 0).toInt ≤ 20000 := rg.2
  have m12 := x.1.2.2.2
  by_cases o : okt (h_i h 0 0) x1
  · obtain ⟨a1, a2, a3⟩ := k1.2.1 o
    obtain ⟨b1, b2, b3⟩ := k2.2.1 (by rw [e10]; exact o)
    rw [e10, ew, eb] at b3
    rw [e10] at b1
    have x0 := q_le.mp o.1.1
    have x5 := q_le.mp o.1.2
    have t0 : (0 : Int32).toInt = 0 := rfl
    have t5 : (1500 : Int32).toInt = 1500 := rfl
    have nx := n_nat (x := x1) (by omega)
    have rw4 := (rwX_in I).1
    have W := wok I R.2
    have P := pI_tk (lP := lU) (tB := tU) (nB := nU) W (bL_hb S) (bL_hl I _) rw4 ⟨g0, g1⟩ m12 x1.toNatClampNeg (by omega) x.2.2.1
    have O := fun k (hk : (h_i h 16 7).toNatClampNeg ≤ k) => po_tk (lP := lU) (tB := tU) (nB := nU) W (bL_hb S) (bL_hl I _) rw4 ⟨g0, g1⟩ m12 hk x1.toNatClampNeg (by omega) x.2.2.1
    have TM := fun k (hk : k < (h_i h 16 7).toNatClampNeg) => tm_tk (lP := lU) (tB := tU) (nB := nU) (w := wI h) (BL := bL h) (m := (h_i h 0 7).toNatClampNeg) (k := k) ⟨g0, g1⟩ x1.toNatClampNeg (s := sX h) (by omega) (x.2.2.2.2.1 k hk).2.2
    generalize pTk lU tU nU (wI h) (bL h) (h_i h 0 7).toNatClampNeg (h_i h 0 0) x1.toNatClampNeg (sX h) = s at a2 b3 P O TM
    have c1 : ∀ a k, a < 200 → inw (0 :: 15 :: wgM) a k = false → inw wtM a k = false → h_i h2 a k = h_i h a k := fun a k l p q => ((b2.2 a k q).1).trans (a3 a k l p)
    have cr : ∀ a, a < 200 → off (0 :: 15 :: wgM) a = true → off wtM a = true → h_i h2 a = h_i h a := fun a l p q => funext (fun k => c1 a k l (off_inw p k) (off_inw q k))
    have dr : ∀ a, 200 ≤ a → a < 300 → off wtM a = true → h_i h2 a = h_i h a := fun a p q o => (funext (fun k => fr_i b2 o k)).trans (rr a p q)
    have e2 : ∀ a, off wtM a = true → h_i h2 a = h_i h1 a := fun a o => funext (fun k => fr_i b2 o k)
    have n07 : h_i h2 0 7 = h_i h 0 7 := c1 0 7 (by decide) (by decide +kernel) (by decide +kernel)
    have n17 : h_i h2 1 7 = h_i h 1 7 := ((b2.2 1 7 (by decide +kernel)).1).trans (f.1 7)
    have nr : h_i h2 16 7 = h_i h 16 7 := c1 16 7 (by decide) (by decide +kernel) (by decide +kernel)
    have n63 : h_i h2 1 63 = h_i h 1 63 := ((b2.2 1 63 (by decide +kernel)).1).trans (f.1 63)
    have n3 : h_i h2 12 3 = h_i h 12 3 := c1 12 3 (by decide) (by decide +kernel) (by decide +kernel)
    have cm : ∀ l, l < 12 → h_i h2 (401 + l) = h_i h1 (401 + l) := fun l hl => funext (fun k => (b2.2 (401 + l) k (by
      rw [inw_ce (b := 401) ((cn_man hl).trans (by decide))]
      exact off_inw (by decide +kernel) k)).1)
    refine ⟨⟨by rw [n07, n17]; exact x.1.1, ?_, by rw [nr, n63]; exact x.1.2.2.1, by rw [n07]; exact m12⟩, fun k hk => ?_, ?_, fun l hl => ?_, fun k hk => ?_, fun k hk h4 => ?_⟩
    · rw [(b2.2 0 0 (by decide +kernel)).1, a1, b1]
    · rw [(b2.2 15 k (off_inw (by decide +kernel) k)).2.2, (f.2.2.2 15 k (Or.inl (by decide)) (off_inw (by decide +kernel) k)).2]
      exact x.2.1 k (by rw [n07] at hk; exact hk)
    · rw [wI_cg (cr 30 (by decide) (by decide +kernel) (by decide +kernel)), bL_cg (dr 227 (by decide) (by decide) (by decide +kernel)) (dr 228 (by decide) (by decide) (by decide +kernel)) (dr 229 (by decide) (by decide) (by decide +kernel)) (dr 230 (by decide) (by decide) (by decide +kernel)), n3, nr, cr 47 (by decide) (by decide +kernel) (by decide +kernel), n07]
      exact P.cs (fun j hj => (cm j (by omega)).trans (a2.1 j hj)) ((e2 51 (by decide +kernel)).trans a2.2.1.1)
    · rw [n07] at hl
      rw [cm l (by omega), a2.1 l hl]
      exact b3.1 l hl
    · rw [nr] at hk
      have q := x.2.2.2.2.1 k hk
      rw [e2 51 (by decide +kernel), e2 52 (by decide +kernel), e2 53 (by decide +kernel), a2.2.1.1, a2.2.1.2.1, a2.2.1.2.2, cr 47 (by decide) (by decide +kernel) (by decide +kernel), cr 48 (by decide) (by decide +kernel) (by decide +kernel), cr 49 (by decide) (by decide +kernel) (by decide +kernel), cr 50 (by decide) (by decide +kernel) (by decide +kernel), dr 238 (by decide) (by decide) (by decide +kernel), dr 239 (by decide) (by decide) (by decide +kernel), dr 240 (by decide) (by decide) (by decide +kernel), dr 244 (by decide) (by decide) (by decide +kernel)]
      refine ⟨b3.2.1 k hk, q.2.1, fun ne => ?_⟩
      have z := TM k hk ne
      rw [(b2.2 0 0 (by decide +kernel)).1, a1, tx_add (by have := o.2; omega) (by have := o.2; omega)]
      omega
    · rw [nr] at hk
      rw [e2 51 (by decide +kernel), a2.2.1.1, O k hk]
      exact x.2.2.2.2.2 k hk h4
  · rw [k2.2.2 (by rw [e10]; exact o), k1.2.2 o]
    exact x
/-! MEN: begin -/
theorem mP_l (h : Hp_) (k : Nat) : ∀ n i : Nat, mP (h_i h 228) k n i = mts ((List.range' i n).map (sB h k))
  | 0, _ => rfl
  | n + 1, i => by
    show (if h_i h 228 (150 * k + i) = 2 then 1 else 0) + mP (h_i h 228) k n (i + 1) = _
    rw [mP_l h k n (i + 1), List.range'_succ]
    rfl
theorem mP_b (h : Hp_) (k : Nat) : mP (h_i h 228) k (h_i h 227 k).toNatClampNeg 0 = mts (bL h k) := by
  rw [mP_l]
  unfold bL
  rw [List.range_eq_range']
theorem bs_x {h : Hp_} (I : Iv h) (S : ExS h) (B : ExB h) (x2 : Int32) (b2 : 0 ≤ x2.toInt ∧ x2.toInt < (h_i h 12 3).toInt) : Stb h x2 0 (bL h x2.toNatClampNeg) ∧ h_i h 35 x2.toNatClampNeg = Int32.ofNat (bL h x2.toNatClampNeg).length ∧ (h_i h 36 x2.toNatClampNeg).toInt = (mts (bL h x2.toNatClampNeg) : Int) := by
  have b3 := x12_in I
  have n3 := n_nat b3.1
  have nx := n_nat b2.1
  have z := z227 I x2.toNatClampNeg
  have q := B x2.toNatClampNeg (by omega)
  refine ⟨⟨⟨b2.1, by omega⟩, ?_, fun k x e => ?_⟩, ?_, ?_⟩
  · rw [bL_l]
    omega
  · have lk : k < (bL h x2.toNatClampNeg).length := (List.getElem?_eq_some_iff.mp e).1
    rw [bL_l] at lk
    rw [bL_g lk] at e
    rw [← Option.some.inj e, Nat.zero_add]
    exact S _ (by omega) _ lk
  · rw [q.1, bL_l]
    exact (of_nat32 (by omega)).symm
  · rw [q.2, mP_b]
def wBx : List Nat := 14 :: 401999 :: (wwR ++ wgM)
def BgK (x1 x2 : Int32) (h : Hp_) : Prop := isM h x1 ∧ (0 ≤ x2.toInt ∧ x2.toInt < (h_i h 12 3).toInt) ∧ h_i h (401 + x1.toNatClampNeg) 4 = 0 ∧ (h_i h 16 7).toInt + (mts (bL h x2.toNatClampNeg) : Int) ≤ 400
def BgF (x1 x2 : Int32) (h : Hp_) : (Nat → Int32) × List Ev2 := fBg (h_i h 0 0) (wI h) x2 (h_i h 16 7).toNatClampNeg ((h_i h 16 7).toNatClampNeg + mts (bL h x2.toNatClampNeg)) (bL h x2.toNatClampNeg) (h_i h (401 + x1.toNatClampNeg))
def BgX (x1 x2 : Int32) (h : Hp_) (r : Int32) (h' : Hp_) : Prop := (BgK x1 x2 h → r = 1 ∧ Bxm PU (401 + x1.toNatClampNeg) x1 (h_i h 0 0) (BgF x1 x2 h).1 (h_i h 16 7).toNatClampNeg (ptL (bL h x2.toNatClampNeg)) (BgF x1 x2 h).2 () h h') ∧ (¬ BgK x1 x2 h → r = 0 ∧ h' = h)
theorem c_bgX (d : Nat) {h : Hp_} (I : Iv h) (x : ExM h) (S : ExS h) (B : ExB h) (x1 x2 : Int32) : Ci (m_X11_begin (d + 6) 0 0) [.ref 0, .int x1, .int x2] h (fun r h' => Iv h' ∧ Fr wBx h h' ∧ BgX x1 x2 h r h') := by
  have m12 := x.1.2.2.2
  refine Ci.mono (c_bg (PB := PU) pbU d I x.2.1 (b := ()) trivial x1 x2 (fun y => ?_) (bL h x2.toNatClampNeg) (bs_x I S B x2)) (fun r h' k => ?_)
  · have hj := (x.rk I y).1
    have mm := menX_in I
    have y2 := y.2
    exact (x.2.2.1 _ hj).2.1.trans (on_of ⟨y.1, by omega⟩)
  · by_cases c : BgK x1 x2 h
    · have z := k.1 c
      have hj := (x.rk I c.1).1
      exact ⟨z.2.1, gw_fr z.2.2.1 (by omega) (by omega) (by decide +kernel) (fun k => inw_row (by decide +kernel) k) (by decide +kernel), fun _ => z, fun n => absurd c n⟩
    · have z := k.2 c
      have e := z.2
      subst e
      exact ⟨I, Fr.rf _ _, fun n => absurd n c, fun _ => z⟩
theorem bg_k {h h1 : Hp_} (f : Fr wBx h h1) (o : h_i h1 16 7 = h_i h 16 7 ∨ True) : wI h1 = wI h ∧ bL h1 = bL h ∧ (∀ k, sB h1 k = sB h k) ∧ (∀ k, h_i h1 1 k = h_i h 1 k) ∧ ∀ a, 200 ≤ a → a < 300 → h_i h1 a = h_i h a := by
  have rr : ∀ a, 200 ≤ a → a < 300 → h_i h1 a = h_i h a := fun a p q => by
    have z : ∀ i, i < 100 → off wBx (200 + i) = true := fun i hi => List.all_eq_true.mp (show (List.range 100).all (fun i => off wBx (200 + i)) = true by decide +kernel) i (List.mem_range.mpr hi)
    have y := z (a - 200) (by omega)
    rw [show 200 + (a - 200) = a by omega] at y
    exact funext (fun k => fr_i f y k)
  refine ⟨wI_cg (funext (fun k => fr_i f (by decide +kernel) k)), bL_cg (rr 227 (by decide) (by decide)) (rr 228 (by decide) (by decide)) (rr 229 (by decide) (by decide)) (rr 230 (by decide) (by decide)), fun k => ?_, fun k => fr_i f (by decide +kernel) k, rr⟩
  funext i
  unfold sB
  rw [rr 228 (by decide) (by decide), rr 229 (by decide) (by decide), rr 230 (by decide) (by decide)]
def BgM (x1 x2 : Int32) (h h1 : Hp_) (r : Int32) (h' : Hp_) : Prop := (BgK x1 x2 h → r = 1 ∧ Bym PU x1.toNatClampNeg x1 (h_i h 0 0) (BgF x1 x2 h).1 (h_i h 16 7).toNatClampNeg (ptL (bL h x2.toNatClampNeg)) (BgF x1 x2 h).2 () h1 h') ∧ (¬ BgK x1 x2 h → r = 0 ∧ h' = h1)
theorem c_bgM (d : Nat) {h h1 : Hp_} (I1 : Iv h1) (I : Iv h) (x : ExM h) (R : ExR h) (S : ExS h) (e42 : h_i h 12 3 = h_i h 1 42) (f : Fr wBx h h1) (x1 x2 : Int32) : Ci (m_X12_begin (d + 4) 0 0) [.ref 1, .int x1, .int x2] h1 (BgM x1 x2 h h1) := by
  obtain ⟨ew, eb, es, e1, rr⟩ := bg_k f (Or.inr trivial)
  have R1 : ExP h1 := R.2.fr f (by decide +kernel)
  have b3 := x12_in I
  have n3 := n_nat b3.1
  have iN : isN h1 x1 ↔ isM h x1 := by
    unfold isN isM
    rw [e1, ← x.1.1]
  have K := m_bg (PM := PU) pmU d I1 R1 x1 x2 (b := ()) trivial (h_i h (401 + x1.toNatClampNeg)) (fun y => ?_) (bL h x2.toNatClampNeg) (fun b2 => ?_)
  · rw [ew, e1, e1, e1, ← e42, ← x.1.2.1, ← x.1.2.2.1, iN] at K
    exact K
  · have y := iN.mp y
    have hj := (x.rk I y).1
    have mm := menX_in I
    have y2 := y.2
    have a := (x.2.2.1 _ hj).1.1
    refine ⟨(x.2.2.2.1 _ hj).cg (fun a ha => ?_), (x.2.2.1 _ hj).2.1.trans (on_of ⟨y.1, by omega⟩), a.2.2.2.1, a.2.1⟩
    have z : ∀ a ∈ 206 :: mrL, 200 ≤ a ∧ a < 300 := by decide
    rw [rr a (z a ha).1 (z a ha).2]
  · rw [e1, ← e42] at b2
    have nx := n_nat b2.1
    have z := z227 I x2.toNatClampNeg
    rw [rr 227 (by decide) (by decide), rr 228 (by decide) (by decide)]
    refine ⟨⟨⟨b2.1, by omega⟩, ?_, fun k q e => ?_⟩, ?_, mP_b h _⟩
    · rw [bL_l]
      omega
    · have lk : k < (bL h x2.toNatClampNeg).length := (List.getElem?_eq_some_iff.mp e).1
      rw [bL_l] at lk
      rw [bL_g lk] at e
      rw [← Option.some.inj e, Nat.zero_add, es]
      exact ⟨rfl, (S _ (by omega) _ lk).2⟩
    · rw [bL_l]
      exact (of_nat32 (by omega)).symm
theorem ExM.bg {h h1 h2 : Hp_} {x1 x2 r1 r2 : Int32} (I : Iv h) (x : ExM h) (R : ExR h) (S : ExS h) (I1 : Iv h1) (f : Fr wBx h h1) (k1 : BgX x1 x2 h r1 h1) (k2 : BgM x1 x2 h h1 r2 h2) : Iv h2 ∧ Fr mwB h1 h2 ∧ ExM h2 ∧ r1 = r2 := by
  by_cases c : BgK x1 x2 h
  case neg =>
    have z1 := k1.2 c
    have z2 := k2.2 c
    have e := z1.2
    subst e
    have e := z2.2
    subst e
    exact ⟨I, Fr.rf _ _, x, z1.1.trans z2.1.symm⟩
  obtain ⟨ea, z1⟩ := k1.1 c
  obtain ⟨eb, z2⟩ := k2.1 c
  obtain ⟨cM, cB, c4, cR⟩ := c
  refine ⟨z2.1, z2.2.1.1, ?_, ea.trans eb.symm⟩
  obtain ⟨ew, ebL, es, e1, rr⟩ := bg_k f (Or.inr trivial)
  have hj := (x.rk I cM).1
  have m12 := x.1.2.2.2
  have r4 := rwX_in I
  have mm := menX_in I
  have y2 := cM.2
  have b3 := x12_in I
  have n3 := n_nat b3.1
  have nx := n_nat cB.1
  have z227' := z227 I x2.toNatClampNeg
  have ej : x1 = Int32.ofNat x1.toNatClampNeg := (on_of ⟨cM.1, by omega⟩).symm
  have pn : 0 ≤ (h_i h 0 0).toInt := by
    have rg := I.2.1 0 0
    rw [show tf 0 0 = (0, 20000) by decide +kernel] at rg
    exact rg.1
  have f2 : Fr mwB h1 h2 := z2.2.1.1
  have W := wok I R.2
  have K0 := (x.2.2.1 _ hj).1.1
  have e6 := (K0.2.2.2.1 c4).1
  have al := K0.2.2.2.2.2.2.2
  have Rs := Rk.st (n := h_i h 0 0) (w := wI h) (bL h x2.toNatClampNeg) (up1 (up1 (up1 (up1 (up1 (up1 (h_i h (401 + x1.toNatClampNeg)) 4 1) 8 x2) 9 0) 10 (h_i h 0 0)) 11 (Int32.ofNat (h_i h 16 7).toNatClampNeg)) 12 (Int32.ofNat ((h_i h 16 7).toNatClampNeg + mts (bL h x2.toNatClampNeg))))
  have Ks := km_st (n := h_i h 0 0) (nb := (h_i h 12 3).toNatClampNeg) (rw := (h_i h 16 7).toNatClampNeg + mts (bL h x2.toNatClampNeg)) (BL := bL h) W (bL h x2.toNatClampNeg) (up1 (up1 (up1 (up1 (up1 (up1 (h_i h (401 + x1.toNatClampNeg)) 4 1) 8 x2) 9 0) 10 (h_i h 0 0)) 11 (Int32.ofNat (h_i h 16 7).toNatClampNeg)) 12 (Int32.ofNat ((h_i h 16 7).toNatClampNeg + mts (bL h x2.toNatClampNeg)))) 0 (fun y hy => bL_hb S _ y (by omega) hy) rfl e6 (K0.2.1 e6) K0.1 (by rw [if_pos e6] at al; exact al) ⟨cB.1, by show x2.toNatClampNeg < _; omega⟩ List.drop_zero rfl (by rw [bL_l]; omega) (by show 0 ≤ (Int32.ofNat _).toInt; rw [on_j (by omega)]; omega) (by show (Int32.ofNat _).toInt + _ = (Int32.ofNat _).toInt; rw [on_j (by omega), on_j (by omega)]; omega) (by show (Int32.ofNat _).toInt ≤ _; rw [on_j (by omega)]; omega) (by omega)
  have eF : BgF x1 x2 h = fSt (h_i h 0 0) (wI h) (bL h x2.toNatClampNeg) (up1 (up1 (up1 (up1 (up1 (up1 (h_i h (401 + x1.toNatClampNeg)) 4 1) 8 x2) 9 0) 10 (h_i h 0 0)) 11 (Int32.ofNat (h_i h 16 7).toNatClampNeg)) 12 (Int32.ofNat ((h_i h 16 7).toNatClampNeg + mts (bL h x2.toNatClampNeg)))) := rfl
  rw [← eF] at Rs Ks
  have F11 : (BgF x1 x2 h).1 11 = Int32.ofNat (h_i h 16 7).toNatClampNeg + Int32.ofNat (BgF x1 x2 h).2.length := Rs.2.2.2.1
  have F12 : (BgF x1 x2 h).1 12 = Int32.ofNat ((h_i h 16 7).toNatClampNeg + mts (bL h x2.toNatClampNeg)) := Rs.1 12 (by decide)
  have F0 : (BgF x1 x2 h).1 0 = h_i h (401 + x1.toNatClampNeg) 0 := Rs.1 0 (by decide)
  have FE := Rs.2.1
  have FL : (BgF x1 x2 h).2.length ≤ mts (bL h x2.toNatClampNeg) := Rs.2.2.1
  generalize BgF x1 x2 h = F at z1 z2 Ks F11 F12 F0 FE FL
  have ql := ptL_l (bL h x2.toNatClampNeg)
  generalize ptL (bL h x2.toNatClampNeg) = Q at z1 z2 ql
  have i1 : ∀ a k, inw wBx a k = false → inw mwB a k = false → h_i h2 a k = h_i h a k := fun a k o1 o2 => ((f2.2 a k o2).1).trans (f.2 a k o1).1
  have q1 : ∀ a, off wBx a = true → off mwB a = true → h_i h2 a = h_i h a := fun a o1 o2 => funext (fun k => i1 a k (off_inw o1 k) (off_inw o2 k))
  have e2 : ∀ a, off mwB a = true → h_i h2 a = h_i h1 a := fun a o => funext (fun k => fr_i f2 o k)
  have n07 : h_i h2 0 7 = h_i h 0 7 := i1 0 7 (by decide +kernel) (by decide +kernel)
  have n17 : h_i h2 1 7 = h_i h 1 7 := i1 1 7 (by decide +kernel) (by decide +kernel)
  have n00 : h_i h2 0 0 = h_i h 0 0 := i1 0 0 (by decide +kernel) (by decide +kernel)
  have n10 : h_i h2 1 0 = h_i h 1 0 := i1 1 0 (by decide +kernel) (by decide +kernel)
  have n3' : h_i h2 12 3 = h_i h 12 3 := i1 12 3 (by decide +kernel) (by decide +kernel)
  have nr : h_i h2 16 7 = Int32.ofNat ((h_i h 16 7).toNatClampNeg + Q.length) := ((f2.2 16 7 (by decide +kernel)).1).trans z1.2.2.2.2.1
  have n63 : h_i h2 1 63 = Int32.ofNat ((h_i h 16 7).toNatClampNeg + Q.length) := z2.2.2.2.2.1
  have nr' : (h_i h2 16 7).toNatClampNeg = (h_i h 16 7).toNatClampNeg + mts (bL h x2.toNatClampNeg) := by rw [nr, ql, on_k (by omega)]
  have c2 : ∀ l, l < 12 → h_i h2 (401 + l) = h_i h1 (401 + l) := fun l hl => funext (fun k => (f2.2 (401 + l) k (by
    rw [inw_ce (b := 401) ((cn_man hl).trans (by decide))]
    exact off_inw (by decide +kernel) k)).1)
  have cj : h_i h2 (401 + x1.toNatClampNeg) = F.1 := (c2 _ (by omega)).trans z1.2.2.1
  have co : ∀ l, l < 12 → l ≠ x1.toNatClampNeg → h_i h2 (401 + l) = h_i h (401 + l) := fun l hl ne => (c2 l hl).trans (funext (fun k => z1.2.1.i (401 + l) k (by omega) (by
    rw [inw_ce (b := 401) ((cn_man hl).trans (by decide))]
    exact off_inw (by decide +kernel) k)))
  have g47 := (e2 47 (by decide +kernel)).trans z1.2.2.2.1.1
  have g48 := (e2 48 (by decide +kernel)).trans z1.2.2.2.1.2.1
  have g49 := (e2 49 (by decide +kernel)).trans z1.2.2.2.1.2.2.1
  have g50 := (e2 50 (by decide +kernel)).trans z1.2.2.2.1.2.2.2
  have g51 := (e2 51 (by decide +kernel)).trans z1.2.2.2.2.2.1.1
  have g52 := (e2 52 (by decide +kernel)).trans z1.2.2.2.2.2.1.2.1
  have g53 := (e2 53 (by decide +kernel)).trans z1.2.2.2.2.2.1.2.2
  have g238 := z2.2.2.2.1.1
  have g239 := z2.2.2.2.1.2.1
  have g240 := z2.2.2.2.1.2.2.1
  have g244 := z2.2.2.2.1.2.2.2
  have g241 := z2.2.2.2.2.2.1.1
  have g242 := z2.2.2.2.2.2.1.2.1
  have g243 := z2.2.2.2.2.2.1.2.2
  rw [rr 238 (by decide) (by decide)] at g238
  rw [rr 239 (by decide) (by decide)] at g239
  rw [rr 240 (by decide) (by decide)] at g240
  rw [rr 244 (by decide) (by decide)] at g244
  rw [rr 241 (by decide) (by decide)] at g241
  rw [rr 242 (by decide) (by decide)] at g242
  rw [rr 243 (by decide) (by decide)] at g243
  refine ⟨⟨by rw [n07, n17]; exact x.1.1, by rw [n00, n10]; exact x.1.2.1, by rw [nr, n63], by rw [n07]; exact m12⟩, fun k hk => ?_, ?_, fun l hl => ?_, fun k hk => ?_, fun k hk h4 => ?_⟩
  · rw [(f2.2 15 k (off_inw (by decide +kernel) k)).2.2, (f.2 15 k (off_inw (by decide +kernel) k)).2.2]
    exact x.2.1 k (by rw [n07] at hk; exact hk)
  · rw [wI_cg (q1 30 (by decide +kernel) (by decide +kernel)), bL_cg (q1 227 (by decide +kernel) (by decide +kernel)) (q1 228 (by decide +kernel) (by decide +kernel)) (q1 229 (by decide +kernel) (by decide +kernel)) (q1 230 (by decide +kernel) (by decide +kernel)), n3', nr', n07, g47]
    intro l hl
    by_cases el : l = x1.toNatClampNeg
    · subst el
      show Km (wI h) (bL h) _ _ (h_i h2 (401 + x1.toNatClampNeg)) ∧ h_i h2 (401 + x1.toNatClampNeg) 0 = _ ∧ (h_i h2 (401 + x1.toNatClampNeg) 4 = 1 → ∀ k : Nat, (h_i h2 (401 + x1.toNatClampNeg) 11).toInt ≤ (k : Int) → (k : Int) < (h_i h2 (401 + x1.toNatClampNeg) 12).toInt → h_i h2 51 k = 0 ∧ _)
      rw [cj, g51]
      refine ⟨Ks, F0.trans (x.2.2.1 _ hj).2.1, fun _ k a b => ?_⟩
      rw [F11, tx_add (by rw [on_j (by omega), on_j (by omega)]; omega) (by rw [on_j (by omega), on_j (by omega)]; omega), on_j (by omega), on_j (by omega)] at a
      rw [F12, on_j (by omega)] at b
      refine ⟨?_, ?_⟩
      · rw [rz_o _ _ _ _ _ (Or.inr (by omega))]
        exact x.2.2.2.2.2 k (by omega) (by omega)
      · obtain ⟨e, he, _⟩ := rz_at (fun _ => x1) Q (h_i h 16 7).toNatClampNeg (h_i h 47) (k := k) (by omega) (by omega)
        rw [he]
        exact ej
    · obtain ⟨a, b, d⟩ := x.2.2.1.mo (rw' := (h_i h 16 7).toNatClampNeg + mts (bL h x2.toNatClampNeg)) (fun _ _ z => z) (Nat.le_refl _) (fun _ _ => rfl) (Nat.le_add_right _ _) (fun _ _ => rfl) l hl
      obtain ⟨a0, _, _⟩ := x.2.2.1 l hl
      show Km (wI h) (bL h) _ _ (h_i h2 (401 + l)) ∧ h_i h2 (401 + l) 0 = _ ∧ (h_i h2 (401 + l) 4 = 1 → ∀ k : Nat, (h_i h2 (401 + l) 11).toInt ≤ (k : Int) → (k : Int) < (h_i h2 (401 + l) 12).toInt → h_i h2 51 k = 0 ∧ _)
      rw [co l (by omega) el, g51]
      refine ⟨a, b, fun e k k1 k2 => ?_⟩
      obtain ⟨i, y, L, s1, s2, s3⟩ := a0.2 e
      have s12 : (h_i h (401 + l) 12).toInt ≤ ((h_i h 16 7).toNatClampNeg : Int) := s3.2.2.2.2
      have dd := d e k k1 k2
      rw [rz_o _ _ _ _ _ (Or.inl (by omega)), rz_o _ _ _ _ _ (Or.inl (by omega))]
      exact dd
  · rw [n07] at hl
    by_cases el : l = x1.toNatClampNeg
    · rw [el, cj]
      exact z2.2.2.1
    · rw [co l (by omega) el]
      refine ((x.2.2.2.1 l hl).cg (h' := h1) (fun a ha => ?_)).cg (fun a ha => ?_)
      · have z : ∀ a ∈ 206 :: mrL, 200 ≤ a ∧ a < 300 := by decide
        rw [rr a (z a ha).1 (z a ha).2]
      · rcases List.mem_cons.mp ha with e | e
        · rw [e]
          exact fr_i f2 (by decide +kernel) l
        · exact z2.2.1.2 a e l el
  · rw [nr'] at hk
    rw [g47, g48, g49, g50, g51, g52, g53, g238, g239, g240, g241, g242, g243, g244]
    by_cases ck : k < (h_i h 16 7).toNatClampNeg
    · have q := x.2.2.2.2.1 k ck
      rw [rz_o _ _ _ _ _ (Or.inl ck), rz_o _ _ _ _ _ (Or.inl ck), rz_o _ _ _ _ _ (Or.inl ck), rz_o _ _ _ _ _ (Or.inl ck), rz_o _ _ _ _ _ (Or.inl ck), rz_o _ _ _ _ _ (Or.inl ck), rz_o _ _ _ _ _ (Or.inl ck), rz_o _ _ _ _ _ (Or.inl ck), rz_o _ _ _ _ _ (Or.inl ck), rz_o _ _ _ _ _ (Or.inl ck), rz_o _ _ _ _ _ (Or.inl ck), rq_o _ _ _ _ _ (Or.inl ck), rq_o _ _ _ _ _ (Or.inl ck), rq_o _ _ _ _ _ (Or.inl ck), rz_o _ _ _ _ _ (Or.inl ck), rz_o _ _ _ _ _ (Or.inl ck), n00]
      exact q
    · obtain ⟨a1, h1a, h1b⟩ := rz_at (fun _ => x1) Q (h_i h 16 7).toNatClampNeg (h_i h 47) (k := k) (by omega) (by omega)
      obtain ⟨a2, h2a, h2b⟩ := rz_at Prod.fst Q (h_i h 16 7).toNatClampNeg (h_i h 48) (k := k) (by omega) (by omega)
      obtain ⟨a3, h3a, h3b⟩ := rz_at (fun e => h_i h 0 0 + e.2) Q (h_i h 16 7).toNatClampNeg (h_i h 49) (k := k) (by omega) (by omega)
      obtain ⟨a4, h4a, h4b⟩ := rz_at (fun _ => h_i h 0 0) Q (h_i h 16 7).toNatClampNeg (h_i h 50) (k := k) (by omega) (by omega)
      obtain ⟨a5, h5a, _⟩ := rz_at (fun _ => (-1 : Int32)) Q (h_i h 16 7).toNatClampNeg (h_i h 241) (k := k) (by omega) (by omega)
      obtain ⟨a6, h6a, _⟩ := rz_at (fun _ => (-1 : Int32)) Q (h_i h 16 7).toNatClampNeg (h_i h 242) (k := k) (by omega) (by omega)
      have o51 := x.2.2.2.2.2 k (by omega) (by omega)
      refine ⟨stt_ev pn FE (Or.inl ⟨o51, h5a, h6a⟩) (fun _ _ => o51), ⟨?_, ?_, ?_, ?_⟩, by rw [n00]; exact tm_rz (N := (h_i h 0 0).toInt) (fun y => absurd o51 y) (Int.le_refl _)⟩
      · rw [h1a, h1b]
      · rw [h2a, h2b]
      · rw [h3a, h3b]
      · rw [h4a, h4b]
  · rw [nr'] at hk
    rw [g51, rz_o _ _ _ _ _ (Or.inr (by omega))]
    exact x.2.2.2.2.2 k (by omega) (by omega)
/-! MEN: path, beat, constable -/
def mqS : List Nat := [47, 48, 49, 50, 51, 52, 53, 206, 208, 209, 210, 211, 212, 213, 214, 215, 216, 217, 218, 219, 238, 239, 240, 241, 242, 243, 244, 248]
theorem mqS_m : ∀ a ∈ 206 :: mrL, a ∈ mqS := by decide
theorem ExM.cg2 {h h' : Hp_} (x : ExM h) (n : ∀ q ∈ [(0, 7), (1, 7), (0, 0), (1, 0), (16, 7), (1, 63)], h_i h' q.1 q.2 = h_i h q.1 q.2) (r : ∀ a ∈ mqS, h_i h' a = h_i h a) (f : ∀ k, h_r h' 15 k = h_r h 15 k) (c : ∀ j, j < 12 → h_i h' (401 + j) = h_i h (401 + j)) (hw : ∀ a b, ¬ wI h a b = -1 → ¬ wI h' a b = -1) (hb : (h_i h 12 3).toNatClampNeg ≤ (h_i h' 12 3).toNatClampNeg) (hB : ∀ k, k < (h_i h 12 3).toNatClampNeg → bL h' k = bL h k) : ExM h' := by
  have n07 : h_i h' 0 7 = h_i h 0 7 := n (0, 7) (by decide)
  have n17 : h_i h' 1 7 = h_i h 1 7 := n (1, 7) (by decide)
  have n00 : h_i h' 0 0 = h_i h 0 0 := n (0, 0) (by decide)
  have n10 : h_i h' 1 0 = h_i h 1 0 := n (1, 0) (by decide)
  have nr : h_i h' 16 7 = h_i h 16 7 := n (16, 7) (by decide)
  have n63 : h_i h' 1 63 = h_i h 1 63 := n (1, 63) (by decide)
  have m12 := x.1.2.2.2
  have r51 := r 51 (by decide)
  refine ⟨⟨by rw [n07, n17]; exact x.1.1, by rw [n00, n10]; exact x.1.2.1, by rw [nr, n63]; exact x.1.2.2.1, by rw [n07]; exact m12⟩, fun k hk => by rw [f k]; exact x.2.1 k (by rw [n07] at hk; exact hk), ?_, fun j hj => ?_, fun k hk => ?_, fun k hk h4 => ?_⟩
  · rw [nr, r 47 (by decide), n07]
    exact (x.2.2.1.mo hw hb hB (Nat.le_refl _) (fun _ _ => rfl)).cs (fun j hj => c j (by omega)) r51
  · rw [n07] at hj
    rw [c j (by omega)]
    exact (x.2.2.2.1 j hj).cg (fun a ha => congrFun (r a (mqS_m a ha)) j)
  · rw [nr] at hk
    rw [r51, r 52 (by decide), r 53 (by decide), r 241 (by decide), r 242 (by decide), r 243 (by decide), r 47 (by decide), r 48 (by decide), r 49 (by decide), r 50 (by decide), r 238 (by decide), r 239 (by decide), r 240 (by decide), r 244 (by decide), n00]
    exact x.2.2.2.2.1 k hk
  · rw [nr] at hk
    rw [r51]
    exact x.2.2.2.2.2 k hk h4
def exoN (ws : List Nat) : Bool := [(0, 7), (1, 7), (0, 0), (1, 0), (16, 7), (1, 63)].all (fun q => !inw ws q.1 q.2) && mqS.all (fun a => off ws a) && off ws 15 && off ws 401
/-- two frames, and what else changes -/
theorem ExM.f2 {w1 w2 : List Nat} {h h1 h2 : Hp_} (x : ExM h) (f1 : Fr w1 h h1) (f2 : Fr w2 h1 h2) (o1 : exoN w1 = true) (o2 : exoN w2 = true) (hw : ∀ a b, ¬ wI h a b = -1 → ¬ wI h2 a b = -1) (hb : (h_i h 12 3).toNatClampNeg ≤ (h_i h2 12 3).toNatClampNeg) (hB : ∀ k, k < (h_i h 12 3).toNatClampNeg → bL h2 k = bL h k) : ExM h2 := by
  unfold exoN at o1 o2
  simp only [Bool.and_eq_true] at o1 o2
  refine x.cg2 (fun q hq => ?_) (fun a ha => (funext (fun k => fr_i f2 (List.all_eq_true.mp o2.1.1.2 a ha) k)).trans (funext (fun k => fr_i f1 (List.all_eq_true.mp o1.1.1.2 a ha) k))) (fun k => ((f2.2 15 k (off_inw o2.1.2 k)).2.2).trans (f1.2 15 k (off_inw o1.1.2 k)).2.2) (fun j hj => funext (fun k => ((f2.2 (401 + j) k ?_).1).trans (f1.2 (401 + j) k ?_).1)) hw hb hB
  · have z1 := List.all_eq_true.mp o1.1.1.1 q hq
    have z2 := List.all_eq_true.mp o2.1.1.1 q hq
    rw [Bool.not_eq_true'] at z1 z2
    exact ((f2.2 q.1 q.2 z2).1).trans (f1.2 q.1 q.2 z1).1
  · rw [inw_ce (b := 401) ((cn_man hj).trans (by decide))]
    exact off_inw o2.2 k
  · rw [inw_ce (b := 401) ((cn_man hj).trans (by decide))]
    exact off_inw o1.2 k
theorem ExM.pt {h h1 h2 : Hp_} {x1 x2 x3 r1 r2 : Int32} (I : Iv h) (I2 : Iv h2) (x : ExM h) (R : ExR h) (k1 : PtX x1 x2 x3 h r1 h1) (k2 : PtM x1 x2 x3 h1 r2 h2) : ExM h2 := by
  have R2 := (R.pt I k1 k2).1
  have f1 := k1.1
  have f2 := k2.1
  have eE1 : eE h1 = eE h := by
    unfold eE
    rw [show h_i h1 200 = h_i h 200 from funext (fun k => fr_i f1 (by decide +kernel) k), show h_i h1 201 = h_i h 201 from funext (fun k => fr_i f1 (by decide +kernel) k), show h_i h1 202 = h_i h 202 from funext (fun k => fr_i f1 (by decide +kernel) k)]
  have eN1 : eN h1 = eN h := by
    unfold eN
    rw [(f1.2 1 6 (by decide +kernel)).1]
  refine x.f2 f1 f2 (by decide +kernel) (by decide +kernel) (fun a b y => (wI_y I2 R2.2).mpr ?_) (by rw [(f2.2 12 3 (by decide +kernel)).1, (f1.2 12 3 (by decide +kernel)).1]; exact Nat.le_refl _) (fun k _ => ?_)
  · obtain ⟨ya, yb, k, t, w⟩ := (wI_y I R.2).mp y
    refine ⟨ya, yb, k, t, ?_⟩
    by_cases o : okPn (h_i h1 1 6) x1 x2 x3
    · obtain ⟨e, n⟩ := k2.2.2.1 o
      rw [e, n, eE1, eN1]
      exact wkq_mo (Nat.le_succ _) (fun i hi => by
        unfold exE
        rw [if_neg (by omega)]) k _ t w
    · rw [k2.2.2.2 o, eE1, eN1]
      exact w
  · have e : ∀ a, off [10001, 30999] a = true → off [1006, 200999, 201999, 202999] a = true → h_i h2 a = h_i h a := fun a o1 o2 => (funext (fun k => fr_i f2 o2 k)).trans (funext (fun k => fr_i f1 o1 k))
    rw [bL_cg (e 227 (by decide +kernel) (by decide +kernel)) (e 228 (by decide +kernel) (by decide +kernel)) (e 229 (by decide +kernel) (by decide +kernel)) (e 230 (by decide +kernel) (by decide +kernel))]
theorem ExM.bt {N : Nat} {h h1 h2 : Hp_} {r1 r2 : Int32} (T : LiT N h) (x : ExM h) (k1 : Iv h1 ∧ Fr wbx h h1 ∧ Btx h r1 h1) (k2 : (Iv h2 ∧ J2 h2) ∧ Btm (h_i h 31) (xn h) h1 r2 h2) : ExM h2 := by
  obtain ⟨I1, F1, kn, ky⟩ := k1
  obtain ⟨⟨I2, JJ⟩, F2, c8, mn, my⟩ := k2
  have a42 : h_i h1 1 42 = h_i h 12 3 := (F1.2 1 42 (by decide +kernel)).1.trans T.r2.symm
  rw [a42] at mn my
  have b123 : h_i h2 12 3 = h_i h1 12 3 := (F2.2 12 3 (by decide +kernel)).1
  have f227 : ∀ k, h_i h1 227 k = h_i h 227 k := fun k => fr_i F1 (by decide +kernel) k
  have f228 : ∀ k, h_i h1 228 k = h_i h 228 k := fun k => fr_i F1 (by decide +kernel) k
  have f229 : ∀ k, h_i h1 229 k = h_i h 229 k := fun k => fr_i F1 (by decide +kernel) k
  have f230 : ∀ k, h_i h1 230 k = h_i h 230 k := fun k => fr_i F1 (by decide +kernel) k
  have bb1 : bB h1 = 150 * (h_i h 12 3).toNatClampNeg := by
    show 150 * (h_i h1 1 42).toNatClampNeg = _
    rw [a42]
  have b3 := x12_in T.1
  have n3 := n_nat b3.1
  have t1 : (1 : Int32).toInt = 1 := rfl
  have w227 : ∀ k, k < (h_i h 12 3).toNatClampNeg → h_i h2 227 k = h_i h 227 k := fun k hk => by
    by_cases o : okB (h_i h 31) (xn h) (h_i h 12 3)
    · rw [(my o).2.2.2.1 k, if_neg (by omega), f227]
    · rw [(mn o).2.2.2 k, f227]
  have ew : wI h2 = wI h := wI_cg ((funext (fun k => fr_i F2 (by decide +kernel) k)).trans (funext (fun k => fr_i F1 (by decide +kernel) k)))
  refine x.f2 F1 F2 (by decide +kernel) (by decide +kernel) (fun a b y => by rw [ew]; exact y) ?_ (fun k hk => ?_)
  · rw [b123]
    by_cases o : okB (h_i h 31) (xn h) (h_i h 12 3)
    · have ex : (h_i h 12 3 + 1).toInt = (h_i h 12 3).toInt + 1 := tx_add (by rw [t1]; omega) (by rw [t1]; omega)
      have n4 := n_nat (x := h_i h 12 3 + 1) (by omega)
      rw [(ky o).2.1]
      omega
    · rw [(kn o).2.1]
      exact Nat.le_refl _
  · unfold bL
    rw [w227 k hk]
    refine List.map_congr_left (fun i hi => ?_)
    have hi := List.mem_range.mp hi
    have zk := (z227 T.1 k).1
    have cc := c8 (150 * k + i) (by rw [bb1]; omega)
    unfold sB
    rw [cc.1, cc.2.1, cc.2.2, f228, f229, f230]
theorem okc_m {m x1 x2 x3 : Int32} (b : 0 ≤ m.toInt ∧ m.toInt ≤ 12) : okc m x1 x2 x3 ↔ okm m x1 x2 x3 := by
  have t12 : (12 : Int32).toInt = 12 := rfl
  have t15 : (15 : Int32).toInt = 15 := rfl
  have t16 : (16 : Int32).toInt = 16 := rfl
  refine ⟨fun o => ⟨o.1, o.2.1, p15.mp o.2.2.1, fun e => by have := q_lt.mp o.2.2.2; rw [e] at this; omega⟩, fun o => ⟨o.1, o.2.1, p15.mpr o.2.2.1, q_lt.mpr ?_⟩⟩
  rcases Int.lt_or_le m.toInt 12 with u | u
  · omega
  · exact absurd (Int32.toInt_inj.mp (by omega)) o.2.2.2
theorem ExM.cn {h h1 h2 : Hp_} {x1 x2 x3 r1 r2 : Int32} (I : Iv h) (x : ExM h) (R : ExR h) (k1 : Cy x1 x2 x3 h r1 h1 ∧ CyA x1 x2 x3 h h1) (k2 : ocm (h_i h1 1 7) x1 x2 x3 r2 (h_i h2 1 7) ∧ CwA x1 x2 x3 h1 h2) : ExM h2 ∧ r1 = r2 := by
  obtain ⟨ky, ka, kn⟩ := k1
  obtain ⟨km, kb, kc⟩ := k2
  have mm := menX_in I
  have nm := n_nat mm.1
  have e17 : h_i h1 1 7 = h_i h 0 7 := (ky.1.2.1.1 7).trans x.1.1.symm
  rw [e17] at km kb kc
  have oe := okc_m (x1 := x1) (x2 := x2) (x3 := x3) mm
  by_cases o : okc (h_i h 0 7) x1 x2 x3
  case neg =>
    have eh := kn o
    subst eh
    have eh := kc (fun y => o (oe.mpr y))
    subst eh
    refine ⟨x, ?_⟩
    rcases ky.2.1 with p | p
    · exact absurd p.1 o
    · rcases km with q | q
      · exact absurd (oe.mpr q.1) o
      · exact p.2.1.trans q.2.1.symm
  have o' := oe.mp o
  obtain ⟨aN, aO, a0⟩ := ka o
  obtain ⟨bN, _, f2, bO⟩ := kb o'
  have t12 : (12 : Int32).toInt = 12 := rfl
  have t1 : (1 : Int32).toInt = 1 := rfl
  have lt := q_lt.mp o.2.2.2
  have ex : (h_i h 0 7 + 1).toInt = (h_i h 0 7).toInt + 1 := tx_add (by rw [t1]; omega) (by rw [t1]; omega)
  have n1 := n_nat (x := h_i h 0 7 + 1) (by omega)
  have e07 : h_i h1 0 7 = h_i h 0 7 + 1 := by
    rcases ky.2.1 with p | p
    · exact p.2.2
    · exact absurd o p.1
  have er1 : r1 = h_i h 0 7 := by
    rcases ky.2.1 with p | p
    · exact p.2.1
    · exact absurd o p.1
  have em : h_i h2 1 7 = h_i h 0 7 + 1 ∧ r2 = h_i h 0 7 := by
    rcases km with p | p
    · exact ⟨p.2.2, p.2.1⟩
    · exact absurd o' p.1
  refine ⟨?_, er1.trans em.2.symm⟩
  have m07 : (h_i h 0 7 + 1).toNatClampNeg = (h_i h 0 7).toNatClampNeg + 1 := by omega
  have i2 : ∀ a, off wcM a = true → h_i h2 a = h_i h1 a := fun a q => funext (fun k => fr_i f2 q k)
  have n07 : h_i h2 0 7 = h_i h 0 7 + 1 := ((f2.2 0 7 (by decide +kernel)).1).trans e07
  have ia : ∀ a, a ≠ 0 → a < 401 → off wcM a = true → h_i h2 a = h_i h a := fun a n l q => (i2 a q).trans (aO a (by omega) n)
  have nr : h_i h2 16 7 = h_i h 16 7 := congrFun (ia 16 (by decide) (by decide) (by decide +kernel)) 7
  have n63 : h_i h2 1 63 = h_i h 1 63 := ((f2.2 1 63 (by decide +kernel)).1).trans (ky.1.2.1.1 63)
  have n3 : h_i h2 12 3 = h_i h 12 3 := congrFun (ia 12 (by decide) (by decide) (by decide +kernel)) 3
  have c2 : ∀ l, l < 12 → h_i h2 (401 + l) = h_i h1 (401 + l) := fun l hl => funext (fun k => (f2.2 (401 + l) k (by
    rw [inw_ce (b := 401) ((cn_man hl).trans (by decide))]
    exact off_inw (by decide +kernel) k)).1)
  have cz := ky.2.2.2
  have n00 : h_i h2 0 0 = h_i h 0 0 := ((f2.2 0 0 (by decide +kernel)).1).trans (a0 0 (by decide))
  refine ⟨⟨by rw [n07, em.1], ?_, by rw [nr, n63]; exact x.1.2.2.1, by rw [n07]; omega⟩, fun k hk => ?_, ?_, fun l hl => ?_, fun k hk => ?_, fun k hk h4 => ?_⟩
  · rw [(f2.2 0 0 (by decide +kernel)).1, a0 0 (by decide), (f2.2 1 0 (by decide +kernel)).1, ky.1.2.1.1 0]
    exact x.1.2.1
  · rw [n07, ex] at hk
    rw [(f2.2 15 k (off_inw (by decide +kernel) k)).2.2]
    by_cases e : k = (h_i h 0 7).toNatClampNeg
    · rw [e]
      exact (cz.1 o).1
    · rw [(cz.2 k (Or.inl e)).1]
      exact x.2.1 k (by omega)
  · rw [wI_cg (ia 30 (by decide) (by decide) (by decide +kernel)), bL_cg (ia 227 (by decide) (by decide) (by decide +kernel)) (ia 228 (by decide) (by decide) (by decide +kernel)) (ia 229 (by decide) (by decide) (by decide +kernel)) (ia 230 (by decide) (by decide) (by decide +kernel)), n3, nr, ia 47 (by decide) (by decide) (by decide +kernel), n07, m07]
    intro l hl
    show Km (wI h) (bL h) _ _ (h_i h2 (401 + l)) ∧ h_i h2 (401 + l) 0 = _ ∧ (h_i h2 (401 + l) 4 = 1 → ∀ k : Nat, (h_i h2 (401 + l) 11).toInt ≤ (k : Int) → (k : Int) < (h_i h2 (401 + l) 12).toInt → h_i h2 51 k = 0 ∧ _)
    rw [ia 51 (by decide) (by decide) (by decide +kernel), c2 l (by omega)]
    by_cases e : l = (h_i h 0 7).toNatClampNeg
    · rw [e, aN]
      have p3 := p15.mp o.2.2.1
      have t15 : (15 : Int32).toInt = 15 := rfl
      have t0 : (0 : Int32).toInt = 0 := rfl
      have u1 := q_le.mp p3.1
      have u2 := q_le.mp p3.2
      have p3' : 0 ≤ x3.toInt ∧ x3.toInt ≤ 15 := ⟨by omega, by omega⟩
      refine ⟨⟨⟨p3', fun _ => p3'.1, fun y => absurd rfl y, fun _ => ⟨rfl, rfl⟩, fun y => absurd (show (0 : Int32) = 4 from y) (by decide), fun y => absurd (show (0 : Int32) = 2 from y) (by decide), fun y => absurd (show (0 : Int32) = 3 from y) (by decide), ?_⟩, fun y => absurd (show (0 : Int32) = 1 from y) (by decide)⟩, x.m I, fun y => absurd (show (0 : Int32) = 1 from y) (by decide)⟩
      show ¬ wI h x3 (if (-1 : Int32) = -1 then x3 else -1) = -1
      rw [if_pos rfl]
      exact (wok I R.2).2.1 _ p3'
    · rw [aO (401 + l) (by omega) (by omega)]
      exact x.2.2.1 l (by omega)
  · rw [n07, m07] at hl
    rw [c2 l (by omega)]
    by_cases e : l = (h_i h 0 7).toNatClampNeg
    · rw [e, aN]
      exact bN
    · rw [aO (401 + l) (by omega) (by omega)]
      refine (x.2.2.2.1 l (by omega)).cg (fun a ha => ?_)
      have z : ∀ a ∈ 206 :: mrL, 200 ≤ a ∧ a < 300 := by decide
      have za := z a ha
      rw [bO a l (by omega) e, aO a (by omega) (by omega)]
  · rw [nr] at hk
    rw [ia 51 (by decide) (by decide) (by decide +kernel), ia 52 (by decide) (by decide) (by decide +kernel), ia 53 (by decide) (by decide) (by decide +kernel), ia 241 (by decide) (by decide) (by decide +kernel), ia 242 (by decide) (by decide) (by decide +kernel), ia 243 (by decide) (by decide) (by decide +kernel), ia 47 (by decide) (by decide) (by decide +kernel), ia 48 (by decide) (by decide) (by decide +kernel), ia 49 (by decide) (by decide) (by decide +kernel), ia 50 (by decide) (by decide) (by decide +kernel), ia 238 (by decide) (by decide) (by decide +kernel), ia 239 (by decide) (by decide) (by decide +kernel), ia 240 (by decide) (by decide) (by decide +kernel), ia 244 (by decide) (by decide) (by decide +kernel), n00]
    exact x.2.2.2.2.1 k hk
  · rw [nr] at hk
    rw [ia 51 (by decide) (by decide) (by decide +kernel)]
    exact x.2.2.2.2.2 k hk h4
theorem exM_F : ExM HF := by
  have e7 : h_i HF 0 7 = 0 := by decide +kernel
  have er : h_i HF 16 7 = 0 := by decide +kernel
  have z : (0 : Int32).toNatClampNeg = 0 := rfl
  have z2 : (0 : Int32).toInt = 0 := rfl
  refine ⟨⟨by decide +kernel, by decide +kernel, by decide +kernel, by rw [e7, z]; omega⟩, fun k hk => ?_, fun j hj => ?_, fun j hj => ?_, fun k hk => ?_, fun k _ h4 => ?_⟩
  · rw [e7, z2] at hk
    omega
  · rw [e7, z] at hj
    omega
  · rw [e7, z] at hj
    omega
  · rw [er, z] at hk
    omega
  · exact eq_of_beq (List.all_eq_true.mp (show (List.range 400).all (fun k => h_i HF 51 k == 0) = true by decide +kernel) k (List.mem_range.mpr h4))
/-! points: outcomes, causes -/
def outP (o t q : Int32) : Int32 := if o = 0 then 0 else if q < t then 0 else o
def sOP (a b q : Int32) : Int32 := if ¬ a = -1 ∧ ¬ q < a then 1 else if ¬ b = -1 ∧ ¬ q < b then 2 else 0
theorem stt_o {o t c a b e : Int32} (q : Int32) (s : stt o t c a b e) : outP o t q = sOP a b q := by
  unfold outP sOP
  rcases s with ⟨e1, e2, e3⟩ | ⟨e1, e2, e3, p⟩ | ⟨e1, e2, e3, _, p⟩
  · rw [if_pos e1, if_neg (fun y => y.1 e2), if_neg (fun y => y.1 e3)]
  · have n1 : ¬ t = -1 := fun y => by rw [y] at p; exact absurd p (by decide)
    rw [if_neg (by rw [e1]; decide), e2]
    by_cases l : q < t
    · rw [if_pos l, if_neg (fun y => y.2 l), if_neg (fun y => y.1 e3)]
    · rw [if_neg l, if_pos ⟨n1, l⟩, e1]
  · have n1 : ¬ t = -1 := fun y => by rw [y] at p; exact absurd p (by decide)
    rw [if_neg (by rw [e1]; decide), if_neg (c := ¬ a = -1 ∧ ¬ q < a) (fun y => y.1 e2), e3]
    by_cases l : q < t
    · rw [if_pos l, if_neg (fun y => y.2 l)]
    · rw [if_neg l, if_pos ⟨n1, l⟩, e1]
def caP (fr fc ft : Nat → Int32) (i q : Int32) : Nat → Nat → Int32 → Int32
  | 0, _, c => c
  | n + 1, k, c => caP fr fc ft i q n (k + 1) (if fr k = i ∧ ¬ q < ft k then fc k else c)
theorem caP_cg {fr fc ft fr' fc' ft' : Nat → Int32} {i q : Int32} : ∀ (n k : Nat) (c : Int32), (∀ z, z < k + n → fr z = fr' z ∧ fc z = fc' z ∧ ft z = ft' z) → caP fr fc ft i q n k c = caP fr' fc' ft' i q n k c
  | 0, _, _, _ => rfl
  | n + 1, k, c, e => by
    show caP fr fc ft i q n (k + 1) (if fr k = i ∧ ¬ q < ft k then fc k else c) = caP fr' fc' ft' i q n (k + 1) (if fr' k = i ∧ ¬ q < ft' k then fc' k else c)
    have z := e k (by omega)
    rw [z.1, z.2.1, z.2.2]
    exact caP_cg n (k + 1) _ (fun z hz => e z (by omega))
theorem on_p1 (k : Nat) : Int32.ofNat k + 1 = Int32.ofNat (k + 1) := (Int32.ofNat_add k 1).symm
theorem c_oaX (d : Nat) {h : Hp_} (I : Iv h) (x1 x2 : Int32) (v : vp_in x1 400) : Ci (m_X7_outcomeAt (d + 0) 0 0) [.ref 16, .int x1, .int x2] h (fun r h' => h' = h ∧ r = outP (h_i h 51 x1.toNatClampNeg) (h_i h 52 x1.toNatClampNeg) x2) := t_X7_outcomeAt d h I.1 x1 x2 _ ⟨v, fun e => ⟨rfl, by unfold outP; rw [if_pos e]⟩, fun n => ⟨v, fun l => ⟨rfl, by unfold outP; rw [if_neg n, if_pos l]⟩, fun l => ⟨v, rfl, by unfold outP; rw [if_neg n, if_neg l]⟩⟩⟩
theorem c_soM (d : Nat) {h : Hp_} (I : Iv h) (x1 x2 : Int32) (v : vp_in x1 400) : Ci (m_X12_stateOf (d + 0) 0 0) [.ref 1, .int x1, .int x2] h (fun r h' => h' = h ∧ r = sOP (h_i h 241 x1.toNatClampNeg) (h_i h 242 x1.toNatClampNeg) x2) := by
  have two : ∀ (z : ¬ (¬ h_i h 241 x1.toNatClampNeg = -1 ∧ ¬ x2 < h_i h 241 x1.toNatClampNeg)), vp_in x1 400 ∧ (((h_i h 242 x1.toNatClampNeg) = (-1) → h = h ∧ (0 : Int32) = sOP (h_i h 241 x1.toNatClampNeg) (h_i h 242 x1.toNatClampNeg) x2) ∧ (¬ (h_i h 242 x1.toNatClampNeg) = (-1) → vp_in x1 400 ∧ ((x2 < (h_i h 242 x1.toNatClampNeg) → h = h ∧ (0 : Int32) = sOP (h_i h 241 x1.toNatClampNeg) (h_i h 242 x1.toNatClampNeg) x2) ∧ (¬ x2 < (h_i h 242 x1.toNatClampNeg) → h = h ∧ (2 : Int32) = sOP (h_i h 241 x1.toNatClampNeg) (h_i h 242 x1.toNatClampNeg) x2)))) := fun z => by
    unfold sOP
    rw [if_neg z]
    exact ⟨v, fun e => ⟨rfl, by rw [if_neg (fun y => y.1 e)]⟩, fun n => ⟨v, fun l => ⟨rfl, by rw [if_neg (fun y => y.2 l)]⟩, fun l => ⟨rfl, by rw [if_pos ⟨n, l⟩]⟩⟩⟩
  exact t_X12_stateOf d h I.1 x1 x2 _ ⟨v, fun e => two (fun y => y.1 e), fun n => ⟨v, fun l => two (fun y => y.2 l), fun l => ⟨rfl, by unfold sOP; rw [if_pos ⟨n, l⟩]⟩⟩⟩
theorem ca_in {h : Hp_} (I : Iv h) : ((h_i h 16 11).toNatClampNeg ≤ 200 ∧ (((h_i h 16 11).toNatClampNeg : Nat) : Int) = (h_i h 16 11).toInt) ∧ ((h_i h 1 64).toNatClampNeg ≤ 200 ∧ (((h_i h 1 64).toNatClampNeg : Nat) : Int) = (h_i h 1 64).toInt) := by
  have a := f_le (c := 16) (f := 11) (n := 200) I (by decide +kernel)
  have b := f_le (c := 1) (f := 64) (n := 200) I (by decide +kernel)
  have na := n_nat a.1
  have nb := n_nat b.1
  omega
theorem ca_lp (d : Nat) {h : Hp_} (I : Iv h) (x1 x2 : Int32) : ∀ (n k : Nat) (x3 : Int32), k + n = (h_i h 16 11).toNatClampNeg → AW (m_X7_causeAt (d + 1) 0 0) 0 0 22 [(0, .ref 16), (1, .int x1), (2, .int x2), (3, .int x3), (4, .int (Int32.ofNat k))] [] h (kI (fun r h' => h' = h ∧ r = caP (h_i h 54) (h_i h 55) (h_i h 56) x1 x2 n k x3))
  | 0, k, x3, e => by
    have c := (ca_in I).1
    refine t_X7_causeAt_22 d h I.1 x1 x2 x3 (Int32.ofNat k) _ ⟨fun _ => ⟨rfl, rfl⟩, fun z => ?_⟩
    have z := q_nle z
    rw [on_j (by omega)] at z
    omega
  | n + 1, k, x3, e => by
    have c := (ca_in I).1
    have kk : (Int32.ofNat k).toNatClampNeg = k := on_k (by omega)
    have v : vp_in (Int32.ofNat k) 200 := dp_in (lo := 0) (hi := 199) ⟨by rw [on_j (by omega)]; omega, by rw [on_j (by omega)]; show _ ≤ (199 : Int); omega⟩ (by decide) (by decide)
    have go := fun y => ca_lp d I x1 x2 n (k + 1) y (by omega)
    rw [← on_p1 k] at go
    refine t_X7_causeAt_22 d h I.1 x1 x2 x3 (Int32.ofNat k) _ ⟨fun z => ?_, fun _ => ⟨v, fun ne => ?_, fun e1 => ⟨v, fun l => ?_, fun l => ⟨v, ?_⟩⟩⟩⟩
    · have z := q_le.mp z
      rw [on_j (by omega)] at z
      omega
    · rw [kk] at ne
      have z := go x3
      rw [show caP (h_i h 54) (h_i h 55) (h_i h 56) x1 x2 n (k + 1) x3 = caP (h_i h 54) (h_i h 55) (h_i h 56) x1 x2 (n + 1) k x3 by
        show _ = caP (h_i h 54) (h_i h 55) (h_i h 56) x1 x2 n (k + 1) (if h_i h 54 k = x1 ∧ ¬ x2 < h_i h 56 k then h_i h 55 k else x3)
        rw [if_neg (fun y => ne y.1)]] at z
      exact z
    · rw [kk] at l
      have z := go x3
      rw [show caP (h_i h 54) (h_i h 55) (h_i h 56) x1 x2 n (k + 1) x3 = caP (h_i h 54) (h_i h 55) (h_i h 56) x1 x2 (n + 1) k x3 by
        show _ = caP (h_i h 54) (h_i h 55) (h_i h 56) x1 x2 n (k + 1) (if h_i h 54 k = x1 ∧ ¬ x2 < h_i h 56 k then h_i h 55 k else x3)
        rw [if_neg (fun y => y.2 l)]] at z
      exact z
    · rw [kk] at e1 l ⊢
      have z := go (h_i h 55 k)
      rw [show caP (h_i h 54) (h_i h 55) (h_i h 56) x1 x2 n (k + 1) (h_i h 55 k) = caP (h_i h 54) (h_i h 55) (h_i h 56) x1 x2 (n + 1) k x3 by
        show _ = caP (h_i h 54) (h_i h 55) (h_i h 56) x1 x2 n (k + 1) (if h_i h 54 k = x1 ∧ ¬ x2 < h_i h 56 k then h_i h 55 k else x3)
        rw [if_pos ⟨e1, l⟩]] at z
      exact z
theorem co_lp (d : Nat) {h : Hp_} (I : Iv h) (x1 x2 : Int32) : ∀ (n k : Nat) (x3 : Int32), k + n = (h_i h 1 64).toNatClampNeg → AW (m_X12_causeOf (d + 0) 0 0) 0 0 10 [(0, .ref 1), (1, .int x1), (2, .int x2), (3, .int x3), (4, .int (Int32.ofNat k))] [] h (kI (fun r h' => h' = h ∧ r = caP (h_i h 245) (h_i h 246) (h_i h 247) x1 x2 n k x3))
  | 0, k, x3, e => by
    have c := (ca_in I).2
    refine t_X12_causeOf_10 d h I.1 x1 x2 x3 (Int32.ofNat k) _ ⟨fun _ => ⟨rfl, rfl⟩, fun z => ?_⟩
    have z := q_nle z
    rw [on_j (by omega)] at z
    omega
  | n + 1, k, x3, e => by
    have c := (ca_in I).2
    have kk : (Int32.ofNat k).toNatClampNeg = k := on_k (by omega)
    have v : vp_in (Int32.ofNat k) 200 := dp_in (lo := 0) (hi := 199) ⟨by rw [on_j (by omega)]; omega, by rw [on_j (by omega)]; show _ ≤ (199 : Int); omega⟩ (by decide) (by decide)
    have go := fun y => co_lp d I x1 x2 n (k + 1) y (by omega)
    rw [← on_p1 k] at go
    refine t_X12_causeOf_10 d h I.1 x1 x2 x3 (Int32.ofNat k) _ ⟨fun z => ?_, fun _ => ⟨v, fun ne => ?_, fun e1 => ⟨v, fun l => ?_, fun l => ⟨v, ?_⟩⟩⟩⟩
    · have z := q_le.mp z
      rw [on_j (by omega)] at z
      omega
    · rw [kk] at ne
      have z := go x3
      rw [show caP (h_i h 245) (h_i h 246) (h_i h 247) x1 x2 n (k + 1) x3 = caP (h_i h 245) (h_i h 246) (h_i h 247) x1 x2 (n + 1) k x3 by
        show _ = caP (h_i h 245) (h_i h 246) (h_i h 247) x1 x2 n (k + 1) (if h_i h 245 k = x1 ∧ ¬ x2 < h_i h 247 k then h_i h 246 k else x3)
        rw [if_neg (fun y => ne y.1)]] at z
      exact z
    · rw [kk] at l
      have z := go x3
      rw [show caP (h_i h 245) (h_i h 246) (h_i h 247) x1 x2 n (k + 1) x3 = caP (h_i h 245) (h_i h 246) (h_i h 247) x1 x2 (n + 1) k x3 by
        show _ = caP (h_i h 245) (h_i h 246) (h_i h 247) x1 x2 n (k + 1) (if h_i h 245 k = x1 ∧ ¬ x2 < h_i h 247 k then h_i h 246 k else x3)
        rw [if_neg (fun y => y.2 l)]] at z
      exact z
    · rw [kk] at e1 l ⊢
      have z := go (h_i h 246 k)
      rw [show caP (h_i h 245) (h_i h 246) (h_i h 247) x1 x2 n (k + 1) (h_i h 246 k) = caP (h_i h 245) (h_i h 246) (h_i h 247) x1 x2 (n + 1) k x3 by
        show _ = caP (h_i h 245) (h_i h 246) (h_i h 247) x1 x2 n (k + 1) (if h_i h 245 k = x1 ∧ ¬ x2 < h_i h 247 k then h_i h 246 k else x3)
        rw [if_pos ⟨e1, l⟩]] at z
      exact z
/-- the cause of row i, as known at q: the class's, the reference's -/
def cauX (h : Hp_) (i q : Int32) : Int32 := if outP (h_i h 51 i.toNatClampNeg) (h_i h 52 i.toNatClampNeg) q = 2 then caP (h_i h 54) (h_i h 55) (h_i h 56) i q (h_i h 16 11).toNatClampNeg 0 (h_i h 53 i.toNatClampNeg) else -1
def cauM (h : Hp_) (i q : Int32) : Int32 := caP (h_i h 245) (h_i h 246) (h_i h 247) i q (h_i h 1 64).toNatClampNeg 0 (h_i h 243 i.toNatClampNeg)
theorem c_caX (d : Nat) {h : Hp_} (I : Iv h) (x1 x2 : Int32) (v : vp_in x1 400) : Ci (m_X7_causeAt (d + 1) 0 0) [.ref 16, .int x1, .int x2] h (fun r h' => h' = h ∧ r = cauX h x1 x2) := by
  refine t_X7_causeAt d h I.1 x1 x2 _ (Ci.mono (c_oaX d I x1 x2 v) (fun r h1 k => ?_))
  obtain ⟨e, k⟩ := k
  subst e
  unfold cauX
  refine ⟨I.1, fun e2 => ⟨v, ?_⟩, fun n2 => ⟨rfl, ?_⟩⟩
  · rw [k] at e2
    rw [if_pos e2]
    exact ca_lp d I x1 x2 _ 0 _ (Nat.zero_add _)
  · rw [k] at n2
    rw [if_neg n2]
theorem c_coM (d : Nat) {h : Hp_} (I : Iv h) (x1 x2 : Int32) (v : vp_in x1 400) : Ci (m_X12_causeOf (d + 0) 0 0) [.ref 1, .int x1, .int x2] h (fun r h' => h' = h ∧ r = cauM h x1 x2) := t_X12_causeOf d h I.1 x1 x2 _ ⟨v, co_lp d I x1 x2 _ 0 _ (Nat.zero_add _)⟩
def ExC (h : Hp_) : Prop := h_i h 16 11 = h_i h 1 64 ∧ ∀ k, k < (h_i h 16 11).toNatClampNeg → h_i h 54 k = h_i h 245 k ∧ h_i h 55 k = h_i h 246 k ∧ h_i h 56 k = h_i h 247 k
theorem cau_eq {h : Hp_} (x : ExM h) (c : ExC h) (i q : Int32) (hi : i.toNatClampNeg < (h_i h 16 7).toNatClampNeg) : cauX h i q = if sOP (h_i h 241 i.toNatClampNeg) (h_i h 242 i.toNatClampNeg) q = 2 then cauM h i q else -1 := by
  have s := (x.2.2.2.2.1 _ hi).1
  have so := stt_o q s
  unfold cauX
  rw [so]
  by_cases e : sOP (h_i h 241 i.toNatClampNeg) (h_i h 242 i.toNatClampNeg) q = 2
  · rw [if_pos e, if_pos e]
    unfold cauM
    have e3 : h_i h 243 i.toNatClampNeg = h_i h 53 i.toNatClampNeg := by
      rcases s with s | s | s
      · rw [← so] at e
        unfold outP at e
        rw [if_pos s.1] at e
        exact absurd e (by decide)
      · rw [← so] at e
        unfold outP at e
        rw [s.1] at e
        split at e
        · exact absurd e (by decide)
        · split at e
          · exact absurd e (by decide)
          · exact absurd e (by decide)
      · exact s.2.2.2.1
    rw [e3, ← c.1]
    exact caP_cg _ 0 _ (fun z hz => c.2 z (by omega))
  · rw [if_neg e, if_neg e]
/-! point, cause, causes -/
def exoC (ws : List Nat) : Bool := off ws 54 && off ws 55 && off ws 56 && off ws 245 && off ws 246 && off ws 247 && !inw ws 16 11 && !inw ws 1 64
theorem ExC.cg {h h' : Hp_} (e : ExC h) (n : h_i h' 16 11 = h_i h 16 11) (m : h_i h' 1 64 = h_i h 1 64) (a : h_i h' 54 = h_i h 54) (b : h_i h' 55 = h_i h 55) (c : h_i h' 56 = h_i h 56) (a' : h_i h' 245 = h_i h 245) (b' : h_i h' 246 = h_i h 246) (c' : h_i h' 247 = h_i h 247) : ExC h' := by
  unfold ExC
  rw [n, m, a, b, c, a', b', c']
  exact e
theorem ExC.fr {ws : List Nat} {h h' : Hp_} (e : ExC h) (f : Fr ws h h') (o : exoC ws = true) : ExC h' := by
  unfold exoC at o
  simp only [Bool.and_eq_true, Bool.not_eq_true'] at o
  obtain ⟨⟨⟨⟨⟨⟨⟨o1, o2⟩, o3⟩, o4⟩, o5⟩, o6⟩, o7⟩, o8⟩ := o
  exact e.cg (f.2 16 11 o7).1 (f.2 1 64 o8).1 (funext (fun k => fr_i f o1 k)) (funext (fun k => fr_i f o2 k)) (funext (fun k => fr_i f o3 k)) (funext (fun k => fr_i f o4 k)) (funext (fun k => fr_i f o5 k)) (funext (fun k => fr_i f o6 k))
theorem ExC.mf {W : List Nat} {h h' : Hp_} (e : ExC h) (f : Mf W h h') (o : exoC W = true) : ExC h' := by
  unfold exoC at o
  simp only [Bool.and_eq_true, Bool.not_eq_true'] at o
  obtain ⟨⟨⟨⟨⟨⟨⟨o1, o2⟩, o3⟩, o4⟩, o5⟩, o6⟩, o7⟩, o8⟩ := o
  exact e.cg (f.2.2.2 16 11 (by decide) o7).1 (f.1 64) (funext (fun k => (f.2.2.2 54 k (by decide) (off_inw o1 k)).1)) (funext (fun k => (f.2.2.2 55 k (by decide) (off_inw o2 k)).1)) (funext (fun k => (f.2.2.2 56 k (by decide) (off_inw o3 k)).1)) (funext (fun k => f.2.1 245 (by decide) (by decide) k)) (funext (fun k => f.2.1 246 (by decide) (by decide) k)) (funext (fun k => f.2.1 247 (by decide) (by decide) k))
theorem exC_F : ExC HF := by
  have er : h_i HF 16 11 = 0 := by decide +kernel
  refine ⟨by decide +kernel, fun k hk => ?_⟩
  rw [er] at hk
  exact absurd hk (by show ¬ k < 0; omega)
theorem hs_x (d : Nat) {h : Hp_} (I : Iv h) (x1 : Int32) : Ci (m_X7_has (d + 0) 0 0) [.ref 16, .int x1] h (fun r h' => h' = h ∧ ((r = 1 ∧ 0 ≤ x1.toInt ∧ x1.toInt < (h_i h 16 7).toInt) ∨ (r = 0 ∧ ¬ (0 ≤ x1.toInt ∧ x1.toInt < (h_i h 16 7).toInt)))) := by
  have t0 : (0 : Int32).toInt = 0 := rfl
  refine t_X7_has d h I.1 x1 _ ⟨fun l => ⟨rfl, Or.inr ⟨rfl, fun y => ?_⟩⟩, fun l => ⟨fun g => ⟨rfl, Or.inr ⟨rfl, fun y => ?_⟩⟩, fun g => ⟨rfl, Or.inl ⟨rfl, ?_, ?_⟩⟩⟩⟩
  · have := q_lt.mp l
    omega
  · have := q_le.mp g
    omega
  · have := q_nlt l
    omega
  · exact q_nle g
theorem v4 {h : Hp_} (I : Iv h) {x1 : Int32} (b : 0 ≤ x1.toInt ∧ x1.toInt < (h_i h 16 7).toInt) : vp_in x1 400 ∧ x1.toNatClampNeg < (h_i h 16 7).toNatClampNeg := by
  have r := rwX_in I
  have n := n_nat b.1
  exact ⟨dp_in (lo := 0) (hi := 399) ⟨b.1, by show _ ≤ (399 : Int); omega⟩ (by decide) (by decide), by omega⟩
theorem r63 {h : Hp_} (I : Iv h) (x : ExM h) {x1 : Int32} : (0 ≤ x1 ∧ x1 ≤ h_i h 1 63 - 1) ↔ (0 ≤ x1.toInt ∧ x1.toInt < (h_i h 16 7).toInt) := by
  have t0 : (0 : Int32).toInt = 0 := rfl
  have t1 : (1 : Int32).toInt = 1 := rfl
  have r := rwX_in I
  rw [← x.1.2.2.1]
  have s1 : (h_i h 16 7 - 1).toInt = (h_i h 16 7).toInt - 1 := by rw [tx_sub (by rw [t1]; omega) (by rw [t1]; omega), t1]
  refine ⟨fun y => ?_, fun y => ⟨q_le.mpr (by omega), q_le.mpr (by omega)⟩⟩
  have a := q_le.mp y.1
  have b := q_le.mp y.2
  omega
def pntV (h : Hp_) (i q w : Int32) : Int32 := if (0 ≤ q ∧ q ≤ h_i h 0 0) ∧ (0 ≤ i.toInt ∧ i.toInt < (h_i h 16 7).toInt) ∧ h_i h 50 i.toNatClampNeg ≤ q then (if w = 0 then h_i h 47 i.toNatClampNeg else if w = 1 then h_i h 48 i.toNatClampNeg else if w = 2 then h_i h 49 i.toNatClampNeg else if w = 3 then outP (h_i h 51 i.toNatClampNeg) (h_i h 52 i.toNatClampNeg) q else if w = 4 then cauX h i q else -1) else -1
theorem c_pnX (d : Nat) {h : Hp_} (I : Iv h) (x1 x2 x3 : Int32) : Ci (m_X11_point (d + 3) 0 0) [.ref 0, .int x1, .int x2, .int x3] h (fun r h' => h' = h ∧ r = pntV h x1 x2 x3) := by
  refine t_X11_point d h I.1 x1 x2 x3 _ (t_X11_isKnown d h I.1 x2 _ ⟨I.1, fun z => ⟨rfl, ?_⟩, fun z => ?_⟩)
  · unfold pntV
    rw [if_neg (fun y => bI_0.mp z y.1)]
  · have kq : 0 ≤ x2 ∧ x2 ≤ h_i h 0 0 := Decidable.byContradiction (fun n => z (bI_0.mpr n))
    refine Ci.mono (hs_x d I x1) (fun r h5 k => ?_)
    obtain ⟨e, k⟩ := k
    subst e
    rcases k with k | k
    · refine ⟨I.1, fun e0 => absurd (k.1.symm.trans e0) (by decide), fun _ => ?_⟩
      obtain ⟨v, _⟩ := v4 I k.2
      refine t_X7_tell d h5 I.1 x1 x2 x3 _ (Ci.mono (hs_x d I x1) (fun r h6 k' => ?_))
      obtain ⟨e, k'⟩ := k'
      subst e
      rcases k' with k' | k'
      · refine ⟨I.1, fun e0 => absurd (k'.1.symm.trans e0) (by decide), fun _ => ⟨v, fun l => ?_, fun l => ⟨I.1, rfl, ?_⟩⟩⟩
        · have P : pntV h6 x1 x2 x3 = (if x3 = 0 then h_i h6 47 x1.toNatClampNeg else if x3 = 1 then h_i h6 48 x1.toNatClampNeg else if x3 = 2 then h_i h6 49 x1.toNatClampNeg else if x3 = 3 then outP (h_i h6 51 x1.toNatClampNeg) (h_i h6 52 x1.toNatClampNeg) x2 else if x3 = 4 then cauX h6 x1 x2 else -1) := by
            unfold pntV
            rw [if_pos ⟨kq, k.2, l⟩]
          rw [P]
          refine ⟨fun e => ⟨v, I.1, rfl, ?_⟩, fun e => ⟨v, I.1, rfl, ?_⟩, fun e => ⟨v, I.1, rfl, ?_⟩, fun e => Ci.mono (c_oaX d I x1 x2 v) (fun r h7 q => ?_), fun e => Ci.mono (c_caX d I x1 x2 v) (fun r h7 q => ?_), fun e => ⟨I.1, rfl, ?_⟩⟩
          · rw [if_pos e]
          · rw [if_neg (by rw [e]; decide), if_pos e]
          · rw [if_neg (by rw [e]; decide), if_neg (by rw [e]; decide), if_pos e]
          · obtain ⟨e7, q⟩ := q
            subst e7
            rw [if_neg (by rw [e]; decide), if_neg (by rw [e]; decide), if_neg (by rw [e]; decide), if_pos e]
            exact ⟨I.1, I.1, rfl, q⟩
          · obtain ⟨e7, q⟩ := q
            subst e7
            rw [if_neg (by rw [e]; decide), if_neg (by rw [e]; decide), if_neg (by rw [e]; decide), if_neg (by rw [e]; decide), if_pos e]
            exact ⟨I.1, I.1, rfl, q⟩
          · rw [if_neg e.1, if_neg e.2.1, if_neg e.2.2.1, if_neg e.2.2.2.1, if_neg e.2.2.2.2]
        · unfold pntV
          rw [if_neg (fun y => l y.2.2)]
      · exact absurd k.2 k'.2
    · refine ⟨I.1, fun _ => ⟨rfl, ?_⟩, fun n => absurd k.1 n⟩
      unfold pntV
      rw [if_neg (fun y => k.2 y.2.1)]
theorem c_pnM (d : Nat) {h : Hp_} (I : Iv h) (x : ExM h) (c : ExC h) (x1 x2 x3 : Int32) : Ci (m_X12_point (d + 2) 0 0) [.ref 1, .int x1, .int x2, .int x3] h (fun r h' => h' = h ∧ r = pntV h x1 x2 x3) := by
  have e10 := x.1.2.1
  refine t_X12_point d h I.1 x1 x2 x3 _ ⟨fun n => ⟨rfl, ?_⟩, fun y => ⟨fun n => ⟨rfl, ?_⟩, fun kq => ?_⟩⟩
  · unfold pntV
    rw [if_neg (fun y => n ((r63 I x).mpr y.2.1))]
  · unfold pntV
    rw [if_neg (fun y => n (by rw [← e10]; exact y.1))]
  · have b := (r63 I x).mp y
    obtain ⟨v, l⟩ := v4 I b
    have q := x.2.2.2.2.1 _ l
    rw [← e10] at kq
    have so := stt_o x2 q.1
    rw [← q.2.1.2.2.2]
    refine ⟨v, fun lq => ?_, fun lq => ⟨rfl, ?_⟩⟩
    · have P : pntV h x1 x2 x3 = (if x3 = 0 then h_i h 47 x1.toNatClampNeg else if x3 = 1 then h_i h 48 x1.toNatClampNeg else if x3 = 2 then h_i h 49 x1.toNatClampNeg else if x3 = 3 then outP (h_i h 51 x1.toNatClampNeg) (h_i h 52 x1.toNatClampNeg) x2 else if x3 = 4 then cauX h x1 x2 else -1) := by
        unfold pntV
        rw [if_pos ⟨kq, b, lq⟩]
      rw [P]
      refine ⟨fun e => ⟨v, rfl, ?_⟩, fun e => ⟨v, rfl, ?_⟩, fun e => ⟨v, rfl, ?_⟩, fun e => Ci.mono (c_soM d I x1 x2 v) (fun r h7 z => ?_), fun e => Ci.mono (c_soM d I x1 x2 v) (fun r h7 z => ?_), fun e => ⟨rfl, ?_⟩⟩
      · rw [if_pos e, q.2.1.1]
      · rw [if_neg (by rw [e]; decide), if_pos e, q.2.1.2.1]
      · rw [if_neg (by rw [e]; decide), if_neg (by rw [e]; decide), if_pos e, q.2.1.2.2.1]
      · obtain ⟨e7, z⟩ := z
        subst e7
        rw [if_neg (by rw [e]; decide), if_neg (by rw [e]; decide), if_neg (by rw [e]; decide), if_pos e]
        exact ⟨I.1, rfl, z.trans so.symm⟩
      · obtain ⟨e7, z⟩ := z
        subst e7
        rw [if_neg (by rw [e]; decide), if_neg (by rw [e]; decide), if_neg (by rw [e]; decide), if_neg (by rw [e]; decide), if_pos e, cau_eq x c x1 x2 l]
        refine ⟨I.1, fun n2 => ⟨rfl, ?_⟩, fun e2 => Ci.mono (c_coM d I x1 x2 v) (fun r h8 u => ?_)⟩
        · rw [z] at n2
          rw [if_neg n2]
        · obtain ⟨e8, u⟩ := u
          subst e8
          rw [z] at e2
          rw [if_pos e2]
          exact ⟨I.1, rfl, u⟩
      · rw [if_neg e.1, if_neg e.2.1, if_neg e.2.2.1, if_neg e.2.2.2.1, if_neg e.2.2.2.2]
    · unfold pntV
      rw [if_neg (fun y => lq y.2.2)]
/-! cause, causes -/
def okCs (h : Hp_) (x1 x2 : Int32) : Prop := (0 ≤ x1.toInt ∧ x1.toInt < (h_i h 16 7).toInt) ∧ (1 ≤ x2 ∧ x2 ≤ 9) ∧ h_i h 51 x1.toNatClampNeg = 2 ∧ h_i h 16 11 < 200
def wCx : List Nat := [16011, 54999, 55999, 56999]
def wCm : List Nat := [1064, 245999, 246999, 247999]
def CsX (x1 x2 : Int32) (h : Hp_) (r : Int32) (h' : Hp_) : Prop := (okCs h x1 x2 → r = 1 ∧ h_i h' 16 11 = h_i h 16 11 + 1 ∧ h_i h' 54 = up1 (h_i h 54) (h_i h 16 11).toNatClampNeg x1 ∧ h_i h' 55 = up1 (h_i h 55) (h_i h 16 11).toNatClampNeg x2 ∧ h_i h' 56 = up1 (h_i h 56) (h_i h 16 11).toNatClampNeg (h_i h 0 0)) ∧ (¬ okCs h x1 x2 → r = 0 ∧ h' = h)
def CsM (ok : Prop) (x1 x2 : Int32) (h : Hp_) (r : Int32) (h' : Hp_) : Prop := (ok → r = 1 ∧ h_i h' 1 64 = h_i h 1 64 + 1 ∧ h_i h' 245 = up1 (h_i h 245) (h_i h 1 64).toNatClampNeg x1 ∧ h_i h' 246 = up1 (h_i h 246) (h_i h 1 64).toNatClampNeg x2 ∧ h_i h' 247 = up1 (h_i h 247) (h_i h 1 64).toNatClampNeg (h_i h 1 0)) ∧ (¬ ok → r = 0 ∧ h' = h)
theorem c_csX (d : Nat) {h : Hp_} (I : Iv h) (x1 x2 : Int32) : Ci (m_X11_cause (d + 2) 0 0) [.ref 0, .int x1, .int x2] h (fun r h' => Iv h' ∧ Fr wCx h h' ∧ CsX x1 x2 h r h') := by
  have no : ¬ okCs h x1 x2 → Iv h ∧ Fr wCx h h ∧ CsX x1 x2 h 0 h := fun n => ⟨I, Fr.rf _ _, fun y => absurd y n, fun _ => ⟨rfl, rfl⟩⟩
  refine t_X11_cause d h I.1 x1 x2 _ (Ci.mono (hs_x d I x1) (fun r h1 k => ?_))
  obtain ⟨e, k⟩ := k
  subst e
  rcases k with k | k
  · refine ⟨I.1, fun e0 => absurd (k.1.symm.trans e0) (by decide), fun _ => ⟨fun n => no (fun o => n o.2.1), fun y2 => ?_⟩⟩
    obtain ⟨v, _⟩ := v4 I k.2
    refine t_X7_tellAnew d h1 I.1 x1 x2 _ _ (Ci.mono (hs_x d I x1) (fun r h2 k' => ?_))
    obtain ⟨e, k'⟩ := k'
    subst e
    rcases k' with k' | k'
    · refine ⟨I.1, fun e0 => absurd (k'.1.symm.trans e0) (by decide), fun _ => ⟨v, fun n => ⟨I.1, fun _ => no (fun o => n o.2.2.1), fun y => absurd rfl y⟩, fun e2 => ⟨fun l => ?_, fun n => ⟨I.1, fun _ => no (fun o => n o.2.2.2), fun y => absurd rfl y⟩⟩⟩⟩
      have c := (ca_in I).1
      have t200 : (200 : Int32).toInt = 200 := rfl
      have t1 : (1 : Int32).toInt = 1 := rfl
      have l' := q_lt.mp l
      have ex : (h_i h2 16 11 + 1).toInt = (h_i h2 16 11).toInt + 1 := tx_add (by rw [t1]; omega) (by rw [t1]; omega)
      have v2 : vp_in (h_i h2 16 11) 200 := dp_in (lo := 0) (hi := 199) ⟨by show (0 : Int) ≤ _; omega, by show _ ≤ (199 : Int); omega⟩ (by decide) (by decide)
      have i54 := fun {g : Hp_} (J : Iv g) (k : Nat) (y : Int32) => J.im (a := 54) (k := k) (x := y) (by rw [tfa_tf (show tfa 54 = some rtop by decide +kernel)]; exact rtop_in _) (jw_jr (by decide) (by decide) _)
      have i55 := fun {g : Hp_} (J : Iv g) (k : Nat) (y : Int32) => J.im (a := 55) (k := k) (x := y) (by rw [tfa_tf (show tfa 55 = some rtop by decide +kernel)]; exact rtop_in _) (jw_jr (by decide) (by decide) _)
      have i56 := fun {g : Hp_} (J : Iv g) (k : Nat) (y : Int32) => J.im (a := 56) (k := k) (x := y) (by rw [tfa_tf (show tfa 56 = some rtop by decide +kernel)]; exact rtop_in _) (jw_jr (by decide) (by decide) _)
      have I4 : Iv (h_im (h_im (h_im (h_im h2 54 (h_i h2 16 11).toNatClampNeg x1) 55 (h_i h2 16 11).toNatClampNeg x2) 56 (h_i h2 16 11).toNatClampNeg (h_i h2 0 0)) 16 11 (h_i h2 16 11 + 1)) := (i56 (i55 (i54 I _ _) _ _) _ _).im (by rw [show tf 16 11 = (0, 200) by decide +kernel]; exact ⟨by show (0 : Int) ≤ _; omega, by show _ ≤ (200 : Int); omega⟩) (by decide)
      refine ⟨v2, v2, v2, I4.1, fun e => absurd e (by decide), fun _ => ⟨I4, ?_, fun _ => ⟨rfl, im_at, ?_, ?_, ?_⟩, fun n => absurd ⟨k.2, y2, e2, l⟩ n⟩⟩
      · exact ((((Fr.rf _ _).im (inw_row (by decide +kernel) _)).im (inw_row (by decide +kernel) _)).im (inw_row (by decide +kernel) _)).im (by decide +kernel)
      · rw [im_oth (by decide), im_oth (by decide), im_oth (by decide), im_row]
      · rw [im_oth (by decide), im_oth (by decide), im_row, im_oth (by decide)]
      · rw [im_oth (by decide), im_row, im_oth (by decide), im_oth (by decide)]
    · exact absurd k.2 k'.2
  · exact ⟨I.1, fun _ => no (fun o => k.2 o.1), fun n => absurd k.1 n⟩
theorem ok_cs {h : Hp_} (I : Iv h) (x : ExM h) (c : ExC h) {x1 x2 : Int32} : okCs h x1 x2 ↔ ((0 ≤ x1 ∧ x1 ≤ h_i h 1 63 - 1) ∧ sOP (h_i h 241 x1.toNatClampNeg) (h_i h 242 x1.toNatClampNeg) (h_i h 1 0) = 2 ∧ (1 ≤ x2 ∧ x2 ≤ 9) ∧ ¬ h_i h 1 64 = 200) := by
  have t200 : (200 : Int32).toInt = 200 := rfl
  have cc := (ca_in I).1
  have key : (0 ≤ x1.toInt ∧ x1.toInt < (h_i h 16 7).toInt) → (h_i h 51 x1.toNatClampNeg = 2 ↔ sOP (h_i h 241 x1.toNatClampNeg) (h_i h 242 x1.toNatClampNeg) (h_i h 1 0) = 2) := fun b => by
    obtain ⟨_, l⟩ := v4 I b
    have q := x.2.2.2.2.1 _ l
    rw [← stt_o _ q.1, ← x.1.2.1]
    unfold outP
    by_cases e : h_i h 51 x1.toNatClampNeg = 0
    · rw [if_pos e, e]
    · have t := q.2.2 e
      rw [if_neg e, if_neg (fun y => by have := q_lt.mp y; omega)]
  have full : h_i h 16 11 < 200 ↔ ¬ h_i h 1 64 = 200 := by
    rw [← c.1]
    refine ⟨fun l e => ?_, fun n => q_lt.mpr ?_⟩
    · have := q_lt.mp l
      rw [e] at this
      omega
    · rcases Int.lt_or_le (h_i h 16 11).toInt 200 with u | u
      · omega
      · exact absurd (Int32.toInt_inj.mp (by omega)) n
  unfold okCs
  rw [r63 I x]
  exact ⟨fun o => ⟨o.1, (key o.1).mp o.2.2.1, o.2.1, full.mp o.2.2.2⟩, fun o => ⟨o.1, o.2.2.1, (key o.1).mpr o.2.1, full.mpr o.2.2.2⟩⟩
theorem c_csM (d : Nat) {h : Hp_} (I : Iv h) (x1 x2 : Int32) (r4 : (0 ≤ x1 ∧ x1 ≤ h_i h 1 63 - 1) → vp_in x1 400) : Ci (m_X12_cause (d + 1) 0 0) [.ref 1, .int x1, .int x2] h (fun r h' => Iv h' ∧ Fr wCm h h' ∧ CsM ((0 ≤ x1 ∧ x1 ≤ h_i h 1 63 - 1) ∧ sOP (h_i h 241 x1.toNatClampNeg) (h_i h 242 x1.toNatClampNeg) (h_i h 1 0) = 2 ∧ (1 ≤ x2 ∧ x2 ≤ 9) ∧ ¬ h_i h 1 64 = 200) x1 x2 h r h') := by
  have no : ¬ ((0 ≤ x1 ∧ x1 ≤ h_i h 1 63 - 1) ∧ sOP (h_i h 241 x1.toNatClampNeg) (h_i h 242 x1.toNatClampNeg) (h_i h 1 0) = 2 ∧ (1 ≤ x2 ∧ x2 ≤ 9) ∧ ¬ h_i h 1 64 = 200) → Iv h ∧ Fr wCm h h ∧ CsM ((0 ≤ x1 ∧ x1 ≤ h_i h 1 63 - 1) ∧ sOP (h_i h 241 x1.toNatClampNeg) (h_i h 242 x1.toNatClampNeg) (h_i h 1 0) = 2 ∧ (1 ≤ x2 ∧ x2 ≤ 9) ∧ ¬ h_i h 1 64 = 200) x1 x2 h 0 h := fun n => ⟨I, Fr.rf _ _, fun y => absurd y n, fun _ => ⟨rfl, rfl⟩⟩
  refine t_X12_cause d h I.1 x1 x2 _ ⟨fun n => no (fun o => n o.1), fun y => Ci.mono (c_soM d I x1 _ (r4 y)) (fun r h4 k => ?_)⟩
  obtain ⟨e, k⟩ := k
  subst e
  refine ⟨I.1, fun n => no (fun o => n (k.trans o.2.1)), fun e2 => ⟨fun n => no (fun o => n o.2.2.1), fun y2 => ⟨fun n => ?_, fun e => no (fun o => o.2.2.2 e)⟩⟩⟩
  have c := (ca_in I).2
  have t200 : (200 : Int32).toInt = 200 := rfl
  have t1 : (1 : Int32).toInt = 1 := rfl
  have l' : (h_i h4 1 64).toInt < 200 := by
    rcases Int.lt_or_le (h_i h4 1 64).toInt 200 with u | u
    · exact u
    · exact absurd (Int32.toInt_inj.mp (by omega)) n
  have ex : (h_i h4 1 64 + 1).toInt = (h_i h4 1 64).toInt + 1 := tx_add (by rw [t1]; omega) (by rw [t1]; omega)
  have v2 : vp_in (h_i h4 1 64) 200 := dp_in (lo := 0) (hi := 199) ⟨by show (0 : Int) ≤ _; omega, by show _ ≤ (199 : Int); omega⟩ (by decide) (by decide)
  have nr := I.2.1 1 0
  rw [show tf 1 0 = (0, 20000) by decide +kernel] at nr
  have b1 := r4 y
  have I1 : Iv (h_im h4 245 (h_i h4 1 64).toNatClampNeg x1) := I.im (by rw [tfa_tf (show tfa 245 = some rtop by decide +kernel)]; exact rtop_in _) (jw_jr (by decide) (by decide) _)
  have I2 : Iv (h_im (h_im h4 245 (h_i h4 1 64).toNatClampNeg x1) 246 (h_i h4 1 64).toNatClampNeg x2) := I1.im (by rw [tfa_tf (show tfa 246 = some rtop by decide +kernel)]; exact rtop_in _) (jw_jr (by decide) (by decide) _)
  have I3 : Iv (h_im (h_im (h_im h4 245 (h_i h4 1 64).toNatClampNeg x1) 246 (h_i h4 1 64).toNatClampNeg x2) 247 (h_i h4 1 64).toNatClampNeg (h_i h4 1 0)) := I2.im (by rw [tfa_tf (show tfa 247 = some rtop by decide +kernel)]; exact rtop_in _) (jw_jr (by decide) (by decide) _)
  have I4 := I3.im (a := 1) (k := 64) (x := h_i h4 1 64 + 1) (by rw [show tf 1 64 = (0, 200) by decide +kernel]; exact ⟨by show (0 : Int) ≤ _; omega, by show _ ≤ (200 : Int); omega⟩) (by decide)
  refine ⟨v2, v2, v2, I4, ?_, fun _ => ⟨rfl, im_at, ?_, ?_, ?_⟩, fun z => absurd ⟨y, k.symm.trans e2, y2, n⟩ z⟩
  · exact ((((Fr.rf _ _).im (inw_row (by decide +kernel) _)).im (inw_row (by decide +kernel) _)).im (inw_row (by decide +kernel) _)).im (by decide +kernel)
  · rw [im_oth (by decide), im_oth (by decide), im_oth (by decide), im_row]
  · rw [im_oth (by decide), im_oth (by decide), im_row, im_oth (by decide)]
  · rw [im_oth (by decide), im_row, im_oth (by decide), im_oth (by decide)]
theorem ExC.cs {h h1 h2 : Hp_} {x1 x2 r1 r2 : Int32} {ok : Prop} (I : Iv h) (x : ExM h) (c : ExC h) (f1 : Fr wCx h h1) (f2 : Fr wCm h1 h2) (k1 : CsX x1 x2 h r1 h1) (k2 : CsM ok x1 x2 h1 r2 h2) (oe : okCs h x1 x2 ↔ ok) : ExC h2 ∧ r1 = r2 := by
  by_cases o : okCs h x1 x2
  · obtain ⟨a1, a2, a3, a4, a5⟩ := k1.1 o
    obtain ⟨b1, b2, b3, b4, b5⟩ := k2.1 (oe.mp o)
    have e64 : h_i h1 1 64 = h_i h 16 11 := ((f1.2 1 64 (by decide +kernel)).1).trans c.1.symm
    have e10 : h_i h1 1 0 = h_i h 0 0 := ((f1.2 1 0 (by decide +kernel)).1).trans x.1.2.1.symm
    rw [e64] at b2 b3 b4 b5
    rw [e10] at b5
    rw [show h_i h1 245 = h_i h 245 from funext (fun k => fr_i f1 (by decide +kernel) k)] at b3
    rw [show h_i h1 246 = h_i h 246 from funext (fun k => fr_i f1 (by decide +kernel) k)] at b4
    rw [show h_i h1 247 = h_i h 247 from funext (fun k => fr_i f1 (by decide +kernel) k)] at b5
    have n11 : h_i h2 16 11 = h_i h 16 11 + 1 := ((f2.2 16 11 (by decide +kernel)).1).trans a2
    have g54 : h_i h2 54 = h_i h1 54 := funext (fun k => fr_i f2 (by decide +kernel) k)
    have g55 : h_i h2 55 = h_i h1 55 := funext (fun k => fr_i f2 (by decide +kernel) k)
    have g56 : h_i h2 56 = h_i h1 56 := funext (fun k => fr_i f2 (by decide +kernel) k)
    have cc := (ca_in I).1
    have t1 : (1 : Int32).toInt = 1 := rfl
    have ex : (h_i h 16 11 + 1).toInt = (h_i h 16 11).toInt + 1 := tx_add (by rw [t1]; omega) (by rw [t1]; omega)
    have nx := n_nat (x := h_i h 16 11 + 1) (by omega)
    refine ⟨⟨n11.trans b2.symm, fun k hk => ?_⟩, a1.trans b1.symm⟩
    rw [n11] at hk
    rw [g54, g55, g56, a3, a4, a5, b3, b4, b5]
    by_cases e : k = (h_i h 16 11).toNatClampNeg
    · rw [e, up1_at, up1_at, up1_at, up1_at, up1_at, up1_at]
      exact ⟨rfl, rfl, rfl⟩
    · rw [up1_ne e, up1_ne e, up1_ne e, up1_ne e, up1_ne e, up1_ne e]
      exact c.2 k (by omega)
  · obtain ⟨a1, a2⟩ := k1.2 o
    obtain ⟨b1, b2⟩ := k2.2 (fun y => o (oe.mpr y))
    rw [b2, a2]
    exact ⟨c, a1.trans b1.symm⟩
def cnC (h : Hp_) (c q : Int32) : Nat → Nat → Int32 → Int32
  | 0, _, a => a
  | n + 1, k, a => cnC h c q n (k + 1) (if cauX h (Int32.ofNat k) q = c then a + 1 else a)
def cssV (h : Hp_) (c q : Int32) : Int32 := if (1 ≤ c ∧ c ≤ 9) ∧ (0 ≤ q ∧ q ≤ h_i h 0 0) then cnC h c q (h_i h 16 7).toNatClampNeg 0 0 else -1
theorem cn_lpX (d : Nat) {h : Hp_} (I : Iv h) (x1 x2 : Int32) : ∀ (n k : Nat) (x3 : Int32), k + n = (h_i h 16 7).toNatClampNeg → AW (m_X7_countCause (d + 2) 0 0) 0 0 5 [(0, .ref 16), (1, .int x1), (2, .int x2), (3, .int x3), (4, .int (Int32.ofNat k))] [] h (kI (fun r h' => h' = h ∧ r = cnC h x1 x2 n k x3))
  | 0, k, x3, e => by
    have c := rwX_in I
    refine t_X7_countCause_5 d h I.1 x1 x2 x3 (Int32.ofNat k) _ ⟨fun _ => ⟨rfl, rfl⟩, fun z => ?_⟩
    have z := q_nle z
    rw [on_j (by omega)] at z
    omega
  | n + 1, k, x3, e => by
    have c := rwX_in I
    have v : vp_in (Int32.ofNat k) 400 := dp_in (lo := 0) (hi := 399) ⟨by rw [on_j (by omega)]; omega, by rw [on_j (by omega)]; show _ ≤ (399 : Int); omega⟩ (by decide) (by decide)
    have go := fun y => cn_lpX d I x1 x2 n (k + 1) y (by omega)
    rw [← on_p1 k] at go
    refine t_X7_countCause_5 d h I.1 x1 x2 x3 (Int32.ofNat k) _ ⟨fun z => ?_, fun _ => Ci.mono (c_caX d I _ x2 v) (fun r h2 q => ?_)⟩
    · have z := q_le.mp z
      rw [on_j (by omega)] at z
      omega
    · obtain ⟨e2, q⟩ := q
      subst e2
      refine ⟨I.1, fun ne => ?_, fun eq => ?_⟩
      · rw [q] at ne
        have z := go x3
        rw [show cnC h2 x1 x2 n (k + 1) x3 = cnC h2 x1 x2 (n + 1) k x3 by
          show _ = cnC h2 x1 x2 n (k + 1) (if cauX h2 (Int32.ofNat k) x2 = x1 then x3 + 1 else x3)
          rw [if_neg ne]] at z
        exact z
      · rw [q] at eq
        have z := go (x3 + 1)
        rw [show cnC h2 x1 x2 n (k + 1) (x3 + 1) = cnC h2 x1 x2 (n + 1) k x3 by
          show _ = cnC h2 x1 x2 n (k + 1) (if cauX h2 (Int32.ofNat k) x2 = x1 then x3 + 1 else x3)
          rw [if_pos eq]] at z
        exact z
theorem cn_lpM (d : Nat) {h : Hp_} (I : Iv h) (x : ExM h) (c : ExC h) (x1 x2 : Int32) (p1 : 1 ≤ x1) : ∀ (n k : Nat) (x3 : Int32), k + n = (h_i h 16 7).toNatClampNeg → AW (m_X12_causes (d + 2) 0 0) 0 0 25 [(0, .ref 1), (1, .int x1), (2, .int x2), (3, .int x3), (4, .int (Int32.ofNat k))] [] h (kI (fun r h' => h' = h ∧ r = cnC h x1 x2 n k x3))
  | 0, k, x3, e => by
    have cc := rwX_in I
    refine t_X12_causes_25 d h I.1 x1 x2 x3 (Int32.ofNat k) _ ⟨fun _ => ⟨rfl, rfl⟩, fun z => ?_⟩
    have z := q_nle z
    rw [← x.1.2.2.1, on_j (by omega)] at z
    omega
  | n + 1, k, x3, e => by
    have cc := rwX_in I
    have kk : (Int32.ofNat k).toNatClampNeg = k := on_k (by omega)
    have n1 : ¬ (-1 : Int32) = x1 := fun y => by rw [← y] at p1; exact absurd p1 (by decide)
    have v : vp_in (Int32.ofNat k) 400 := dp_in (lo := 0) (hi := 399) ⟨by rw [on_j (by omega)]; omega, by rw [on_j (by omega)]; show _ ≤ (399 : Int); omega⟩ (by decide) (by decide)
    have ce := cau_eq x c (Int32.ofNat k) x2 (by rw [kk]; omega)
    have go := fun y => cn_lpM d I x c x1 x2 p1 n (k + 1) y (by omega)
    rw [← on_p1 k] at go
    have no : ¬ cauX h (Int32.ofNat k) x2 = x1 → AW (m_X12_causes (d + 2) 0 0) 0 0 25 [(0, .ref 1), (1, .int x1), (2, .int x2), (3, .int (x3 + 0)), (4, .int (Int32.ofNat k + 1))] [] h (kI (fun r h' => h' = h ∧ r = cnC h x1 x2 (n + 1) k x3)) := fun ne => by
      have z := go x3
      rw [show cnC h x1 x2 n (k + 1) x3 = cnC h x1 x2 (n + 1) k x3 by
        show _ = cnC h x1 x2 n (k + 1) (if cauX h (Int32.ofNat k) x2 = x1 then x3 + 1 else x3)
        rw [if_neg ne]] at z
      rw [Int32.add_zero]
      exact z
    refine t_X12_causes_25 d h I.1 x1 x2 x3 (Int32.ofNat k) _ ⟨fun z => ?_, fun _ => Ci.mono (c_soM d I _ x2 v) (fun r h2 q => ?_)⟩
    · have z := q_le.mp z
      rw [← x.1.2.2.1, on_j (by omega)] at z
      omega
    · obtain ⟨e2, q⟩ := q
      subst e2
      refine ⟨I.1, fun ne => no ?_, fun eq => Ci.mono (c_coM d I _ x2 v) (fun r8 h3 u => ?_)⟩
      · rw [q] at ne
        rw [ce, if_neg ne]
        exact n1
      · obtain ⟨e3, u⟩ := u
        subst e3
        rw [q] at eq
        rw [if_pos eq] at ce
        refine ⟨I.1, fun ne => no ?_, fun ey => ?_⟩
        · rw [ce]
          rw [u] at ne
          exact ne
        · rw [u, ← ce] at ey
          have z := go (x3 + 1)
          rw [show cnC h3 x1 x2 n (k + 1) (x3 + 1) = cnC h3 x1 x2 (n + 1) k x3 by
            show _ = cnC h3 x1 x2 n (k + 1) (if cauX h3 (Int32.ofNat k) x2 = x1 then x3 + 1 else x3)
            rw [if_pos ey]] at z
          exact z
theorem c_ctX (d : Nat) {h : Hp_} (I : Iv h) (x1 x2 : Int32) : Ci (m_X11_causes (d + 3) 0 0) [.ref 0, .int x1, .int x2] h (fun r h' => h' = h ∧ r = cssV h x1 x2) := by
  refine t_X11_causes d h I.1 x1 x2 _ ⟨fun n => ⟨rfl, by unfold cssV; rw [if_neg (fun y => n y.1)]⟩, fun y => t_X11_isKnown d h I.1 x2 _ ⟨I.1, fun z => ⟨rfl, by unfold cssV; rw [if_neg (fun y => bI_0.mp z y.2)]⟩, fun z => ?_⟩⟩
  have kq : 0 ≤ x2 ∧ x2 ≤ h_i h 0 0 := Decidable.byContradiction (fun n => z (bI_0.mpr n))
  refine t_X7_countCause d h x1 x2 _ ?_
  have w := cn_lpX d I x1 x2 _ 0 0 (Nat.zero_add _)
  unfold cssV
  rw [if_pos ⟨y, kq⟩]
  exact AW.mono w (fun v h' k => by
    obtain ⟨r, e, k⟩ := k
    obtain ⟨e2, k⟩ := k
    subst e2
    exact ⟨r, e, I.1, rfl, k⟩)
theorem c_ctM (d : Nat) {h : Hp_} (I : Iv h) (x : ExM h) (c : ExC h) (x1 x2 : Int32) : Ci (m_X12_causes (d + 2) 0 0) [.ref 1, .int x1, .int x2] h (fun r h' => h' = h ∧ r = cssV h x1 x2) := by
  refine t_X12_causes d h I.1 x1 x2 _ ⟨fun n => ⟨rfl, by unfold cssV; rw [if_neg (fun y => n y.1)]⟩, fun y => ⟨fun kq => ?_, fun n => ⟨rfl, by unfold cssV; rw [if_neg (fun y => n (by rw [← x.1.2.1]; exact y.2))]⟩⟩⟩
  rw [← x.1.2.1] at kq
  have w := cn_lpM d I x c x1 x2 y.1 _ 0 0 (Nat.zero_add _)
  unfold cssV
  rw [if_pos ⟨y, kq⟩]
  exact w
