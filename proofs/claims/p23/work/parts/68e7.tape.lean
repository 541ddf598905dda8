/-! a step in one number: its parts again -/
theorem or_add {a b i : Nat} (h : b < 2 ^ i) : b ||| (a * 2 ^ i) = a * 2 ^ i + b := by
  rw [Nat.or_comm, ← Nat.shiftLeft_eq, ← Nat.shiftLeft_add_eq_or_of_lt h]
theorem nv_pk {k a b : Int32} (hk : 0 ≤ k.toInt ∧ k.toInt ≤ 3) (ha : 0 ≤ a.toInt ∧ a.toInt ≤ 15) (hb : 0 ≤ b.toInt ∧ b.toInt ≤ 1440) : nv ((k ||| (a <<< ((2 : Int32) &&& 31))) ||| (b <<< ((6 : Int32) &&& 31))) = 64 * nv b + 4 * nv a + nv k ∧ (nv k : Int) = k.toInt ∧ (nv a : Int) = a.toInt ∧ (nv b : Int) = b.toInt := by
  have k1 := (nv_of hk.1).1
  have a1 := (nv_of ha.1).1
  have b1 := (nv_of hb.1).1
  refine ⟨?_, k1.symm, a1.symm, b1.symm⟩
  rw [nv_or, nv_or, nv_shl (by decide) (by decide), nv_shl (by decide) (by decide), show nv 2 = 2 from rfl, show nv 6 = 6 from rfl]
  rw [Nat.mod_eq_of_lt (show nv a * 2 ^ 2 < 4294967296 by omega), Nat.mod_eq_of_lt (show nv b * 2 ^ 6 < 4294967296 by omega)]
  rw [or_add (show nv k < 2 ^ 2 by omega), or_add (show nv a * 2 ^ 2 + nv k < 2 ^ 6 by omega)]
  omega
theorem pk_pos {k a b : Int32} (hk : 0 ≤ k.toInt ∧ k.toInt ≤ 3) (ha : 0 ≤ a.toInt ∧ a.toInt ≤ 15) (hb : 0 ≤ b.toInt ∧ b.toInt ≤ 1440) : 0 ≤ ((k ||| (a <<< ((2 : Int32) &&& 31))) ||| (b <<< ((6 : Int32) &&& 31))).toInt := by
  have q := nv_pk hk ha hb
  rw [nv_pos (by omega)]
  omega
/-- the place -/
theorem pk_pl {k a b : Int32} (hk : 0 ≤ k.toInt ∧ k.toInt ≤ 3) (ha : 0 ≤ a.toInt ∧ a.toInt ≤ 15) (hb : 0 ≤ b.toInt ∧ b.toInt ≤ 1440) : (((k ||| (a <<< ((2 : Int32) &&& 31))) ||| (b <<< ((6 : Int32) &&& 31))) >>> ((2 : Int32) &&& 31)) &&& 15 = a := by
  have q := nv_pk hk ha hb
  refine nv_i ?_
  rw [nv_and, nv_shr (pk_pos hk ha hb) (by decide) (by decide), q.1, show nv 2 = 2 from rfl, show nv 15 = 2 ^ 4 - 1 from rfl, Nat.and_two_pow_sub_one_eq_mod]
  omega
/-- the second number -/
theorem pk_am {k a b : Int32} (hk : 0 ≤ k.toInt ∧ k.toInt ≤ 3) (ha : 0 ≤ a.toInt ∧ a.toInt ≤ 15) (hb : 0 ≤ b.toInt ∧ b.toInt ≤ 1440) : ((k ||| (a <<< ((2 : Int32) &&& 31))) ||| (b <<< ((6 : Int32) &&& 31))) >>> ((6 : Int32) &&& 31) = b := by
  have q := nv_pk hk ha hb
  refine nv_i ?_
  rw [nv_shr (pk_pos hk ha hb) (by decide) (by decide), q.1, show nv 6 = 6 from rfl]
  omega
theorem pkS_pl {x : Sp3} (h : stR x) (n : ¬ x.1 = 1) : (pkS x >>> ((2 : Int32) &&& 31)) &&& 15 = x.2.1 := by
  unfold pkS
  rw [if_neg n]
  rcases h with h | h | h | h
  · exact pk_pl (by rw [h.1]; decide) ⟨h.2.1, h.2.2.1⟩ (by rw [h.2.2.2]; decide)
  · exact absurd h.1 n
  · exact pk_pl (by rw [h.1]; decide) ⟨h.2.1, h.2.2.1⟩ ⟨h.2.2.2.1, h.2.2.2.2⟩
  · exact pk_pl (by rw [h.1]; decide) (by rw [h.2.1]; decide) (by rw [h.2.2]; decide)
theorem pkS_am {x : Sp3} (h : stR x) : pkS x >>> ((6 : Int32) &&& 31) = if x.1 = 1 then x.2.1 else x.2.2 := by
  unfold pkS
  rcases h with h | h | h | h
  · rw [if_neg (by rw [h.1]; decide), if_neg (by rw [h.1]; decide)]
    exact pk_am (by rw [h.1]; decide) ⟨h.2.1, h.2.2.1⟩ (by rw [h.2.2.2]; decide)
  · rw [if_pos h.1, if_pos h.1]
    exact pk_am (by decide) (by decide) ⟨by omega, by omega⟩
  · rw [if_neg (by rw [h.1]; decide), if_neg (by rw [h.1]; decide)]
    exact pk_am (by rw [h.1]; decide) ⟨h.2.1, h.2.2.1⟩ ⟨h.2.2.2.1, h.2.2.2.2⟩
  · rw [if_neg (by rw [h.1]; decide), if_neg (by rw [h.1]; decide)]
    exact pk_am (by rw [h.1]; decide) (by rw [h.2.1]; decide) (by rw [h.2.2]; decide)
/-- what one who goes a beat's steps sees: from place 0 at minute 0, w the walks -/
def wkS (w : Nat → Nat → Option Int) (pl : Nat) (fr to : Int) : List Sp3 → Int → Nat → Bool
  | [], _, _ => false
  | x :: L, m, a => if x.1 = 3 then (if a = pl ∧ fr ≤ m + 1 ∧ m + 1 ≤ to then true else wkS w pl fr to L (m + 1) a) else if x.1 = 1 then wkS w pl fr to L (m + x.2.1.toInt) a else match w a x.2.1.toNatClampNeg with
    | none => wkS w pl fr to L m a
    | some k => wkS w pl fr to L (if x.1 = 2 then (if m + k < x.2.2.toInt then x.2.2.toInt else m + k) else m + k) x.2.1.toNatClampNeg
theorem wkS_l {w : Nat → Nat → Option Int} (hw : ∀ a b k, w a b = some k → 0 ≤ k) {pl : Nat} {fr to : Int} : ∀ (L : List Sp3) (m : Int) (a : Nat), (∀ x ∈ L, stR x) → to ≤ m → wkS w pl fr to L m a = false
  | [], _, _, _, _ => rfl
  | x :: L, m, a, hs, h => by
    have hx := hs x List.mem_cons_self
    have hL : ∀ y ∈ L, stR y := fun y hy => hs y (List.mem_cons_of_mem _ hy)
    unfold wkS
    split
    · rw [if_neg (fun y => by have := y.2.2; omega)]
      exact wkS_l hw L _ a hL (by omega)
    · split
      · rename_i e
        have k : 1 ≤ x.2.1.toInt := by
          rcases hx with q | q | q | q
          · rw [e] at q; exact absurd q.1 (by decide)
          · exact q.2.1
          · rw [e] at q; exact absurd q.1 (by decide)
          · rw [e] at q; exact absurd q.1 (by decide)
        exact wkS_l hw L _ a hL (by omega)
      · split
        · exact wkS_l hw L m a hL h
        · rename_i k e
          have k0 := hw _ _ _ e
          refine wkS_l hw L _ _ hL ?_
          split
          · split
            · omega
            · omega
          · omega
/-! the class: what one who goes a beat's steps sees -/
theorem dr_d {L : List Sp3} {i : Nat} (h : i < L.length) : L.drop i = L[i] :: L.drop (i + 1) := List.drop_eq_getElem_cons h
theorem c_lkX (d : Nat) {h : Hp_} (I : Iv h) (w : Nat → Nat → Option Int) (hw : ∀ a b k, w a b = some k → 0 ≤ k ∧ k ≤ 900) (hm : ∀ a b : Nat, a < 16 → b < 16 → Ci (m_X9_minutes (d + 1) 0 0) [.ref 10, .int (Int32.ofNat a), .int (Int32.ofNat b)] h (fun r h' => h' = h ∧ ((∃ k, w a b = some k ∧ r.toInt = k) ∨ (w a b = none ∧ r = -1)))) (x1 x2 x3 x4 : Int32) (b1 : ¬ x1 < 0 ∧ ¬ h_i h 12 3 ≤ x1) (b2 : 0 ≤ x2.toInt ∧ x2.toInt ≤ 15) (L : List Sp3) (hL : L.length ≤ 150) (h35 : h_i h 35 x1.toNatClampNeg = Int32.ofNat L.length) (hs : ∀ k x, L[k]? = some x → h_i h 34 (150 * x1.toNatClampNeg + k) = pkS x) (hr : ∀ x ∈ L, stR x) : Ci (m_X0_looksAt (d + 2) 0 0) [.ref 12, .int x1, .int x2, .int x3, .int x4, .ref 10] h (fun r h' => h' = h ∧ ((r = 1 ∧ wkS w x2.toNatClampNeg x3.toInt x4.toInt L 0 0 = true) ∨ (r = 0 ∧ wkS w x2.toNatClampNeg x3.toInt x4.toInt L 0 0 = false))) := by
  have t1 : (1 : Int32).toInt = 1 := rfl
  have t0 : (0 : Int32).toInt = 0 := rfl
  have t150 : (150 : Int32).toInt = 150 := rfl
  have t1800 : (1800 : Int32).toInt = 1800 := rfl
  have b3 := x12_in I
  have c0 := q_nlt b1.1
  have c1 := q_nle b1.2
  have n1 := n_nat (x := x1) (by omega)
  have n2 := n_nat b2.1
  have lp : ∀ (n i a : Nat) (x6 : Int32), i + n = L.length → a < 16 → 0 ≤ x6.toInt → x6.toInt ≤ 1440 + 900 * (i : Int) → AW (m_X0_looksAt (d + 2) 0 0) 0 0 16 [(0, .ref 12), (1, .int x1), (2, .int x2), (3, .int x3), (4, .int x4), (5, .ref 10), (6, .int x6), (7, .int (Int32.ofNat a)), (8, .int (Int32.ofNat L.length)), (9, .int (Int32.ofNat i))] [] h (kI (fun r h' => h' = h ∧ ((r = 1 ∧ wkS w x2.toNatClampNeg x3.toInt x4.toInt (L.drop i) x6.toInt a = true) ∨ (r = 0 ∧ wkS w x2.toNatClampNeg x3.toInt x4.toInt (L.drop i) x6.toInt a = false)))) := by
    have ol := on_j (n := L.length) (by omega)
    intro n
    induction n with
    | zero =>
      intro i a x6 e ha l6 u6
      have oi := on_j (n := i) (by omega)
      refine t_X0_looksAt_16 d h I.1 x1 x2 x3 x4 x6 _ _ _ _ ⟨fun _ => ⟨rfl, Or.inr ⟨rfl, ?_⟩⟩, fun z => absurd (q_le.mpr (by omega)) z⟩
      rw [List.drop_eq_nil_of_le (by omega)]
      rfl
    | succ n ih =>
      intro i a x6 e ha l6 u6
      have oi := on_j (n := i) (by omega)
      have oa := on_j (n := a) (by omega)
      have li : i < L.length := by omega
      have gi : L[i]? = some (L[i]'li) := List.getElem?_eq_getElem li
      have sr := hr _ (List.getElem_mem li)
      have st := hs i _ gi
      rw [dr_d li]
      generalize L[i]'li = x at sr st
      have m1 : (x1 * 150).toInt = x1.toInt * 150 := by rw [tx_mul (by rw [t150]; omega) (by rw [t150]; omega), t150]
      have m2 : (x1 * 150 + Int32.ofNat i).toInt = x1.toInt * 150 + (i : Int) := by rw [tx_add (by omega) (by omega), m1, oi]
      have nm := n_nat (x := x1 * 150 + Int32.ofNat i) (by omega)
      have km : (x1 * 150 + Int32.ofNat i).toNatClampNeg = 150 * x1.toNatClampNeg + i := by omega
      have s1 : (x6 + 1).toInt = x6.toInt + 1 := tx_add (by rw [t1]; omega) (by rw [t1]; omega)
      have kd : x.1 = 0 ∨ x.1 = 1 ∨ x.1 = 2 ∨ x.1 = 3 := by
        rcases sr with q | q | q | q
        · exact Or.inl q.1
        · exact Or.inr (Or.inl q.1)
        · exact Or.inr (Or.inr (Or.inl q.1))
        · exact Or.inr (Or.inr (Or.inr q.1))
      refine t_X0_looksAt_16 d h I.1 x1 x2 x3 x4 x6 _ _ _ _ ⟨fun z => ?_, fun _ => t_X0_stepAt d h I.1 x1 _ _ ⟨fun z => ?_, fun _ => ⟨fun z => ?_, fun _ => ⟨dp_in (lo := 0) (hi := 1799) ⟨by show (0 : Int) ≤ _; omega, by show _ ≤ (1799 : Int); omega⟩ (by decide) (by decide), ?_⟩⟩⟩⟩
      · have z := q_le.mp z
        omega
      · have z := q_lt.mp z
        omega
      · have z := q_le.mp z
        omega
      · rw [km, st, on_s (n := i) (by omega)]
        refine ⟨I.1, t_X0_kindOf d h _ _ ⟨I.1, ?_⟩⟩
        rw [pkS_3 kd]
        refine ⟨fun n3 => ⟨fun ny => ?_, fun y1 => ?_⟩, fun y3 => ?_⟩
        · have pl := pkS_pl sr ny
          have p0 : 0 ≤ x.2.1.toInt ∧ x.2.1.toInt ≤ 15 := by
            rcases sr with q | q | q | q
            · exact ⟨q.2.1, q.2.2.1⟩
            · exact absurd q.1 ny
            · exact ⟨q.2.1, q.2.2.1⟩
            · exact absurd q.1 n3
          have np := n_nat p0.1
          have ep : x.2.1 = Int32.ofNat x.2.1.toNatClampNeg := (of_nat32 p0.1).symm
          have um : wkS w x2.toNatClampNeg x3.toInt x4.toInt (x :: L.drop (i + 1)) x6.toInt a = match w a x.2.1.toNatClampNeg with
              | none => wkS w x2.toNatClampNeg x3.toInt x4.toInt (L.drop (i + 1)) x6.toInt a
              | some k => wkS w x2.toNatClampNeg x3.toInt x4.toInt (L.drop (i + 1)) (if x.1 = 2 then (if x6.toInt + k < x.2.2.toInt then x.2.2.toInt else x6.toInt + k) else x6.toInt + k) x.2.1.toNatClampNeg := by
            show (if x.1 = 3 then _ else if x.1 = 1 then _ else _) = _
            rw [if_neg n3, if_neg ny]
          refine t_X0_placeOf d h _ _ ⟨I.1, ?_⟩
          rw [pl]
          have cm := hm a x.2.1.toNatClampNeg ha (by omega)
          rw [← ep] at cm
          refine Ci.mono cm (fun r18 h16 q => ?_)
          obtain ⟨eh, q⟩ := q
          subst eh
          refine ⟨I.1, fun er => ?_, fun nr => ?_⟩
          · have wn : w a x.2.1.toNatClampNeg = none := by
              rcases q with ⟨k, q1, q2⟩ | q
              · have := (hw _ _ _ q1).1
                rw [er] at q2
                have o : (-1 : Int32).toInt = -1 := rfl
                omega
              · exact q.1
            rw [um, wn]
            exact ih (i + 1) a x6 (by omega) ha l6 (by omega)
          · obtain ⟨k, q1, q2⟩ : ∃ k, w a x.2.1.toNatClampNeg = some k ∧ r18.toInt = k := by
              rcases q with q | q
              · exact q
              · exact absurd q.2 nr
            have k9 := hw _ _ _ q1
            have s2 : (x6 + r18).toInt = x6.toInt + k := by rw [tx_add (by omega) (by omega), q2]
            rw [um, q1]
            refine t_X0_placeOf d h16 _ _ ⟨I.1, fun n2 => ?_, fun y2 => t_X0_amountOf d h16 _ _ ⟨I.1, ?_⟩⟩
            · rw [pl]
              have g := ih (i + 1) x.2.1.toNatClampNeg (x6 + r18) (by omega) (by omega) (by omega) (by omega)
              rw [← ep, s2] at g
              show AW _ _ _ _ _ _ _ (kI (fun r h' => h' = h16 ∧ ((r = 1 ∧ wkS w x2.toNatClampNeg x3.toInt x4.toInt (L.drop (i + 1)) (if x.1 = 2 then (if x6.toInt + k < x.2.2.toInt then x.2.2.toInt else x6.toInt + k) else x6.toInt + k) x.2.1.toNatClampNeg = true) ∨ (r = 0 ∧ wkS w x2.toNatClampNeg x3.toInt x4.toInt (L.drop (i + 1)) (if x.1 = 2 then (if x6.toInt + k < x.2.2.toInt then x.2.2.toInt else x6.toInt + k) else x6.toInt + k) x.2.1.toNatClampNeg = false))))
              rw [if_neg n2]
              exact g
            · have am := pkS_am sr
              rw [if_neg ny] at am
              rw [pl, am]
              have a9 : 0 ≤ x.2.2.toInt ∧ x.2.2.toInt ≤ 1440 := by
                rcases sr with q | q | q | q
                · exact absurd (q.1.symm.trans y2) (by decide)
                · exact absurd q.1 ny
                · exact ⟨q.2.2.2.1, q.2.2.2.2⟩
                · exact absurd q.1 n3
              have gm : (if (x6 + r18) < x.2.2 then x.2.2 else (x6 + r18)).toInt = if x6.toInt + k < x.2.2.toInt then x.2.2.toInt else x6.toInt + k := by
                by_cases c : x6 + r18 < x.2.2
                · have c' := q_lt.mp c
                  rw [if_pos c, if_pos (by omega)]
                · have c' := q_nlt c
                  rw [if_neg c, if_neg (by omega), s2]
              have lo : 0 ≤ (if (x6 + r18) < x.2.2 then x.2.2 else (x6 + r18)).toInt ∧ (if (x6 + r18) < x.2.2 then x.2.2 else (x6 + r18)).toInt ≤ 1440 + 900 * ((i + 1 : Nat) : Int) := by
                rw [gm]
                split <;> omega
              have g := ih (i + 1) x.2.1.toNatClampNeg (if (x6 + r18) < x.2.2 then x.2.2 else (x6 + r18)) (by omega) (by omega) lo.1 lo.2
              rw [← ep, gm] at g
              show AW _ _ _ _ _ _ _ (kI (fun r h' => h' = h16 ∧ ((r = 1 ∧ wkS w x2.toNatClampNeg x3.toInt x4.toInt (L.drop (i + 1)) (if x.1 = 2 then (if x6.toInt + k < x.2.2.toInt then x.2.2.toInt else x6.toInt + k) else x6.toInt + k) x.2.1.toNatClampNeg = true) ∨ (r = 0 ∧ wkS w x2.toNatClampNeg x3.toInt x4.toInt (L.drop (i + 1)) (if x.1 = 2 then (if x6.toInt + k < x.2.2.toInt then x.2.2.toInt else x6.toInt + k) else x6.toInt + k) x.2.1.toNatClampNeg = false))))
              rw [if_pos y2]
              exact g
        · have am := pkS_am sr
          rw [if_pos y1] at am
          have a2 : 1 ≤ x.2.1.toInt ∧ x.2.1.toInt ≤ 240 := by
            rcases sr with q | q | q | q
            · exact absurd (q.1.symm.trans y1) (by decide)
            · exact ⟨q.2.1, q.2.2.1⟩
            · exact absurd (q.1.symm.trans y1) (by decide)
            · exact absurd (q.1.symm.trans y1) (by decide)
          have s2 : (x6 + x.2.1).toInt = x6.toInt + x.2.1.toInt := tx_add (by omega) (by omega)
          refine t_X0_amountOf d h _ _ ⟨I.1, ?_⟩
          rw [am]
          have g := ih (i + 1) a (x6 + x.2.1) (by omega) ha (by omega) (by omega)
          rw [s2] at g
          have um : wkS w x2.toNatClampNeg x3.toInt x4.toInt (x :: L.drop (i + 1)) x6.toInt a = wkS w x2.toNatClampNeg x3.toInt x4.toInt (L.drop (i + 1)) (x6.toInt + x.2.1.toInt) a := by
            show (if x.1 = 3 then _ else if x.1 = 1 then _ else _) = _
            rw [if_neg n3, if_pos y1]
          rw [um]
          exact g
        · have um : wkS w x2.toNatClampNeg x3.toInt x4.toInt (x :: L.drop (i + 1)) x6.toInt a = if a = x2.toNatClampNeg ∧ x3.toInt ≤ x6.toInt + 1 ∧ x6.toInt + 1 ≤ x4.toInt then true else wkS w x2.toNatClampNeg x3.toInt x4.toInt (L.drop (i + 1)) (x6.toInt + 1) a := by
            show (if x.1 = 3 then _ else if x.1 = 1 then _ else _) = _
            rw [if_pos y3]
          have g := ih (i + 1) a (x6 + 1) (by omega) ha (by omega) (by omega)
          rw [s1] at g
          rw [um]
          refine ⟨fun na => ?_, fun ya => ⟨fun nw => ?_, fun yw => ⟨rfl, Or.inl ⟨rfl, ?_⟩⟩⟩⟩
          · rw [if_neg (fun y => na (Int32.toInt_inj.mp (by have := y.1; omega)))]
            exact g
          · rw [if_neg (fun y => nw ⟨q_le.mpr (by have := y.2.1; omega), q_le.mpr (by have := y.2.2; omega)⟩)]
            exact g
          · have y0 := congrArg Int32.toInt ya
            have w1 := q_le.mp yw.1
            have w2 := q_le.mp yw.2
            rw [if_pos ⟨by omega, by omega, by omega⟩]
  refine t_X0_looksAt d h I.1 x1 x2 x3 x4 _ (t_X0_stepsOf d h I.1 x1 _ (t_X0_has d h I.1 x1 _ ⟨fun z => absurd z b1.1, fun _ => ⟨fun z => absurd z b1.2, fun _ => ?_⟩⟩))
  refine ⟨I.1, fun z => absurd z (by decide), fun _ => ⟨dp_in (lo := 0) (hi := 11) ⟨by show (0 : Int) ≤ _; omega, by show _ ≤ (11 : Int); omega⟩ (by decide) (by decide), I.1, ?_⟩⟩
  rw [h35]
  exact lp L.length 0 0 0 (by omega) (by omega) (by decide) (by decide)
