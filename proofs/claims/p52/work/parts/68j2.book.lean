/-! BOOK: lines, pure -/
noncomputable abbrev bkS : Type := Nat × (Nat → Int32) × (Nat → Int32) × (Nat → Int32) × (Nat → Int32) × (Nat → Int32)
noncomputable def wrS (now w : Int32) (i : Nat) (S : bkS) : bkS := (S.1 + 1, up1 S.2.1 S.1 (Int32.ofNat (i % 12)), up1 S.2.2.1 S.1 (Int32.ofNat (i / 12)), up1 S.2.2.2.1 S.1 (w - S.2.2.2.2.2 i), up1 S.2.2.2.2.1 S.1 now, up1 S.2.2.2.2.2 i w)
noncomputable def bkF (m : Nat) (now : Int32) (G : Nat → Int32) (S : bkS) : Nat → bkS
  | 0 => S
  | i + 1 => if i % 12 < m ∧ ¬ G i = S.2.2.2.2.2 i then wrS now (G i) i (bkF m now G S i) else bkF m now G S i
noncomputable def bkN (m : Nat) (G : Nat → Int32) (S : bkS) : Nat → Nat
  | 0 => 0
  | i + 1 => if i % 12 < m ∧ ¬ G i = S.2.2.2.2.2 i then bkN m G S i + 1 else bkN m G S i
theorem bkF_y {m : Nat} {now : Int32} {G : Nat → Int32} {S : bkS} {i : Nat} (c : i % 12 < m ∧ ¬ G i = S.2.2.2.2.2 i) : bkF m now G S (i + 1) = wrS now (G i) i (bkF m now G S i) ∧ bkN m G S (i + 1) = bkN m G S i + 1 := ⟨if_pos c, if_pos c⟩
theorem bkF_n {m : Nat} {now : Int32} {G : Nat → Int32} {S : bkS} {i : Nat} (c : ¬ (i % 12 < m ∧ ¬ G i = S.2.2.2.2.2 i)) : bkF m now G S (i + 1) = bkF m now G S i ∧ bkN m G S (i + 1) = bkN m G S i := ⟨if_neg c, if_neg c⟩
theorem bkF_i {m : Nat} {now : Int32} {G : Nat → Int32} {S : bkS} : ∀ i, (bkF m now G S i).1 = S.1 + bkN m G S i ∧ ∀ j, i ≤ j → (bkF m now G S i).2.2.2.2.2 j = S.2.2.2.2.2 j
  | 0 => ⟨rfl, fun _ _ => rfl⟩
  | i + 1 => by
    have ih := bkF_i (m := m) (now := now) (G := G) (S := S) i
    by_cases c : i % 12 < m ∧ ¬ G i = S.2.2.2.2.2 i
    · rw [(bkF_y (now := now) c).1, (bkF_y (now := now) c).2]
      refine ⟨?_, fun j hj => ?_⟩
      · show (bkF m now G S i).1 + 1 = _
        omega
      · show up1 (bkF m now G S i).2.2.2.2.2 i (G i) j = _
        rw [up1_ne (by omega)]
        exact ih.2 j (by omega)
    · rw [(bkF_n (now := now) c).1, (bkF_n (now := now) c).2]
      exact ⟨ih.1, fun j hj => ih.2 j (by omega)⟩
theorem bkN_m {m : Nat} {G : Nat → Int32} {S : bkS} : ∀ i t, bkN m G S i ≤ bkN m G S (i + t) ∧ bkN m G S (i + t) ≤ bkN m G S i + t
  | i, 0 => ⟨Nat.le_refl _, Nat.le_refl _⟩
  | i, t + 1 => by
    have ih := bkN_m (m := m) (G := G) (S := S) i t
    by_cases c : (i + t) % 12 < m ∧ ¬ G (i + t) = S.2.2.2.2.2 (i + t)
    · have z : bkN m G S (i + (t + 1)) = bkN m G S (i + t) + 1 := if_pos c
      omega
    · have z : bkN m G S (i + (t + 1)) = bkN m G S (i + t) := if_neg c
      omega
/-- cells of men who are not there change nothing -/
theorem bkF_s {m : Nat} {now : Int32} {G : Nat → Int32} {S : bkS} (i : Nat) : ∀ t, (∀ k, k < t → ¬ (i + k) % 12 < m) → bkF m now G S (i + t) = bkF m now G S i ∧ bkN m G S (i + t) = bkN m G S i
  | 0, _ => ⟨rfl, rfl⟩
  | t + 1, h => by
    have ih := bkF_s (m := m) (now := now) (G := G) (S := S) i t (fun k hk => h k (by omega))
    have n := bkF_n (m := m) (now := now) (G := G) (S := S) (i := i + t) (fun u => h t (by omega) u.1)
    exact ⟨n.1.trans ih.1, n.2.trans ih.2⟩
theorem bkF_c {m : Nat} {now : Int32} {G G' : Nat → Int32} {S : bkS} : ∀ i, (∀ k, k < i → k % 12 < m → G k = G' k) → bkF m now G S i = bkF m now G' S i ∧ bkN m G S i = bkN m G' S i
  | 0, _ => ⟨rfl, rfl⟩
  | i + 1, h => by
    have ih := bkF_c (m := m) (now := now) (S := S) i (fun k hk => h k (by omega))
    by_cases l : i % 12 < m
    · have e := h i (by omega) l
      by_cases c : i % 12 < m ∧ ¬ G i = S.2.2.2.2.2 i
      · have c' : i % 12 < m ∧ ¬ G' i = S.2.2.2.2.2 i := by rw [← e]; exact c
        rw [(bkF_y (now := now) c).1, (bkF_y (now := now) c).2, (bkF_y (now := now) c').1, (bkF_y (now := now) c').2, ih.1, ih.2, e]
        exact ⟨rfl, rfl⟩
      · have c' : ¬ (i % 12 < m ∧ ¬ G' i = S.2.2.2.2.2 i) := by rw [← e]; exact c
        rw [(bkF_n (now := now) c).1, (bkF_n (now := now) c).2, (bkF_n (now := now) c').1, (bkF_n (now := now) c').2]
        exact ih
    · rw [(bkF_n (now := now) (fun u => l u.1)).1, (bkF_n (now := now) (G := G) (fun u => l u.1)).2, (bkF_n (now := now) (G := G') (fun u => l u.1)).1, (bkF_n (now := now) (G := G') (fun u => l u.1)).2]
      exact ih
noncomputable def smq (f : Nat → Int32) : Nat → Int32
  | 0 => 0
  | k + 1 => smq f k + f k
theorem smq_c {f g : Nat → Int32} : ∀ n, (∀ k, k < n → f k = g k) → smq f n = smq g n
  | 0, _ => rfl
  | n + 1, e => by
    show smq f n + f n = smq g n + g n
    rw [smq_c n (fun k hk => e k (by omega)), e n (by omega)]
theorem smq_u (f : Nat → Int32) (n : Nat) (x : Int32) : smq (up1 f n x) (n + 1) = smq f n + x := by
  show smq (up1 f n x) n + up1 f n x n = _
  rw [up1_at, smq_c n (fun k hk => up1_ne (show ¬ k = n by omega))]
/-! BOOK: the class -/
noncomputable def sBk (h : Hp_) : bkS := ((h_i h 21 12).toNatClampNeg, h_i h 111, h_i h 112, h_i h 113, h_i h 114, h_i h 110)
noncomputable def PBk (S : bkS) (h : Hp_) : Prop := S.1 ≤ 600 ∧ h_i h 21 12 = Int32.ofNat S.1 ∧ (h_i h 111 = S.2.1 ∧ h_i h 112 = S.2.2.1 ∧ h_i h 113 = S.2.2.2.1 ∧ h_i h 114 = S.2.2.2.2.1 ∧ h_i h 110 = S.2.2.2.2.2) ∧ h_i h 21 13 = smq S.2.2.2.1 S.1
noncomputable def wBk : List Nat := [21012, 21013, 41999, 46999, 108999, 109999, 110999, 111999, 112999, 113999, 114999]
noncomputable def wBl : List Nat := [21012, 21013, 110999, 111999, 112999, 113999, 114999]
theorem d12 {i : Nat} (hi : i < 168) : Int32.ofNat i / 12 = Int32.ofNat (i / 12) ∧ Int32.ofNat i - Int32.ofNat i / 12 * 12 = Int32.ofNat (i % 12) := by
  have oi := on_j (n := i) (by omega)
  have t12 : (12 : Int32).toInt = 12 := rfl
  have a : (Int32.ofNat i / 12).toInt = (i : Int) / 12 := by rw [ti_div (by omega) (by rw [t12]; decide), t12, oi]
  have o1 := on_j (n := i / 12) (by omega)
  have o2 := on_j (n := i % 12) (by omega)
  have e : Int32.ofNat i / 12 = Int32.ofNat (i / 12) := Int32.toInt_inj.mp (by rw [a, o1]; omega)
  refine ⟨e, Int32.toInt_inj.mp ?_⟩
  have m1 : (Int32.ofNat (i / 12) * 12).toInt = 12 * ((i / 12 : Nat) : Int) := by rw [tx_mul (by rw [t12, o1]; omega) (by rw [t12, o1]; omega), t12, o1]; omega
  rw [e, tx_sub (by rw [m1, oi]; omega) (by rw [m1, oi]; omega), m1, oi, o2]
  omega
theorem c_wrl (d : Nat) {h : Hp_} (I : Iv h) {S : bkS} (P : PBk S h) (l : S.1 < 600) {i : Nat} (hi : i < 168) (now : Int32) : Cv (m_X5_writeLine (d + 0) 0 0) [.ref 21, .int (Int32.ofNat i), .int now] h (fun h' => Iv h' ∧ Fr wBl h h' ∧ PBk (wrS now (h_i h 109 i) i S) h') := by
  have ki := on_k (n := i) (by omega)
  have vi : vp_in (Int32.ofNat i) 168 := on_in (by omega) (by decide)
  have on := on_j (n := S.1) (by omega)
  have kn := on_k (n := S.1) (by omega)
  have vn : vp_in (h_i h 21 12) 600 := by rw [P.2.1]; exact on_in (by omega) (by decide)
  obtain ⟨_, p1, ⟨p111, p112, p113, p114, p110⟩, p13⟩ := P
  refine t_X5_writeLine d h I.1 _ now _ ⟨fun z => ?_, fun _ => ⟨vn, vn, vi, vi, vn, vn, vn, vi, vi, ?_⟩⟩
  · have z := q_le.mp z
    rw [p1, on, show (600 : Int32).toInt = 600 from rfl] at z
    omega
  · have dd := d12 hi
    rw [dd.2, dd.1, ki]
    have u12 : rin (h_i h 21 12 + 1).toInt (0, 600) := by
      have t1 : (1 : Int32).toInt = 1 := rfl
      have e : (h_i h 21 12 + 1).toInt = (S.1 : Int) + 1 := by rw [tx_add (by rw [p1, on, t1]; omega) (by rw [p1, on, t1]; omega), p1, on, t1]
      exact ⟨by rw [e]; show (0 : Int) ≤ _; omega, by rw [e]; show _ ≤ (600 : Int); omega⟩
    have I6 := (tr_ 110 (by decide +kernel) ((tr_ 114 (by decide +kernel) (tr_ 113 (by decide +kernel) (tr_ 112 (by decide +kernel) (tr_ 111 (by decide +kernel) I (h_i h 21 12).toNatClampNeg (Int32.ofNat (i % 12)) (by decide) (by decide)) (h_i h 21 12).toNatClampNeg (Int32.ofNat (i / 12)) (by decide) (by decide)) (h_i h 21 12).toNatClampNeg (h_i h 109 i - h_i h 110 i) (by decide) (by decide)) (h_i h 21 12).toNatClampNeg now (by decide) (by decide)).im (a := 21) (k := 13) (x := h_i h 21 13 + (h_i h 109 i - h_i h 110 i)) (by rw [show tf 21 13 = rtop by decide +kernel]; exact rtop_in _) (by decide)) i (h_i h 109 i) (by decide) (by decide)).im (a := 21) (k := 12) (x := h_i h 21 12 + 1) (by rw [show tf 21 12 = (0, 600) by decide +kernel]; exact u12) (by decide)
    refine ⟨I6, (((((((Fr.rf _ _).im (inw_row (by decide +kernel) _)).im (inw_row (by decide +kernel) _)).im (inw_row (by decide +kernel) _)).im (inw_row (by decide +kernel) _)).im (by decide +kernel)).im (inw_row (by decide +kernel) _)).im (by decide +kernel), ?_⟩
    rw [p1, kn]
    refine ⟨by show S.1 + 1 ≤ 600; omega, ?_, ⟨?_, ?_, ?_, ?_, ?_⟩, ?_⟩
    · rw [im_at, on_s (by omega)]
      rfl
    · rw [im_oth (by decide), im_oth (by decide), im_oth (by decide), im_oth (by decide), im_oth (by decide), im_oth (by decide), im_row, p111]
      rfl
    · rw [im_oth (by decide), im_oth (by decide), im_oth (by decide), im_oth (by decide), im_oth (by decide), im_row, im_oth (by decide), p112]
      rfl
    · rw [im_oth (by decide), im_oth (by decide), im_oth (by decide), im_oth (by decide), im_row, im_oth (by decide), im_oth (by decide), p113, p110]
      rfl
    · rw [im_oth (by decide), im_oth (by decide), im_oth (by decide), im_row, im_oth (by decide), im_oth (by decide), im_oth (by decide), p114]
      rfl
    · rw [im_oth (by decide), im_row, im_oth (by decide), im_oth (by decide), im_oth (by decide), im_oth (by decide), im_oth (by decide), p110]
      rfl
    · rw [im_row, up1_ne (by decide), im_oth (by decide), im_at, p13, p110]
      show smq S.2.2.2.1 S.1 + (h_i h 109 i - S.2.2.2.2.2 i) = smq (up1 S.2.2.2.1 S.1 (h_i h 109 i - S.2.2.2.2.2 i)) (S.1 + 1)
      exact (smq_u _ _ _).symm
/-- what book does: answer, lines -/
noncomputable def Bkq (m D : Nat) (now : Int32) (G : Nat → Int32) (S : bkS) (P : bkS → Prop) (r : Int32) : Prop := (S.1 + bkN m G S (12 * D) ≤ 600 → r = Int32.ofNat (bkN m G S (12 * D)) ∧ P (bkF m now G S (12 * D))) ∧ (¬ S.1 + bkN m G S (12 * D) ≤ 600 → r = -1 ∧ P S)
theorem c_bka (d : Nat) {h : Hp_} (I : Iv h) {S : bkS} (P : PBk S h) {m D : Nat} (hm : m ≤ 12) (hD : D ≤ 13) (G : Nat → Int32) (g : ∀ i, i < 12 * D → i % 12 < m → h_i h 109 i = G i) (now : Int32) : Ci (m_X5_bookAll (d + 1) 0 0) [.ref 21, .int (Int32.ofNat m), .int (Int32.ofNat D), .int now] h (fun r h' => Iv h' ∧ Fr wBl h h' ∧ Bkq m D now G S (fun S' => PBk S' h') r) := by
  have om := on_j (n := m) (by omega)
  have oD := on_j (n := D) (by omega)
  have o12 := on_j (n := 12 * D) (by omega)
  have oS := on_j (n := S.1) (by have := P.1; omega)
  have ce : (if 14 < Int32.ofNat D then (14 : Int32) else Int32.ofNat D) * 12 = Int32.ofNat (12 * D) := by
    rw [if_neg (fun z => by have z := q_lt.mp z; rw [oD, show (14 : Int32).toInt = 14 from rfl] at z; omega)]
    exact Int32.toInt_inj.mp (by rw [tx_mul (by rw [oD, show (12 : Int32).toInt = 12 from rfl]; omega) (by rw [oD, show (12 : Int32).toInt = 12 from rfl]; omega), oD, o12, show (12 : Int32).toInt = 12 from rfl]; omega)
  have S6 := P.1
  have NN : ∀ i, i ≤ 12 * D → bkN m G S i ≤ bkN m G S (12 * D) ∧ bkN m G S i ≤ i := fun i hi => by
    have a := bkN_m (m := m) (G := G) (S := S) i (12 * D - i)
    have b := bkN_m (m := m) (G := G) (S := S) 0 i
    rw [show i + (12 * D - i) = 12 * D by omega] at a
    rw [Nat.zero_add] at b
    have z : bkN m G S 0 = 0 := rfl
    omega
  have lm : ∀ i, i < 168 → (Int32.ofNat m ≤ Int32.ofNat (i % 12) ↔ ¬ i % 12 < m) := fun i hi => by
    have o2 := on_j (n := i % 12) (by omega)
    rw [q_le, om, o2]
    omega
  have l77 : S.1 + bkN m G S (12 * D) ≤ 600 → ∀ (t i : Nat) (h2 : Hp_), i + t = 12 * D → Iv h2 → Fr wBl h h2 → PBk (bkF m now G S i) h2 → AW (m_X5_bookAll (d + 1) 0 0) 0 0 77 [(0, .ref 21), (1, .int (Int32.ofNat m)), (3, .int now), (4, .int (Int32.ofNat (12 * D))), (5, .int (Int32.ofNat (bkN m G S (12 * D)))), (6, .int (Int32.ofNat i))] [] h2 (kI (fun r h' => Iv h' ∧ Fr wBl h h' ∧ Bkq m D now G S (fun S' => PBk S' h') r)) := by
    intro le t
    induction t with
    | zero =>
      intro i h2 e I2 F2 P2
      have ei : i = 12 * D := by omega
      subst ei
      refine t_X5_bookAll_77 d h2 I2.1 _ _ _ _ _ _ ⟨fun _ => ⟨I2, F2, fun _ => ⟨rfl, P2⟩, fun n => absurd le n⟩, fun z => ?_⟩
      exact absurd (q_le.mpr (Int.le_refl _)) z
    | succ t ih =>
      intro i h2 e I2 F2 P2
      have oi := on_j (n := i) (by omega)
      have ki := on_k (n := i) (by omega)
      have vi : vp_in (Int32.ofNat i) 168 := on_in (by omega) (by decide)
      have bi := bkF_i (m := m) (now := now) (G := G) (S := S) i
      have e109 : h_i h2 109 = h_i h 109 := funext (fun k => fr_i F2 (by decide +kernel) k)
      have e110 : h_i h2 110 i = S.2.2.2.2.2 i := by rw [P2.2.2.1.2.2.2.2]; exact bi.2 i (Nat.le_refl _)
      have no : ¬ (i % 12 < m ∧ ¬ G i = S.2.2.2.2.2 i) → AW (m_X5_bookAll (d + 1) 0 0) 0 0 77 [(0, .ref 21), (1, .int (Int32.ofNat m)), (3, .int now), (4, .int (Int32.ofNat (12 * D))), (5, .int (Int32.ofNat (bkN m G S (12 * D)))), (6, .int (Int32.ofNat i + 1))] [] h2 (kI (fun r h' => Iv h' ∧ Fr wBl h h' ∧ Bkq m D now G S (fun S' => PBk S' h') r)) := fun c => by
        rw [on_s (by omega)]
        exact ih (i + 1) h2 (by omega) I2 F2 (by rw [(bkF_n (now := now) c).1]; exact P2)
      refine t_X5_bookAll_77 d h2 I2.1 _ _ _ _ _ _ ⟨fun z => ?_, fun _ => ?_⟩
      · have z := q_le.mp z
        rw [oi, o12] at z
        omega
      · rw [(d12 (i := i) (by omega)).2, ki, e109, e110]
        refine ⟨fun a => no (fun u => (lm i (by omega)).mp a u.1), fun a => ?_⟩
        have lt : i % 12 < m := Decidable.byContradiction (fun n => a ((lm i (by omega)).mpr n))
        have gi := g i (by omega) lt
        refine ⟨vi, vi, fun eq => no (fun u => u.2 (gi.symm.trans eq)), fun ne => ?_⟩
        have c : i % 12 < m ∧ ¬ G i = S.2.2.2.2.2 i := ⟨lt, fun u => ne (gi.trans u)⟩
        have y := bkF_y (now := now) c
        have N1 := (NN (i + 1) (by omega)).1
        refine Cv.mono (c_wrl d I2 P2 (by rw [bi.1]; omega) (i := i) (by omega) now) (fun h12 k12 => ⟨k12.1.1, ?_⟩)
        rw [on_s (by omega)]
        refine ih (i + 1) h12 (by omega) k12.1 (F2.tr k12.2.1) ?_
        rw [y.1, ← gi, ← e109]
        exact k12.2.2
  have l17 : ∀ (t i : Nat), i + t = 12 * D → AW (m_X5_bookAll (d + 1) 0 0) 0 0 17 [(0, .ref 21), (1, .int (Int32.ofNat m)), (3, .int now), (4, .int (Int32.ofNat (12 * D))), (5, .int (Int32.ofNat (bkN m G S i))), (6, .int (Int32.ofNat i))] [] h (kI (fun r h' => Iv h' ∧ Fr wBl h h' ∧ Bkq m D now G S (fun S' => PBk S' h') r)) := by
    intro t
    induction t with
    | zero =>
      intro i e
      have ei : i = 12 * D := by omega
      subst ei
      have Nb := (NN (12 * D) (Nat.le_refl _)).2
      have oN := on_j (n := bkN m G S (12 * D)) (by omega)
      have sm : (h_i h 21 12 + Int32.ofNat (bkN m G S (12 * D))).toInt = (S.1 : Int) + bkN m G S (12 * D) := by rw [tx_add (by rw [P.2.1, oS, oN]; omega) (by rw [P.2.1, oS, oN]; omega), P.2.1, oS, oN]
      refine t_X5_bookAll_17 d h I.1 _ _ _ _ _ _ ⟨fun _ => ⟨fun z => ?_, fun z => ⟨I, Fr.rf _ _, fun c => absurd (q_le.mpr ?_) z, fun _ => ⟨rfl, P⟩⟩⟩, fun z => absurd (q_le.mpr (Int.le_refl _)) z⟩
      · have z := q_le.mp z
        rw [sm, show (600 : Int32).toInt = 600 from rfl] at z
        exact l77 (by omega) (12 * D) 0 h (by omega) I (Fr.rf _ _) P
      · rw [sm, show (600 : Int32).toInt = 600 from rfl]
        omega
    | succ t ih =>
      intro i e
      have oi := on_j (n := i) (by omega)
      have ki := on_k (n := i) (by omega)
      have vi : vp_in (Int32.ofNat i) 168 := on_in (by omega) (by decide)
      have Ni := (NN i (by omega)).2
      have y := ih (i + 1) (by omega)
      rw [← on_s (n := i) (by omega)] at y
      have no : ¬ (i % 12 < m ∧ ¬ G i = S.2.2.2.2.2 i) → AW (m_X5_bookAll (d + 1) 0 0) 0 0 17 [(0, .ref 21), (1, .int (Int32.ofNat m)), (3, .int now), (4, .int (Int32.ofNat (12 * D))), (5, .int (Int32.ofNat (bkN m G S i))), (6, .int (Int32.ofNat i + 1))] [] h (kI (fun r h' => Iv h' ∧ Fr wBl h h' ∧ Bkq m D now G S (fun S' => PBk S' h') r)) := fun c => by
        rw [(bkF_n (now := now) c).2] at y
        exact y
      refine t_X5_bookAll_17 d h I.1 _ _ _ _ _ _ ⟨fun z => ?_, fun _ => ?_⟩
      · have z := q_le.mp z
        rw [oi, o12] at z
        omega
      · rw [(d12 (i := i) (by omega)).2, ki, P.2.2.1.2.2.2.2]
        refine ⟨fun a => no (fun u => (lm i (by omega)).mp a u.1), fun a => ?_⟩
        have lt : i % 12 < m := Decidable.byContradiction (fun n => a ((lm i (by omega)).mpr n))
        have gi := g i (by omega) lt
        refine ⟨vi, vi, fun eq => no (fun u => u.2 (gi.symm.trans eq)), fun ne => ?_⟩
        rw [(bkF_y (now := now) (m := m) (G := G) (S := S) ⟨lt, fun u => ne (gi.trans u)⟩).2, ← on_s (n := bkN m G S i) (by omega)] at y
        exact y
  refine t_X5_bookAll d h _ _ now _ ?_
  rw [ce]
  exact l17 (12 * D) 0 (by omega)
/-! BOOK: the class's loops over days and men -/
theorem nb_in {h : Hp_} (I : Iv h) : 0 ≤ (h_i h 0 0).toInt ∧ (h_i h 0 0).toInt ≤ 20000 := by
  have rg := I.2.1 0 0
  rw [show tf 0 0 = (0, 20000) by decide +kernel] at rg
  exact ⟨rg.1, rg.2⟩
theorem day_v {n : Int32} (b : 0 ≤ n.toInt ∧ n.toInt ≤ 20000) : n / 1440 = Int32.ofNat (n.toNatClampNeg / 1440) ∧ n.toNatClampNeg / 1440 ≤ 13 := by
  have t : (1440 : Int32).toInt = 1440 := rfl
  have a : (n / 1440).toInt = n.toInt / 1440 := by rw [ti_div b.1 (by rw [t]; decide), t]
  have nn := n_nat b.1
  have o := on_j (n := n.toNatClampNeg / 1440) (by omega)
  exact ⟨Int32.toInt_inj.mp (by rw [a, o]; omega), by omega⟩
/-- the wage of cell i: man i % 12, day i / 12 -/
noncomputable def gXq (E : Enl) (h : Hp_) (i : Nat) : Int32 := wgX E h (401 + i % 12) (Int32.ofNat (i / 12)) (h_i h 0 0)
theorem c_bkX (d : Nat) {E : Enl} {h : Hp_} (I : Iv h) (W : ExWg h) (T : TX E.1 h) (M : Mrw h) {S : bkS} (P : PBk S h) : Ci (m_X11_book (d + 6) 0 0) [.ref 0] h (fun r h' => Iv h' ∧ Fr wBk h h' ∧ Bkq (h_i h 0 7).toNatClampNeg ((h_i h 0 0).toNatClampNeg / 1440) (h_i h 0 0) (gXq E h) S (fun S' => PBk S' h') r) := by
  have mm := menX_in I
  have nm := n_nat mm.1
  have n0 := nb_in I
  have dv := day_v n0
  have em : h_i h 0 7 = Int32.ofNat (h_i h 0 7).toNatClampNeg := (of_nat32 mm.1).symm
  generalize hD : (h_i h 0 0).toNatClampNeg / 1440 = D at dv ⊢
  have oD := on_j (n := D) (by omega)
  have l11 : ∀ (t y : Nat) (h2 : Hp_), y + t = D → Iv h2 → Fr wWh h h2 → (∀ i, i < 12 * y → i % 12 < (h_i h 0 7).toNatClampNeg → h_i h2 109 i = gXq E h i) → AW (m_X11_book (d + 6) 0 0) 0 0 11 [(0, .ref 0), (1, .int (Int32.ofNat D)), (2, .int (Int32.ofNat y))] [] h2 (kI (fun r h' => Iv h' ∧ Fr wBk h h' ∧ Bkq (h_i h 0 7).toNatClampNeg D (h_i h 0 0) (gXq E h) S (fun S' => PBk S' h') r)) := by
    intro t
    induction t with
    | zero =>
      intro y h2 e I2 F2 R
      have ey : y = D := by omega
      subst ey
      have g : ∀ a, off wWh a = true → h_i h2 a = h_i h a := fun a o => funext (fun k => fr_i F2 o k)
      have P2 : PBk S h2 := by
        unfold PBk
        rw [g 21 (by decide +kernel), g 111 (by decide +kernel), g 112 (by decide +kernel), g 113 (by decide +kernel), g 114 (by decide +kernel), g 110 (by decide +kernel)]
        exact P
      refine t_X11_book_11 d h2 I2.1 _ _ _ ⟨fun _ => ?_, fun z => absurd (q_le.mpr (Int.le_refl _)) z⟩
      rw [g 0 (by decide +kernel)]
      have B := c_bka d I2 P2 (m := (h_i h 0 7).toNatClampNeg) (D := y) (by omega) dv.2 (gXq E h) R (h_i h 0 0)
      rw [← em] at B
      exact Ci.mono B (fun r4 h4 k => ⟨k.1.1, k.1, (F2.more (by decide +kernel)).tr (k.2.1.more (by decide +kernel)), k.2.2⟩)
    | succ t ih =>
      intro y h2 e I2 F2 R
      have oy := on_j (n := y) (by omega)
      refine t_X11_book_11 d h2 I2.1 _ _ _ ⟨fun z => ?_, fun _ => ?_⟩
      · have z := q_le.mp z
        rw [oD, oy] at z
        omega
      have l18 : ∀ (u j : Nat) (h3 : Hp_), j + u = (h_i h 0 7).toNatClampNeg → Iv h3 → Fr wWh h h3 → (∀ i, i < 12 * y + j → i % 12 < (h_i h 0 7).toNatClampNeg → h_i h3 109 i = gXq E h i) → AW (m_X11_book (d + 6) 0 0) 0 0 18 [(0, .ref 0), (1, .int (Int32.ofNat D)), (2, .int (Int32.ofNat y)), (3, .int (Int32.ofNat j))] [] h3 (kI (fun r h' => Iv h' ∧ Fr wBk h h' ∧ Bkq (h_i h 0 7).toNatClampNeg D (h_i h 0 0) (gXq E h) S (fun S' => PBk S' h') r)) := by
        intro u
        induction u with
        | zero =>
          intro j h3 ej I3 F3 R3
          have ej : j = (h_i h 0 7).toNatClampNeg := by omega
          subst ej
          refine t_X11_book_18 d h3 I3.1 _ _ _ _ ⟨fun _ => ?_, fun z => ?_⟩
          · rw [on_s (by omega)]
            refine ih (y + 1) h3 (by omega) I3 F3 (fun i hi l => R3 i ?_ l)
            omega
          · rw [(F3.2 0 7 (by decide +kernel)).1, ← em] at z
            exact absurd (q_le.mpr (Int.le_refl _)) z
        | succ u ihu =>
          intro j h3 ej I3 F3 R3
          have oj := on_j (n := j) (by omega)
          have kj := on_k (n := j) (by omega)
          have vj : vp_in (Int32.ofNat j) 12 := on_in (by omega) (by decide)
          have hr : h_r h3 15 j = some (401 + j) := ((F3.2 15 j (off_inw (by decide +kernel) j)).2.2).trans (M j (by omega))
          have hc : Cn h3 (401 + j) := by
            have z := M.cn I (x1 := Int32.ofNat j) ⟨by omega, by omega⟩
            rw [kj] at z
            exact ⟨z.1, z.2.1, (congrFun F3.1 _).trans z.2.2⟩
          have e0 : h_i h3 0 0 = h_i h 0 0 := (F3.2 0 0 (by decide +kernel)).1
          refine t_X11_book_18 d h3 I3.1 _ _ _ _ ⟨fun z => ?_, fun _ => ⟨vj, fun z => ?_, fun b7 e7 => ?_⟩⟩
          · have z := q_le.mp z
            rw [(F3.2 0 7 (by decide +kernel)).1, oj] at z
            omega
          · rw [kj, hr] at z
            cases z
          · rw [kj, hr] at e7
            cases e7
            refine ⟨hc.2.2, by have := hc.1; omega, ?_⟩
            rw [e0]
            have W3 : ExWg h3 := W.fr F3 (by decide +kernel)
            have T3 : TX E.1 h3 := T.cg (F3.2 13 5 (by decide +kernel)).1 (fun k => fr_i F3 (by decide +kernel) k) (fun k => fr_i F3 (by decide +kernel) k)
            refine Ci.mono (c_wgO d (E := E) I3 W3 T3 hc (Int32.ofNat y) (h_i h 0 0)) (fun r19 h17 k17 => ?_)
            obtain ⟨I7, F7, e19⟩ := k17
            have F37 := F3.tr (wh F7)
            have ix : (Int32.ofNat y * 12 + Int32.ofNat j).toInt = ((12 * y + j : Nat) : Int) := by
              have t12 : (12 : Int32).toInt = 12 := rfl
              have m1 : (Int32.ofNat y * 12).toInt = 12 * (y : Int) := by rw [tx_mul (by rw [t12, oy]; omega) (by rw [t12, oy]; omega), t12, oy]; omega
              rw [tx_add (by rw [m1, oj]; omega) (by rw [m1, oj]; omega), m1, oj]
              omega
            have ixn := n_nat (x := Int32.ofNat y * 12 + Int32.ofNat j) (by omega)
            have ixk : (Int32.ofNat y * 12 + Int32.ofNat j).toNatClampNeg = 12 * y + j := by omega
            have b1 : 0 ≤ Int32.ofNat j ∧ Int32.ofNat j ≤ 11 := ⟨q_le.mpr (by rw [show (0 : Int32).toInt = 0 from rfl]; omega), q_le.mpr (by rw [show (11 : Int32).toInt = 11 from rfl]; omega)⟩
            have b2 : 0 ≤ Int32.ofNat y ∧ Int32.ofNat y ≤ 13 := ⟨q_le.mpr (by rw [show (0 : Int32).toInt = 0 from rfl]; omega), q_le.mpr (by rw [show (13 : Int32).toInt = 13 from rfl]; omega)⟩
            refine ⟨I7.1, t_X5_setWage d h17 I7.1 _ _ _ _ ⟨fun n => absurd b1 n, fun _ => ⟨fun n => absurd b2 n, fun _ => ⟨dp_in (lo := 0) (hi := 167) ⟨by show (0 : Int) ≤ _; omega, by show _ ≤ (167 : Int); omega⟩ (by decide) (by decide), ?_⟩⟩⟩⟩
            · have I8 := tr_ 109 (by decide +kernel) I7 (Int32.ofNat y * 12 + Int32.ofNat j).toNatClampNeg r19 (by decide) (by decide)
              refine ⟨I8.1, ?_⟩
              rw [on_s (by omega)]
              refine ihu (j + 1) _ (by omega) I8 (F37.im (inw_row (by decide +kernel) _)) (fun i hi l => ?_)
              rw [im_row, ixk]
              by_cases v : i = 12 * y + j
              · rw [v, up1_at, e19, wgX_r F3 ⟨by omega, by omega⟩]
                unfold gXq
                rw [show (12 * y + j) % 12 = j by omega, show (12 * y + j) / 12 = y by omega]
              · rw [up1_ne v]
                rw [fr_i F7 (a := 109) (by decide +kernel) i]
                exact R3 i (by omega) l
      exact l18 (h_i h 0 7).toNatClampNeg 0 h2 (by omega) I2 F2 (fun i hi l => R i (by omega) l)
  refine t_X11_book d h I.1 _ ?_
  rw [dv.1]
  exact l11 D 0 h (by omega) I (Fr.rf _ _) (fun i hi => absurd hi (by omega))
/-! BOOK: the reference -/
noncomputable def PMk (S : bkS) (h : Hp_) : Prop := S.1 ≤ 600 ∧ h_i h 1 127 = Int32.ofNat S.1 ∧ (∀ k, k < S.1 → h_i h 294 k = S.2.1 k ∧ h_i h 295 k = S.2.2.1 k ∧ h_i h 296 k = S.2.2.2.1 k ∧ h_i h 297 k = S.2.2.2.2.1 k) ∧ ∀ c y, c < 12 → y < 14 → h_i h 293 (31 * c + y) = S.2.2.2.2.2 (12 * y + c)
noncomputable def wBm : List Nat := [1052, 1127, 236999, 237999, 293999, 294999, 295999, 296999, 297999]
theorem PMk.fr {S : bkS} {h h' : Hp_} (P : PMk S h) (f : Fr wzL h h') : PMk S h' := by
  have g : ∀ a, off wzL a = true → h_i h' a = h_i h a := fun a o => funext (fun k => fr_i f o k)
  unfold PMk
  rw [(f.2 1 127 (by decide +kernel)).1, g 293 (by decide +kernel), g 294 (by decide +kernel), g 295 (by decide +kernel), g 296 (by decide +kernel), g 297 (by decide +kernel)]
  exact P
noncomputable def gMq (E : Enl) (b : Bl) (h : Hp_) (i : Nat) : Int32 := wgMq E b h (Int32.ofNat (i % 12)) (Int32.ofNat (i / 12)) (h_i h 1 0)
theorem c_bkM (d : Nat) {E : Enl} {b : Bl} {h : Hp_} (I : Iv h) (W : ExWg h) (Q : PEm E b h) (PX : ExP h) {S : bkS} (P : PMk S h) : Ci (m_X12_book (d + 8) 0 0) [.ref 1] h (fun r h' => Iv h' ∧ Fr wBm h h' ∧ Bkq (h_i h 1 7).toNatClampNeg ((h_i h 1 0).toNatClampNeg / 1440) (h_i h 1 0) (gMq E b h) S (fun S' => PMk S' h') r) := by
  have m7 := I.2.1 1 7
  rw [show tf 1 7 = (0, 12) by decide +kernel] at m7
  have mm : 0 ≤ (h_i h 1 7).toInt ∧ (h_i h 1 7).toInt ≤ 12 := ⟨m7.1, m7.2⟩
  have nm := n_nat mm.1
  have n0 := (iq1 I).2.2.2
  have dv := day_v n0
  have em : h_i h 1 7 = Int32.ofNat (h_i h 1 7).toNatClampNeg := (of_nat32 mm.1).symm
  generalize hD : (h_i h 1 0).toNatClampNeg / 1440 = D at dv ⊢
  have oD := on_j (n := D) (by omega)
  have S6 := P.1
  have oS := on_j (n := S.1) (by omega)
  have NN : ∀ i, i ≤ 12 * D → bkN (h_i h 1 7).toNatClampNeg (gMq E b h) S i ≤ bkN (h_i h 1 7).toNatClampNeg (gMq E b h) S (12 * D) ∧ bkN (h_i h 1 7).toNatClampNeg (gMq E b h) S i ≤ i := fun i hi => by
    have a := bkN_m (m := (h_i h 1 7).toNatClampNeg) (G := gMq E b h) (S := S) i (12 * D - i)
    have b2 := bkN_m (m := (h_i h 1 7).toNatClampNeg) (G := gMq E b h) (S := S) 0 i
    rw [show i + (12 * D - i) = 12 * D by omega] at a
    rw [Nat.zero_add] at b2
    have z : bkN (h_i h 1 7).toNatClampNeg (gMq E b h) S 0 = 0 := rfl
    omega
  have skp : ∀ y, bkF (h_i h 1 7).toNatClampNeg (h_i h 1 0) (gMq E b h) S (12 * (y + 1)) = bkF (h_i h 1 7).toNatClampNeg (h_i h 1 0) (gMq E b h) S (12 * y + (h_i h 1 7).toNatClampNeg) ∧ bkN (h_i h 1 7).toNatClampNeg (gMq E b h) S (12 * (y + 1)) = bkN (h_i h 1 7).toNatClampNeg (gMq E b h) S (12 * y + (h_i h 1 7).toNatClampNeg) := fun y => by
    have z := bkF_s (m := (h_i h 1 7).toNatClampNeg) (now := h_i h 1 0) (G := gMq E b h) (S := S) (12 * y + (h_i h 1 7).toNatClampNeg) (12 - (h_i h 1 7).toNatClampNeg) (fun k hk => by omega)
    rw [show 12 * y + (h_i h 1 7).toNatClampNeg + (12 - (h_i h 1 7).toNatClampNeg) = 12 * (y + 1) by omega] at z
    exact z
  -- one wage, at a heap of the loops
  have wage : ∀ (h3 : Hp_), Iv h3 → Fr wBm h h3 → ∀ j y, j < (h_i h 1 7).toNatClampNeg → y < D → Ci (m_X12_payOf (d + 7) 0 0) [.ref 1, .int (Int32.ofNat j), .int (Int32.ofNat y), .int (h_i h 1 0)] h3 (fun r h' => Iv h' ∧ Fr wzL h3 h' ∧ r = gMq E b h (12 * y + j)) := fun h3 I3 F3 j y hj hy => by
    have W3 : ExWg h3 := W.fr F3 (by decide +kernel)
    have X3 : ExP h3 := PX.fr F3 (by decide +kernel)
    have Q3 : PEm E b h3 := Q.fr F3 (by decide +kernel) (fun _ => X3)
    refine Ci.mono (c_pyO d I3 W3 Q3 (fun h' f' => X3.fr f' (by decide +kernel)) (on_in (n := j) (by omega) (by decide)) (Int32.ofNat y) (h_i h 1 0)) (fun r h' k => ⟨k.1, k.2.1, ?_⟩)
    rw [k.2.2, wgM_r F3 (by decide +kernel)]
    unfold gMq
    rw [show (12 * y + j) % 12 = j by omega, show (12 * y + j) / 12 = y by omega]
  have ix : ∀ j y, j < 12 → y < 14 → (31 * Int32.ofNat j + Int32.ofNat y).toNatClampNeg = 31 * j + y ∧ vp_in (31 * Int32.ofNat j + Int32.ofNat y) 372 := fun j y hj hy => by
    have oj := on_j (n := j) (by omega)
    have oy := on_j (n := y) (by omega)
    have t31 : (31 : Int32).toInt = 31 := rfl
    have m1 : (31 * Int32.ofNat j).toInt = 31 * (j : Int) := by rw [tx_mul (by rw [t31, oj]; omega) (by rw [t31, oj]; omega), t31, oj]
    have m2 : (31 * Int32.ofNat j + Int32.ofNat y).toInt = 31 * (j : Int) + y := by rw [tx_add (by omega) (by omega), m1, oy]
    have nn := n_nat (x := 31 * Int32.ofNat j + Int32.ofNat y) (by omega)
    exact ⟨by omega, dp_in (lo := 0) (hi := 371) ⟨by show (0 : Int) ≤ _; omega, by show _ ≤ (371 : Int); omega⟩ (by decide) (by decide)⟩
  -- the second pass
  have l86 : S.1 + bkN (h_i h 1 7).toNatClampNeg (gMq E b h) S (12 * D) ≤ 600 → ∀ (t y : Nat) (h2 : Hp_), y + t = D → Iv h2 → Fr wBm h h2 → PMk (bkF (h_i h 1 7).toNatClampNeg (h_i h 1 0) (gMq E b h) S (12 * y)) h2 → AW (m_X12_book (d + 8) 0 0) 0 0 86 [(0, .ref 1), (1, .int (Int32.ofNat (bkN (h_i h 1 7).toNatClampNeg (gMq E b h) S (12 * D)))), (2, .int (Int32.ofNat y))] [] h2 (kI (fun r h' => Iv h' ∧ Fr wBm h h' ∧ Bkq (h_i h 1 7).toNatClampNeg D (h_i h 1 0) (gMq E b h) S (fun S' => PMk S' h') r)) := by
    intro le t
    induction t with
    | zero =>
      intro y h2 e I2 F2 P2
      have ey : y = D := by omega
      subst ey
      refine t_X12_book_86 d h2 I2.1 _ _ _ ⟨fun _ => ⟨I2, F2, fun _ => ⟨rfl, P2⟩, fun n => absurd le n⟩, fun z => ?_⟩
      rw [(F2.2 1 0 (by decide +kernel)).1, dv.1] at z
      exact absurd (q_le.mpr (Int.le_refl _)) z
    | succ t ih =>
      intro y h2 e I2 F2 P2
      have oy := on_j (n := y) (by omega)
      refine t_X12_book_86 d h2 I2.1 _ _ _ ⟨fun z => ?_, fun _ => ?_⟩
      · rw [(F2.2 1 0 (by decide +kernel)).1, dv.1] at z
        have z := q_le.mp z
        rw [oD, oy] at z
        omega
      have l100 : ∀ (u j : Nat) (h3 : Hp_), j + u = (h_i h 1 7).toNatClampNeg → Iv h3 → Fr wBm h h3 → PMk (bkF (h_i h 1 7).toNatClampNeg (h_i h 1 0) (gMq E b h) S (12 * y + j)) h3 → AW (m_X12_book (d + 8) 0 0) 0 0 100 [(0, .ref 1), (1, .int (Int32.ofNat (bkN (h_i h 1 7).toNatClampNeg (gMq E b h) S (12 * D)))), (2, .int (Int32.ofNat y)), (3, .int (Int32.ofNat j))] [] h3 (kI (fun r h' => Iv h' ∧ Fr wBm h h' ∧ Bkq (h_i h 1 7).toNatClampNeg D (h_i h 1 0) (gMq E b h) S (fun S' => PMk S' h') r)) := by
        intro u
        induction u with
        | zero =>
          intro j h3 ej I3 F3 P3
          have ej : j = (h_i h 1 7).toNatClampNeg := by omega
          rw [ej] at P3 ⊢
          refine t_X12_book_100 d h3 I3.1 _ _ _ _ ⟨fun _ => ?_, fun z => ?_⟩
          · rw [on_s (by omega)]
            exact ih (y + 1) h3 (by omega) I3 F3 (by rw [(skp y).1]; exact P3)
          · rw [(F3.2 1 7 (by decide +kernel)).1, ← em] at z
            exact absurd (q_le.mpr (Int.le_refl _)) z
        | succ u ihu =>
          intro j h3 ej I3 F3 P3
          have oj := on_j (n := j) (by omega)
          have e0 : h_i h3 1 0 = h_i h 1 0 := (F3.2 1 0 (by decide +kernel)).1
          have xj := ix j y (by omega) (by omega)
          have bi := bkF_i (m := (h_i h 1 7).toNatClampNeg) (now := h_i h 1 0) (G := gMq E b h) (S := S) (12 * y + j)
          refine t_X12_book_100 d h3 I3.1 _ _ _ _ ⟨fun z => ?_, fun _ => ?_⟩
          · have z := q_le.mp z
            rw [(F3.2 1 7 (by decide +kernel)).1, oj] at z
            omega
          rw [e0]
          refine Ci.mono (wage h3 I3 F3 j y (by omega) (by omega)) (fun r13 h11 k11 => ?_)
          obtain ⟨I4, F4, e13⟩ := k11
          have P4 := P3.fr F4
          have F34 := F3.tr (F4.more (by decide +kernel))
          have e93 : h_i h11 293 (31 * j + y) = S.2.2.2.2.2 (12 * y + j) := by rw [P4.2.2.2 j y (by omega) (by omega)]; exact bi.2 _ (Nat.le_refl _)
          rw [xj.1, e93, e13]
          refine ⟨I4.1, xj.2, fun eq => ?_, fun ne => ?_⟩
          · rw [on_s (by omega)]
            refine ihu (j + 1) h11 (by omega) I4 F34 ?_
            rw [← Nat.add_assoc, (bkF_n (now := h_i h 1 0) (fun u => u.2 eq)).1]
            exact P4
          · have c : (12 * y + j) % 12 < (h_i h 1 7).toNatClampNeg ∧ ¬ gMq E b h (12 * y + j) = S.2.2.2.2.2 (12 * y + j) := ⟨by omega, ne⟩
            have yy := bkF_y (now := h_i h 1 0) c
            have N1 := (NN (12 * y + j + 1) (by omega)).1
            have b1 := bi.1
            have P41 := P4.1
            have on := on_j (n := (bkF (h_i h 1 7).toNatClampNeg (h_i h 1 0) (gMq E b h) S (12 * y + j)).1) (by omega)
            have kn := on_k (n := (bkF (h_i h 1 7).toNatClampNeg (h_i h 1 0) (gMq E b h) S (12 * y + j)).1) (by omega)
            have l6 : (bkF (h_i h 1 7).toNatClampNeg (h_i h 1 0) (gMq E b h) S (12 * y + j)).1 < 600 := by omega
            have vn : vp_in (h_i h11 1 127) 600 := by rw [P4.2.1]; exact on_in l6 (by decide)
            refine ⟨vn, vn, xj.2, vn, vn, xj.2, ?_⟩
            rw [on_s (by omega), (F34.2 1 0 (by decide +kernel)).1]
            have u12 : rin (h_i h11 1 127 + 1).toInt (0, 600) := by
              have t1 : (1 : Int32).toInt = 1 := rfl
              have e : (h_i h11 1 127 + 1).toInt = ((bkF (h_i h 1 7).toNatClampNeg (h_i h 1 0) (gMq E b h) S (12 * y + j)).1 : Int) + 1 := by rw [tx_add (by rw [P4.2.1, on, t1]; omega) (by rw [P4.2.1, on, t1]; omega), P4.2.1, on, t1]
              exact ⟨by rw [e]; show (0 : Int) ≤ _; omega, by rw [e]; show _ ≤ (600 : Int); omega⟩
            have I6 := tr_ 293 (by decide +kernel) ((tr_ 297 (by decide +kernel) (tr_ 296 (by decide +kernel) (tr_ 295 (by decide +kernel) (tr_ 294 (by decide +kernel) I4 (h_i h11 1 127).toNatClampNeg (Int32.ofNat j) (by decide) (by decide)) (h_i h11 1 127).toNatClampNeg (Int32.ofNat y) (by decide) (by decide)) (h_i h11 1 127).toNatClampNeg (gMq E b h (12 * y + j) - S.2.2.2.2.2 (12 * y + j)) (by decide) (by decide)) (h_i h11 1 127).toNatClampNeg (h_i h 1 0) (by decide) (by decide)).im (a := 1) (k := 127) (x := h_i h11 1 127 + 1) (by rw [show tf 1 127 = (0, 600) by decide +kernel]; exact u12) (by decide)) (31 * j + y) (gMq E b h (12 * y + j)) (by decide) (by decide)
            have F6 := (((((F34.im (k := (h_i h11 1 127).toNatClampNeg) (x := Int32.ofNat j) (inw_row (a := 294) (by decide +kernel) _)).im (k := (h_i h11 1 127).toNatClampNeg) (x := Int32.ofNat y) (inw_row (a := 295) (by decide +kernel) _)).im (k := (h_i h11 1 127).toNatClampNeg) (x := gMq E b h (12 * y + j) - S.2.2.2.2.2 (12 * y + j)) (inw_row (a := 296) (by decide +kernel) _)).im (k := (h_i h11 1 127).toNatClampNeg) (x := h_i h 1 0) (inw_row (a := 297) (by decide +kernel) _)).im (a := 1) (k := 127) (x := h_i h11 1 127 + 1) (by decide +kernel)).im (k := 31 * j + y) (x := gMq E b h (12 * y + j)) (inw_row (a := 293) (by decide +kernel) _)
            refine ihu (j + 1) _ (by omega) I6 F6 ?_
            rw [← Nat.add_assoc, yy.1, P4.2.1, kn]
            refine ⟨by show _ + 1 ≤ 600; omega, ?_, fun k hk => ?_, fun c' y' hc hy => ?_⟩
            · rw [im_oth (by decide), im_at, on_s (by omega)]
              rfl
            · have hk : k < (bkF (h_i h 1 7).toNatClampNeg (h_i h 1 0) (gMq E b h) S (12 * y + j)).1 + 1 := hk
              rw [im_oth (by decide), im_oth (by decide), im_oth (by decide), im_oth (by decide), im_oth (by decide), im_row, im_oth (by decide), im_oth (by decide), im_oth (by decide), im_oth (by decide), im_row, im_oth (by decide), im_oth (by decide), im_oth (by decide), im_oth (by decide), im_row, im_oth (by decide), im_oth (by decide), im_oth (by decide), im_oth (by decide), im_row, im_oth (by decide), im_oth (by decide), im_oth (by decide)]
              show up1 _ _ _ k = up1 _ _ _ k ∧ up1 _ _ _ k = up1 _ _ _ k ∧ up1 _ _ _ k = up1 _ _ _ k ∧ up1 _ _ _ k = up1 _ _ _ k
              by_cases v : k = (bkF (h_i h 1 7).toNatClampNeg (h_i h 1 0) (gMq E b h) S (12 * y + j)).1
              · rw [v, up1_at, up1_at, up1_at, up1_at, up1_at, up1_at, up1_at, up1_at, show (12 * y + j) % 12 = j by omega, show (12 * y + j) / 12 = y by omega, bi.2 _ (Nat.le_refl _)]
                exact ⟨rfl, rfl, rfl, rfl⟩
              · rw [up1_ne v, up1_ne v, up1_ne v, up1_ne v, up1_ne v, up1_ne v, up1_ne v, up1_ne v]
                exact P4.2.2.1 k (by omega)
            · rw [im_row, im_oth (by decide), im_oth (by decide), im_oth (by decide), im_oth (by decide), im_oth (by decide)]
              show up1 _ _ _ _ = up1 _ _ _ _
              by_cases v : c' = j ∧ y' = y
              · rw [v.1, v.2, up1_at, up1_at]
              · rw [up1_ne (by omega), up1_ne (by omega)]
                exact P4.2.2.2 c' y' hc hy
      exact l100 (h_i h 1 7).toNatClampNeg 0 h2 (by omega) I2 F2 P2
  -- the first pass
  have l4 : ∀ (t y : Nat) (h2 : Hp_), y + t = D → Iv h2 → Fr wzL h h2 → AW (m_X12_book (d + 8) 0 0) 0 0 4 [(0, .ref 1), (1, .int (Int32.ofNat (bkN (h_i h 1 7).toNatClampNeg (gMq E b h) S (12 * y)))), (2, .int (Int32.ofNat y))] [] h2 (kI (fun r h' => Iv h' ∧ Fr wBm h h' ∧ Bkq (h_i h 1 7).toNatClampNeg D (h_i h 1 0) (gMq E b h) S (fun S' => PMk S' h') r)) := by
    intro t
    induction t with
    | zero =>
      intro y h2 e I2 F2
      have ey : y = D := by omega
      subst ey
      have P2 := P.fr F2
      have Nb := (NN (12 * y) (Nat.le_refl _)).2
      have oN := on_j (n := bkN (h_i h 1 7).toNatClampNeg (gMq E b h) S (12 * y)) (by omega)
      have sm : (h_i h2 1 127 + Int32.ofNat (bkN (h_i h 1 7).toNatClampNeg (gMq E b h) S (12 * y))).toInt = (S.1 : Int) + bkN (h_i h 1 7).toNatClampNeg (gMq E b h) S (12 * y) := by rw [tx_add (by rw [P2.2.1, oS, oN]; omega) (by rw [P2.2.1, oS, oN]; omega), P2.2.1, oS, oN]
      refine t_X12_book_4 d h2 I2.1 _ _ _ ⟨fun _ => ⟨fun z => ?_, fun z => ⟨I2, F2.more (by decide +kernel), fun c => absurd (q_le.mpr ?_) z, fun _ => ⟨rfl, P2⟩⟩⟩, fun z => ?_⟩
      · have z := q_le.mp z
        rw [sm, show (600 : Int32).toInt = 600 from rfl] at z
        exact l86 (by omega) y 0 h2 (by omega) I2 (F2.more (by decide +kernel)) P2
      · rw [sm, show (600 : Int32).toInt = 600 from rfl]
        omega
      · rw [(F2.2 1 0 (by decide +kernel)).1, dv.1] at z
        exact absurd (q_le.mpr (Int.le_refl _)) z
    | succ t ih =>
      intro y h2 e I2 F2
      have oy := on_j (n := y) (by omega)
      refine t_X12_book_4 d h2 I2.1 _ _ _ ⟨fun z => ?_, fun _ => ?_⟩
      · rw [(F2.2 1 0 (by decide +kernel)).1, dv.1] at z
        have z := q_le.mp z
        rw [oD, oy] at z
        omega
      have l18 : ∀ (u j : Nat) (h3 : Hp_), j + u = (h_i h 1 7).toNatClampNeg → Iv h3 → Fr wzL h h3 → AW (m_X12_book (d + 8) 0 0) 0 0 18 [(0, .ref 1), (1, .int (Int32.ofNat (bkN (h_i h 1 7).toNatClampNeg (gMq E b h) S (12 * y + j)))), (2, .int (Int32.ofNat y)), (3, .int (Int32.ofNat j))] [] h3 (kI (fun r h' => Iv h' ∧ Fr wBm h h' ∧ Bkq (h_i h 1 7).toNatClampNeg D (h_i h 1 0) (gMq E b h) S (fun S' => PMk S' h') r)) := by
        intro u
        induction u with
        | zero =>
          intro j h3 ej I3 F3
          have ej : j = (h_i h 1 7).toNatClampNeg := by omega
          rw [ej]
          refine t_X12_book_18 d h3 I3.1 _ _ _ _ ⟨fun _ => ?_, fun z => ?_⟩
          · rw [on_s (by omega), ← (skp y).2]
            exact ih (y + 1) h3 (by omega) I3 F3
          · rw [(F3.2 1 7 (by decide +kernel)).1, ← em] at z
            exact absurd (q_le.mpr (Int.le_refl _)) z
        | succ u ihu =>
          intro j h3 ej I3 F3
          have oj := on_j (n := j) (by omega)
          have xj := ix j y (by omega) (by omega)
          have Ni := (NN (12 * y + j) (by omega)).2
          refine t_X12_book_18 d h3 I3.1 _ _ _ _ ⟨fun z => ?_, fun _ => ?_⟩
          · have z := q_le.mp z
            rw [(F3.2 1 7 (by decide +kernel)).1, oj] at z
            omega
          rw [(F3.2 1 0 (by decide +kernel)).1]
          refine Ci.mono (wage h3 I3 (F3.more (by decide +kernel)) j y (by omega) (by omega)) (fun r7 h5 k5 => ?_)
          obtain ⟨I4, F4, e7⟩ := k5
          have F34 := F3.tr F4
          have e93 : h_i h5 293 (31 * j + y) = S.2.2.2.2.2 (12 * y + j) := (P.fr F34).2.2.2 j y (by omega) (by omega)
          have nx := ihu (j + 1) h5 (by omega) I4 F34
          rw [← Nat.add_assoc, ← on_s (n := j) (by omega)] at nx
          rw [xj.1, e93, e7]
          refine ⟨I4.1, xj.2, fun eq => ?_, fun ne => ?_⟩
          · rw [(bkF_n (now := h_i h 1 0) (fun u => u.2 eq)).2] at nx
            rw [Int32.add_zero]
            exact nx
          · rw [(bkF_y (now := h_i h 1 0) ⟨by omega, ne⟩).2, ← on_s (n := bkN (h_i h 1 7).toNatClampNeg (gMq E b h) S (12 * y + j)) (by omega)] at nx
            exact nx
      exact l18 (h_i h 1 7).toNatClampNeg 0 h2 (by omega) I2 F2
  exact t_X12_book d h _ (l4 D 0 h (by omega) I (Fr.rf _ _))
/-! BOOK: what both sides keep alike -/
noncomputable def ExBk (h : Hp_) : Prop := PBk (sBk h) h ∧ PMk (sBk h) h
noncomputable def bLs : List Nat := [110, 111, 112, 113, 114, 293, 294, 295, 296, 297]
noncomputable def exoBk (ws : List Nat) : Bool := bLs.all (fun a => off ws a) && !inw ws 21 12 && !inw ws 21 13 && !inw ws 1 127
theorem ExBk.cg {h h' : Hp_} (e : ExBk h) (R : ∀ a ∈ bLs, h_i h' a = h_i h a) (f1 : h_i h' 21 12 = h_i h 21 12) (f2 : h_i h' 21 13 = h_i h 21 13) (f3 : h_i h' 1 127 = h_i h 1 127) : ExBk h' := by
  unfold ExBk PBk PMk sBk
  rw [R 110 (by decide), R 111 (by decide), R 112 (by decide), R 113 (by decide), R 114 (by decide), R 293 (by decide), R 294 (by decide), R 295 (by decide), R 296 (by decide), R 297 (by decide), f1, f2, f3]
  exact e
theorem ExBk.fr {ws : List Nat} {h h' : Hp_} (e : ExBk h) (f : Fr ws h h') (o : exoBk ws = true) : ExBk h' := by
  unfold exoBk at o
  simp only [Bool.and_eq_true, Bool.not_eq_true'] at o
  exact e.cg (fun a ha => funext (fun k => fr_i f (List.all_eq_true.mp o.1.1.1 a ha) k)) (f.2 21 12 o.1.1.2).1 (f.2 21 13 o.1.2).1 (f.2 1 127 o.2).1
theorem ExBk.mf {W : List Nat} {h h' : Hp_} (e : ExBk h) (f : Mf W h h') (o : exoBk W = true) : ExBk h' := by
  unfold exoBk at o
  simp only [Bool.and_eq_true, Bool.not_eq_true'] at o
  refine e.cg (fun a ha => funext (fun k => ?_)) (f.2.2.2 21 12 (by decide) o.1.1.2).1 (f.2.2.2 21 13 (by decide) o.1.2).1 (f.1 127)
  have z : bLs.all (fun a => decide (a < 200 ∨ (200 ≤ a ∧ a < 300))) = true := by decide
  rcases of_decide_eq_true (List.all_eq_true.mp z a ha) with b | b
  · exact (f.2.2.2 a k (Or.inl b) (off_inw (List.all_eq_true.mp o.1.1.1 a ha) k)).1
  · exact f.2.1 a b.1 b.2 k
theorem exBk_of {h : Hp_} (n0 : (h_i h 21 12).toNatClampNeg = 0) (a : h_i h 21 12 = 0) (b : h_i h 21 13 = 0) (c : h_i h 1 127 = 0) (z : ∀ c y, c < 12 → y < 14 → h_i h 293 (31 * c + y) = h_i h 110 (12 * y + c)) : ExBk h := by
  refine ⟨⟨?_, ?_, ⟨rfl, rfl, rfl, rfl, rfl⟩, ?_⟩, ?_, ?_, fun k hk => ?_, z⟩
  · show (h_i h 21 12).toNatClampNeg ≤ 600
    omega
  · show h_i h 21 12 = Int32.ofNat (h_i h 21 12).toNatClampNeg
    rw [n0]
    exact a
  · show h_i h 21 13 = smq (h_i h 113) (h_i h 21 12).toNatClampNeg
    rw [n0]
    exact b
  · show (h_i h 21 12).toNatClampNeg ≤ 600
    omega
  · show h_i h 1 127 = Int32.ofNat (h_i h 21 12).toNatClampNeg
    rw [n0]
    exact c
  · have hk : k < (h_i h 21 12).toNatClampNeg := hk
    omega
theorem exBk_F : ExBk HF := exBk_of (by decide +kernel) (by decide +kernel) (by decide +kernel) (by decide +kernel) (fun c y hc hy => by
  have z : (List.range 12).all (fun c => (List.range 14).all (fun y => h_i HF 293 (31 * c + y) == h_i HF 110 (12 * y + c))) = true := by decide +kernel
  exact eq_of_beq (List.all_eq_true.mp (List.all_eq_true.mp z c (List.mem_range.mpr hc)) y (List.mem_range.mpr hy)))
theorem sBk_of {S : bkS} {h : Hp_} (P : PBk S h) : sBk h = S := by
  obtain ⟨a, b, ⟨r1, r2, r3, r4, r5⟩, _⟩ := P
  unfold sBk
  rw [b, on_k (by omega), r1, r2, r3, r4, r5]
theorem PBk.fr {S : bkS} {h h' : Hp_} (P : PBk S h) (f : Fr wBm h h') : PBk S h' := by
  have g : ∀ a, off wBm a = true → h_i h' a = h_i h a := fun a o => funext (fun k => fr_i f o k)
  unfold PBk
  rw [g 21 (by decide +kernel), g 110 (by decide +kernel), g 111 (by decide +kernel), g 112 (by decide +kernel), g 113 (by decide +kernel), g 114 (by decide +kernel)]
  exact P
theorem PMk.fx {S : bkS} {h h' : Hp_} (P : PMk S h) (f : Fr wBk h h') : PMk S h' := by
  have g : ∀ a, off wBk a = true → h_i h' a = h_i h a := fun a o => funext (fun k => fr_i f o k)
  unfold PMk
  rw [g 1 (by decide +kernel), g 293 (by decide +kernel), g 294 (by decide +kernel), g 295 (by decide +kernel), g 296 (by decide +kernel), g 297 (by decide +kernel)]
  exact P
theorem ExBk.bk {h h1 h2 : Hp_} {m D : Nat} {now r1 r2 : Int32} {G G' : Nat → Int32} (k1 : Bkq m D now G (sBk h) (fun S' => PBk S' h1) r1) (k2 : Bkq m D now G' (sBk h) (fun S' => PMk S' h2) r2) (F2 : Fr wBm h1 h2) (e : ∀ i, i < 12 * D → i % 12 < m → G i = G' i) : ExBk h2 ∧ r1 = r2 := by
  have c := bkF_c (m := m) (now := now) (S := sBk h) (12 * D) e
  unfold Bkq at k1
  rw [c.1, c.2] at k1
  by_cases l : (sBk h).1 + bkN m G' (sBk h) (12 * D) ≤ 600
  · have a := k1.1 l
    have b := k2.1 l
    have P2 := PBk.fr a.2 F2
    refine ⟨⟨?_, ?_⟩, a.1.trans b.1.symm⟩
    · rw [sBk_of P2]
      exact P2
    · rw [sBk_of P2]
      exact b.2
  · have a := k1.2 l
    have b := k2.2 l
    have P2 := PBk.fr a.2 F2
    refine ⟨⟨?_, ?_⟩, a.1.trans b.1.symm⟩
    · rw [sBk_of P2]
      exact P2
    · rw [sBk_of P2]
      exact b.2
