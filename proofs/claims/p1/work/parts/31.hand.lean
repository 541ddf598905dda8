/-! p1: by hand: loops -/
def FrM (h : Hp_) : Prop := (∀ k, h_i h 1 k = h_i HF 1 k) ∧ ∀ a, 200 ≤ a → a < 300 → ∀ k, h_i h a k = h_i HF a k
theorem FrM.im {h : Hp_} {a k : Nat} {x : Int32} (f : FrM h) (ha : a ≠ 1 ∧ (a < 200 ∨ 300 ≤ a)) : FrM (h_im h a k x) :=
  ⟨fun j => by rw [h_i_im, if_neg (fun z => ha.1 z.1.symm)]; exact f.1 j, fun b h1 h2 j => by rw [h_i_im, if_neg (fun z => by omega)]; exact f.2 b h1 h2 j⟩
theorem FrM.iw {h : Hp_} {a : Nat} {g : Nat → Int32} (f : FrM h) (ha : a ≠ 1 ∧ (a < 200 ∨ 300 ≤ a)) : FrM (h_iw h a g) :=
  ⟨fun j => by rw [h_i_iw, if_neg (Ne.symm ha.1)]; exact f.1 j, fun b h1 h2 j => by rw [h_i_iw, if_neg (by omega)]; exact f.2 b h1 h2 j⟩
theorem FrM.nw {h : Hp_} {a t n : Nat} (f : FrM h) (ha : a ≠ 1 ∧ (a < 200 ∨ 300 ≤ a)) : FrM (h_nw h a t n) :=
  ⟨fun j => by rw [h_i_nw, if_neg (Ne.symm ha.1)]; exact f.1 j, fun b h1 h2 j => by rw [h_i_nw, if_neg (by omega)]; exact f.2 b h1 h2 j⟩
theorem FrM.rm {h : Hp_} {a k : Nat} {x : Option Nat} (f : FrM h) : FrM (h_rm h a k x) := f
theorem FrM.lm {h : Hp_} {a k : Nat} {x : Int64} (f : FrM h) : FrM (h_lm h a k x) := f
theorem fHF : FrM HF := ⟨fun _ => rfl, fun _ _ _ _ => rfl⟩
theorem nat_of {x : Int32} {n : Nat} (h0 : 0 ≤ x) (h1 : x.toInt < (n : Int)) : ∃ i, i < n ∧ x = Int32.ofNat i := by
  have a := i32_le h0
  rw [show (0 : Int32).toInt = 0 from by decide] at a
  have b := Int32.toInt_lt x
  refine ⟨x.toInt.toNat, by omega, Int32.toInt_inj.mp ?_⟩
  rw [on_int (by omega)]
  omega
theorem pl_of {x : Int32} (h : 0 ≤ x ∧ x < 16) : ∃ i, i < 16 ∧ x = Int32.ofNat i := nat_of h.1 (by
  have := i32_lt h.2
  rw [show (16 : Int32).toInt = 16 from by decide] at this
  omega)
theorem ix_dec : ∀ i, i < 16 → ∀ j, j < 16 → ¬ (Int32.ofNat i * 16 + Int32.ofNat j < 0 ∨ 256 ≤ (Int32.ofNat i * 16 + Int32.ofNat j).toNatClampNeg) := by decide +kernel
theorem ix_nat : ∀ i, i < 16 → ∀ j, j < 16 → (Int32.ofNat i * 16 + Int32.ofNat j).toNatClampNeg = i * 16 + j := by decide +kernel
theorem on_ne {i j : Nat} (hi : i < 2147483648) (hj : j < 2147483648) (h : i ≠ j) : ¬ Int32.ofNat i = Int32.ofNat j := fun z => h (by rw [← on_nat hi, ← on_nat hj, z])
def Pl (h : Hp_) : Prop := Wf h ∧ FrM h ∧ h_i h 10 1 = 0
theorem Pl.im30 {h : Hp_} {k : Nat} {x : Int32} (p : Pl h) : Pl (h_im h 30 k x) := ⟨p.1, p.2.1.im (by decide), p.2.2⟩
theorem s_lay (d : Nat) (h : Hp_) (p : Pl h) (x1 x2 x3 : Int32) (h1 : 0 ≤ x1 ∧ x1 < 16) (h2 : 0 ≤ x2 ∧ x2 < 16) : Ci (m_X9_lay (d + 1) 0 0) [.ref 10, .int x1, .int x2, .int x3] h (fun r h' => r = 0 ∧ Wf h' ∧ FrM h') := by
  obtain ⟨a, ha, rfl⟩ := pl_of h1
  obtain ⟨b, hb, rfl⟩ := pl_of h2
  refine t_X9_lay d h p.1 _ _ _ _ ⟨fun _ => ?_, fun c => absurd (show h_i h 10 1 < 40 from by rw [p.2.2]; decide) c⟩
  have inner : ∀ (i : Nat), i < 16 → ∀ r j : Nat, r + j = 16 → ∀ h, Pl h → (∀ h', Pl h' → AW (m_X9_lay (d + 1) 0 0) 0 0 14 [(0, .ref 10), (1, .int (Int32.ofNat a)), (2, .int (Int32.ofNat b)), (3, .int x3), (4, .int (Int32.ofNat i + 1))] [] h' (kI (fun r h' => r = 0 ∧ Wf h' ∧ FrM h'))) → AW (m_X9_lay (d + 1) 0 0) 0 0 24 [(0, .ref 10), (1, .int (Int32.ofNat a)), (2, .int (Int32.ofNat b)), (3, .int x3), (4, .int (Int32.ofNat i)), (5, .int (Int32.ofNat j))] [] h (kI (fun r h' => r = 0 ∧ Wf h' ∧ FrM h')) := by
    intro i hi r
    induction r with
    | zero =>
      intro j hj h p k
      exact t_X9_lay_24 d h p.1 _ _ _ _ _ _ ⟨fun _ => k h p, fun c => absurd (show (16 : Int32) ≤ Int32.ofNat j from by rw [show j = 16 from by omega]; decide) c⟩
    | succ r ih =>
      intro j hj h p k
      refine t_X9_lay_24 d h p.1 _ _ _ _ _ _ ⟨fun c => absurd ((on_le (i := 16) (by decide) (by omega)).mp c) (by omega), fun _ => ⟨ix_dec i hi a ha, ix_dec b hb j (by omega), ix_dec i hi b hb, ix_dec a ha j (by omega), ix_dec i hi j (by omega), ix_dec i hi j (by omega), ?_⟩⟩
      rw [on_suc]
      exact ih (j + 1) (by omega) _ p.im30 k
  have outer : ∀ r i : Nat, r + i = 16 → ∀ h, Pl h → AW (m_X9_lay (d + 1) 0 0) 0 0 14 [(0, .ref 10), (1, .int (Int32.ofNat a)), (2, .int (Int32.ofNat b)), (3, .int x3), (4, .int (Int32.ofNat i))] [] h (kI (fun r h' => r = 0 ∧ Wf h' ∧ FrM h')) := by
    intro r
    induction r with
    | zero =>
      intro i hi h p
      exact t_X9_lay_14 d h p.1 _ _ _ _ _ ⟨fun _ => ⟨by rw [p.2.2]; decide, p.1, p.2.1.im (by decide)⟩, fun c => absurd (show (16 : Int32) ≤ Int32.ofNat i from by rw [show i = 16 from by omega]; decide) c⟩
    | succ r ih =>
      intro i hi h p
      refine t_X9_lay_14 d h p.1 _ _ _ _ _ ⟨fun c => absurd ((on_le (i := 16) (by decide) (by omega)).mp c) (by omega), fun _ => ?_⟩
      exact inner i (by omega) 16 0 (by omega) h p (fun h' p' => by rw [on_suc]; exact ih (i + 1) (by omega) h' p')
  exact outer 16 0 (by omega) h p
def sp_path (x1 x2 x3 : Int32) : Int32 := if (0 ≤ x1 ∧ x1 < 16) ∧ (0 ≤ x2 ∧ x2 < 16) ∧ ¬ x1 = x2 ∧ (1 ≤ x3 ∧ x3 ≤ 60) then 0 else -1
theorem g_X11_path (d : Nat) (x1 x2 x3 : Int32) : Ci (m_X11_path (d + 2) 0 0) [.ref 0, .int x1, .int x2, .int x3] HF (fun r h' => r = sp_path x1 x2 x3 ∧ Wf h' ∧ FrM h') := by
  refine t_X11_path d HF wHF _ _ _ _ ⟨fun c => ⟨(if_neg (fun z => c z.1)).symm, wHF, fHF⟩, fun c1 => ⟨fun c => ⟨(if_neg (fun z => c z.2.1)).symm, wHF, fHF⟩, fun c2 => ⟨fun c => ⟨(if_neg (fun z => z.2.2.1 c)).symm, wHF, fHF⟩, fun c3 => ⟨fun c4 => ?_, fun c => ⟨(if_neg (fun z => c z.2.2.2)).symm, wHF, fHF⟩⟩⟩⟩⟩
  exact Ci.mono (s_lay d HF ⟨wHF, fHF, by decide +kernel⟩ x1 x2 x3 c1 c2) (fun r h' e => ⟨e.2.1, e.1.trans (if_pos ⟨c1, c2, c3, c4⟩).symm, e.2.1, e.2.2⟩)
def sp_walk (x1 x2 : Int32) : Int32 := if (0 ≤ x1 ∧ x1 < 16) ∧ (0 ≤ x2 ∧ x2 < 16) ∧ x1 = x2 then 0 else -1
theorem wk_HF : ∀ i, i < 16 → ∀ j, j < 16 → h_i HF 30 (i * 16 + j) = if i = j then 0 else 1000000 := by decide +kernel
theorem g_X11_walk (d : Nat) (x1 x2 : Int32) : Ci (m_X11_walk (d + 2) 0 0) [.ref 0, .int x1, .int x2] HF (fun r h' => r = sp_walk x1 x2 ∧ Wf h' ∧ FrM h') := by
  refine t_X11_walk d HF wHF _ _ _ ⟨fun c => ⟨(if_neg (fun z => c z.1)).symm, wHF, fHF⟩, fun c1 => ⟨fun c => ⟨(if_neg (fun z => c z.2.1)).symm, wHF, fHF⟩, fun c2 => ?_⟩⟩
  obtain ⟨a, ha, rfl⟩ := pl_of c1
  obtain ⟨b, hb, rfl⟩ := pl_of c2
  refine t_X9_minutes d HF wHF _ _ _ ⟨fun c => absurd c1 c, fun _ => ⟨fun _ => ⟨ix_dec a ha b hb, ?_, ?_⟩, fun c => absurd c2 c⟩⟩
  · rw [ix_nat a ha b hb, wk_HF a ha b hb]
    intro c
    by_cases e : a = b
    · rw [if_pos e]
      exact ⟨wHF, (if_pos ⟨c1, c2, by rw [e]⟩).symm, wHF, fHF⟩
    · rw [if_neg e] at c
      exact absurd c (by decide)
  · rw [ix_nat a ha b hb, wk_HF a ha b hb]
    intro c
    by_cases e : a = b
    · rw [if_pos e] at c
      exact absurd (by decide) c
    · exact ⟨wHF, (if_neg (fun z => on_ne (by omega) (by omega) e z.2.2)).symm, wHF, fHF⟩
theorem s_walkOf (d : Nat) (h : Hp_) (w : Wf h) (e6 : h_i h 1 6 = 0) (a b : Nat) (ha : a < 16) (hb : b < 16) : Ci (m_X12_walkOf (d + 0) 0 0) [.ref 1, .int (Int32.ofNat a), .int (Int32.ofNat b)] h (fun r h' => Wf h' ∧ r = if a = b then 0 else -1) := by
  refine t_X12_walkOf d h _ _ _ ?_
  have key : ∀ r i : Nat, r + i = 16 → AW (m_X12_walkOf (d + 0) 0 0) 0 0 2 [(0, .ref 1), (1, .int (Int32.ofNat a)), (2, .int (Int32.ofNat b)), (3, .int (Int32.ofNat i))] [] (h_iw h 203 (fl_ (fun k => if k = a then 0 else 100000) (h_i h 203) i)) (kI (fun r h' => Wf h' ∧ r = if a = b then 0 else -1)) := by
    intro r
    induction r with
    | zero =>
      intro i hi
      have hi : i = 16 := by omega
      subst hi
      refine t_X12_walkOf_2 d _ (w.iw _ _) _ _ _ _ ⟨fun _ => ?_, fun c => absurd (by decide) c⟩
      refine t_X12_walkOf_34 d _ (w.iw _ _) _ _ _ ⟨fun c => absurd c (by decide), fun _ => ?_⟩
      refine t_X12_walkOf_43 d _ (w.iw _ _) _ _ _ _ ⟨fun _ => ?_, fun c => absurd (show h_i h 1 6 ≤ 0 from by rw [e6]; decide) c⟩
      have ev : h_i (h_iw h 203 (fl_ (fun k => if k = a then 0 else 100000) (h_i h 203) 16)) 203 (Int32.ofNat b).toNatClampNeg = if b = a then 0 else 100000 := by
        rw [on_nat (by omega), h_i_iw, if_pos rfl]
        exact if_pos hb
      refine t_X12_walkOf_34 d _ (w.iw _ _) _ _ _ ⟨fun _ => ⟨on_in hb (by decide), ?_, ?_⟩, fun c => absurd rfl c⟩
      · rw [ev]
        intro c
        refine ⟨on_in hb (by decide), w, ?_⟩
        by_cases z : a = b
        · rw [if_pos z, if_pos z.symm]
        · rw [if_neg (fun y => z y.symm)] at c
          exact absurd c (by decide)
      · rw [ev]
        intro c
        refine ⟨w, ?_⟩
        by_cases z : a = b
        · rw [if_pos z.symm] at c
          exact absurd (by decide) c
        · rw [if_neg z]
    | succ r ih =>
      intro i hi
      refine t_X12_walkOf_2 d _ (w.iw _ _) _ _ _ _ ⟨fun c => absurd ((on_le (i := 16) (by decide) (by omega)).mp c) (by omega), fun _ => ⟨fun c => ⟨on_in (by omega) (by decide), ?_⟩, fun c => ⟨on_in (by omega) (by decide), ?_⟩⟩⟩
      · have e : (if i = a then (0 : Int32) else 100000) = 100000 := if_neg (fun z => c (by rw [z]))
        have e2 := iw_st h 203 i (fun k => if k = a then (0 : Int32) else 100000) (h_i h 203)
        rw [e] at e2
        rw [on_nat (by omega), on_suc, e2]
        exact ih (i + 1) (by omega)
      · have hia : i = a := by
          rw [← on_nat (i := i) (by omega), ← on_nat (i := a) (by omega), c]
        have e : (if i = a then (0 : Int32) else 100000) = 0 := if_pos hia
        have e2 := iw_st h 203 i (fun k => if k = a then (0 : Int32) else 100000) (h_i h 203)
        rw [e] at e2
        rw [on_nat (by omega), on_suc, e2]
        exact ih (i + 1) (by omega)
  have k := key 16 0 (by omega)
  rw [iw_0] at k
  exact k
theorem g_X12_walk (d : Nat) (h : Hp_) (w : Wf h) (e6 : h_i h 1 6 = 0) (x1 x2 : Int32) : Ci (m_X12_walk (d + 2) 0 0) [.ref 1, .int x1, .int x2] h (fun r _ => r = sp_walk x1 x2) := by
  have conv : ∀ x : Int32, 0 ≤ x ∧ x ≤ 15 → 0 ≤ x ∧ x < 16 := fun x z => ⟨z.1, Int32.lt_of_le_of_lt z.2 (by decide)⟩
  have back : ∀ x : Int32, 0 ≤ x ∧ x < 16 → 0 ≤ x ∧ x ≤ 15 := fun x z => by
    obtain ⟨i, hi, rfl⟩ := pl_of z
    exact ⟨z.1, (on_le (j := 15) (by omega) (by decide)).mpr (by omega)⟩
  refine t_X12_walk d h w _ _ _ ⟨fun c => (if_neg (fun z => c (back _ z.1))).symm, fun c1 => ⟨fun c => (if_neg (fun z => c (back _ z.2.1))).symm, fun c2 => ?_⟩⟩
  obtain ⟨a, ha, rfl⟩ := pl_of (conv _ c1)
  obtain ⟨b, hb, rfl⟩ := pl_of (conv _ c2)
  refine Ci.mono (s_walkOf d h w e6 a b ha hb) (fun r h' e => ⟨e.1, e.2.trans ?_⟩)
  by_cases z : a = b
  · rw [if_pos z]
    exact (if_pos ⟨conv _ c1, conv _ c2, by rw [z]⟩).symm
  · rw [if_neg z]
    exact (if_neg (fun y => on_ne (by omega) (by omega) z y.2.2)).symm
theorem z256 {y x : Int32} (h : y = 0) : 256 * y + x = x := by
  subst h
  rw [Int32.mul_zero, Int32.zero_add]
theorem s_bestFrom (d : Nat) (h : Hp_) (w : Wf h) (e1 : h_i h 1 101 = 0) (x1 x2 : Int32) : Ci (m_X12_bestFrom (d + 1) 0 0) [.ref 1, .int x1, .int x2] h (fun r h' => Wf h' ∧ r = 0) := by
  refine t_X12_bestFrom d h _ _ _ ?_
  have key : ∀ r i : Nat, r + i = 256 → AW (m_X12_bestFrom (d + 1) 0 0) 0 0 2 [(0, .ref 1), (1, .int x1), (2, .int x2), (3, .int (Int32.ofNat i))] [] (h_iw h 280 (fl_ (fun _ => 0) (h_i h 280) i)) (kI (fun r h' => Wf h' ∧ r = 0)) := by
    intro r
    induction r with
    | zero =>
      intro i hi
      have hi : i = 256 := by omega
      subst hi
      refine t_X12_bestFrom_2 d _ (w.iw _ _) _ _ _ _ ⟨fun _ => ?_, fun c => absurd (by decide) c⟩
      have e2 : h_i (h_iw h 280 (fl_ (fun _ => 0) (h_i h 280) 256)) 1 101 = 0 := e1
      rw [e2]
      exact t_X12_bestFrom_38 d _ (w.iw _ _) _ _ _ _ ⟨fun _ => ⟨vin_c (by decide), w, rfl⟩, fun c => absurd (by decide) c⟩
    | succ r ih =>
      intro i hi
      have e2 : h_i (h_iw h 280 (fl_ (fun _ => 0) (h_i h 280) i)) 1 101 = 0 := e1
      refine t_X12_bestFrom_2 d _ (w.iw _ _) _ _ _ _ ⟨fun c => absurd ((on_le (i := 256) (by decide) (by omega)).mp c) (by omega), fun _ => ?_⟩
      rw [z256 e2]
      refine ⟨on_in (by omega) (by decide), ?_⟩
      rw [on_nat (by omega), on_suc, iw_st h 280 i (fun _ => 0) (h_i h 280)]
      exact ih (i + 1) (by omega)
  have k := key 256 0 (by omega)
  rw [iw_0] at k
  exact k
theorem g_X12_joining (d : Nat) (h : Hp_) (w : Wf h) (e1 : h_i h 1 101 = 0) : Ci (m_X12_joining (d + 2) 0 0) [.ref 1] h (fun r _ => r = 0) :=
  t_X12_joining d h w _ (s_bestFrom d h w e1 _ _)
theorem s_findLending (d : Nat) (h : Hp_) (w : Wf h) (e1 : h_i h 1 7 = 0) (e3 : h_i h 1 119 = 0) : Ci (m_X12_findLending (d + 2) 0 0) [.ref 1] h (fun r h' => Wf h' ∧ r = 0) := by
  refine t_X12_findLending d h _ ?_
  refine t_X12_findLending_2 d h w _ _ ⟨fun _ => ?_, fun c => absurd (show h_i h 1 7 ≤ 0 from by rw [e1]; decide) c⟩
  have key : ∀ r i : Nat, r + i = 256 → AW (m_X12_findLending (d + 2) 0 0) 0 0 50 [(0, .ref 1), (1, .int (Int32.ofNat i))] [] (h_iw h 291 (fl_ (fun k => if k = 0 then 0 else 1000000000) (h_i h 291) i)) (kI (fun r h' => Wf h' ∧ r = 0)) := by
    intro r
    induction r with
    | zero =>
      intro i hi
      have hi : i = 256 := by omega
      subst hi
      refine t_X12_findLending_50 d _ (w.iw _ _) _ _ ⟨fun _ => ?_, fun c => absurd (by decide) c⟩
      have e2 : h_i (h_iw h 291 (fl_ (fun k => if k = 0 then 0 else 1000000000) (h_i h 291) 256)) 1 7 = 0 := e1
      rw [e2]
      refine t_X12_findLending_96 d _ (w.iw _ _) _ _ ⟨fun _ => ?_, fun c => absurd (by decide) c⟩
      refine t_X12_codeAll d _ _ ?_
      refine t_X12_codeAll_4 d _ (w.iw _ _) _ _ _ ⟨fun _ => ⟨w, vin_c (by decide), w, rfl⟩, fun c => absurd (show h_i h 1 119 ≤ 0 from by rw [e3]; decide) c⟩
    | succ r ih =>
      intro i hi
      have e2 : h_i (h_iw h 291 (fl_ (fun k => if k = 0 then 0 else 1000000000) (h_i h 291) i)) 1 7 = 0 := e1
      have e4 := iw_st h 291 i (fun k => if k = 0 then (0 : Int32) else 1000000000) (h_i h 291)
      refine t_X12_findLending_50 d _ (w.iw _ _) _ _ ⟨fun c => absurd ((on_le (i := 256) (by decide) (by omega)).mp c) (by omega), fun _ => ⟨fun c => ?_, fun c => ?_⟩⟩
      · rw [z256 e2]
        refine ⟨on_in (by omega) (by decide), ?_⟩
        rw [show (if i = 0 then (0 : Int32) else 1000000000) = 1000000000 from if_neg (fun z => c (by rw [z]; rfl))] at e4
        rw [on_nat (by omega), on_suc, e4]
        exact ih (i + 1) (by omega)
      · rw [z256 e2]
        refine ⟨on_in (by omega) (by decide), ?_⟩
        have hz : i = 0 := by
          rw [← on_nat (i := i) (by omega), c]
          decide
        rw [show (if i = 0 then (0 : Int32) else 1000000000) = 0 from if_pos hz] at e4
        rw [on_nat (by omega), on_suc, e4]
        exact ih (i + 1) (by omega)
  have k := key 256 0 (by omega)
  rw [iw_0] at k
  exact k
