/-! the reference's feed is safe -/
def by_ (x0 x1 x2 x3 x4 x5 : Int32) : Int32 := ((if 4 ≤ x5 then (if 8 ≤ x5 then (if 12 ≤ x5 then (if 16 ≤ x5 then x4 else x3) else x2) else x1) else x0) >>> ((24 - (8 * (x5 - x5 / 4 * 4))) &&& 31)) &&& 255
theorem sf_X12_byteOf (d : Nat) (h : Hp_) (x0 x1 x2 x3 x4 x5 : Int32) : Ci (m_X12_byteOf (d + 0) 0 0) [.int x0, .int x1, .int x2, .int x3, .int x4, .int x5] h (fun r h' => r = by_ x0 x1 x2 x3 x4 x5 ∧ h' = h) :=
  t_X12_byteOf d h x0 x1 x2 x3 x4 x5 _ ⟨fun a => ⟨fun b => ⟨fun c => ⟨fun e => ⟨by unfold by_; rw [if_pos a, if_pos b, if_pos c, if_pos e], rfl⟩, fun e => ⟨by unfold by_; rw [if_pos a, if_pos b, if_pos c, if_neg e], rfl⟩⟩, fun c => ⟨by unfold by_; rw [if_pos a, if_pos b, if_neg c], rfl⟩⟩, fun b => ⟨by unfold by_; rw [if_pos a, if_neg b], rfl⟩⟩, fun a => ⟨by unfold by_; rw [if_neg a], rfl⟩⟩
def cnF (x1 x2 x3 x4 x5 : Int32) : Nat → Nat
  | 0 => 0
  | k + 1 => cnF x1 x2 x3 x4 x5 k + (if by_ x1 x2 x3 x4 x5 (Int32.ofNat k) = 0 then 0 else 1)
theorem cnF_mo (x1 x2 x3 x4 x5 : Int32) (k : Nat) : ∀ r, cnF x1 x2 x3 x4 x5 k ≤ cnF x1 x2 x3 x4 x5 (k + r)
  | 0 => Nat.le_refl _
  | r + 1 => Nat.le_trans (cnF_mo x1 x2 x3 x4 x5 k r) (Nat.le_add_right _ _)
theorem cnF_mk (x1 x2 x3 x4 x5 : Int32) : ∀ k, cnF x1 x2 x3 x4 x5 k ≤ k
  | 0 => Nat.le_refl _
  | k + 1 => by
    have a := cnF_mk x1 x2 x3 x4 x5 k
    show cnF x1 x2 x3 x4 x5 k + _ ≤ _
    split <;> omega
theorem of_ti {x : Int32} {k : Nat} (e : x.toInt = k) (u : k < 2147483648) : x = Int32.ofNat k := ti_eq.mpr (by rw [e, Int32.toInt_ofNat_of_lt (by omega)])
def apM (h h' : Hp_) : Prop := only [225, 1] h h' ∧ bd h' 1 32 0 160 ∧ (∀ j, j ≠ 32 → h_i h' 1 j = h_i h 1 j)
theorem sf_feed_62 (d : Nat) (h0 : Hp_) (x1 x2 x3 x4 x5 : Int32) (s0 : Nat) (hs : s0 + cnF x1 x2 x3 x4 x5 20 ≤ 160) : ∀ (r k : Nat) (x7 : Int32), x7.toInt = k → k + r = 20 → ∀ h, only [225, 1] h0 h → (h_i h 1 32).toInt = s0 + cnF x1 x2 x3 x4 x5 k → (∀ j, j ≠ 32 → h_i h 1 j = h_i h0 1 j) →
    AW (m_X12_feed (d + 1) 0 0) 0 0 62 [(0, .ref 1), (1, .int x1), (2, .int x2), (3, .int x3), (4, .int x4), (5, .int x5), (7, .int x7)] [] h (kI (fun _ h' => apM h0 h')) := by
  have t20 : (20 : Int32).toInt = 20 := rfl
  intro r
  induction r with
  | zero =>
    intro k x7 e q h o b g
    have hk : k = 20 := by omega
    subst hk
    exact t_X12_feed_62 d h o.1 x1 x2 x3 x4 x5 x7 _ ⟨fun _ => ⟨o, ⟨by omega, by omega⟩, g⟩, fun c => absurd (ti_le.mpr (by omega)) c⟩
  | succ r ih =>
    intro k x7 e q h o b g
    have s7 := ti_suc (x := x7) (by omega)
    have ek := of_ti e (by omega)
    refine t_X12_feed_62 d h o.1 x1 x2 x3 x4 x5 x7 _ ⟨fun c => absurd (ti_le.mp c) (by omega), fun _ => Ci.mono (sf_X12_byteOf d h x1 x2 x3 x4 x5 x7) (fun r10 h8 kk => ?_)⟩
    obtain ⟨e1, e2⟩ := kk
    rw [e2]
    have st : cnF x1 x2 x3 x4 x5 (k + 1) = cnF x1 x2 x3 x4 x5 k + (if by_ x1 x2 x3 x4 x5 (Int32.ofNat k) = 0 then 0 else 1) := rfl
    rw [← ek, ← e1] at st
    refine ⟨o.1, fun z => ?_, fun z => ?_⟩
    · rw [if_pos z] at st
      exact ih (k + 1) (x7 + 1) (by omega) (by omega) h o (by rw [b, st]; omega) g
    · rw [if_neg z] at st
      have le := cnF_mo x1 x2 x3 x4 x5 (k + 1) r
      rw [show k + 1 + r = 20 by omega] at le
      have sc := ti_suc (x := h_i h 1 32) (by omega)
      refine ⟨vin_ti (by omega) (by omega), ih (k + 1) (x7 + 1) (by omega) (by omega) _ ((o.im (by decide)).im (by decide)) ?_ (fun j hj => ?_)⟩
      · rw [h_i_im, if_pos ⟨rfl, rfl⟩, sc, b, st]
        omega
      · rw [h_i_im, if_neg (fun z => hj z.2), h_i_im, if_neg (by omega)]
        exact g j hj
theorem sf_feed_6 (d : Nat) (h : Hp_) (w : Wf h) (b : bd h 1 32 0 160) (x1 x2 x3 x4 x5 : Int32) : ∀ (r k : Nat) (x6 x7 : Int32), x7.toInt = k → x6.toInt = cnF x1 x2 x3 x4 x5 k → k + r = 20 →
    AW (m_X12_feed (d + 1) 0 0) 0 0 6 [(0, .ref 1), (1, .int x1), (2, .int x2), (3, .int x3), (4, .int x4), (5, .int x5), (6, .int x6), (7, .int x7)] [] h (kI (fun _ h' => apM h h')) := by
  have t20 : (20 : Int32).toInt = 20 := rfl
  have t160 : (160 : Int32).toInt = 160 := rfl
  have b1 := b.1
  have b2 := b.2
  intro r
  induction r with
  | zero =>
    intro k x6 x7 e e6 q
    have hk : k = 20 := by omega
    subst hk
    have m := cnF_mk x1 x2 x3 x4 x5 20
    have s := ti_add (x := h_i h 1 32) (y := x6) (by omega) (by omega)
    refine t_X12_feed_6 d h w x1 x2 x3 x4 x5 x6 x7 _ ⟨fun _ => ⟨fun c => ?_, fun _ => ⟨only.rf w, b, fun _ _ => rfl⟩⟩, fun c => absurd (ti_le.mpr (by omega)) c⟩
    have c' := ti_le.mp c
    exact sf_feed_62 d h x1 x2 x3 x4 x5 (h_i h 1 32).toInt.toNat (by omega) 20 0 0 rfl rfl h (only.rf w) (by show _ = _ + ((0 : Nat) : Int); omega) (fun _ _ => rfl)
  | succ r ih =>
    intro k x6 x7 e e6 q
    have s7 := ti_suc (x := x7) (by omega)
    have ek := of_ti e (by omega)
    have m := cnF_mk x1 x2 x3 x4 x5 k
    have s6 := ti_suc (x := x6) (by omega)
    refine t_X12_feed_6 d h w x1 x2 x3 x4 x5 x6 x7 _ ⟨fun c => absurd (ti_le.mp c) (by omega), fun _ => Ci.mono (sf_X12_byteOf d h x1 x2 x3 x4 x5 x7) (fun r5 h3 kk => ?_)⟩
    obtain ⟨e1, e2⟩ := kk
    rw [e2]
    have st : cnF x1 x2 x3 x4 x5 (k + 1) = cnF x1 x2 x3 x4 x5 k + (if by_ x1 x2 x3 x4 x5 (Int32.ofNat k) = 0 then 0 else 1) := rfl
    rw [← ek, ← e1] at st
    refine ⟨w, fun z => ?_, fun z => ?_⟩
    · rw [if_pos z] at st
      exact ih (k + 1) (x6 + 0) (x7 + 1) (by omega) (by rw [Int32.add_zero, e6, st]; omega) (by omega)
    · rw [if_neg z] at st
      exact ih (k + 1) (x6 + 1) (x7 + 1) (by omega) (by rw [s6, e6, st]; omega) (by omega)
theorem sf_X12_feed (d : Nat) (h : Hp_) (w : Wf h) (b : bd h 1 32 0 160) (x1 x2 x3 x4 x5 : Int32) : Ci (m_X12_feed (d + 1) 0 0) [.ref 1, .int x1, .int x2, .int x3, .int x4, .int x5] h (fun _ h' => apM h h') :=
  t_X12_feed d h x1 x2 x3 x4 x5 _ (sf_feed_6 d h w b x1 x2 x3 x4 x5 20 0 0 0 rfl rfl rfl)
