def bts (a b c e g : Int32) (k : Nat) : Int32 := match k with
  | 0 => bt a 24
  | 1 => bt a 16
  | 2 => bt a 8
  | 3 => bt a 0
  | 4 => bt b 24
  | 5 => bt b 16
  | 6 => bt b 8
  | 7 => bt b 0
  | 8 => bt c 24
  | 9 => bt c 16
  | 10 => bt c 8
  | 11 => bt c 0
  | 12 => bt e 24
  | 13 => bt e 16
  | 14 => bt e 8
  | 15 => bt e 0
  | 16 => bt g 24
  | 17 => bt g 16
  | 18 => bt g 8
  | 19 => bt g 0
  | _ => 0
theorem by_0 (d : Nat) (h : Hp_) (a b c e g : Int32) : Ci (m_X12_byteOf (d + 0) 0 0) [.int a, .int b, .int c, .int e, .int g, .int (Int32.ofNat 0)] h (fun r h' => r = bts a b c e g 0 ∧ h' = h) := t_X12_byteOf d h a b c e g 0 _ ⟨fun z => absurd z (by decide), fun _ => ⟨by rw [show ((24 : Int32) - 8 * (0 - 0 / 4 * 4)) = 24 from by decide]; rfl, rfl⟩⟩
theorem by_1 (d : Nat) (h : Hp_) (a b c e g : Int32) : Ci (m_X12_byteOf (d + 0) 0 0) [.int a, .int b, .int c, .int e, .int g, .int (Int32.ofNat 1)] h (fun r h' => r = bts a b c e g 1 ∧ h' = h) := t_X12_byteOf d h a b c e g 1 _ ⟨fun z => absurd z (by decide), fun _ => ⟨by rw [show ((24 : Int32) - 8 * (1 - 1 / 4 * 4)) = 16 from by decide]; rfl, rfl⟩⟩
theorem by_2 (d : Nat) (h : Hp_) (a b c e g : Int32) : Ci (m_X12_byteOf (d + 0) 0 0) [.int a, .int b, .int c, .int e, .int g, .int (Int32.ofNat 2)] h (fun r h' => r = bts a b c e g 2 ∧ h' = h) := t_X12_byteOf d h a b c e g 2 _ ⟨fun z => absurd z (by decide), fun _ => ⟨by rw [show ((24 : Int32) - 8 * (2 - 2 / 4 * 4)) = 8 from by decide]; rfl, rfl⟩⟩
theorem by_3 (d : Nat) (h : Hp_) (a b c e g : Int32) : Ci (m_X12_byteOf (d + 0) 0 0) [.int a, .int b, .int c, .int e, .int g, .int (Int32.ofNat 3)] h (fun r h' => r = bts a b c e g 3 ∧ h' = h) := t_X12_byteOf d h a b c e g 3 _ ⟨fun z => absurd z (by decide), fun _ => ⟨by rw [show ((24 : Int32) - 8 * (3 - 3 / 4 * 4)) = 0 from by decide]; rfl, rfl⟩⟩
theorem by_4 (d : Nat) (h : Hp_) (a b c e g : Int32) : Ci (m_X12_byteOf (d + 0) 0 0) [.int a, .int b, .int c, .int e, .int g, .int (Int32.ofNat 4)] h (fun r h' => r = bts a b c e g 4 ∧ h' = h) := t_X12_byteOf d h a b c e g 4 _ ⟨fun _ => ⟨fun z => absurd z (by decide), fun _ => ⟨by rw [show ((24 : Int32) - 8 * (4 - 4 / 4 * 4)) = 24 from by decide]; rfl, rfl⟩⟩, fun z => absurd (by decide) z⟩
theorem by_5 (d : Nat) (h : Hp_) (a b c e g : Int32) : Ci (m_X12_byteOf (d + 0) 0 0) [.int a, .int b, .int c, .int e, .int g, .int (Int32.ofNat 5)] h (fun r h' => r = bts a b c e g 5 ∧ h' = h) := t_X12_byteOf d h a b c e g 5 _ ⟨fun _ => ⟨fun z => absurd z (by decide), fun _ => ⟨by rw [show ((24 : Int32) - 8 * (5 - 5 / 4 * 4)) = 16 from by decide]; rfl, rfl⟩⟩, fun z => absurd (by decide) z⟩
theorem by_6 (d : Nat) (h : Hp_) (a b c e g : Int32) : Ci (m_X12_byteOf (d + 0) 0 0) [.int a, .int b, .int c, .int e, .int g, .int (Int32.ofNat 6)] h (fun r h' => r = bts a b c e g 6 ∧ h' = h) := t_X12_byteOf d h a b c e g 6 _ ⟨fun _ => ⟨fun z => absurd z (by decide), fun _ => ⟨by rw [show ((24 : Int32) - 8 * (6 - 6 / 4 * 4)) = 8 from by decide]; rfl, rfl⟩⟩, fun z => absurd (by decide) z⟩
theorem by_7 (d : Nat) (h : Hp_) (a b c e g : Int32) : Ci (m_X12_byteOf (d + 0) 0 0) [.int a, .int b, .int c, .int e, .int g, .int (Int32.ofNat 7)] h (fun r h' => r = bts a b c e g 7 ∧ h' = h) := t_X12_byteOf d h a b c e g 7 _ ⟨fun _ => ⟨fun z => absurd z (by decide), fun _ => ⟨by rw [show ((24 : Int32) - 8 * (7 - 7 / 4 * 4)) = 0 from by decide]; rfl, rfl⟩⟩, fun z => absurd (by decide) z⟩
theorem by_8 (d : Nat) (h : Hp_) (a b c e g : Int32) : Ci (m_X12_byteOf (d + 0) 0 0) [.int a, .int b, .int c, .int e, .int g, .int (Int32.ofNat 8)] h (fun r h' => r = bts a b c e g 8 ∧ h' = h) := t_X12_byteOf d h a b c e g 8 _ ⟨fun _ => ⟨fun _ => ⟨fun z => absurd z (by decide), fun _ => ⟨by rw [show ((24 : Int32) - 8 * (8 - 8 / 4 * 4)) = 24 from by decide]; rfl, rfl⟩⟩, fun z => absurd (by decide) z⟩, fun z => absurd (by decide) z⟩
theorem by_9 (d : Nat) (h : Hp_) (a b c e g : Int32) : Ci (m_X12_byteOf (d + 0) 0 0) [.int a, .int b, .int c, .int e, .int g, .int (Int32.ofNat 9)] h (fun r h' => r = bts a b c e g 9 ∧ h' = h) := t_X12_byteOf d h a b c e g 9 _ ⟨fun _ => ⟨fun _ => ⟨fun z => absurd z (by decide), fun _ => ⟨by rw [show ((24 : Int32) - 8 * (9 - 9 / 4 * 4)) = 16 from by decide]; rfl, rfl⟩⟩, fun z => absurd (by decide) z⟩, fun z => absurd (by decide) z⟩
theorem by_10 (d : Nat) (h : Hp_) (a b c e g : Int32) : Ci (m_X12_byteOf (d + 0) 0 0) [.int a, .int b, .int c, .int e, .int g, .int (Int32.ofNat 10)] h (fun r h' => r = bts a b c e g 10 ∧ h' = h) := t_X12_byteOf d h a b c e g 10 _ ⟨fun _ => ⟨fun _ => ⟨fun z => absurd z (by decide), fun _ => ⟨by rw [show ((24 : Int32) - 8 * (10 - 10 / 4 * 4)) = 8 from by decide]; rfl, rfl⟩⟩, fun z => absurd (by decide) z⟩, fun z => absurd (by decide) z⟩
theorem by_11 (d : Nat) (h : Hp_) (a b c e g : Int32) : Ci (m_X12_byteOf (d + 0) 0 0) [.int a, .int b, .int c, .int e, .int g, .int (Int32.ofNat 11)] h (fun r h' => r = bts a b c e g 11 ∧ h' = h) := t_X12_byteOf d h a b c e g 11 _ ⟨fun _ => ⟨fun _ => ⟨fun z => absurd z (by decide), fun _ => ⟨by rw [show ((24 : Int32) - 8 * (11 - 11 / 4 * 4)) = 0 from by decide]; rfl, rfl⟩⟩, fun z => absurd (by decide) z⟩, fun z => absurd (by decide) z⟩
theorem by_12 (d : Nat) (h : Hp_) (a b c e g : Int32) : Ci (m_X12_byteOf (d + 0) 0 0) [.int a, .int b, .int c, .int e, .int g, .int (Int32.ofNat 12)] h (fun r h' => r = bts a b c e g 12 ∧ h' = h) := t_X12_byteOf d h a b c e g 12 _ ⟨fun _ => ⟨fun _ => ⟨fun _ => ⟨fun z => absurd z (by decide), fun _ => ⟨by rw [show ((24 : Int32) - 8 * (12 - 12 / 4 * 4)) = 24 from by decide]; rfl, rfl⟩⟩, fun z => absurd (by decide) z⟩, fun z => absurd (by decide) z⟩, fun z => absurd (by decide) z⟩
theorem by_13 (d : Nat) (h : Hp_) (a b c e g : Int32) : Ci (m_X12_byteOf (d + 0) 0 0) [.int a, .int b, .int c, .int e, .int g, .int (Int32.ofNat 13)] h (fun r h' => r = bts a b c e g 13 ∧ h' = h) := t_X12_byteOf d h a b c e g 13 _ ⟨fun _ => ⟨fun _ => ⟨fun _ => ⟨fun z => absurd z (by decide), fun _ => ⟨by rw [show ((24 : Int32) - 8 * (13 - 13 / 4 * 4)) = 16 from by decide]; rfl, rfl⟩⟩, fun z => absurd (by decide) z⟩, fun z => absurd (by decide) z⟩, fun z => absurd (by decide) z⟩
theorem by_14 (d : Nat) (h : Hp_) (a b c e g : Int32) : Ci (m_X12_byteOf (d + 0) 0 0) [.int a, .int b, .int c, .int e, .int g, .int (Int32.ofNat 14)] h (fun r h' => r = bts a b c e g 14 ∧ h' = h) := t_X12_byteOf d h a b c e g 14 _ ⟨fun _ => ⟨fun _ => ⟨fun _ => ⟨fun z => absurd z (by decide), fun _ => ⟨by rw [show ((24 : Int32) - 8 * (14 - 14 / 4 * 4)) = 8 from by decide]; rfl, rfl⟩⟩, fun z => absurd (by decide) z⟩, fun z => absurd (by decide) z⟩, fun z => absurd (by decide) z⟩
theorem by_15 (d : Nat) (h : Hp_) (a b c e g : Int32) : Ci (m_X12_byteOf (d + 0) 0 0) [.int a, .int b, .int c, .int e, .int g, .int (Int32.ofNat 15)] h (fun r h' => r = bts a b c e g 15 ∧ h' = h) := t_X12_byteOf d h a b c e g 15 _ ⟨fun _ => ⟨fun _ => ⟨fun _ => ⟨fun z => absurd z (by decide), fun _ => ⟨by rw [show ((24 : Int32) - 8 * (15 - 15 / 4 * 4)) = 0 from by decide]; rfl, rfl⟩⟩, fun z => absurd (by decide) z⟩, fun z => absurd (by decide) z⟩, fun z => absurd (by decide) z⟩
theorem by_16 (d : Nat) (h : Hp_) (a b c e g : Int32) : Ci (m_X12_byteOf (d + 0) 0 0) [.int a, .int b, .int c, .int e, .int g, .int (Int32.ofNat 16)] h (fun r h' => r = bts a b c e g 16 ∧ h' = h) := t_X12_byteOf d h a b c e g 16 _ ⟨fun _ => ⟨fun _ => ⟨fun _ => ⟨fun _ => ⟨by rw [show ((24 : Int32) - 8 * (16 - 16 / 4 * 4)) = 24 from by decide]; rfl, rfl⟩, fun z => absurd (by decide) z⟩, fun z => absurd (by decide) z⟩, fun z => absurd (by decide) z⟩, fun z => absurd (by decide) z⟩
theorem by_17 (d : Nat) (h : Hp_) (a b c e g : Int32) : Ci (m_X12_byteOf (d + 0) 0 0) [.int a, .int b, .int c, .int e, .int g, .int (Int32.ofNat 17)] h (fun r h' => r = bts a b c e g 17 ∧ h' = h) := t_X12_byteOf d h a b c e g 17 _ ⟨fun _ => ⟨fun _ => ⟨fun _ => ⟨fun _ => ⟨by rw [show ((24 : Int32) - 8 * (17 - 17 / 4 * 4)) = 16 from by decide]; rfl, rfl⟩, fun z => absurd (by decide) z⟩, fun z => absurd (by decide) z⟩, fun z => absurd (by decide) z⟩, fun z => absurd (by decide) z⟩
theorem by_18 (d : Nat) (h : Hp_) (a b c e g : Int32) : Ci (m_X12_byteOf (d + 0) 0 0) [.int a, .int b, .int c, .int e, .int g, .int (Int32.ofNat 18)] h (fun r h' => r = bts a b c e g 18 ∧ h' = h) := t_X12_byteOf d h a b c e g 18 _ ⟨fun _ => ⟨fun _ => ⟨fun _ => ⟨fun _ => ⟨by rw [show ((24 : Int32) - 8 * (18 - 18 / 4 * 4)) = 8 from by decide]; rfl, rfl⟩, fun z => absurd (by decide) z⟩, fun z => absurd (by decide) z⟩, fun z => absurd (by decide) z⟩, fun z => absurd (by decide) z⟩
theorem by_19 (d : Nat) (h : Hp_) (a b c e g : Int32) : Ci (m_X12_byteOf (d + 0) 0 0) [.int a, .int b, .int c, .int e, .int g, .int (Int32.ofNat 19)] h (fun r h' => r = bts a b c e g 19 ∧ h' = h) := t_X12_byteOf d h a b c e g 19 _ ⟨fun _ => ⟨fun _ => ⟨fun _ => ⟨fun _ => ⟨by rw [show ((24 : Int32) - 8 * (19 - 19 / 4 * 4)) = 0 from by decide]; rfl, rfl⟩, fun z => absurd (by decide) z⟩, fun z => absurd (by decide) z⟩, fun z => absurd (by decide) z⟩, fun z => absurd (by decide) z⟩
theorem by_all (d : Nat) (h : Hp_) (a b c e g : Int32) (k : Nat) (hk : k < 20) : Ci (m_X12_byteOf (d + 0) 0 0) [.int a, .int b, .int c, .int e, .int g, .int (Int32.ofNat k)] h (fun r h' => r = bts a b c e g k ∧ h' = h) := by
  match k, hk with
  | 0, _ => exact by_0 d h a b c e g
  | 1, _ => exact by_1 d h a b c e g
  | 2, _ => exact by_2 d h a b c e g
  | 3, _ => exact by_3 d h a b c e g
  | 4, _ => exact by_4 d h a b c e g
  | 5, _ => exact by_5 d h a b c e g
  | 6, _ => exact by_6 d h a b c e g
  | 7, _ => exact by_7 d h a b c e g
  | 8, _ => exact by_8 d h a b c e g
  | 9, _ => exact by_9 d h a b c e g
  | 10, _ => exact by_10 d h a b c e g
  | 11, _ => exact by_11 d h a b c e g
  | 12, _ => exact by_12 d h a b c e g
  | 13, _ => exact by_13 d h a b c e g
  | 14, _ => exact by_14 d h a b c e g
  | 15, _ => exact by_15 d h a b c e g
  | 16, _ => exact by_16 d h a b c e g
  | 17, _ => exact by_17 d h a b c e g
  | 18, _ => exact by_18 d h a b c e g
  | 19, _ => exact by_19 d h a b c e g
  | k + 20, hk => exact absurd hk (by omega)
def cn_ (a b c e g : Int32) : Nat → Nat
  | 0 => 0
  | k + 1 => cn_ a b c e g k + nz (bts a b c e g k)
theorem cn_20 (a b c e g : Int32) : cn_ a b c e g 20 = sg a + sg b + sg c + sg e + sg g := by
  simp only [cn_, bts, sg]
  omega
theorem cn_le (a b c e g : Int32) : ∀ k, cn_ a b c e g k ≤ k
  | 0 => Nat.le_refl _
  | k + 1 => by
    have h1 := cn_le a b c e g k
    have h2 := nz_le (bts a b c e g k)
    simp only [cn_]
    omega
theorem g_X12_feed (d : Nat) (h : Hp_) (w : Wf h) (e0 : h_i h 1 32 = 0) (a b c e g : Int32) : Ci (m_X12_feed (d + 1) 0 0) [.ref 1, .int a, .int b, .int c, .int e, .int g] h (fun r _ => r = sp_feed a b c e g) := by
  have two : ∀ r k : Nat, r + k = 20 → ∀ h, Wf h → h_i h 1 32 = Int32.ofNat (cn_ a b c e g k) → AW (m_X12_feed (d + 1) 0 0) 0 0 62 [(0, .ref 1), (1, .int a), (2, .int b), (3, .int c), (4, .int e), (5, .int g), (7, .int (Int32.ofNat k))] [] h (kI (fun r _ => r = sp_feed a b c e g)) := by
    intro r
    induction r with
    | zero =>
      intro k hk h w e1
      have hk : k = 20 := by omega
      subst hk
      refine t_X12_feed_62 d h w _ _ _ _ _ _ _ ⟨fun _ => ?_, fun z => absurd (by decide) z⟩
      rw [e1, cn_20]
      rfl
    | succ r ih =>
      intro k hk h w e1
      have hl := cn_le a b c e g k
      refine t_X12_feed_62 d h w _ _ _ _ _ _ _ ⟨fun z => absurd ((on_le (i := 20) (by decide) (by omega)).mp z) (by omega), fun _ => ?_⟩
      refine Ci.mono (by_all d h a b c e g k (by omega)) (fun r1 h1 z1 => ?_)
      obtain ⟨rfl, z1⟩ := z1
      obtain rfl := z1.symm
      refine ⟨w, fun z => ?_, fun z => ⟨?_, ?_⟩⟩
      · rw [on_suc]
        exact ih (k + 1) (by omega) _ w (by rw [e1]; simp only [cn_, nz_0 z, Nat.add_zero])
      · rw [e1]
        exact on_in (by omega) (by decide)
      · rw [on_suc]
        refine ih (k + 1) (by omega) _ ((w.im _ _ _).im _ _ _) ?_
        show h_i h 1 32 + 1 = _
        rw [e1, on_suc]
        simp only [cn_, nz_1 z]
  have one : ∀ r k : Nat, r + k = 20 → AW (m_X12_feed (d + 1) 0 0) 0 0 6 [(0, .ref 1), (1, .int a), (2, .int b), (3, .int c), (4, .int e), (5, .int g), (6, .int (Int32.ofNat (cn_ a b c e g k))), (7, .int (Int32.ofNat k))] [] h (kI (fun r _ => r = sp_feed a b c e g)) := by
    intro r
    induction r with
    | zero =>
      intro k hk
      have hk : k = 20 := by omega
      subst hk
      have hl := cn_le a b c e g 20
      refine t_X12_feed_6 d h w _ _ _ _ _ _ _ _ ⟨fun _ => ⟨fun _ => ?_, fun z => absurd ?_ z⟩, fun z => absurd (by decide) z⟩
      · exact two 20 0 (by omega) h w e0
      · rw [e0, Int32.zero_add]
        exact (on_le (j := 160) (by omega) (by decide)).mpr (by omega)
    | succ r ih =>
      intro k hk
      refine t_X12_feed_6 d h w _ _ _ _ _ _ _ _ ⟨fun z => absurd ((on_le (i := 20) (by decide) (by omega)).mp z) (by omega), fun _ => ?_⟩
      refine Ci.mono (by_all d h a b c e g k (by omega)) (fun r1 h1 z1 => ?_)
      obtain ⟨rfl, z1⟩ := z1
      obtain rfl := z1.symm
      have ih2 := ih (k + 1) (by omega)
      refine ⟨w, fun z => ?_, fun z => ?_⟩
      · rw [on_suc, Int32.add_zero]
        simp only [cn_, nz_0 z, Nat.add_zero] at ih2
        exact ih2
      · rw [on_suc, on_suc]
        simp only [cn_, nz_1 z] at ih2
        exact ih2
  exact t_X12_feed d h _ _ _ _ _ _ (one 20 0 (by omega))
