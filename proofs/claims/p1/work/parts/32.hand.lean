/-! p1: by hand: lending, tick, feed -/
def sp_lend (x1 : Int32) : Int32 := if 0 ≤ x1 ∧ x1 ≤ 1 then 0 else -1
theorem g_X12_lending (d : Nat) (h : Hp_) (w : Wf h) (e1 : h_i h 1 7 = 0) (e3 : h_i h 1 119 = 0) (x1 : Int32) : Ci (m_X12_lending (d + 3) 0 0) [.ref 1, .int x1] h (fun r _ => r = sp_lend x1) := by
  refine t_X12_lending d h w _ _ ⟨fun c => (if_neg c).symm, fun c => ?_⟩
  refine Ci.mono (s_findLending d h w e1 e3) (fun r h' e => ⟨e.1, ⟨fun _ => ⟨fun _ => ?_, fun _ => ?_⟩, fun z => ?_⟩⟩)
  · rw [e.2]
    exact (show (0 : Int32) - 0 / 1000000 * 1000000 = 0 by decide).trans (if_pos c).symm
  · rw [e.2]
    exact (show (0 : Int32) / 1000000 = 0 by decide).trans (if_pos c).symm
  · rw [e.2] at z
    exact absurd z (by decide)
def sp_tick (x1 : Int32) : Int32 := if 0 ≤ x1 ∧ x1 ≤ 1500 then x1 else -1
theorem tk_of {x1 : Int32} (c : 0 ≤ x1 ∧ x1 ≤ 1500) : ∃ n, n < 1501 ∧ x1 = Int32.ofNat n := nat_of c.1 (by
  have := i32_le c.2
  rw [show (1500 : Int32).toInt = 1500 from by decide] at this
  omega)
theorem g_X12_tick (d : Nat) (h : Hp_) (w : Wf h) (e0 : h_i h 1 0 = 0) (e7 : h_i h 1 7 = 0) (x1 : Int32) : Ci (m_X12_tick (d + 10) 0 0) [.ref 1, .int x1] h (fun r _ => r = sp_tick x1) := by
  refine t_X12_tick d h w _ _ ⟨fun c => (if_neg c).symm, fun c => ⟨fun _ => ?_, fun c2 => absurd ?_ c2⟩⟩
  · obtain ⟨n, hn, rfl⟩ := tk_of c
    have key : ∀ r i : Nat, r + i = n → ∀ h, Wf h → h_i h 1 0 = Int32.ofNat i → h_i h 1 7 = 0 → AW (m_X12_tick (d + 10) 0 0) 0 0 27 [(0, .ref 1), (1, .int (Int32.ofNat n)), (2, .int (Int32.ofNat i))] [] h (kI (fun r _ => r = sp_tick (Int32.ofNat n))) := by
      intro r
      induction r with
      | zero =>
        intro i hi h w e0 e7
        have hi : i = n := by omega
        subst hi
        exact t_X12_tick_27 d h w _ _ _ ⟨fun _ => e0.trans (if_pos c).symm, fun z => absurd (Int32.le_refl _) z⟩
      | succ r ih =>
        intro i hi h w e0 e7
        refine t_X12_tick_27 d h w _ _ _ ⟨fun z => absurd ((on_le (by omega) (by omega)).mp z) (by omega), fun _ => ?_⟩
        refine t_X12_tick_34 d h w _ _ _ _ ⟨fun _ => ?_, fun z => absurd (show h_i h 1 7 ≤ 0 from by rw [e7]; decide) z⟩
        refine t_X12_tick_82 d _ (w.im _ _ _) _ _ _ _ ⟨fun _ => ?_, fun z => absurd (show h_i h 1 7 ≤ 0 from by rw [e7]; decide) z⟩
        rw [on_suc]
        exact ih (i + 1) (by omega) _ (w.im _ _ _) (by show h_i h 1 0 + 1 = _; rw [e0, on_suc]) e7
    exact key n 0 (by omega) h w e0 e7
  · obtain ⟨n, hn, rfl⟩ := tk_of c
    rw [e0, Int32.zero_add]
    exact (on_le (j := 20000) (by omega) (by decide)).mpr (by omega)
/-- one byte of a number -/
def bt (x s : Int32) : Int32 := (x >>> (s &&& 31)) &&& 255
def nz (x : Int32) : Nat := if x = 0 then 0 else 1
theorem nz_0 {x : Int32} (h : x = 0) : nz x = 0 := if_pos h
theorem nz_1 {x : Int32} (h : ¬ x = 0) : nz x = 1 := if_neg h
theorem nz_le (x : Int32) : nz x ≤ 1 := by unfold nz; split <;> omega
def sg (x : Int32) : Nat := nz (bt x 24) + nz (bt x 16) + nz (bt x 8) + nz (bt x 0)
theorem sg_le (x : Int32) : sg x ≤ 4 := by
  have h1 := nz_le (bt x 24)
  have h2 := nz_le (bt x 16)
  have h3 := nz_le (bt x 8)
  have h4 := nz_le (bt x 0)
  unfold sg
  omega
theorem s_signs (d : Nat) (h : Hp_) (x : Int32) : Ci (m_X8_signs (d + 0) 0 0) [.int x] h (fun r h' => r = Int32.ofNat (sg x) ∧ h' = h) := by
  have step : ∀ (s s' : Int32) (n : Nat), ¬ s < 0 → s + (-8) = s' → (AW (m_X8_signs (d + 0) 0 0) 0 0 5 [(0, .int x), (1, .int (Int32.ofNat (n + nz (bt x s)))), (2, .int s')] [] h (kI (fun r h' => r = Int32.ofNat (sg x) ∧ h' = h))) → AW (m_X8_signs (d + 0) 0 0) 0 0 5 [(0, .int x), (1, .int (Int32.ofNat n)), (2, .int s)] [] h (kI (fun r h' => r = Int32.ofNat (sg x) ∧ h' = h)) := by
    intro s s' n hs hs' k
    refine t_X8_signs_5 d h _ _ _ _ ⟨fun c => absurd c hs, fun _ => ⟨fun c => ?_, fun c => ?_⟩⟩
    · rw [nz_0 (show bt x s = 0 from c)] at k
      rw [hs']
      exact k
    · rw [nz_1 (show ¬ bt x s = 0 from c)] at k
      rw [hs', on_suc]
      exact k
  refine t_X8_signs d h _ _ ?_
  refine step 24 16 0 (by decide) (by decide) ?_
  refine step 16 8 _ (by decide) (by decide) ?_
  refine step 8 0 _ (by decide) (by decide) ?_
  refine step 0 (-8) _ (by decide) (by decide) ?_
  refine t_X8_signs_5 d h _ _ _ _ ⟨fun _ => ⟨?_, rfl⟩, fun c => absurd (by decide) c⟩
  unfold sg
  rw [Nat.zero_add]
theorem s_append (d : Nat) (h : Hp_) (w : Wf h) (f : FrM h) (L : Nat) (hL : L ≤ 156) (e : h_i h 11 1 = Int32.ofNat L) (x : Int32) : Cv (m_X8_append (d + 0) 0 0) [.ref 11, .int x] h (fun h' => Wf h' ∧ FrM h' ∧ h_i h' 11 1 = Int32.ofNat (L + sg x)) := by
  have step : ∀ (s s' : Int32) (n : Nat) (h : Hp_), n < 160 → Wf h → FrM h → h_i h 11 1 = Int32.ofNat n → ¬ s < 0 → s + (-8) = s' → (∀ h, Wf h → FrM h → h_i h 11 1 = Int32.ofNat (n + nz (bt x s)) → AW (m_X8_append (d + 0) 0 0) 0 0 3 [(0, .ref 11), (1, .int x), (2, .int s')] [] h (kV (fun h' => Wf h' ∧ FrM h' ∧ h_i h' 11 1 = Int32.ofNat (L + sg x)))) → AW (m_X8_append (d + 0) 0 0) 0 0 3 [(0, .ref 11), (1, .int x), (2, .int s)] [] h (kV (fun h' => Wf h' ∧ FrM h' ∧ h_i h' 11 1 = Int32.ofNat (L + sg x))) := by
    intro s s' n h hn w f e hs hs' k
    refine t_X8_append_3 d h w _ _ _ ⟨fun c => absurd c hs, fun _ => ⟨fun c => ?_, fun c => ⟨fun z => ?_, fun _ => ?_⟩⟩⟩
    · rw [hs']
      exact k h w f (by rw [nz_0 (show bt x s = 0 from c)]; exact e)
    · rw [e] at z
      exact absurd ((on_le (i := 160) (by decide) (by omega)).mp z) (by omega)
    · rw [hs']
      refine ⟨by rw [e]; exact on_in hn (by decide), ?_⟩
      refine k _ ((w.im _ _ _).im _ _ _) ((f.im (by decide)).im (by decide)) ?_
      rw [nz_1 (show ¬ bt x s = 0 from c)]
      show h_i h 11 1 + 1 = _
      rw [e, on_suc]
  have h1 := nz_le (bt x 24)
  have h2 := nz_le (bt x 16)
  have h3 := nz_le (bt x 8)
  refine t_X8_append d h _ _ ?_
  refine step 24 16 L h (by omega) w f e (by decide) (by decide) (fun h w f e => ?_)
  refine step 16 8 _ h (by omega) w f e (by decide) (by decide) (fun h w f e => ?_)
  refine step 8 0 _ h (by omega) w f e (by decide) (by decide) (fun h w f e => ?_)
  refine step 0 (-8) _ h (by omega) w f e (by decide) (by decide) (fun h w f e => ?_)
  refine t_X8_append_3 d h w _ _ _ ⟨fun _ => ⟨w, f, ?_⟩, fun c => absurd (by decide) c⟩
  rw [e]
  congr 1
  unfold sg
  omega
def sp_feed (a b c e g : Int32) : Int32 := Int32.ofNat (sg a + sg b + sg c + sg e + sg g)
theorem on_add (i j : Nat) : Int32.ofNat i + Int32.ofNat j = Int32.ofNat (i + j) := (Int32.ofNat_add i j).symm
theorem g_X11_feed (d : Nat) (a b c e g : Int32) : Ci (m_X11_feed (d + 2) 0 0) [.ref 0, .int a, .int b, .int c, .int e, .int g] HF (fun r h' => r = sp_feed a b c e g ∧ Wf h' ∧ FrM h') := by
  have la := sg_le a
  have lb := sg_le b
  have lc := sg_le c
  have le := sg_le e
  have lg := sg_le g
  have e0 : h_i HF 11 1 = Int32.ofNat 0 := by decide +kernel
  refine t_X11_feed d HF wHF _ _ _ _ _ _ ?_
  refine t_X8_takeIn d HF _ _ _ _ _ _ ?_
  refine Ci.mono (s_signs d HF a) (fun r1 h1 z1 => ?_)
  obtain ⟨rfl, z1⟩ := z1
  obtain rfl := z1.symm
  refine ⟨wHF, Ci.mono (s_signs d _ b) (fun r1 h1 z1 => ?_)⟩
  obtain ⟨rfl, z1⟩ := z1
  obtain rfl := z1.symm
  refine ⟨wHF, Ci.mono (s_signs d _ c) (fun r1 h1 z1 => ?_)⟩
  obtain ⟨rfl, z1⟩ := z1
  obtain rfl := z1.symm
  refine ⟨wHF, Ci.mono (s_signs d _ e) (fun r1 h1 z1 => ?_)⟩
  obtain ⟨rfl, z1⟩ := z1
  obtain rfl := z1.symm
  refine ⟨wHF, Ci.mono (s_signs d _ g) (fun r1 h1 z1 => ?_)⟩
  obtain ⟨rfl, z1⟩ := z1
  obtain rfl := z1.symm
  refine ⟨wHF, fun _ => ?_, fun z => absurd ?_ z⟩
  · refine Cv.mono (s_append d HF wHF fHF 0 (by omega) e0 a) (fun h1 ⟨w1, f1, e1⟩ => ⟨w1, ?_⟩)
    refine Cv.mono (s_append d h1 w1 f1 _ (by omega) e1 b) (fun h2 ⟨w2, f2, e2⟩ => ⟨w2, ?_⟩)
    refine Cv.mono (s_append d h2 w2 f2 _ (by omega) e2 c) (fun h3 ⟨w3, f3, e3⟩ => ⟨w3, ?_⟩)
    refine Cv.mono (s_append d h3 w3 f3 _ (by omega) e3 e) (fun h4 ⟨w4, f4, e4⟩ => ⟨w4, ?_⟩)
    refine Cv.mono (s_append d h4 w4 f4 _ (by omega) e4 g) (fun h5 ⟨w5, f5, e5⟩ => ⟨w5, w5, ?_, w5, f5⟩)
    exact e5.trans (congrArg Int32.ofNat (show 0 + sg a + sg b + sg c + sg e + sg g = sg a + sg b + sg c + sg e + sg g by omega))
  · rw [e0, on_add, on_add, on_add, on_add, on_add]
    exact (on_le (j := 160) (by omega) (by decide)).mpr (by omega)
