def pc_X11_end (r : Int32) (x1 : Int32) : Prop := ((((0 ≤ x1 ∧ x1 ≤ 0))) ∧ r = 1) ∨ (((¬ (0 ≤ x1 ∧ x1 ≤ 0))) ∧ r = 0)
theorem g_X11_end (d : Nat) (x1 : Int32) : Ci (m_X11_end (d + 2) 0 0) [.ref 0, .int x1] HF (fun r h' => pc_X11_end r x1 ∧ Wf h' ∧ FrM h') := by
  refine Ci.mono (f_X11_end d HF wHF hf_11_1  x1) (fun r h' kk => ?_)
  rcases kk with ⟨c0, e8, e9⟩ | ⟨c0, e8, e9⟩
  · rw [e9]
    exact ⟨Or.inl ⟨c0, e8⟩, (Wf.im wHF _ _ _), (FrM.im fHF (by decide))⟩
  · rw [e9]
    exact ⟨Or.inr (⟨c0, e8⟩), wHF, fHF⟩
def pc_X11_fault (r : Int32) (x1 : Int32) : Prop := (((x1 = 0) ∨ (x1 = 1) ∨ (x1 = 2)) ∧ r = 0) ∨ (((¬ x1 = 0 ∧ ¬ x1 = 1 ∧ ¬ x1 = 2)) ∧ r = (-2))
theorem g_X11_fault (d : Nat) (x1 : Int32) : Ci (m_X11_fault (d + 8) 0 0) [.ref 0, .int x1] HF (fun r h' => pc_X11_fault r x1 ∧ Wf h' ∧ FrM h') := by
  refine Ci.mono (f_X11_fault d HF wHF hf_11_1  x1) (fun r h' kk => ?_)
  rcases kk with ⟨c0, e8, e9⟩ | ⟨c0, e8, e9⟩ | ⟨c0, e8, e9⟩ | ⟨c0, c1, c2, e8, e9⟩
  · rw [e9]
    exact ⟨Or.inl ⟨Or.inl c0, e8⟩, (Wf.im (Wf.im (Wf.im (Wf.im (Wf_rm (Wf.im (Wf.im wHF _ _ _) _ _ _) (by decide +kernel)) _ _ _) _ _ _) _ _ _) _ _ _), (FrM.im (FrM.im (FrM.im (FrM.im (FrM.rm (FrM.im (FrM.im fHF (by decide)) (by decide))) (by decide)) (by decide)) (by decide)) (by decide))⟩
  · rw [e9]
    exact ⟨Or.inl ⟨Or.inr (Or.inl c0), e8⟩, (Wf.im (Wf.im (Wf.im (Wf.im (Wf_rm (Wf.im (Wf.im wHF _ _ _) _ _ _) (by decide +kernel)) _ _ _) _ _ _) _ _ _) _ _ _), (FrM.im (FrM.im (FrM.im (FrM.im (FrM.rm (FrM.im (FrM.im fHF (by decide)) (by decide))) (by decide)) (by decide)) (by decide)) (by decide))⟩
  · rw [e9]
    exact ⟨Or.inl ⟨Or.inr (Or.inr (c0)), e8⟩, (Wf.im (Wf.im (Wf.im (Wf.im (Wf_rm (Wf.im (Wf.im wHF _ _ _) _ _ _) (by decide +kernel)) _ _ _) _ _ _) _ _ _) _ _ _), (FrM.im (FrM.im (FrM.im (FrM.im (FrM.rm (FrM.im (FrM.im fHF (by decide)) (by decide))) (by decide)) (by decide)) (by decide)) (by decide))⟩
  · rw [e9]
    exact ⟨Or.inr (⟨⟨c0, c1, c2⟩, e8⟩), wHF, fHF⟩
def pc_X11_beat (r : Int32) : Prop := (((True)) ∧ r = (-1))
theorem g_X11_beat (d : Nat) : Ci (m_X11_beat (d + 4) 0 0) [.ref 0] HF (fun r h' => pc_X11_beat r ∧ Wf h' ∧ FrM h') := by
  refine Ci.mono (f_X11_beat d HF wHF hf_11_1  ) (fun r h' kk => ?_)
  obtain ⟨e8, e9⟩ := kk
  rw [e9]
  exact ⟨⟨trivial, e8⟩, (Wf.im (Wf.im (Wf.im (Wf.im (Wf_rm (Wf.im (Wf.im wHF _ _ _) _ _ _) (by decide +kernel)) _ _ _) _ _ _) _ _ _) _ _ _), (FrM.im (FrM.im (FrM.im (FrM.im (FrM.rm (FrM.im (FrM.im fHF (by decide)) (by decide))) (by decide)) (by decide)) (by decide)) (by decide))⟩
def pc_X11_beaten (r : Int32) (x1 : Int32) (x2 : Int32) : Prop := (((x1 < 0) ∨ (¬ x1 < 0)) ∧ r = (-1))
theorem g_X11_beaten (d : Nat) (x1 : Int32) (x2 : Int32) : Ci (m_X11_beaten (d + 1) 0 0) [.ref 0, .int x1, .int x2] HF (fun r h' => pc_X11_beaten r x1 x2 ∧ Wf h' ∧ FrM h') := by
  refine Ci.mono (f_X11_beaten d HF wHF hf_12_3  x1 x2) (fun r h' kk => ?_)
  rcases kk with ⟨c0, e8, e9⟩ | ⟨c0, e8, e9⟩
  · rw [e9]
    exact ⟨⟨Or.inl c0, e8⟩, wHF, fHF⟩
  · rw [e9]
    exact ⟨⟨Or.inr (c0), e8⟩, wHF, fHF⟩
def pc_X11_begin (r : Int32) (x1 : Int32) (x2 : Int32) : Prop := (((True)) ∧ r = 0)
theorem g_X11_begin (d : Nat) (x1 : Int32) (x2 : Int32) : Ci (m_X11_begin (d + 2) 0 0) [.ref 0, .int x1, .int x2] HF (fun r h' => pc_X11_begin r x1 x2 ∧ Wf h' ∧ FrM h') := by
  refine Ci.mono (f_X11_begin d HF wHF hf_0_7  x1 x2) (fun r h' kk => ?_)
  obtain ⟨e8, e9⟩ := kk
  rw [e9]
  exact ⟨⟨trivial, e8⟩, wHF, fHF⟩
def pc_X11_draw (r : Int32) (x1 : Int32) (x2 : Int32) (x3 : Int32) : Prop := (((True)) ∧ r = 0)
theorem g_X11_draw (d : Nat) (x1 : Int32) (x2 : Int32) (x3 : Int32) : Ci (m_X11_draw (d + 2) 0 0) [.ref 0, .int x1, .int x2, .int x3] HF (fun r h' => pc_X11_draw r x1 x2 x3 ∧ Wf h' ∧ FrM h') := by
  refine Ci.mono (f_X11_draw d HF wHF hf_0_7  x1 x2 x3) (fun r h' kk => ?_)
  obtain ⟨e8, e9⟩ := kk
  rw [e9]
  exact ⟨⟨trivial, e8⟩, wHF, fHF⟩
def pc_X11_ill (r : Int32) (x1 : Int32) (x2 : Int32) : Prop := (((True)) ∧ r = 0)
theorem g_X11_ill (d : Nat) (x1 : Int32) (x2 : Int32) : Ci (m_X11_ill (d + 2) 0 0) [.ref 0, .int x1, .int x2] HF (fun r h' => pc_X11_ill r x1 x2 ∧ Wf h' ∧ FrM h') := by
  refine Ci.mono (f_X11_ill d HF wHF hf_0_7  x1 x2) (fun r h' kk => ?_)
  obtain ⟨e8, e9⟩ := kk
  rw [e9]
  exact ⟨⟨trivial, e8⟩, wHF, fHF⟩
def pc_X11_was (r : Int32) (x1 : Int32) (x2 : Int32) : Prop := (((True)) ∧ r = (-1))
theorem g_X11_was (d : Nat) (x1 : Int32) (x2 : Int32) : Ci (m_X11_was (d + 3) 0 0) [.ref 0, .int x1, .int x2] HF (fun r h' => pc_X11_was r x1 x2 ∧ Wf h' ∧ FrM h') := by
  refine Ci.mono (f_X11_was d HF wHF hf_0_7  x1 x2) (fun r h' kk => ?_)
  obtain ⟨e8, e9⟩ := kk
  rw [e9]
  exact ⟨⟨trivial, e8⟩, wHF, fHF⟩
def pc_X11_point (r : Int32) (x1 : Int32) (x2 : Int32) (x3 : Int32) : Prop := (((¬ (0 ≤ x2 ∧ x2 ≤ 0)) ∨ ((0 ≤ x2 ∧ x2 ≤ 0) ∧ x1 < 0) ∨ ((0 ≤ x2 ∧ x2 ≤ 0) ∧ ¬ x1 < 0)) ∧ r = (-1))
theorem g_X11_point (d : Nat) (x1 : Int32) (x2 : Int32) (x3 : Int32) : Ci (m_X11_point (d + 2) 0 0) [.ref 0, .int x1, .int x2, .int x3] HF (fun r h' => pc_X11_point r x1 x2 x3 ∧ Wf h' ∧ FrM h') := by
  refine Ci.mono (f_X11_point d HF wHF hf_0_0 hf_16_7  x1 x2 x3) (fun r h' kk => ?_)
  rcases kk with ⟨c0, e8, e9⟩ | ⟨c0, c1, e8, e9⟩ | ⟨c0, c1, e8, e9⟩
  · rw [e9]
    exact ⟨⟨Or.inl c0, e8⟩, wHF, fHF⟩
  · rw [e9]
    exact ⟨⟨Or.inr (Or.inl ⟨c0, c1⟩), e8⟩, wHF, fHF⟩
  · rw [e9]
    exact ⟨⟨Or.inr (Or.inr (⟨c0, c1⟩)), e8⟩, wHF, fHF⟩
def pc_X11_cause (r : Int32) (x1 : Int32) (x2 : Int32) : Prop := (((x1 < 0) ∨ (¬ x1 < 0)) ∧ r = 0)
theorem g_X11_cause (d : Nat) (x1 : Int32) (x2 : Int32) : Ci (m_X11_cause (d + 1) 0 0) [.ref 0, .int x1, .int x2] HF (fun r h' => pc_X11_cause r x1 x2 ∧ Wf h' ∧ FrM h') := by
  refine Ci.mono (f_X11_cause d HF wHF hf_16_7  x1 x2) (fun r h' kk => ?_)
  rcases kk with ⟨c0, e8, e9⟩ | ⟨c0, e8, e9⟩
  · rw [e9]
    exact ⟨⟨Or.inl c0, e8⟩, wHF, fHF⟩
  · rw [e9]
    exact ⟨⟨Or.inr (c0), e8⟩, wHF, fHF⟩
def pc_X11_causes (r : Int32) (x1 : Int32) (x2 : Int32) : Prop := (((¬ (1 ≤ x1 ∧ x1 ≤ 9)) ∨ ((1 ≤ x1 ∧ x1 ≤ 9) ∧ ¬ (0 ≤ x2 ∧ x2 ≤ 0))) ∧ r = (-1)) ∨ ((((1 ≤ x1 ∧ x1 ≤ 9) ∧ (0 ≤ x2 ∧ x2 ≤ 0))) ∧ r = 0)
theorem g_X11_causes (d : Nat) (x1 : Int32) (x2 : Int32) : Ci (m_X11_causes (d + 2) 0 0) [.ref 0, .int x1, .int x2] HF (fun r h' => pc_X11_causes r x1 x2 ∧ Wf h' ∧ FrM h') := by
  refine Ci.mono (f_X11_causes d HF wHF hf_0_0 hf_16_7  x1 x2) (fun r h' kk => ?_)
  rcases kk with ⟨c0, e8, e9⟩ | ⟨c0, c1, e8, e9⟩ | ⟨c0, c1, e8, e9⟩
  · rw [e9]
    exact ⟨Or.inl ⟨Or.inl c0, e8⟩, wHF, fHF⟩
  · rw [e9]
    exact ⟨Or.inl ⟨Or.inr (⟨c0, c1⟩), e8⟩, wHF, fHF⟩
  · rw [e9]
    exact ⟨Or.inr (⟨⟨c0, c1⟩, e8⟩), wHF, fHF⟩
def pc_X11_find (r : Int32) (x1 : Int32) (x2 : Int32) (x3 : Int32) (x4 : Int32) (x5 : Int32) : Prop := (((¬ (0 ≤ x1 ∧ x1 ≤ 9)) ∨ ((0 ≤ x1 ∧ x1 ≤ 9) ∧ ¬ (0 ≤ x2 ∧ x2 < 16)) ∨ ((0 ≤ x1 ∧ x1 ≤ 9) ∧ (0 ≤ x2 ∧ x2 < 16) ∧ (1 ≤ x5 ∧ x5 ≤ 9) ∧ ¬ (0 ≤ x3 ∧ x3 ≤ 20000)) ∨ ((0 ≤ x1 ∧ x1 ≤ 9) ∧ (0 ≤ x2 ∧ x2 < 16) ∧ (1 ≤ x5 ∧ x5 ≤ 9) ∧ (0 ≤ x3 ∧ x3 ≤ 20000) ∧ ¬ (x3 ≤ x4 ∧ x4 ≤ 20000)) ∨ ((0 ≤ x1 ∧ x1 ≤ 9) ∧ (0 ≤ x2 ∧ x2 < 16) ∧ ¬ (1 ≤ x5 ∧ x5 ≤ 9))) ∧ r = (-1)) ∨ ((((0 ≤ x1 ∧ x1 ≤ 9) ∧ (0 ≤ x2 ∧ x2 < 16) ∧ (1 ≤ x5 ∧ x5 ≤ 9) ∧ (0 ≤ x3 ∧ x3 ≤ 20000) ∧ (x3 ≤ x4 ∧ x4 ≤ 20000))) ∧ r = 0)
theorem g_X11_find (d : Nat) (x1 : Int32) (x2 : Int32) (x3 : Int32) (x4 : Int32) (x5 : Int32) : Ci (m_X11_find (d + 1) 0 0) [.ref 0, .int x1, .int x2, .int x3, .int x4, .int x5] HF (fun r h' => pc_X11_find r x1 x2 x3 x4 x5 ∧ Wf h' ∧ FrM h') := by
  refine Ci.mono (f_X11_find d HF wHF hf_17_7  x1 x2 x3 x4 x5) (fun r h' kk => ?_)
  rcases kk with ⟨c0, e8, e9⟩ | ⟨c0, c1, e8, e9⟩ | ⟨c0, c1, c2, c3, e8, e9⟩ | ⟨c0, c1, c2, c3, c4, e8, e9⟩ | ⟨c0, c1, c2, c3, c4, e8, e9⟩ | ⟨c0, c1, c2, e8, e9⟩
  · rw [e9]
    exact ⟨Or.inl ⟨Or.inl c0, e8⟩, wHF, fHF⟩
  · rw [e9]
    exact ⟨Or.inl ⟨Or.inr (Or.inl ⟨c0, c1⟩), e8⟩, wHF, fHF⟩
  · rw [e9]
    exact ⟨Or.inl ⟨Or.inr (Or.inr (Or.inl ⟨c0, c1, c2, c3⟩)), e8⟩, wHF, fHF⟩
  · rw [e9]
    exact ⟨Or.inr (⟨⟨c0, c1, c2, c3, c4⟩, e8⟩), (Wf.im (Wf.im (Wf.im (Wf.im (Wf.im (Wf.im wHF _ _ _) _ _ _) _ _ _) _ _ _) _ _ _) _ _ _), (FrM.im (FrM.im (FrM.im (FrM.im (FrM.im (FrM.im fHF (by decide)) (by decide)) (by decide)) (by decide)) (by decide)) (by decide))⟩
  · rw [e9]
    exact ⟨Or.inl ⟨Or.inr (Or.inr (Or.inr (Or.inl ⟨c0, c1, c2, c3, c4⟩))), e8⟩, wHF, fHF⟩
  · rw [e9]
    exact ⟨Or.inl ⟨Or.inr (Or.inr (Or.inr (Or.inr (⟨c0, c1, c2⟩)))), e8⟩, wHF, fHF⟩
def pc_X11_act (r : Int32) (x1 : Int32) : Prop := (((¬ (0 ≤ x1 ∧ x1 ≤ 30)) ∨ ((0 ≤ x1 ∧ x1 ≤ 30))) ∧ r = (-1))
theorem g_X11_act (d : Nat) (x1 : Int32) : Ci (m_X11_act (d + 8) 0 0) [.ref 0, .int x1] HF (fun r h' => pc_X11_act r x1 ∧ Wf h' ∧ FrM h') := by
  refine Ci.mono (f_X11_act d HF wHF hf_11_1  x1) (fun r h' kk => ?_)
  rcases kk with ⟨c0, e8, e9⟩ | ⟨c0, e8, e9⟩
  · rw [e9]
    exact ⟨⟨Or.inl c0, e8⟩, wHF, fHF⟩
  · rw [e9]
    exact ⟨⟨Or.inr (c0), e8⟩, (Wf.im (Wf.im (Wf.im (Wf.im (Wf_rm (Wf.im (Wf.im wHF _ _ _) _ _ _) (by decide +kernel)) _ _ _) _ _ _) _ _ _) _ _ _), (FrM.im (FrM.im (FrM.im (FrM.im (FrM.rm (FrM.im (FrM.im fHF (by decide)) (by decide))) (by decide)) (by decide)) (by decide)) (by decide))⟩
def pc_X11_force (r : Int32) (x1 : Int32) (x2 : Int32) : Prop := (((¬ (0 ≤ x1 ∧ x1 ≤ 30)) ∨ ((0 ≤ x1 ∧ x1 ≤ 30) ∧ ¬ (0 ≤ x2 ∧ x2 ≤ 0)) ∨ ((0 ≤ x1 ∧ x1 ≤ 30) ∧ (0 ≤ x2 ∧ x2 ≤ 0))) ∧ r = (-1))
theorem g_X11_force (d : Nat) (x1 : Int32) (x2 : Int32) : Ci (m_X11_force (d + 2) 0 0) [.ref 0, .int x1, .int x2] HF (fun r h' => pc_X11_force r x1 x2 ∧ Wf h' ∧ FrM h') := by
  refine Ci.mono (f_X11_force d HF wHF hf_0_0 hf_13_5  x1 x2) (fun r h' kk => ?_)
  rcases kk with ⟨c0, e8, e9⟩ | ⟨c0, c1, e8, e9⟩ | ⟨c0, c1, e8, e9⟩
  · rw [e9]
    exact ⟨⟨Or.inl c0, e8⟩, wHF, fHF⟩
  · rw [e9]
    exact ⟨⟨Or.inr (Or.inl ⟨c0, c1⟩), e8⟩, wHF, fHF⟩
  · rw [e9]
    exact ⟨⟨Or.inr (Or.inr (⟨c0, c1⟩)), e8⟩, wHF, fHF⟩
def pc_X11_sighting (r : Int32) (x1 : Int32) (x2 : Int32) : Prop := (((x1 < 0) ∨ (¬ x1 < 0)) ∧ r = (-1))
theorem g_X11_sighting (d : Nat) (x1 : Int32) (x2 : Int32) : Ci (m_X11_sighting (d + 1) 0 0) [.ref 0, .int x1, .int x2] HF (fun r h' => pc_X11_sighting r x1 x2 ∧ Wf h' ∧ FrM h') := by
  refine Ci.mono (f_X11_sighting d HF wHF hf_17_16  x1 x2) (fun r h' kk => ?_)
  rcases kk with ⟨c0, e8, e9⟩ | ⟨c0, e8, e9⟩
  · rw [e9]
    exact ⟨⟨Or.inl c0, e8⟩, wHF, fHF⟩
  · rw [e9]
    exact ⟨⟨Or.inr (c0), e8⟩, wHF, fHF⟩
def pc_X11_should (r : Int32) (x1 : Int32) (x2 : Int32) : Prop := (((x1 < 0) ∨ (¬ x1 < 0)) ∧ r = (-1))
theorem g_X11_should (d : Nat) (x1 : Int32) (x2 : Int32) : Ci (m_X11_should (d + 1) 0 0) [.ref 0, .int x1, .int x2] HF (fun r h' => pc_X11_should r x1 x2 ∧ Wf h' ∧ FrM h') := by
  refine Ci.mono (f_X11_should d HF wHF hf_17_16  x1 x2) (fun r h' kk => ?_)
  rcases kk with ⟨c0, e8, e9⟩ | ⟨c0, e8, e9⟩
  · rw [e9]
    exact ⟨⟨Or.inl c0, e8⟩, wHF, fHF⟩
  · rw [e9]
    exact ⟨⟨Or.inr (c0), e8⟩, wHF, fHF⟩
def pc_X11_heard (r : Int32) (x1 : Int32) : Prop := (((¬ (0 ≤ x1 ∧ x1 ≤ 0))) ∧ r = (-1)) ∨ ((((0 ≤ x1 ∧ x1 ≤ 0))) ∧ r = 0)
theorem g_X11_heard (d : Nat) (x1 : Int32) : Ci (m_X11_heard (d + 2) 0 0) [.ref 0, .int x1] HF (fun r h' => pc_X11_heard r x1 ∧ Wf h' ∧ FrM h') := by
  refine Ci.mono (f_X11_heard d HF wHF hf_0_0 hf_17_16  x1) (fun r h' kk => ?_)
  rcases kk with ⟨c0, e8, e9⟩ | ⟨c0, e8, e9⟩
  · rw [e9]
    exact ⟨Or.inl ⟨c0, e8⟩, wHF, fHF⟩
  · rw [e9]
    exact ⟨Or.inr (⟨c0, e8⟩), wHF, fHF⟩
def pc_X11_open (r : Int32) (x1 : Int32) : Prop := (((¬ (0 ≤ x1 ∧ x1 ≤ 9))) ∧ r = (-1)) ∨ ((((0 ≤ x1 ∧ x1 ≤ 9))) ∧ r = 0)
theorem g_X11_open (d : Nat) (x1 : Int32) : Ci (m_X11_open (d + 1) 0 0) [.ref 0, .int x1] HF (fun r h' => pc_X11_open r x1 ∧ Wf h' ∧ FrM h') := by
  refine Ci.mono (f_X11_open d HF wHF hf_0_0 hf_18_3  x1) (fun r h' kk => ?_)
  rcases kk with ⟨c0, e8, e9⟩ | ⟨c0, e8, e9⟩
  · rw [e9]
    exact ⟨Or.inl ⟨c0, e8⟩, wHF, fHF⟩
  · rw [e9]
    exact ⟨Or.inr (⟨c0, e8⟩), (Wf.im (Wf.im (Wf.im wHF _ _ _) _ _ _) _ _ _), (FrM.im (FrM.im (FrM.im fHF (by decide)) (by decide)) (by decide))⟩
def pc_X11_need (r : Int32) (x1 : Int32) (x2 : Int32) : Prop := (((¬ (0 ≤ x1 ∧ x1 ≤ 9)) ∨ ((0 ≤ x1 ∧ x1 ≤ 9) ∧ ¬ (0 ≤ x2 ∧ x2 ≤ 255))) ∧ r = 0) ∨ ((((0 ≤ x1 ∧ x1 ≤ 9) ∧ (0 ≤ x2 ∧ x2 ≤ 255))) ∧ r = 1)
theorem g_X11_need (d : Nat) (x1 : Int32) (x2 : Int32) : Ci (m_X11_need (d + 1) 0 0) [.ref 0, .int x1, .int x2] HF (fun r h' => pc_X11_need r x1 x2 ∧ Wf h' ∧ FrM h') := by
  refine Ci.mono (f_X11_need d HF wHF   x1 x2) (fun r h' kk => ?_)
  rcases kk with ⟨c0, e8, e9⟩ | ⟨c0, c1, e8, e9⟩ | ⟨c0, c1, e8, e9⟩
  · rw [e9]
    exact ⟨Or.inl ⟨Or.inl c0, e8⟩, wHF, fHF⟩
  · rw [e9]
    exact ⟨Or.inr (⟨⟨c0, c1⟩, e8⟩), (Wf.im wHF _ _ _), (FrM.im fHF (by decide))⟩
  · rw [e9]
    exact ⟨Or.inl ⟨Or.inr (⟨c0, c1⟩), e8⟩, wHF, fHF⟩
def pc_X11_want (r : Int32) (x1 : Int32) (x2 : Int32) : Prop := (((¬ (0 ≤ x1 ∧ x1 ≤ 7)) ∨ ((0 ≤ x1 ∧ x1 ≤ 7) ∧ ¬ (1 ≤ x2 ∧ x2 ≤ 3))) ∧ r = 0) ∨ ((((0 ≤ x1 ∧ x1 ≤ 7) ∧ (1 ≤ x2 ∧ x2 ≤ 3))) ∧ r = 1)
theorem g_X11_want (d : Nat) (x1 : Int32) (x2 : Int32) : Ci (m_X11_want (d + 1) 0 0) [.ref 0, .int x1, .int x2] HF (fun r h' => pc_X11_want r x1 x2 ∧ Wf h' ∧ FrM h') := by
  refine Ci.mono (f_X11_want d HF wHF   x1 x2) (fun r h' kk => ?_)
  rcases kk with ⟨c0, e8, e9⟩ | ⟨c0, c1, e8, e9⟩ | ⟨c0, c1, e8, e9⟩
  · rw [e9]
    exact ⟨Or.inl ⟨Or.inl c0, e8⟩, wHF, fHF⟩
  · rw [e9]
    exact ⟨Or.inr (⟨⟨c0, c1⟩, e8⟩), (Wf.im wHF _ _ _), (FrM.im fHF (by decide))⟩
  · rw [e9]
    exact ⟨Or.inl ⟨Or.inr (⟨c0, c1⟩), e8⟩, wHF, fHF⟩
def pc_X11_state (r : Int32) (x1 : Int32) (x2 : Int32) (x3 : Int32) (x4 : Int32) : Prop := (((x1 < 0) ∨ (¬ x1 < 0)) ∧ r = (-1))
theorem g_X11_state (d : Nat) (x1 : Int32) (x2 : Int32) (x3 : Int32) (x4 : Int32) : Ci (m_X11_state (d + 1) 0 0) [.ref 0, .int x1, .int x2, .int x3, .int x4] HF (fun r h' => pc_X11_state r x1 x2 x3 x4 ∧ Wf h' ∧ FrM h') := by
  refine Ci.mono (f_X11_state d HF wHF hf_18_3  x1 x2 x3 x4) (fun r h' kk => ?_)
  rcases kk with ⟨c0, e8, e9⟩ | ⟨c0, e8, e9⟩
  · rw [e9]
    exact ⟨⟨Or.inl c0, e8⟩, wHF, fHF⟩
  · rw [e9]
    exact ⟨⟨Or.inr (c0), e8⟩, wHF, fHF⟩
def pc_X11_withdraw (r : Int32) (x1 : Int32) : Prop := (((¬ (0 ≤ x1 ∧ x1 ≤ 15))) ∧ r = (-1)) ∨ ((((0 ≤ x1 ∧ x1 ≤ 15) ∧ (0 ≤ x1 ∧ x1 ≤ 15))) ∧ r = 0)
theorem g_X11_withdraw (d : Nat) (x1 : Int32) : Ci (m_X11_withdraw (d + 2) 0 0) [.ref 0, .int x1] HF (fun r h' => pc_X11_withdraw r x1 ∧ Wf h' ∧ FrM h') := by
  refine Ci.mono (f_X11_withdraw d HF wHF hf_0_0 hf_18_3 ha_78 x1) (fun r h' kk => ?_)
  rcases kk with ⟨c0, e8, e9⟩ | ⟨c0, c1, e8, e9⟩
  · rw [e9]
    exact ⟨Or.inl ⟨c0, e8⟩, wHF, fHF⟩
  · rw [e9]
    exact ⟨Or.inr (⟨⟨c0, c1⟩, e8⟩), (Wf.im wHF _ _ _), (FrM.im fHF (by decide))⟩
def pc_X11_fact (r : Int32) (x1 : Int32) (x2 : Int32) (x3 : Int32) : Prop := (((¬ (0 ≤ x2 ∧ x2 ≤ 7)) ∨ ((0 ≤ x2 ∧ x2 ≤ 7) ∧ ¬ (0 ≤ x3 ∧ x3 ≤ 0)) ∨ ((0 ≤ x2 ∧ x2 ≤ 7) ∧ (0 ≤ x3 ∧ x3 ≤ 0) ∧ x1 < 0) ∨ ((0 ≤ x2 ∧ x2 ≤ 7) ∧ (0 ≤ x3 ∧ x3 ≤ 0) ∧ ¬ x1 < 0)) ∧ r = (-1))
theorem g_X11_fact (d : Nat) (x1 : Int32) (x2 : Int32) (x3 : Int32) : Ci (m_X11_fact (d + 2) 0 0) [.ref 0, .int x1, .int x2, .int x3] HF (fun r h' => pc_X11_fact r x1 x2 x3 ∧ Wf h' ∧ FrM h') := by
  refine Ci.mono (f_X11_fact d HF wHF hf_0_0 hf_18_3  x1 x2 x3) (fun r h' kk => ?_)
  rcases kk with ⟨c0, e8, e9⟩ | ⟨c0, c1, e8, e9⟩ | ⟨c0, c1, c2, e8, e9⟩ | ⟨c0, c1, c2, e8, e9⟩
  · rw [e9]
    exact ⟨⟨Or.inl c0, e8⟩, wHF, fHF⟩
  · rw [e9]
    exact ⟨⟨Or.inr (Or.inl ⟨c0, c1⟩), e8⟩, wHF, fHF⟩
  · rw [e9]
    exact ⟨⟨Or.inr (Or.inr (Or.inl ⟨c0, c1, c2⟩)), e8⟩, wHF, fHF⟩
  · rw [e9]
    exact ⟨⟨Or.inr (Or.inr (Or.inr (⟨c0, c1, c2⟩))), e8⟩, wHF, fHF⟩
def pc_X11_cased (r : Int32) (x1 : Int32) (x2 : Int32) (x3 : Int32) : Prop := (((¬ (0 ≤ x2 ∧ x2 ≤ 0)) ∨ ((0 ≤ x2 ∧ x2 ≤ 0) ∧ x1 < 0) ∨ ((0 ≤ x2 ∧ x2 ≤ 0) ∧ ¬ x1 < 0)) ∧ r = (-1))
theorem g_X11_cased (d : Nat) (x1 : Int32) (x2 : Int32) (x3 : Int32) : Ci (m_X11_cased (d + 2) 0 0) [.ref 0, .int x1, .int x2, .int x3] HF (fun r h' => pc_X11_cased r x1 x2 x3 ∧ Wf h' ∧ FrM h') := by
  refine Ci.mono (f_X11_cased d HF wHF hf_0_0 hf_18_3  x1 x2 x3) (fun r h' kk => ?_)
  rcases kk with ⟨c0, e8, e9⟩ | ⟨c0, c1, e8, e9⟩ | ⟨c0, c1, e8, e9⟩
  · rw [e9]
    exact ⟨⟨Or.inl c0, e8⟩, wHF, fHF⟩
  · rw [e9]
    exact ⟨⟨Or.inr (Or.inl ⟨c0, c1⟩), e8⟩, wHF, fHF⟩
  · rw [e9]
    exact ⟨⟨Or.inr (Or.inr (⟨c0, c1⟩)), e8⟩, wHF, fHF⟩
def pc_X11_story (r : Int32) (x1 : Int32) (x2 : Int32) (x3 : Int32) : Prop := (((x1 < 0) ∨ (¬ x1 < 0)) ∧ r = (-1))
theorem g_X11_story (d : Nat) (x1 : Int32) (x2 : Int32) (x3 : Int32) : Ci (m_X11_story (d + 1) 0 0) [.ref 0, .int x1, .int x2, .int x3] HF (fun r h' => pc_X11_story r x1 x2 x3 ∧ Wf h' ∧ FrM h') := by
  refine Ci.mono (f_X11_story d HF wHF hf_18_3  x1 x2 x3) (fun r h' kk => ?_)
  rcases kk with ⟨c0, e8, e9⟩ | ⟨c0, e8, e9⟩
  · rw [e9]
    exact ⟨⟨Or.inl c0, e8⟩, wHF, fHF⟩
  · rw [e9]
    exact ⟨⟨Or.inr (c0), e8⟩, wHF, fHF⟩
def pc_X11_next (r : Int32) (x1 : Int32) : Prop := (((x1 < 0) ∨ (¬ x1 < 0)) ∧ r = (-1))
theorem g_X11_next (d : Nat) (x1 : Int32) : Ci (m_X11_next (d + 1) 0 0) [.ref 0, .int x1] HF (fun r h' => pc_X11_next r x1 ∧ Wf h' ∧ FrM h') := by
  refine Ci.mono (f_X11_next d HF wHF hf_18_3  x1) (fun r h' kk => ?_)
  rcases kk with ⟨c0, e8, e9⟩ | ⟨c0, e8, e9⟩
  · rw [e9]
    exact ⟨⟨Or.inl c0, e8⟩, wHF, fHF⟩
  · rw [e9]
    exact ⟨⟨Or.inr (c0), e8⟩, wHF, fHF⟩
def pc_X11_good (r : Int32) (x1 : Int32) (x2 : Int32) : Prop := (((¬ (0 ≤ x2 ∧ x2 ≤ 99999))) ∧ r = (-1)) ∨ ((((0 ≤ x2 ∧ x2 ≤ 99999) ∧ x1 = 0) ∨ ((0 ≤ x2 ∧ x2 ≤ 99999) ∧ ¬ x1 = 0)) ∧ r = 0)
theorem g_X11_good (d : Nat) (x1 : Int32) (x2 : Int32) : Ci (m_X11_good (d + 1) 0 0) [.ref 0, .int x1, .int x2] HF (fun r h' => pc_X11_good r x1 x2 ∧ Wf h' ∧ FrM h') := by
  refine Ci.mono (f_X11_good d HF wHF hf_19_2 hf_19_3  x1 x2) (fun r h' kk => ?_)
  rcases kk with ⟨c0, e8, e9⟩ | ⟨c0, c1, e8, e9⟩ | ⟨c0, c1, e8, e9⟩
  · rw [e9]
    exact ⟨Or.inl ⟨c0, e8⟩, wHF, fHF⟩
  · rw [e9]
    exact ⟨Or.inr (⟨Or.inl ⟨c0, c1⟩, e8⟩), (Wf.im (Wf.im (Wf.im wHF _ _ _) _ _ _) _ _ _), (FrM.im (FrM.im (FrM.im fHF (by decide)) (by decide)) (by decide))⟩
  · rw [e9]
    exact ⟨Or.inr (⟨Or.inr (⟨c0, c1⟩), e8⟩), (Wf.im (Wf.im (Wf.im wHF _ _ _) _ _ _) _ _ _), (FrM.im (FrM.im (FrM.im fHF (by decide)) (by decide)) (by decide))⟩
def pc_X11_least (r : Int32) (x1 : Int32) : Prop := (((¬ (1 ≤ x1 ∧ x1 ≤ 5))) ∧ r = 0) ∨ ((((1 ≤ x1 ∧ x1 ≤ 5))) ∧ r = 1)
theorem g_X11_least (d : Nat) (x1 : Int32) : Ci (m_X11_least (d + 1) 0 0) [.ref 0, .int x1] HF (fun r h' => pc_X11_least r x1 ∧ Wf h' ∧ FrM h') := by
  refine Ci.mono (f_X11_least d HF wHF   x1) (fun r h' kk => ?_)
  rcases kk with ⟨c0, e8, e9⟩ | ⟨c0, e8, e9⟩
  · rw [e9]
    exact ⟨Or.inl ⟨c0, e8⟩, wHF, fHF⟩
  · rw [e9]
    exact ⟨Or.inr (⟨c0, e8⟩), (Wf.im (Wf.im wHF _ _ _) _ _ _), (FrM.im (FrM.im fHF (by decide)) (by decide))⟩
def pc_X11_joining (r : Int32) : Prop := (((True)) ∧ r = 0)
theorem g_X11_joining (d : Nat) : Ci (m_X11_joining (d + 5) 0 0) [.ref 0] HF (fun r h' => pc_X11_joining r ∧ Wf h' ∧ FrM h') := by
  refine Ci.mono (f_X11_joining d HF wHF hf_19_2 hf_19_3 hf_19_5  ) (fun r h' kk => ?_)
  obtain ⟨e8, e9⟩ := kk
  rw [e9]
  exact ⟨⟨trivial, e8⟩, (Wf.im (Wf.im (Wf.iw (Wf.iw (Wf.iw wHF _ _) _ _) _ _) _ _ _) _ _ _), (FrM.im (FrM.im (FrM.iw (FrM.iw (FrM.iw fHF (by decide)) (by decide)) (by decide)) (by decide)) (by decide))⟩
def pc_X11_joined (r : Int32) (x1 : Int32) : Prop := (((x1 < 0) ∨ (¬ x1 < 0)) ∧ r = (-1))
theorem g_X11_joined (d : Nat) (x1 : Int32) : Ci (m_X11_joined (d + 1) 0 0) [.ref 0, .int x1] HF (fun r h' => pc_X11_joined r x1 ∧ Wf h' ∧ FrM h') := by
  refine Ci.mono (f_X11_joined d HF wHF hf_19_2  x1) (fun r h' kk => ?_)
  rcases kk with ⟨c0, e8, e9⟩ | ⟨c0, e8, e9⟩
  · rw [e9]
    exact ⟨⟨Or.inl c0, e8⟩, wHF, fHF⟩
  · rw [e9]
    exact ⟨⟨Or.inr (c0), e8⟩, wHF, fHF⟩
def pc_X11_rivals (r : Int32) (x1 : Int32) : Prop := (((x1 < 0) ∨ (¬ x1 < 0)) ∧ r = (-1))
theorem g_X11_rivals (d : Nat) (x1 : Int32) : Ci (m_X11_rivals (d + 1) 0 0) [.ref 0, .int x1] HF (fun r h' => pc_X11_rivals r x1 ∧ Wf h' ∧ FrM h') := by
  refine Ci.mono (f_X11_rivals d HF wHF hf_19_2  x1) (fun r h' kk => ?_)
  rcases kk with ⟨c0, e8, e9⟩ | ⟨c0, e8, e9⟩
  · rw [e9]
    exact ⟨⟨Or.inl c0, e8⟩, wHF, fHF⟩
  · rw [e9]
    exact ⟨⟨Or.inr (c0), e8⟩, wHF, fHF⟩
def pc_X11_sure (r : Int32) (x1 : Int32) : Prop := (((x1 < 0) ∨ (¬ x1 < 0)) ∧ r = (-1))
theorem g_X11_sure (d : Nat) (x1 : Int32) : Ci (m_X11_sure (d + 1) 0 0) [.ref 0, .int x1] HF (fun r h' => pc_X11_sure r x1 ∧ Wf h' ∧ FrM h') := by
  refine Ci.mono (f_X11_sure d HF wHF hf_19_2  x1) (fun r h' kk => ?_)
  rcases kk with ⟨c0, e8, e9⟩ | ⟨c0, e8, e9⟩
  · rw [e9]
    exact ⟨⟨Or.inl c0, e8⟩, wHF, fHF⟩
  · rw [e9]
    exact ⟨⟨Or.inr (c0), e8⟩, wHF, fHF⟩
def pc_X11_watch (r : Int32) (x1 : Int32) (x2 : Int32) (x3 : Int32) : Prop := (((¬ (0 ≤ x1 ∧ x1 < 16)) ∨ ((0 ≤ x1 ∧ x1 < 16) ∧ ¬ (0 ≤ x2 ∧ x2 ≤ 1440)) ∨ ((0 ≤ x1 ∧ x1 < 16) ∧ (0 ≤ x2 ∧ x2 ≤ 1440) ∧ ¬ (x2 ≤ x3 ∧ x3 ≤ 1440))) ∧ r = (-1)) ∨ ((((0 ≤ x1 ∧ x1 < 16) ∧ (0 ≤ x2 ∧ x2 ≤ 1440) ∧ (x2 ≤ x3 ∧ x3 ≤ 1440))) ∧ r = 0)
theorem g_X11_watch (d : Nat) (x1 : Int32) (x2 : Int32) (x3 : Int32) : Ci (m_X11_watch (d + 1) 0 0) [.ref 0, .int x1, .int x2, .int x3] HF (fun r h' => pc_X11_watch r x1 x2 x3 ∧ Wf h' ∧ FrM h') := by
  refine Ci.mono (f_X11_watch d HF wHF hf_20_3  x1 x2 x3) (fun r h' kk => ?_)
  rcases kk with ⟨c0, e8, e9⟩ | ⟨c0, c1, e8, e9⟩ | ⟨c0, c1, c2, e8, e9⟩ | ⟨c0, c1, c2, e8, e9⟩
  · rw [e9]
    exact ⟨Or.inl ⟨Or.inl c0, e8⟩, wHF, fHF⟩
  · rw [e9]
    exact ⟨Or.inl ⟨Or.inr (Or.inl ⟨c0, c1⟩), e8⟩, wHF, fHF⟩
  · rw [e9]
    exact ⟨Or.inr (⟨⟨c0, c1, c2⟩, e8⟩), (Wf.im (Wf.im (Wf.im (Wf.im wHF _ _ _) _ _ _) _ _ _) _ _ _), (FrM.im (FrM.im (FrM.im (FrM.im fHF (by decide)) (by decide)) (by decide)) (by decide))⟩
  · rw [e9]
    exact ⟨Or.inl ⟨Or.inr (Or.inr (⟨c0, c1, c2⟩)), e8⟩, wHF, fHF⟩
def pc_X11_sees (r : Int32) (x1 : Int32) (x2 : Int32) : Prop := (((x1 < 0) ∨ (¬ x1 < 0)) ∧ r = (-1))
theorem g_X11_sees (d : Nat) (x1 : Int32) (x2 : Int32) : Ci (m_X11_sees (d + 1) 0 0) [.ref 0, .int x1, .int x2] HF (fun r h' => pc_X11_sees r x1 x2 ∧ Wf h' ∧ FrM h') := by
  refine Ci.mono (f_X11_sees d HF wHF hf_12_3  x1 x2) (fun r h' kk => ?_)
  rcases kk with ⟨c0, e8, e9⟩ | ⟨c0, e8, e9⟩
  · rw [e9]
    exact ⟨⟨Or.inl c0, e8⟩, wHF, fHF⟩
  · rw [e9]
    exact ⟨⟨Or.inr (c0), e8⟩, wHF, fHF⟩
def pc_X11_safe (r : Int32) (x1 : Int32) : Prop := (((x1 ≤ 0) ∨ (¬ x1 ≤ 0)) ∧ r = (-1))
theorem g_X11_safe (d : Nat) (x1 : Int32) : Ci (m_X11_safe (d + 1) 0 0) [.ref 0, .int x1] HF (fun r h' => pc_X11_safe r x1 ∧ Wf h' ∧ FrM h') := by
  refine Ci.mono (f_X11_safe d HF wHF hf_12_3  x1) (fun r h' kk => ?_)
  rcases kk with ⟨c0, e8, e9⟩ | ⟨c0, e8, e9⟩
  · rw [e9]
    exact ⟨⟨Or.inl c0, e8⟩, wHF, fHF⟩
  · rw [e9]
    exact ⟨⟨Or.inr (c0), e8⟩, wHF, fHF⟩
def pc_X11_share (r : Int32) (x1 : Int32) (x2 : Int32) : Prop := (((x1 ≤ 0) ∨ (¬ x1 ≤ 0)) ∧ r = (-1))
theorem g_X11_share (d : Nat) (x1 : Int32) (x2 : Int32) : Ci (m_X11_share (d + 1) 0 0) [.ref 0, .int x1, .int x2] HF (fun r h' => pc_X11_share r x1 x2 ∧ Wf h' ∧ FrM h') := by
  refine Ci.mono (f_X11_share d HF wHF hf_12_3  x1 x2) (fun r h' kk => ?_)
  rcases kk with ⟨c0, e8, e9⟩ | ⟨c0, e8, e9⟩
  · rw [e9]
    exact ⟨⟨Or.inl c0, e8⟩, wHF, fHF⟩
  · rw [e9]
    exact ⟨⟨Or.inr (c0), e8⟩, wHF, fHF⟩
def pc_X11_fair (r : Int32) (x1 : Int32) (x2 : Int32) (x3 : Int32) : Prop := (((¬ (0 ≤ x1 ∧ x1 < 16)) ∨ ((0 ≤ x1 ∧ x1 < 16) ∧ ¬ (0 ≤ x2 ∧ x2 ≤ 30000)) ∨ ((0 ≤ x1 ∧ x1 < 16) ∧ (0 ≤ x2 ∧ x2 ≤ 30000) ∧ ¬ (1 ≤ x3 ∧ x3 ≤ 3))) ∧ r = (-1)) ∨ ((((0 ≤ x1 ∧ x1 < 16) ∧ (0 ≤ x2 ∧ x2 ≤ 30000) ∧ (1 ≤ x3 ∧ x3 ≤ 3))) ∧ r = 0)
theorem g_X11_fair (d : Nat) (x1 : Int32) (x2 : Int32) (x3 : Int32) : Ci (m_X11_fair (d + 1) 0 0) [.ref 0, .int x1, .int x2, .int x3] HF (fun r h' => pc_X11_fair r x1 x2 x3 ∧ Wf h' ∧ FrM h') := by
  refine Ci.mono (f_X11_fair d HF wHF hf_20_16  x1 x2 x3) (fun r h' kk => ?_)
  rcases kk with ⟨c0, e8, e9⟩ | ⟨c0, c1, e8, e9⟩ | ⟨c0, c1, c2, e8, e9⟩ | ⟨c0, c1, c2, e8, e9⟩
  · rw [e9]
    exact ⟨Or.inl ⟨Or.inl c0, e8⟩, wHF, fHF⟩
  · rw [e9]
    exact ⟨Or.inl ⟨Or.inr (Or.inl ⟨c0, c1⟩), e8⟩, wHF, fHF⟩
  · rw [e9]
    exact ⟨Or.inr (⟨⟨c0, c1, c2⟩, e8⟩), (Wf.im (Wf.im (Wf.im (Wf.im wHF _ _ _) _ _ _) _ _ _) _ _ _), (FrM.im (FrM.im (FrM.im (FrM.im fHF (by decide)) (by decide)) (by decide)) (by decide))⟩
  · rw [e9]
    exact ⟨Or.inl ⟨Or.inr (Or.inr (⟨c0, c1, c2⟩)), e8⟩, wHF, fHF⟩
def pc_X11_lending (r : Int32) (x1 : Int32) : Prop := (((¬ (0 ≤ x1 ∧ x1 ≤ 1))) ∧ r = (-1)) ∨ ((((0 ≤ x1 ∧ x1 ≤ 1) ∧ ¬ x1 = 0) ∨ ((0 ≤ x1 ∧ x1 ≤ 1) ∧ x1 = 0)) ∧ r = 0)
theorem g_X11_lending (d : Nat) (x1 : Int32) : Ci (m_X11_lending (d + 3) 0 0) [.ref 0, .int x1] HF (fun r h' => pc_X11_lending r x1 ∧ Wf h' ∧ FrM h') := by
  refine Ci.mono (f_X11_lending d HF wHF hf_0_7 hf_20_16  x1) (fun r h' kk => ?_)
  rcases kk with ⟨c0, e8, e9⟩ | ⟨c0, c1, e8, e9⟩ | ⟨c0, c1, e8, e9⟩
  · rw [e9]
    exact ⟨Or.inl ⟨c0, e8⟩, wHF, fHF⟩
  · rw [e9]
    exact ⟨Or.inr (⟨Or.inl ⟨c0, c1⟩, e8⟩), (Wf.im wHF _ _ _), (FrM.im fHF (by decide))⟩
  · rw [e9]
    exact ⟨Or.inr (⟨Or.inr (⟨c0, c1⟩), e8⟩), (Wf.im wHF _ _ _), (FrM.im fHF (by decide))⟩
def pc_X11_lent (r : Int32) (x1 : Int32) : Prop := (((True)) ∧ r = (-1))
theorem g_X11_lent (d : Nat) (x1 : Int32) : Ci (m_X11_lent (d + 3) 0 0) [.ref 0, .int x1] HF (fun r h' => pc_X11_lent r x1 ∧ Wf h' ∧ FrM h') := by
  refine Ci.mono (f_X11_lent d HF wHF hf_0_7  x1) (fun r h' kk => ?_)
  obtain ⟨e8, e9⟩ := kk
  rw [e9]
  exact ⟨⟨trivial, e8⟩, wHF, fHF⟩
theorem g_X11_fairs (d : Nat) : Cv (m_X11_fairs (d + 1) 0 0) [.ref 0] HF (fun h' => Wf h' ∧ FrM h') := by
  refine Cv.mono (f_X11_fairs d HF wHF   ) (fun h' kk => ?_)
  rw [kk]
  exact ⟨(Wf.im wHF _ _ _), (FrM.im fHF (by decide))⟩
def pc_X11_pay (r : Int32) (x1 : Int32) : Prop := (((¬ (0 ≤ x1 ∧ x1 ≤ 30)) ∨ ((0 ≤ x1 ∧ x1 ≤ 30))) ∧ r = (-1))
theorem g_X11_pay (d : Nat) (x1 : Int32) : Ci (m_X11_pay (d + 6) 0 0) [.ref 0, .int x1] HF (fun r h' => pc_X11_pay r x1 ∧ Wf h' ∧ FrM h') := by
  refine Ci.mono (f_X11_pay d HF wHF hf_11_1  x1) (fun r h' kk => ?_)
  rcases kk with ⟨c0, e8, e9⟩ | ⟨c0, e8, e9⟩
  · rw [e9]
    exact ⟨⟨Or.inl c0, e8⟩, wHF, fHF⟩
  · rw [e9]
    exact ⟨⟨Or.inr (c0), e8⟩, (Wf.im (Wf.im (Wf.im (Wf.im (Wf_rm (Wf.im (Wf.im wHF _ _ _) _ _ _) (by decide +kernel)) _ _ _) _ _ _) _ _ _) _ _ _), (FrM.im (FrM.im (FrM.im (FrM.im (FrM.rm (FrM.im (FrM.im fHF (by decide)) (by decide))) (by decide)) (by decide)) (by decide)) (by decide))⟩
def pc_X11_rank (r : Int32) (x1 : Int32) (x2 : Int32) (x3 : Int32) : Prop := (((True)) ∧ r = 0)
theorem g_X11_rank (d : Nat) (x1 : Int32) (x2 : Int32) (x3 : Int32) : Ci (m_X11_rank (d + 3) 0 0) [.ref 0, .int x1, .int x2, .int x3] HF (fun r h' => pc_X11_rank r x1 x2 x3 ∧ Wf h' ∧ FrM h') := by
  refine Ci.mono (f_X11_rank d HF wHF hf_0_7  x1 x2 x3) (fun r h' kk => ?_)
  obtain ⟨e8, e9⟩ := kk
  rw [e9]
  exact ⟨⟨trivial, e8⟩, wHF, fHF⟩
def pc_X11_ranked (r : Int32) (x1 : Int32) (x2 : Int32) (x3 : Int32) : Prop := (((True)) ∧ r = (-1))
theorem g_X11_ranked (d : Nat) (x1 : Int32) (x2 : Int32) (x3 : Int32) : Ci (m_X11_ranked (d + 2) 0 0) [.ref 0, .int x1, .int x2, .int x3] HF (fun r h' => pc_X11_ranked r x1 x2 x3 ∧ Wf h' ∧ FrM h') := by
  refine Ci.mono (f_X11_ranked d HF wHF hf_0_7  x1 x2 x3) (fun r h' kk => ?_)
  obtain ⟨e8, e9⟩ := kk
  rw [e9]
  exact ⟨⟨trivial, e8⟩, wHF, fHF⟩
def pc_X11_paid (r : Int32) (x1 : Int32) (x2 : Int32) (x3 : Int32) : Prop := (((True)) ∧ r = (-1))
theorem g_X11_paid (d : Nat) (x1 : Int32) (x2 : Int32) (x3 : Int32) : Ci (m_X11_paid (d + 2) 0 0) [.ref 0, .int x1, .int x2, .int x3] HF (fun r h' => pc_X11_paid r x1 x2 x3 ∧ Wf h' ∧ FrM h') := by
  refine Ci.mono (f_X11_paid d HF wHF hf_0_7  x1 x2 x3) (fun r h' kk => ?_)
  obtain ⟨e8, e9⟩ := kk
  rw [e9]
  exact ⟨⟨trivial, e8⟩, wHF, fHF⟩
def pc_X11_book (r : Int32) : Prop := (((True)) ∧ r = 0)
theorem g_X11_book (d : Nat) : Ci (m_X11_book (d + 2) 0 0) [.ref 0] HF (fun r h' => pc_X11_book r ∧ Wf h' ∧ FrM h') := by
  refine Ci.mono (f_X11_book d HF wHF hf_0_0 hf_0_7 hf_21_12  ) (fun r h' kk => ?_)
  obtain ⟨e8, e9⟩ := kk
  rw [e9]
  exact ⟨⟨trivial, e8⟩, wHF, fHF⟩
def pc_X11_line (r : Int32) (x1 : Int32) (x2 : Int32) : Prop := (((True)) ∧ r = (-1000000))
theorem g_X11_line (d : Nat) (x1 : Int32) (x2 : Int32) : Ci (m_X11_line (d + 2) 0 0) [.ref 0, .int x1, .int x2] HF (fun r h' => pc_X11_line r x1 x2 ∧ Wf h' ∧ FrM h') := by
  refine Ci.mono (f_X11_line d HF wHF hf_21_12  x1 x2) (fun r h' kk => ?_)
  obtain ⟨e8, e9⟩ := kk
  rw [e9]
  exact ⟨⟨trivial, e8⟩, wHF, fHF⟩
def pc_X11_mark (r : Int32) (x1 : Int32) (x2 : Int32) (x3 : Int32) : Prop := (((¬ (0 ≤ x1 ∧ x1 ≤ 3)) ∨ ((0 ≤ x1 ∧ x1 ≤ 3))) ∧ r = 0)
theorem g_X11_mark (d : Nat) (x1 : Int32) (x2 : Int32) (x3 : Int32) : Ci (m_X11_mark (d + 3) 0 0) [.ref 0, .int x1, .int x2, .int x3] HF (fun r h' => pc_X11_mark r x1 x2 x3 ∧ Wf h' ∧ FrM h') := by
  refine Ci.mono (f_X11_mark d HF wHF hf_0_7  x1 x2 x3) (fun r h' kk => ?_)
  rcases kk with ⟨c0, e8, e9⟩ | ⟨c0, e8, e9⟩
  · rw [e9]
    exact ⟨⟨Or.inl c0, e8⟩, wHF, fHF⟩
  · rw [e9]
    exact ⟨⟨Or.inr (c0), e8⟩, wHF, fHF⟩
def pc_X11_size (r : Int32) (x1 : Int32) : Prop := ((((1 ≤ x1 ∧ x1 ≤ 12))) ∧ r = 1) ∨ (((¬ (1 ≤ x1 ∧ x1 ≤ 12))) ∧ r = 0)
theorem g_X11_size (d : Nat) (x1 : Int32) : Ci (m_X11_size (d + 1) 0 0) [.ref 0, .int x1] HF (fun r h' => pc_X11_size r x1 ∧ Wf h' ∧ FrM h') := by
  refine Ci.mono (f_X11_size d HF wHF   x1) (fun r h' kk => ?_)
  rcases kk with ⟨c0, e8, e9⟩ | ⟨c0, e8, e9⟩
  · rw [e9]
    exact ⟨Or.inl ⟨c0, e8⟩, (Wf.im wHF _ _ _), (FrM.im fHF (by decide))⟩
  · rw [e9]
    exact ⟨Or.inr (⟨c0, e8⟩), wHF, fHF⟩
def pc_X11_habit (r : Int32) (x1 : Int32) (x2 : Int32) : Prop := (((¬ (0 ≤ x1 ∧ x1 ≤ 3)) ∨ ((0 ≤ x1 ∧ x1 ≤ 3) ∧ ¬ (0 ≤ x2 ∧ x2 ≤ 3)) ∨ ((0 ≤ x1 ∧ x1 ≤ 3) ∧ (0 ≤ x2 ∧ x2 ≤ 3) ∧ ¬ x1 = x2) ∨ ((0 ≤ x1 ∧ x1 ≤ 3) ∧ (0 ≤ x2 ∧ x2 ≤ 3) ∧ x1 = x2)) ∧ r = (-1000000))
theorem g_X11_habit (d : Nat) (x1 : Int32) (x2 : Int32) : Ci (m_X11_habit (d + 2) 0 0) [.ref 0, .int x1, .int x2] HF (fun r h' => pc_X11_habit r x1 x2 ∧ Wf h' ∧ FrM h') := by
  refine Ci.mono (f_X11_habit d HF wHF hf_0_7 hf_21_15  x1 x2) (fun r h' kk => ?_)
  rcases kk with ⟨c0, e8, e9⟩ | ⟨c0, c1, e8, e9⟩ | ⟨c0, c1, c2, e8, e9⟩ | ⟨c0, c1, c2, e8, e9⟩
  · rw [e9]
    exact ⟨⟨Or.inl c0, e8⟩, wHF, fHF⟩
  · rw [e9]
    exact ⟨⟨Or.inr (Or.inl ⟨c0, c1⟩), e8⟩, wHF, fHF⟩
  · rw [e9]
    exact ⟨⟨Or.inr (Or.inr (Or.inl ⟨c0, c1, c2⟩)), e8⟩, wHF, fHF⟩
  · rw [e9]
    exact ⟨⟨Or.inr (Or.inr (Or.inr (⟨c0, c1, c2⟩))), e8⟩, wHF, fHF⟩
def pc_X11_complain (r : Int32) (x1 : Int32) (x2 : Int32) (x3 : Int32) (x4 : Int32) : Prop := (((True)) ∧ r = (-1))
theorem g_X11_complain (d : Nat) (x1 : Int32) (x2 : Int32) (x3 : Int32) (x4 : Int32) : Ci (m_X11_complain (d + 3) 0 0) [.ref 0, .int x1, .int x2, .int x3, .int x4] HF (fun r h' => pc_X11_complain r x1 x2 x3 x4 ∧ Wf h' ∧ FrM h') := by
  refine Ci.mono (f_X11_complain d HF wHF hf_0_7  x1 x2 x3 x4) (fun r h' kk => ?_)
  obtain ⟨e8, e9⟩ := kk
  rw [e9]
  exact ⟨⟨trivial, e8⟩, wHF, fHF⟩
def pc_X11_count (r : Int32) (x1 : Int32) : Prop := (((x1 = 0) ∨ (x1 = 1) ∨ (x1 = 2) ∨ (x1 = 3) ∨ (x1 = 4) ∨ (x1 = 5) ∨ (x1 = 6) ∨ (x1 = 7) ∨ (x1 = 8) ∨ (¬ x1 = 0 ∧ ¬ x1 = 1 ∧ ¬ x1 = 2 ∧ ¬ x1 = 3 ∧ ¬ x1 = 4 ∧ ¬ x1 = 5 ∧ ¬ x1 = 6 ∧ ¬ x1 = 7 ∧ ¬ x1 = 8 ∧ x1 = 9) ∨ (¬ x1 = 0 ∧ ¬ x1 = 1 ∧ ¬ x1 = 2 ∧ ¬ x1 = 3 ∧ ¬ x1 = 4 ∧ ¬ x1 = 5 ∧ ¬ x1 = 6 ∧ ¬ x1 = 7 ∧ ¬ x1 = 8 ∧ x1 = 10) ∨ (¬ x1 = 0 ∧ ¬ x1 = 1 ∧ ¬ x1 = 2 ∧ ¬ x1 = 3 ∧ ¬ x1 = 4 ∧ ¬ x1 = 5 ∧ ¬ x1 = 6 ∧ ¬ x1 = 7 ∧ ¬ x1 = 8 ∧ x1 = 11) ∨ (¬ x1 = 0 ∧ ¬ x1 = 1 ∧ ¬ x1 = 2 ∧ ¬ x1 = 3 ∧ ¬ x1 = 4 ∧ ¬ x1 = 5 ∧ ¬ x1 = 6 ∧ ¬ x1 = 7 ∧ ¬ x1 = 8 ∧ x1 = 12) ∨ (¬ x1 = 0 ∧ ¬ x1 = 1 ∧ ¬ x1 = 2 ∧ ¬ x1 = 3 ∧ ¬ x1 = 4 ∧ ¬ x1 = 5 ∧ ¬ x1 = 6 ∧ ¬ x1 = 7 ∧ ¬ x1 = 8 ∧ x1 = 13) ∨ (¬ x1 = 0 ∧ ¬ x1 = 1 ∧ ¬ x1 = 2 ∧ ¬ x1 = 3 ∧ ¬ x1 = 4 ∧ ¬ x1 = 5 ∧ ¬ x1 = 6 ∧ ¬ x1 = 7 ∧ ¬ x1 = 8 ∧ x1 = 14) ∨ (¬ x1 = 0 ∧ ¬ x1 = 1 ∧ ¬ x1 = 2 ∧ ¬ x1 = 3 ∧ ¬ x1 = 4 ∧ ¬ x1 = 5 ∧ ¬ x1 = 6 ∧ ¬ x1 = 7 ∧ ¬ x1 = 8 ∧ x1 = 15) ∨ (¬ x1 = 0 ∧ ¬ x1 = 1 ∧ ¬ x1 = 2 ∧ ¬ x1 = 3 ∧ ¬ x1 = 4 ∧ ¬ x1 = 5 ∧ ¬ x1 = 6 ∧ ¬ x1 = 7 ∧ ¬ x1 = 8 ∧ x1 = 16) ∨ (¬ x1 = 0 ∧ ¬ x1 = 1 ∧ ¬ x1 = 2 ∧ ¬ x1 = 3 ∧ ¬ x1 = 4 ∧ ¬ x1 = 5 ∧ ¬ x1 = 6 ∧ ¬ x1 = 7 ∧ ¬ x1 = 8 ∧ x1 = 17) ∨ (¬ x1 = 0 ∧ ¬ x1 = 1 ∧ ¬ x1 = 2 ∧ ¬ x1 = 3 ∧ ¬ x1 = 4 ∧ ¬ x1 = 5 ∧ ¬ x1 = 6 ∧ ¬ x1 = 7 ∧ ¬ x1 = 8 ∧ x1 = 18)) ∧ r = 0) ∨ (((¬ x1 = 0 ∧ ¬ x1 = 1 ∧ ¬ x1 = 2 ∧ ¬ x1 = 3 ∧ ¬ x1 = 4 ∧ ¬ x1 = 5 ∧ ¬ x1 = 6 ∧ ¬ x1 = 7 ∧ ¬ x1 = 8 ∧ ¬ x1 = 9 ∧ ¬ x1 = 10 ∧ ¬ x1 = 11 ∧ ¬ x1 = 12 ∧ ¬ x1 = 13 ∧ ¬ x1 = 14 ∧ ¬ x1 = 15 ∧ ¬ x1 = 16 ∧ ¬ x1 = 17 ∧ ¬ x1 = 18)) ∧ r = (-1))
theorem g_X11_count (d : Nat) (x1 : Int32) : Ci (m_X11_count (d + 1) 0 0) [.ref 0, .int x1] HF (fun r h' => pc_X11_count r x1 ∧ Wf h' ∧ FrM h') := by
  refine Ci.mono (f_X11_count d HF wHF hf_0_0 hf_0_7 hf_10_1 hf_11_1 hf_12_3 hf_13_5 hf_14_5 hf_16_7 hf_17_7 hf_17_8 hf_17_16 hf_18_3 hf_18_8 hf_19_2 hf_19_3 hf_20_3 hf_20_16 hf_21_12 hf_21_13  x1) (fun r h' kk => ?_)
  rcases kk with ⟨c0, e8, e9⟩ | ⟨c0, e8, e9⟩ | ⟨c0, e8, e9⟩ | ⟨c0, e8, e9⟩ | ⟨c0, e8, e9⟩ | ⟨c0, e8, e9⟩ | ⟨c0, e8, e9⟩ | ⟨c0, e8, e9⟩ | ⟨c0, e8, e9⟩ | ⟨c0, c1, c2, c3, c4, c5, c6, c7, c8, c9, e8, e9⟩ | ⟨c0, c1, c2, c3, c4, c5, c6, c7, c8, c9, e8, e9⟩ | ⟨c0, c1, c2, c3, c4, c5, c6, c7, c8, c9, e8, e9⟩ | ⟨c0, c1, c2, c3, c4, c5, c6, c7, c8, c9, e8, e9⟩ | ⟨c0, c1, c2, c3, c4, c5, c6, c7, c8, c9, e8, e9⟩ | ⟨c0, c1, c2, c3, c4, c5, c6, c7, c8, c9, e8, e9⟩ | ⟨c0, c1, c2, c3, c4, c5, c6, c7, c8, c9, e8, e9⟩ | ⟨c0, c1, c2, c3, c4, c5, c6, c7, c8, c9, e8, e9⟩ | ⟨c0, c1, c2, c3, c4, c5, c6, c7, c8, c9, e8, e9⟩ | ⟨c0, c1, c2, c3, c4, c5, c6, c7, c8, c9, e8, e9⟩ | ⟨c0, c1, c2, c3, c4, c5, c6, c7, c8, c9, c10, c11, c12, c13, c14, c15, c16, c17, c18, e8, e9⟩
  · rw [e9]
    exact ⟨Or.inl ⟨Or.inl c0, e8⟩, wHF, fHF⟩
  · rw [e9]
    exact ⟨Or.inl ⟨Or.inr (Or.inl c0), e8⟩, wHF, fHF⟩
  · rw [e9]
    exact ⟨Or.inl ⟨Or.inr (Or.inr (Or.inl c0)), e8⟩, wHF, fHF⟩
  · rw [e9]
    exact ⟨Or.inl ⟨Or.inr (Or.inr (Or.inr (Or.inl c0))), e8⟩, wHF, fHF⟩
  · rw [e9]
    exact ⟨Or.inl ⟨Or.inr (Or.inr (Or.inr (Or.inr (Or.inl c0)))), e8⟩, wHF, fHF⟩
  · rw [e9]
    exact ⟨Or.inl ⟨Or.inr (Or.inr (Or.inr (Or.inr (Or.inr (Or.inl c0))))), e8⟩, wHF, fHF⟩
  · rw [e9]
    exact ⟨Or.inl ⟨Or.inr (Or.inr (Or.inr (Or.inr (Or.inr (Or.inr (Or.inl c0)))))), e8⟩, wHF, fHF⟩
  · rw [e9]
    exact ⟨Or.inl ⟨Or.inr (Or.inr (Or.inr (Or.inr (Or.inr (Or.inr (Or.inr (Or.inl c0))))))), e8⟩, wHF, fHF⟩
  · rw [e9]
    exact ⟨Or.inl ⟨Or.inr (Or.inr (Or.inr (Or.inr (Or.inr (Or.inr (Or.inr (Or.inr (Or.inl c0)))))))), e8⟩, wHF, fHF⟩
  · rw [e9]
    exact ⟨Or.inl ⟨Or.inr (Or.inr (Or.inr (Or.inr (Or.inr (Or.inr (Or.inr (Or.inr (Or.inr (Or.inl ⟨c0, c1, c2, c3, c4, c5, c6, c7, c8, c9⟩))))))))), e8⟩, wHF, fHF⟩
  · rw [e9]
    exact ⟨Or.inl ⟨Or.inr (Or.inr (Or.inr (Or.inr (Or.inr (Or.inr (Or.inr (Or.inr (Or.inr (Or.inr (Or.inl ⟨c0, c1, c2, c3, c4, c5, c6, c7, c8, c9⟩)))))))))), e8⟩, wHF, fHF⟩
  · rw [e9]
    exact ⟨Or.inl ⟨Or.inr (Or.inr (Or.inr (Or.inr (Or.inr (Or.inr (Or.inr (Or.inr (Or.inr (Or.inr (Or.inr (Or.inl ⟨c0, c1, c2, c3, c4, c5, c6, c7, c8, c9⟩))))))))))), e8⟩, wHF, fHF⟩
  · rw [e9]
    exact ⟨Or.inl ⟨Or.inr (Or.inr (Or.inr (Or.inr (Or.inr (Or.inr (Or.inr (Or.inr (Or.inr (Or.inr (Or.inr (Or.inr (Or.inl ⟨c0, c1, c2, c3, c4, c5, c6, c7, c8, c9⟩)))))))))))), e8⟩, wHF, fHF⟩
  · rw [e9]
    exact ⟨Or.inl ⟨Or.inr (Or.inr (Or.inr (Or.inr (Or.inr (Or.inr (Or.inr (Or.inr (Or.inr (Or.inr (Or.inr (Or.inr (Or.inr (Or.inl ⟨c0, c1, c2, c3, c4, c5, c6, c7, c8, c9⟩))))))))))))), e8⟩, wHF, fHF⟩
  · rw [e9]
    exact ⟨Or.inl ⟨Or.inr (Or.inr (Or.inr (Or.inr (Or.inr (Or.inr (Or.inr (Or.inr (Or.inr (Or.inr (Or.inr (Or.inr (Or.inr (Or.inr (Or.inl ⟨c0, c1, c2, c3, c4, c5, c6, c7, c8, c9⟩)))))))))))))), e8⟩, wHF, fHF⟩
  · rw [e9]
    exact ⟨Or.inl ⟨Or.inr (Or.inr (Or.inr (Or.inr (Or.inr (Or.inr (Or.inr (Or.inr (Or.inr (Or.inr (Or.inr (Or.inr (Or.inr (Or.inr (Or.inr (Or.inl ⟨c0, c1, c2, c3, c4, c5, c6, c7, c8, c9⟩))))))))))))))), e8⟩, wHF, fHF⟩
  · rw [e9]
    exact ⟨Or.inl ⟨Or.inr (Or.inr (Or.inr (Or.inr (Or.inr (Or.inr (Or.inr (Or.inr (Or.inr (Or.inr (Or.inr (Or.inr (Or.inr (Or.inr (Or.inr (Or.inr (Or.inl ⟨c0, c1, c2, c3, c4, c5, c6, c7, c8, c9⟩)))))))))))))))), e8⟩, wHF, fHF⟩
  · rw [e9]
    exact ⟨Or.inl ⟨Or.inr (Or.inr (Or.inr (Or.inr (Or.inr (Or.inr (Or.inr (Or.inr (Or.inr (Or.inr (Or.inr (Or.inr (Or.inr (Or.inr (Or.inr (Or.inr (Or.inr (Or.inl ⟨c0, c1, c2, c3, c4, c5, c6, c7, c8, c9⟩))))))))))))))))), e8⟩, wHF, fHF⟩
  · rw [e9]
    exact ⟨Or.inl ⟨Or.inr (Or.inr (Or.inr (Or.inr (Or.inr (Or.inr (Or.inr (Or.inr (Or.inr (Or.inr (Or.inr (Or.inr (Or.inr (Or.inr (Or.inr (Or.inr (Or.inr (Or.inr (⟨c0, c1, c2, c3, c4, c5, c6, c7, c8, c9⟩)))))))))))))))))), e8⟩, wHF, fHF⟩
  · rw [e9]
    exact ⟨Or.inr (⟨⟨c0, c1, c2, c3, c4, c5, c6, c7, c8, c9, c10, c11, c12, c13, c14, c15, c16, c17, c18⟩, e8⟩), wHF, fHF⟩
def pc_X12_path (r : Int32) (x1 : Int32) (x2 : Int32) (x3 : Int32) : Prop := (((¬ (0 ≤ x1 ∧ x1 ≤ 15)) ∨ ((0 ≤ x1 ∧ x1 ≤ 15) ∧ ¬ (0 ≤ x2 ∧ x2 ≤ 15)) ∨ ((0 ≤ x1 ∧ x1 ≤ 15) ∧ (0 ≤ x2 ∧ x2 ≤ 15) ∧ x1 = x2) ∨ ((0 ≤ x1 ∧ x1 ≤ 15) ∧ (0 ≤ x2 ∧ x2 ≤ 15) ∧ ¬ x1 = x2 ∧ ¬ (1 ≤ x3 ∧ x3 ≤ 60))) ∧ r = (-1)) ∨ ((((0 ≤ x1 ∧ x1 ≤ 15) ∧ (0 ≤ x2 ∧ x2 ≤ 15) ∧ ¬ x1 = x2 ∧ (1 ≤ x3 ∧ x3 ≤ 60))) ∧ r = 0)
theorem g_X12_path (d : Nat) (h : Hp_) (w : Wf h) (f : FrM h) (x1 : Int32) (x2 : Int32) (x3 : Int32) : Ci (m_X12_path (d + 2) 0 0) [.ref 1, .int x1, .int x2, .int x3] h (fun r _ => pc_X12_path r x1 x2 x3) := by
  refine Ci.mono (f_X12_path d h w ((f.1 6).trans hf_1_6) x1 x2 x3) (fun r h' kk => ?_)
  rcases kk with ⟨c0, e8, e9⟩ | ⟨c0, c1, e8, e9⟩ | ⟨c0, c1, c2, e8, e9⟩ | ⟨c0, c1, c2, c3, e8, e9⟩ | ⟨c0, c1, c2, c3, e8, e9⟩
  · exact Or.inl ⟨Or.inl c0, e8⟩
  · exact Or.inl ⟨Or.inr (Or.inl ⟨c0, c1⟩), e8⟩
  · exact Or.inl ⟨Or.inr (Or.inr (Or.inl ⟨c0, c1, c2⟩)), e8⟩
  · exact Or.inl ⟨Or.inr (Or.inr (Or.inr (⟨c0, c1, c2, c3⟩))), e8⟩
  · exact Or.inr (⟨⟨c0, c1, c2, c3⟩, e8⟩)
def pc_X12_constable (r : Int32) (x1 : Int32) (x2 : Int32) (x3 : Int32) : Prop := (((¬ (1 ≤ x1 ∧ x1 ≤ 4)) ∨ ((1 ≤ x1 ∧ x1 ≤ 4) ∧ ¬ (0 ≤ x2 ∧ x2 ≤ 40)) ∨ ((1 ≤ x1 ∧ x1 ≤ 4) ∧ (0 ≤ x2 ∧ x2 ≤ 40) ∧ ¬ (0 ≤ x3 ∧ x3 ≤ 15))) ∧ r = (-1)) ∨ ((((1 ≤ x1 ∧ x1 ≤ 4) ∧ (0 ≤ x2 ∧ x2 ≤ 40) ∧ (0 ≤ x3 ∧ x3 ≤ 15))) ∧ r = 0)
theorem g_X12_constable (d : Nat) (h : Hp_) (w : Wf h) (f : FrM h) (x1 : Int32) (x2 : Int32) (x3 : Int32) : Ci (m_X12_constable (d + 2) 0 0) [.ref 1, .int x1, .int x2, .int x3] h (fun r _ => pc_X12_constable r x1 x2 x3) := by
  refine Ci.mono (f_X12_constable d h w ((f.1 0).trans hf_1_0) ((f.1 7).trans hf_1_7) x1 x2 x3) (fun r h' kk => ?_)
  rcases kk with ⟨c0, e8, e9⟩ | ⟨c0, c1, e8, e9⟩ | ⟨c0, c1, c2, e8, e9⟩ | ⟨c0, c1, c2, e8, e9⟩
  · exact Or.inl ⟨Or.inl c0, e8⟩
  · exact Or.inl ⟨Or.inr (Or.inl ⟨c0, c1⟩), e8⟩
  · exact Or.inl ⟨Or.inr (Or.inr (⟨c0, c1, c2⟩)), e8⟩
  · exact Or.inr (⟨⟨c0, c1, c2⟩, e8⟩)
def pc_X12_end (r : Int32) (x1 : Int32) : Prop := (((x1 < 0) ∨ (¬ x1 < 0 ∧ ¬ x1 ≤ 0)) ∧ r = 0) ∨ (((¬ x1 < 0 ∧ x1 ≤ 0)) ∧ r = 1)
theorem g_X12_end (d : Nat) (h : Hp_) (w : Wf h) (f : FrM h) (x1 : Int32) : Ci (m_X12_end (d + 0) 0 0) [.ref 1, .int x1] h (fun r _ => pc_X12_end r x1) := by
  refine Ci.mono (f_X12_end d h w ((f.1 32).trans hf_1_32) x1) (fun r h' kk => ?_)
  rcases kk with ⟨c0, e8, e9⟩ | ⟨c0, c1, e8, e9⟩ | ⟨c0, c1, e8, e9⟩
  · exact Or.inl ⟨Or.inl c0, e8⟩
  · exact Or.inr (⟨⟨c0, c1⟩, e8⟩)
  · exact Or.inl ⟨Or.inr (⟨c0, c1⟩), e8⟩
def pc_X12_beat (r : Int32) : Prop := (((True)) ∧ r = (-1))
theorem g_X12_beat (d : Nat) (h : Hp_) (w : Wf h) (f : FrM h) : Ci (m_X12_beat (d + 4) 0 0) [.ref 1] h (fun r _ => pc_X12_beat r) := by
  refine Ci.mono (f_X12_beat d h w ((f.1 32).trans hf_1_32) ((f.1 42).trans hf_1_42) ) (fun r h' kk => ?_)
  obtain ⟨e8, e9⟩ := kk
  exact ⟨trivial, e8⟩
def pc_X12_beaten (r : Int32) (x1 : Int32) (x2 : Int32) : Prop := (((True)) ∧ r = (-1))
theorem g_X12_beaten (d : Nat) (h : Hp_) (w : Wf h) (f : FrM h) (x1 : Int32) (x2 : Int32) : Ci (m_X12_beaten (d + 1) 0 0) [.ref 1, .int x1, .int x2] h (fun r _ => pc_X12_beaten r x1 x2) := by
  refine Ci.mono (f_X12_beaten d h w ((f.1 42).trans hf_1_42) x1 x2) (fun r h' kk => ?_)
  obtain ⟨e8, e9⟩ := kk
  exact ⟨trivial, e8⟩
def pc_X12_begin (r : Int32) (x1 : Int32) (x2 : Int32) : Prop := (((True)) ∧ r = 0)
theorem g_X12_begin (d : Nat) (h : Hp_) (w : Wf h) (f : FrM h) (x1 : Int32) (x2 : Int32) : Ci (m_X12_begin (d + 2) 0 0) [.ref 1, .int x1, .int x2] h (fun r _ => pc_X12_begin r x1 x2) := by
  refine Ci.mono (f_X12_begin d h w ((f.1 7).trans hf_1_7) x1 x2) (fun r h' kk => ?_)
  obtain ⟨e8, e9⟩ := kk
  exact ⟨trivial, e8⟩
def pc_X12_draw (r : Int32) (x1 : Int32) (x2 : Int32) (x3 : Int32) : Prop := (((True)) ∧ r = 0)
theorem g_X12_draw (d : Nat) (h : Hp_) (w : Wf h) (f : FrM h) (x1 : Int32) (x2 : Int32) (x3 : Int32) : Ci (m_X12_draw (d + 2) 0 0) [.ref 1, .int x1, .int x2, .int x3] h (fun r _ => pc_X12_draw r x1 x2 x3) := by
  refine Ci.mono (f_X12_draw d h w ((f.1 7).trans hf_1_7) x1 x2 x3) (fun r h' kk => ?_)
  obtain ⟨e8, e9⟩ := kk
  exact ⟨trivial, e8⟩
def pc_X12_ill (r : Int32) (x1 : Int32) (x2 : Int32) : Prop := (((True)) ∧ r = 0)
theorem g_X12_ill (d : Nat) (h : Hp_) (w : Wf h) (f : FrM h) (x1 : Int32) (x2 : Int32) : Ci (m_X12_ill (d + 2) 0 0) [.ref 1, .int x1, .int x2] h (fun r _ => pc_X12_ill r x1 x2) := by
  refine Ci.mono (f_X12_ill d h w ((f.1 7).trans hf_1_7) x1 x2) (fun r h' kk => ?_)
  obtain ⟨e8, e9⟩ := kk
  exact ⟨trivial, e8⟩
def pc_X12_about (r : Int32) (x1 : Int32) (x2 : Int32) : Prop := (((True)) ∧ r = 0)
theorem g_X12_about (d : Nat) (h : Hp_) (w : Wf h) (f : FrM h) (x1 : Int32) (x2 : Int32) : Ci (m_X12_about (d + 2) 0 0) [.ref 1, .int x1, .int x2] h (fun r _ => pc_X12_about r x1 x2) := by
  refine Ci.mono (f_X12_about d h w ((f.1 7).trans hf_1_7) x1 x2) (fun r h' kk => ?_)
  obtain ⟨e8, e9⟩ := kk
  exact ⟨trivial, e8⟩
def pc_X12_was (r : Int32) (x1 : Int32) (x2 : Int32) : Prop := (((True)) ∧ r = (-1))
theorem g_X12_was (d : Nat) (h : Hp_) (w : Wf h) (f : FrM h) (x1 : Int32) (x2 : Int32) : Ci (m_X12_was (d + 2) 0 0) [.ref 1, .int x1, .int x2] h (fun r _ => pc_X12_was r x1 x2) := by
  refine Ci.mono (f_X12_was d h w ((f.1 7).trans hf_1_7) x1 x2) (fun r h' kk => ?_)
  obtain ⟨e8, e9⟩ := kk
  exact ⟨trivial, e8⟩
def pc_X12_point (r : Int32) (x1 : Int32) (x2 : Int32) (x3 : Int32) : Prop := (((True)) ∧ r = (-1))
theorem g_X12_point (d : Nat) (h : Hp_) (w : Wf h) (f : FrM h) (x1 : Int32) (x2 : Int32) (x3 : Int32) : Ci (m_X12_point (d + 1) 0 0) [.ref 1, .int x1, .int x2, .int x3] h (fun r _ => pc_X12_point r x1 x2 x3) := by
  refine Ci.mono (f_X12_point d h w ((f.1 63).trans hf_1_63) x1 x2 x3) (fun r h' kk => ?_)
  obtain ⟨e8, e9⟩ := kk
  exact ⟨trivial, e8⟩
def pc_X12_cause (r : Int32) (x1 : Int32) (x2 : Int32) : Prop := (((True)) ∧ r = 0)
theorem g_X12_cause (d : Nat) (h : Hp_) (w : Wf h) (f : FrM h) (x1 : Int32) (x2 : Int32) : Ci (m_X12_cause (d + 1) 0 0) [.ref 1, .int x1, .int x2] h (fun r _ => pc_X12_cause r x1 x2) := by
  refine Ci.mono (f_X12_cause d h w ((f.1 63).trans hf_1_63) x1 x2) (fun r h' kk => ?_)
  obtain ⟨e8, e9⟩ := kk
  exact ⟨trivial, e8⟩
def pc_X12_causes (r : Int32) (x1 : Int32) (x2 : Int32) : Prop := (((¬ (1 ≤ x1 ∧ x1 ≤ 9)) ∨ ((1 ≤ x1 ∧ x1 ≤ 9) ∧ ¬ (0 ≤ x2 ∧ x2 ≤ 0))) ∧ r = (-1)) ∨ ((((1 ≤ x1 ∧ x1 ≤ 9) ∧ (0 ≤ x2 ∧ x2 ≤ 0))) ∧ r = 0)
theorem g_X12_causes (d : Nat) (h : Hp_) (w : Wf h) (f : FrM h) (x1 : Int32) (x2 : Int32) : Ci (m_X12_causes (d + 2) 0 0) [.ref 1, .int x1, .int x2] h (fun r _ => pc_X12_causes r x1 x2) := by
  refine Ci.mono (f_X12_causes d h w ((f.1 0).trans hf_1_0) ((f.1 63).trans hf_1_63) x1 x2) (fun r h' kk => ?_)
  rcases kk with ⟨c0, e8, e9⟩ | ⟨c0, c1, e8, e9⟩ | ⟨c0, c1, e8, e9⟩
  · exact Or.inl ⟨Or.inl c0, e8⟩
  · exact Or.inr (⟨⟨c0, c1⟩, e8⟩)
  · exact Or.inl ⟨Or.inr (⟨c0, c1⟩), e8⟩
def pc_X12_find (r : Int32) (x1 : Int32) (x2 : Int32) (x3 : Int32) (x4 : Int32) (x5 : Int32) : Prop := (((¬ (0 ≤ x1 ∧ x1 ≤ 9)) ∨ ((0 ≤ x1 ∧ x1 ≤ 9) ∧ ¬ (0 ≤ x2 ∧ x2 ≤ 15)) ∨ ((0 ≤ x1 ∧ x1 ≤ 9) ∧ (0 ≤ x2 ∧ x2 ≤ 15) ∧ ¬ (0 ≤ x3 ∧ x3 ≤ 20000)) ∨ ((0 ≤ x1 ∧ x1 ≤ 9) ∧ (0 ≤ x2 ∧ x2 ≤ 15) ∧ (0 ≤ x3 ∧ x3 ≤ 20000) ∧ ¬ (x3 ≤ x4 ∧ x4 ≤ 20000)) ∨ ((0 ≤ x1 ∧ x1 ≤ 9) ∧ (0 ≤ x2 ∧ x2 ≤ 15) ∧ (0 ≤ x3 ∧ x3 ≤ 20000) ∧ (x3 ≤ x4 ∧ x4 ≤ 20000) ∧ ¬ (1 ≤ x5 ∧ x5 ≤ 9))) ∧ r = (-1)) ∨ ((((0 ≤ x1 ∧ x1 ≤ 9) ∧ (0 ≤ x2 ∧ x2 ≤ 15) ∧ (0 ≤ x3 ∧ x3 ≤ 20000) ∧ (x3 ≤ x4 ∧ x4 ≤ 20000) ∧ (1 ≤ x5 ∧ x5 ≤ 9))) ∧ r = 0)
theorem g_X12_find (d : Nat) (h : Hp_) (w : Wf h) (f : FrM h) (x1 : Int32) (x2 : Int32) (x3 : Int32) (x4 : Int32) (x5 : Int32) : Ci (m_X12_find (d + 2) 0 0) [.ref 1, .int x1, .int x2, .int x3, .int x4, .int x5] h (fun r _ => pc_X12_find r x1 x2 x3 x4 x5) := by
  refine Ci.mono (f_X12_find d h w ((f.1 79).trans hf_1_79) x1 x2 x3 x4 x5) (fun r h' kk => ?_)
  rcases kk with ⟨c0, e8, e9⟩ | ⟨c0, c1, e8, e9⟩ | ⟨c0, c1, c2, e8, e9⟩ | ⟨c0, c1, c2, c3, e8, e9⟩ | ⟨c0, c1, c2, c3, c4, e8, e9⟩ | ⟨c0, c1, c2, c3, c4, e8, e9⟩
  · exact Or.inl ⟨Or.inl c0, e8⟩
  · exact Or.inl ⟨Or.inr (Or.inl ⟨c0, c1⟩), e8⟩
  · exact Or.inl ⟨Or.inr (Or.inr (Or.inl ⟨c0, c1, c2⟩)), e8⟩
  · exact Or.inl ⟨Or.inr (Or.inr (Or.inr (Or.inl ⟨c0, c1, c2, c3⟩))), e8⟩
  · exact Or.inl ⟨Or.inr (Or.inr (Or.inr (Or.inr (⟨c0, c1, c2, c3, c4⟩)))), e8⟩
  · exact Or.inr (⟨⟨c0, c1, c2, c3, c4⟩, e8⟩)
def pc_X12_act (r : Int32) (x1 : Int32) : Prop := (((¬ (0 ≤ x1 ∧ x1 ≤ 30)) ∨ ((0 ≤ x1 ∧ x1 ≤ 30))) ∧ r = (-1))
theorem g_X12_act (d : Nat) (h : Hp_) (w : Wf h) (f : FrM h) (x1 : Int32) : Ci (m_X12_act (d + 11) 0 0) [.ref 1, .int x1] h (fun r _ => pc_X12_act r x1) := by
  refine Ci.mono (f_X12_act d h w ((f.1 32).trans hf_1_32) ((f.2 235 (by decide) (by decide) 0).trans hf_235_0) x1) (fun r h' kk => ?_)
  rcases kk with ⟨c0, e8, e9⟩ | ⟨c0, e8, e9⟩
  · exact ⟨Or.inl c0, e8⟩
  · exact ⟨Or.inr (c0), e8⟩
def pc_X12_force (r : Int32) (x1 : Int32) (x2 : Int32) : Prop := (((¬ (0 ≤ x1 ∧ x1 ≤ 30)) ∨ ((0 ≤ x1 ∧ x1 ≤ 30) ∧ ¬ (0 ≤ x2 ∧ x2 ≤ 0)) ∨ ((0 ≤ x1 ∧ x1 ≤ 30) ∧ (0 ≤ x2 ∧ x2 ≤ 0))) ∧ r = (-1))
theorem g_X12_force (d : Nat) (h : Hp_) (w : Wf h) (f : FrM h) (x1 : Int32) (x2 : Int32) : Ci (m_X12_force (d + 2) 0 0) [.ref 1, .int x1, .int x2] h (fun r _ => pc_X12_force r x1 x2) := by
  refine Ci.mono (f_X12_force d h w ((f.1 0).trans hf_1_0) ((f.2 235 (by decide) (by decide) 0).trans hf_235_0) x1 x2) (fun r h' kk => ?_)
  rcases kk with ⟨c0, e8, e9⟩ | ⟨c0, c1, e8, e9⟩ | ⟨c0, c1, e8, e9⟩
  · exact ⟨Or.inl c0, e8⟩
  · exact ⟨Or.inr (Or.inl ⟨c0, c1⟩), e8⟩
  · exact ⟨Or.inr (Or.inr (⟨c0, c1⟩)), e8⟩
def pc_X12_sighting (r : Int32) (x1 : Int32) (x2 : Int32) : Prop := (((True)) ∧ r = (-1))
theorem g_X12_sighting (d : Nat) (h : Hp_) (w : Wf h) (f : FrM h) (x1 : Int32) (x2 : Int32) : Ci (m_X12_sighting (d + 1) 0 0) [.ref 1, .int x1, .int x2] h (fun r _ => pc_X12_sighting r x1 x2) := by
  refine Ci.mono (f_X12_sighting d h w ((f.1 80).trans hf_1_80) x1 x2) (fun r h' kk => ?_)
  obtain ⟨e8, e9⟩ := kk
  exact ⟨trivial, e8⟩
def pc_X12_should (r : Int32) (x1 : Int32) (x2 : Int32) : Prop := (((True)) ∧ r = (-1))
theorem g_X12_should (d : Nat) (h : Hp_) (w : Wf h) (f : FrM h) (x1 : Int32) (x2 : Int32) : Ci (m_X12_should (d + 1) 0 0) [.ref 1, .int x1, .int x2] h (fun r _ => pc_X12_should r x1 x2) := by
  refine Ci.mono (f_X12_should d h w ((f.1 80).trans hf_1_80) x1 x2) (fun r h' kk => ?_)
  obtain ⟨e8, e9⟩ := kk
  exact ⟨trivial, e8⟩
def pc_X12_heard (r : Int32) (x1 : Int32) : Prop := ((((0 ≤ x1 ∧ x1 ≤ 0))) ∧ r = 0) ∨ (((¬ (0 ≤ x1 ∧ x1 ≤ 0))) ∧ r = (-1))
theorem g_X12_heard (d : Nat) (h : Hp_) (w : Wf h) (f : FrM h) (x1 : Int32) : Ci (m_X12_heard (d + 2) 0 0) [.ref 1, .int x1] h (fun r _ => pc_X12_heard r x1) := by
  refine Ci.mono (f_X12_heard d h w ((f.1 0).trans hf_1_0) ((f.1 80).trans hf_1_80) x1) (fun r h' kk => ?_)
  rcases kk with ⟨c0, e8, e9⟩ | ⟨c0, e8, e9⟩
  · exact Or.inl ⟨c0, e8⟩
  · exact Or.inr (⟨c0, e8⟩)
def pc_X12_open (r : Int32) (x1 : Int32) : Prop := (((¬ (0 ≤ x1 ∧ x1 ≤ 9))) ∧ r = (-1)) ∨ ((((0 ≤ x1 ∧ x1 ≤ 9))) ∧ r = 0)
theorem g_X12_open (d : Nat) (h : Hp_) (w : Wf h) (f : FrM h) (x1 : Int32) : Ci (m_X12_open (d + 1) 0 0) [.ref 1, .int x1] h (fun r _ => pc_X12_open r x1) := by
  refine Ci.mono (f_X12_open d h w ((f.1 0).trans hf_1_0) ((f.1 96).trans hf_1_96) x1) (fun r h' kk => ?_)
  rcases kk with ⟨c0, e8, e9⟩ | ⟨c0, e8, e9⟩
  · exact Or.inl ⟨c0, e8⟩
  · exact Or.inr (⟨c0, e8⟩)
def pc_X12_need (r : Int32) (x1 : Int32) (x2 : Int32) : Prop := (((¬ (0 ≤ x1 ∧ x1 ≤ 9)) ∨ ((0 ≤ x1 ∧ x1 ≤ 9) ∧ ¬ (0 ≤ x2 ∧ x2 ≤ 255))) ∧ r = 0) ∨ ((((0 ≤ x1 ∧ x1 ≤ 9) ∧ (0 ≤ x2 ∧ x2 ≤ 255))) ∧ r = 1)
theorem g_X12_need (d : Nat) (h : Hp_) (w : Wf h) (f : FrM h) (x1 : Int32) (x2 : Int32) : Ci (m_X12_need (d + 1) 0 0) [.ref 1, .int x1, .int x2] h (fun r _ => pc_X12_need r x1 x2) := by
  refine Ci.mono (f_X12_need d h w  x1 x2) (fun r h' kk => ?_)
  rcases kk with ⟨c0, e8, e9⟩ | ⟨c0, c1, e8, e9⟩ | ⟨c0, c1, e8, e9⟩
  · exact Or.inl ⟨Or.inl c0, e8⟩
  · exact Or.inr (⟨⟨c0, c1⟩, e8⟩)
  · exact Or.inl ⟨Or.inr (⟨c0, c1⟩), e8⟩
def pc_X12_want (r : Int32) (x1 : Int32) (x2 : Int32) : Prop := (((¬ (0 ≤ x1 ∧ x1 ≤ 7)) ∨ ((0 ≤ x1 ∧ x1 ≤ 7) ∧ ¬ (1 ≤ x2 ∧ x2 ≤ 3))) ∧ r = 0) ∨ ((((0 ≤ x1 ∧ x1 ≤ 7) ∧ (1 ≤ x2 ∧ x2 ≤ 3))) ∧ r = 1)
theorem g_X12_want (d : Nat) (h : Hp_) (w : Wf h) (f : FrM h) (x1 : Int32) (x2 : Int32) : Ci (m_X12_want (d + 1) 0 0) [.ref 1, .int x1, .int x2] h (fun r _ => pc_X12_want r x1 x2) := by
  refine Ci.mono (f_X12_want d h w  x1 x2) (fun r h' kk => ?_)
  rcases kk with ⟨c0, e8, e9⟩ | ⟨c0, c1, e8, e9⟩ | ⟨c0, c1, e8, e9⟩
  · exact Or.inl ⟨Or.inl c0, e8⟩
  · exact Or.inr (⟨⟨c0, c1⟩, e8⟩)
  · exact Or.inl ⟨Or.inr (⟨c0, c1⟩), e8⟩
def pc_X12_state (r : Int32) (x1 : Int32) (x2 : Int32) (x3 : Int32) (x4 : Int32) : Prop := (((True)) ∧ r = (-1))
theorem g_X12_state (d : Nat) (h : Hp_) (w : Wf h) (f : FrM h) (x1 : Int32) (x2 : Int32) (x3 : Int32) (x4 : Int32) : Ci (m_X12_state (d + 2) 0 0) [.ref 1, .int x1, .int x2, .int x3, .int x4] h (fun r _ => pc_X12_state r x1 x2 x3 x4) := by
  refine Ci.mono (f_X12_state d h w ((f.1 96).trans hf_1_96) x1 x2 x3 x4) (fun r h' kk => ?_)
  obtain ⟨e8, e9⟩ := kk
  exact ⟨trivial, e8⟩
def pc_X12_withdraw (r : Int32) (x1 : Int32) : Prop := (((¬ (0 ≤ x1 ∧ x1 ≤ 15))) ∧ r = (-1)) ∨ ((((0 ≤ x1 ∧ x1 ≤ 15))) ∧ r = 0)
theorem g_X12_withdraw (d : Nat) (h : Hp_) (w : Wf h) (f : FrM h) (x1 : Int32) : Ci (m_X12_withdraw (d + 1) 0 0) [.ref 1, .int x1] h (fun r _ => pc_X12_withdraw r x1) := by
  refine Ci.mono (f_X12_withdraw d h w ((f.1 0).trans hf_1_0) ((f.1 96).trans hf_1_96) (fun k hk => (f.2 272 (by decide) (by decide) k).trans (ha_272 k hk)) x1) (fun r h' kk => ?_)
  rcases kk with ⟨c0, e8, e9⟩ | ⟨c0, e8, e9⟩
  · exact Or.inl ⟨c0, e8⟩
  · exact Or.inr (⟨c0, e8⟩)
def pc_X12_fact (r : Int32) (x1 : Int32) (x2 : Int32) (x3 : Int32) : Prop := (((True)) ∧ r = (-1))
theorem g_X12_fact (d : Nat) (h : Hp_) (w : Wf h) (f : FrM h) (x1 : Int32) (x2 : Int32) (x3 : Int32) : Ci (m_X12_fact (d + 3) 0 0) [.ref 1, .int x1, .int x2, .int x3] h (fun r _ => pc_X12_fact r x1 x2 x3) := by
  refine Ci.mono (f_X12_fact d h w ((f.1 96).trans hf_1_96) x1 x2 x3) (fun r h' kk => ?_)
  obtain ⟨e8, e9⟩ := kk
  exact ⟨trivial, e8⟩
def pc_X12_cased (r : Int32) (x1 : Int32) (x2 : Int32) (x3 : Int32) : Prop := (((True)) ∧ r = (-1))
theorem g_X12_cased (d : Nat) (h : Hp_) (w : Wf h) (f : FrM h) (x1 : Int32) (x2 : Int32) (x3 : Int32) : Ci (m_X12_cased (d + 3) 0 0) [.ref 1, .int x1, .int x2, .int x3] h (fun r _ => pc_X12_cased r x1 x2 x3) := by
  refine Ci.mono (f_X12_cased d h w ((f.1 96).trans hf_1_96) x1 x2 x3) (fun r h' kk => ?_)
  obtain ⟨e8, e9⟩ := kk
  exact ⟨trivial, e8⟩
def pc_X12_story (r : Int32) (x1 : Int32) (x2 : Int32) (x3 : Int32) : Prop := (((True)) ∧ r = (-1))
theorem g_X12_story (d : Nat) (h : Hp_) (w : Wf h) (f : FrM h) (x1 : Int32) (x2 : Int32) (x3 : Int32) : Ci (m_X12_story (d + 2) 0 0) [.ref 1, .int x1, .int x2, .int x3] h (fun r _ => pc_X12_story r x1 x2 x3) := by
  refine Ci.mono (f_X12_story d h w ((f.1 96).trans hf_1_96) x1 x2 x3) (fun r h' kk => ?_)
  obtain ⟨e8, e9⟩ := kk
  exact ⟨trivial, e8⟩
def pc_X12_next (r : Int32) (x1 : Int32) : Prop := (((True)) ∧ r = (-1))
theorem g_X12_next (d : Nat) (h : Hp_) (w : Wf h) (f : FrM h) (x1 : Int32) : Ci (m_X12_next (d + 2) 0 0) [.ref 1, .int x1] h (fun r _ => pc_X12_next r x1) := by
  refine Ci.mono (f_X12_next d h w ((f.1 96).trans hf_1_96) x1) (fun r h' kk => ?_)
  obtain ⟨e8, e9⟩ := kk
  exact ⟨trivial, e8⟩
def pc_X12_good (r : Int32) (x1 : Int32) (x2 : Int32) : Prop := (((¬ (0 ≤ x2 ∧ x2 ≤ 99999))) ∧ r = (-1)) ∨ ((((0 ≤ x2 ∧ x2 ≤ 99999) ∧ x1 = 0) ∨ ((0 ≤ x2 ∧ x2 ≤ 99999) ∧ ¬ x1 = 0)) ∧ r = 0)
theorem g_X12_good (d : Nat) (h : Hp_) (w : Wf h) (f : FrM h) (x1 : Int32) (x2 : Int32) : Ci (m_X12_good (d + 1) 0 0) [.ref 1, .int x1, .int x2] h (fun r _ => pc_X12_good r x1 x2) := by
  refine Ci.mono (f_X12_good d h w ((f.1 101).trans hf_1_101) ((f.1 102).trans hf_1_102) x1 x2) (fun r h' kk => ?_)
  rcases kk with ⟨c0, e8, e9⟩ | ⟨c0, c1, e8, e9⟩ | ⟨c0, c1, e8, e9⟩
  · exact Or.inl ⟨c0, e8⟩
  · exact Or.inr (⟨Or.inl ⟨c0, c1⟩, e8⟩)
  · exact Or.inr (⟨Or.inr (⟨c0, c1⟩), e8⟩)
def pc_X12_least (r : Int32) (x1 : Int32) : Prop := ((((1 ≤ x1 ∧ x1 ≤ 5))) ∧ r = 1) ∨ (((¬ (1 ≤ x1 ∧ x1 ≤ 5))) ∧ r = 0)
theorem g_X12_least (d : Nat) (h : Hp_) (w : Wf h) (f : FrM h) (x1 : Int32) : Ci (m_X12_least (d + 1) 0 0) [.ref 1, .int x1] h (fun r _ => pc_X12_least r x1) := by
  refine Ci.mono (f_X12_least d h w  x1) (fun r h' kk => ?_)
  rcases kk with ⟨c0, e8, e9⟩ | ⟨c0, e8, e9⟩
  · exact Or.inl ⟨c0, e8⟩
  · exact Or.inr (⟨c0, e8⟩)
def pc_X12_joined (r : Int32) (x1 : Int32) : Prop := (((True)) ∧ r = (-1))
theorem g_X12_joined (d : Nat) (h : Hp_) (w : Wf h) (f : FrM h) (x1 : Int32) : Ci (m_X12_joined (d + 2) 0 0) [.ref 1, .int x1] h (fun r _ => pc_X12_joined r x1) := by
  refine Ci.mono (f_X12_joined d h w ((f.1 101).trans hf_1_101) x1) (fun r h' kk => ?_)
  obtain ⟨e8, e9⟩ := kk
  exact ⟨trivial, e8⟩
def pc_X12_rivals (r : Int32) (x1 : Int32) : Prop := (((True)) ∧ r = (-1))
theorem g_X12_rivals (d : Nat) (h : Hp_) (w : Wf h) (f : FrM h) (x1 : Int32) : Ci (m_X12_rivals (d + 2) 0 0) [.ref 1, .int x1] h (fun r _ => pc_X12_rivals r x1) := by
  refine Ci.mono (f_X12_rivals d h w ((f.1 101).trans hf_1_101) x1) (fun r h' kk => ?_)
  obtain ⟨e8, e9⟩ := kk
  exact ⟨trivial, e8⟩
def pc_X12_sure (r : Int32) (x1 : Int32) : Prop := (((True)) ∧ r = (-1))
theorem g_X12_sure (d : Nat) (h : Hp_) (w : Wf h) (f : FrM h) (x1 : Int32) : Ci (m_X12_sure (d + 2) 0 0) [.ref 1, .int x1] h (fun r _ => pc_X12_sure r x1) := by
  refine Ci.mono (f_X12_sure d h w ((f.1 101).trans hf_1_101) x1) (fun r h' kk => ?_)
  obtain ⟨e8, e9⟩ := kk
  exact ⟨trivial, e8⟩
def pc_X12_watch (r : Int32) (x1 : Int32) (x2 : Int32) (x3 : Int32) : Prop := (((¬ (0 ≤ x1 ∧ x1 ≤ 15)) ∨ ((0 ≤ x1 ∧ x1 ≤ 15) ∧ ¬ (0 ≤ x2 ∧ x2 ≤ 1440)) ∨ ((0 ≤ x1 ∧ x1 ≤ 15) ∧ (0 ≤ x2 ∧ x2 ≤ 1440) ∧ ¬ (x2 ≤ x3 ∧ x3 ≤ 1440))) ∧ r = (-1)) ∨ ((((0 ≤ x1 ∧ x1 ≤ 15) ∧ (0 ≤ x2 ∧ x2 ≤ 1440) ∧ (x2 ≤ x3 ∧ x3 ≤ 1440))) ∧ r = 0)
theorem g_X12_watch (d : Nat) (h : Hp_) (w : Wf h) (f : FrM h) (x1 : Int32) (x2 : Int32) (x3 : Int32) : Ci (m_X12_watch (d + 2) 0 0) [.ref 1, .int x1, .int x2, .int x3] h (fun r _ => pc_X12_watch r x1 x2 x3) := by
  refine Ci.mono (f_X12_watch d h w ((f.1 108).trans hf_1_108) x1 x2 x3) (fun r h' kk => ?_)
  rcases kk with ⟨c0, e8, e9⟩ | ⟨c0, c1, e8, e9⟩ | ⟨c0, c1, c2, e8, e9⟩ | ⟨c0, c1, c2, e8, e9⟩
  · exact Or.inl ⟨Or.inl c0, e8⟩
  · exact Or.inl ⟨Or.inr (Or.inl ⟨c0, c1⟩), e8⟩
  · exact Or.inl ⟨Or.inr (Or.inr (⟨c0, c1, c2⟩)), e8⟩
  · exact Or.inr (⟨⟨c0, c1, c2⟩, e8⟩)
def pc_X12_sees (r : Int32) (x1 : Int32) (x2 : Int32) : Prop := (((True)) ∧ r = (-1))
theorem g_X12_sees (d : Nat) (h : Hp_) (w : Wf h) (f : FrM h) (x1 : Int32) (x2 : Int32) : Ci (m_X12_sees (d + 1) 0 0) [.ref 1, .int x1, .int x2] h (fun r _ => pc_X12_sees r x1 x2) := by
  refine Ci.mono (f_X12_sees d h w ((f.1 42).trans hf_1_42) x1 x2) (fun r h' kk => ?_)
  obtain ⟨e8, e9⟩ := kk
  exact ⟨trivial, e8⟩
def pc_X12_safe (r : Int32) (x1 : Int32) : Prop := (((True)) ∧ r = (-1))
theorem g_X12_safe (d : Nat) (h : Hp_) (w : Wf h) (f : FrM h) (x1 : Int32) : Ci (m_X12_safe (d + 2) 0 0) [.ref 1, .int x1] h (fun r _ => pc_X12_safe r x1) := by
  refine Ci.mono (f_X12_safe d h w ((f.1 42).trans hf_1_42) x1) (fun r h' kk => ?_)
  obtain ⟨e8, e9⟩ := kk
  exact ⟨trivial, e8⟩
def pc_X12_share (r : Int32) (x1 : Int32) (x2 : Int32) : Prop := (((True)) ∧ r = (-1))
theorem g_X12_share (d : Nat) (h : Hp_) (w : Wf h) (f : FrM h) (x1 : Int32) (x2 : Int32) : Ci (m_X12_share (d + 2) 0 0) [.ref 1, .int x1, .int x2] h (fun r _ => pc_X12_share r x1 x2) := by
  refine Ci.mono (f_X12_share d h w ((f.1 42).trans hf_1_42) x1 x2) (fun r h' kk => ?_)
  obtain ⟨e8, e9⟩ := kk
  exact ⟨trivial, e8⟩
def pc_X12_fair (r : Int32) (x1 : Int32) (x2 : Int32) (x3 : Int32) : Prop := (((¬ (0 ≤ x1 ∧ x1 ≤ 15)) ∨ ((0 ≤ x1 ∧ x1 ≤ 15) ∧ ¬ (0 ≤ x2 ∧ x2 ≤ 30000)) ∨ ((0 ≤ x1 ∧ x1 ≤ 15) ∧ (0 ≤ x2 ∧ x2 ≤ 30000) ∧ ¬ (1 ≤ x3 ∧ x3 ≤ 3))) ∧ r = (-1)) ∨ ((((0 ≤ x1 ∧ x1 ≤ 15) ∧ (0 ≤ x2 ∧ x2 ≤ 30000) ∧ (1 ≤ x3 ∧ x3 ≤ 3))) ∧ r = 0)
theorem g_X12_fair (d : Nat) (h : Hp_) (w : Wf h) (f : FrM h) (x1 : Int32) (x2 : Int32) (x3 : Int32) : Ci (m_X12_fair (d + 2) 0 0) [.ref 1, .int x1, .int x2, .int x3] h (fun r _ => pc_X12_fair r x1 x2 x3) := by
  refine Ci.mono (f_X12_fair d h w ((f.1 119).trans hf_1_119) x1 x2 x3) (fun r h' kk => ?_)
  rcases kk with ⟨c0, e8, e9⟩ | ⟨c0, c1, e8, e9⟩ | ⟨c0, c1, c2, e8, e9⟩ | ⟨c0, c1, c2, e8, e9⟩
  · exact Or.inl ⟨Or.inl c0, e8⟩
  · exact Or.inl ⟨Or.inr (Or.inl ⟨c0, c1⟩), e8⟩
  · exact Or.inl ⟨Or.inr (Or.inr (⟨c0, c1, c2⟩)), e8⟩
  · exact Or.inr (⟨⟨c0, c1, c2⟩, e8⟩)
def pc_X12_lent (r : Int32) (x1 : Int32) : Prop := (((True)) ∧ r = (-1))
theorem g_X12_lent (d : Nat) (h : Hp_) (w : Wf h) (f : FrM h) (x1 : Int32) : Ci (m_X12_lent (d + 2) 0 0) [.ref 1, .int x1] h (fun r _ => pc_X12_lent r x1) := by
  refine Ci.mono (f_X12_lent d h w ((f.1 7).trans hf_1_7) x1) (fun r h' kk => ?_)
  obtain ⟨e8, e9⟩ := kk
  exact ⟨trivial, e8⟩
theorem g_X12_fairs (d : Nat) (h : Hp_) (w : Wf h) (f : FrM h) : Cv (m_X12_fairs (d + 0) 0 0) [.ref 1] h (fun _ => True) := by
  refine Cv.mono (f_X12_fairs d h w  ) (fun h' kk => ?_)
  obtain e9 := kk
  exact trivial
def pc_X12_pay (r : Int32) (x1 : Int32) : Prop := (((¬ (0 ≤ x1 ∧ x1 ≤ 30)) ∨ ((0 ≤ x1 ∧ x1 ≤ 30))) ∧ r = (-1))
theorem g_X12_pay (d : Nat) (h : Hp_) (w : Wf h) (f : FrM h) (x1 : Int32) : Ci (m_X12_pay (d + 8) 0 0) [.ref 1, .int x1] h (fun r _ => pc_X12_pay r x1) := by
  refine Ci.mono (f_X12_pay d h w ((f.1 32).trans hf_1_32) ((f.2 235 (by decide) (by decide) 1).trans hf_235_1) x1) (fun r h' kk => ?_)
  rcases kk with ⟨c0, e8, e9⟩ | ⟨c0, e8, e9⟩
  · exact ⟨Or.inl c0, e8⟩
  · exact ⟨Or.inr (c0), e8⟩
def pc_X12_rank (r : Int32) (x1 : Int32) (x2 : Int32) (x3 : Int32) : Prop := (((True)) ∧ r = 0)
theorem g_X12_rank (d : Nat) (h : Hp_) (w : Wf h) (f : FrM h) (x1 : Int32) (x2 : Int32) (x3 : Int32) : Ci (m_X12_rank (d + 2) 0 0) [.ref 1, .int x1, .int x2, .int x3] h (fun r _ => pc_X12_rank r x1 x2 x3) := by
  refine Ci.mono (f_X12_rank d h w ((f.1 7).trans hf_1_7) x1 x2 x3) (fun r h' kk => ?_)
  obtain ⟨e8, e9⟩ := kk
  exact ⟨trivial, e8⟩
def pc_X12_ranked (r : Int32) (x1 : Int32) (x2 : Int32) (x3 : Int32) : Prop := (((True)) ∧ r = (-1))
theorem g_X12_ranked (d : Nat) (h : Hp_) (w : Wf h) (f : FrM h) (x1 : Int32) (x2 : Int32) (x3 : Int32) : Ci (m_X12_ranked (d + 2) 0 0) [.ref 1, .int x1, .int x2, .int x3] h (fun r _ => pc_X12_ranked r x1 x2 x3) := by
  refine Ci.mono (f_X12_ranked d h w ((f.1 7).trans hf_1_7) x1 x2 x3) (fun r h' kk => ?_)
  obtain ⟨e8, e9⟩ := kk
  exact ⟨trivial, e8⟩
def pc_X12_paid (r : Int32) (x1 : Int32) (x2 : Int32) (x3 : Int32) : Prop := (((True)) ∧ r = (-1))
theorem g_X12_paid (d : Nat) (h : Hp_) (w : Wf h) (f : FrM h) (x1 : Int32) (x2 : Int32) (x3 : Int32) : Ci (m_X12_paid (d + 2) 0 0) [.ref 1, .int x1, .int x2, .int x3] h (fun r _ => pc_X12_paid r x1 x2 x3) := by
  refine Ci.mono (f_X12_paid d h w ((f.1 7).trans hf_1_7) x1 x2 x3) (fun r h' kk => ?_)
  obtain ⟨e8, e9⟩ := kk
  exact ⟨trivial, e8⟩
def pc_X12_book (r : Int32) : Prop := (((True)) ∧ r = 0)
theorem g_X12_book (d : Nat) (h : Hp_) (w : Wf h) (f : FrM h) : Ci (m_X12_book (d + 0) 0 0) [.ref 1] h (fun r _ => pc_X12_book r) := by
  refine Ci.mono (f_X12_book d h w ((f.1 0).trans hf_1_0) ((f.1 127).trans hf_1_127) ) (fun r h' kk => ?_)
  obtain ⟨e8, e9⟩ := kk
  exact ⟨trivial, e8⟩
def pc_X12_line (r : Int32) (x1 : Int32) (x2 : Int32) : Prop := (((True)) ∧ r = (-1000000))
theorem g_X12_line (d : Nat) (h : Hp_) (w : Wf h) (f : FrM h) (x1 : Int32) (x2 : Int32) : Ci (m_X12_line (d + 1) 0 0) [.ref 1, .int x1, .int x2] h (fun r _ => pc_X12_line r x1 x2) := by
  refine Ci.mono (f_X12_line d h w ((f.1 127).trans hf_1_127) x1 x2) (fun r h' kk => ?_)
  obtain ⟨e8, e9⟩ := kk
  exact ⟨trivial, e8⟩
def pc_X12_mark (r : Int32) (x1 : Int32) (x2 : Int32) (x3 : Int32) : Prop := (((¬ (0 ≤ x1 ∧ x1 ≤ 3)) ∨ ((0 ≤ x1 ∧ x1 ≤ 3))) ∧ r = 0)
theorem g_X12_mark (d : Nat) (h : Hp_) (w : Wf h) (f : FrM h) (x1 : Int32) (x2 : Int32) (x3 : Int32) : Ci (m_X12_mark (d + 2) 0 0) [.ref 1, .int x1, .int x2, .int x3] h (fun r _ => pc_X12_mark r x1 x2 x3) := by
  refine Ci.mono (f_X12_mark d h w ((f.1 7).trans hf_1_7) x1 x2 x3) (fun r h' kk => ?_)
  rcases kk with ⟨c0, e8, e9⟩ | ⟨c0, e8, e9⟩
  · exact ⟨Or.inl c0, e8⟩
  · exact ⟨Or.inr (c0), e8⟩
def pc_X12_size (r : Int32) (x1 : Int32) : Prop := ((((1 ≤ x1 ∧ x1 ≤ 12))) ∧ r = 1) ∨ (((¬ (1 ≤ x1 ∧ x1 ≤ 12))) ∧ r = 0)
theorem g_X12_size (d : Nat) (h : Hp_) (w : Wf h) (f : FrM h) (x1 : Int32) : Ci (m_X12_size (d + 1) 0 0) [.ref 1, .int x1] h (fun r _ => pc_X12_size r x1) := by
  refine Ci.mono (f_X12_size d h w  x1) (fun r h' kk => ?_)
  rcases kk with ⟨c0, e8, e9⟩ | ⟨c0, e8, e9⟩
  · exact Or.inl ⟨c0, e8⟩
  · exact Or.inr (⟨c0, e8⟩)
def pc_X12_habit (r : Int32) (x1 : Int32) (x2 : Int32) : Prop := (((¬ (0 ≤ x1 ∧ x1 ≤ 3)) ∨ ((0 ≤ x1 ∧ x1 ≤ 3) ∧ ¬ (0 ≤ x2 ∧ x2 ≤ 3)) ∨ ((0 ≤ x1 ∧ x1 ≤ 3) ∧ (0 ≤ x2 ∧ x2 ≤ 3) ∧ ¬ x1 = x2) ∨ ((0 ≤ x1 ∧ x1 ≤ 3) ∧ (0 ≤ x2 ∧ x2 ≤ 3) ∧ x1 = x2)) ∧ r = (-1000000))
theorem g_X12_habit (d : Nat) (h : Hp_) (w : Wf h) (f : FrM h) (x1 : Int32) (x2 : Int32) : Ci (m_X12_habit (d + 1) 0 0) [.ref 1, .int x1, .int x2] h (fun r _ => pc_X12_habit r x1 x2) := by
  refine Ci.mono (f_X12_habit d h w ((f.1 7).trans hf_1_7) ((f.1 130).trans hf_1_130) x1 x2) (fun r h' kk => ?_)
  rcases kk with ⟨c0, e8, e9⟩ | ⟨c0, c1, e8, e9⟩ | ⟨c0, c1, c2, e8, e9⟩ | ⟨c0, c1, c2, e8, e9⟩
  · exact ⟨Or.inl c0, e8⟩
  · exact ⟨Or.inr (Or.inl ⟨c0, c1⟩), e8⟩
  · exact ⟨Or.inr (Or.inr (Or.inl ⟨c0, c1, c2⟩)), e8⟩
  · exact ⟨Or.inr (Or.inr (Or.inr (⟨c0, c1, c2⟩))), e8⟩
def pc_X12_complain (r : Int32) (x1 : Int32) (x2 : Int32) (x3 : Int32) (x4 : Int32) : Prop := (((True)) ∧ r = (-1))
theorem g_X12_complain (d : Nat) (h : Hp_) (w : Wf h) (f : FrM h) (x1 : Int32) (x2 : Int32) (x3 : Int32) (x4 : Int32) : Ci (m_X12_complain (d + 2) 0 0) [.ref 1, .int x1, .int x2, .int x3, .int x4] h (fun r _ => pc_X12_complain r x1 x2 x3 x4) := by
  refine Ci.mono (f_X12_complain d h w ((f.1 7).trans hf_1_7) x1 x2 x3 x4) (fun r h' kk => ?_)
  obtain ⟨e8, e9⟩ := kk
  exact ⟨trivial, e8⟩
def pc_X12_count (r : Int32) (x1 : Int32) : Prop := (((x1 = 0) ∨ (x1 = 1) ∨ (x1 = 2) ∨ (x1 = 3) ∨ (x1 = 4) ∨ (x1 = 5) ∨ (x1 = 6) ∨ (x1 = 7) ∨ (x1 = 8) ∨ (x1 = 9) ∨ (x1 = 10) ∨ (x1 = 11) ∨ (x1 = 12) ∨ (x1 = 13) ∨ (x1 = 14) ∨ (x1 = 15) ∨ (x1 = 16) ∨ (x1 = 17) ∨ (x1 = 18)) ∧ r = 0) ∨ (((¬ x1 = 0 ∧ ¬ x1 = 1 ∧ ¬ x1 = 2 ∧ ¬ x1 = 3 ∧ ¬ x1 = 4 ∧ ¬ x1 = 5 ∧ ¬ x1 = 6 ∧ ¬ x1 = 7 ∧ ¬ x1 = 8 ∧ ¬ x1 = 9 ∧ ¬ x1 = 10 ∧ ¬ x1 = 11 ∧ ¬ x1 = 12 ∧ ¬ x1 = 13 ∧ ¬ x1 = 14 ∧ ¬ x1 = 15 ∧ ¬ x1 = 16 ∧ ¬ x1 = 17 ∧ ¬ x1 = 18)) ∧ r = (-1))
theorem g_X12_count (d : Nat) (h : Hp_) (w : Wf h) (f : FrM h) (x1 : Int32) : Ci (m_X12_count (d + 0) 0 0) [.ref 1, .int x1] h (fun r _ => pc_X12_count r x1) := by
  refine Ci.mono (f_X12_count d h w ((f.1 0).trans hf_1_0) ((f.1 6).trans hf_1_6) ((f.1 7).trans hf_1_7) ((f.1 32).trans hf_1_32) ((f.1 42).trans hf_1_42) ((f.1 63).trans hf_1_63) ((f.1 79).trans hf_1_79) ((f.1 80).trans hf_1_80) ((f.1 96).trans hf_1_96) ((f.1 97).trans hf_1_97) ((f.1 101).trans hf_1_101) ((f.1 102).trans hf_1_102) ((f.1 108).trans hf_1_108) ((f.1 119).trans hf_1_119) ((f.1 127).trans hf_1_127) ((f.2 235 (by decide) (by decide) 0).trans hf_235_0) ((f.2 235 (by decide) (by decide) 1).trans hf_235_1) x1) (fun r h' kk => ?_)
  rcases kk with ⟨c0, e8, e9⟩ | ⟨c0, e8, e9⟩ | ⟨c0, e8, e9⟩ | ⟨c0, e8, e9⟩ | ⟨c0, e8, e9⟩ | ⟨c0, e8, e9⟩ | ⟨c0, e8, e9⟩ | ⟨c0, e8, e9⟩ | ⟨c0, e8, e9⟩ | ⟨c0, e8, e9⟩ | ⟨c0, e8, e9⟩ | ⟨c0, e8, e9⟩ | ⟨c0, e8, e9⟩ | ⟨c0, e8, e9⟩ | ⟨c0, e8, e9⟩ | ⟨c0, e8, e9⟩ | ⟨c0, e8, e9⟩ | ⟨c0, e8, e9⟩ | ⟨c0, e8, e9⟩ | ⟨c0, c1, c2, c3, c4, c5, c6, c7, c8, c9, c10, c11, c12, c13, c14, c15, c16, c17, c18, e8, e9⟩
  · exact Or.inl ⟨Or.inl c0, e8⟩
  · exact Or.inl ⟨Or.inr (Or.inl c0), e8⟩
  · exact Or.inl ⟨Or.inr (Or.inr (Or.inl c0)), e8⟩
  · exact Or.inl ⟨Or.inr (Or.inr (Or.inr (Or.inl c0))), e8⟩
  · exact Or.inl ⟨Or.inr (Or.inr (Or.inr (Or.inr (Or.inl c0)))), e8⟩
  · exact Or.inl ⟨Or.inr (Or.inr (Or.inr (Or.inr (Or.inr (Or.inl c0))))), e8⟩
  · exact Or.inl ⟨Or.inr (Or.inr (Or.inr (Or.inr (Or.inr (Or.inr (Or.inl c0)))))), e8⟩
  · exact Or.inl ⟨Or.inr (Or.inr (Or.inr (Or.inr (Or.inr (Or.inr (Or.inr (Or.inl c0))))))), e8⟩
  · exact Or.inl ⟨Or.inr (Or.inr (Or.inr (Or.inr (Or.inr (Or.inr (Or.inr (Or.inr (Or.inl c0)))))))), e8⟩
  · exact Or.inl ⟨Or.inr (Or.inr (Or.inr (Or.inr (Or.inr (Or.inr (Or.inr (Or.inr (Or.inr (Or.inl c0))))))))), e8⟩
  · exact Or.inl ⟨Or.inr (Or.inr (Or.inr (Or.inr (Or.inr (Or.inr (Or.inr (Or.inr (Or.inr (Or.inr (Or.inl c0)))))))))), e8⟩
  · exact Or.inl ⟨Or.inr (Or.inr (Or.inr (Or.inr (Or.inr (Or.inr (Or.inr (Or.inr (Or.inr (Or.inr (Or.inr (Or.inl c0))))))))))), e8⟩
  · exact Or.inl ⟨Or.inr (Or.inr (Or.inr (Or.inr (Or.inr (Or.inr (Or.inr (Or.inr (Or.inr (Or.inr (Or.inr (Or.inr (Or.inl c0)))))))))))), e8⟩
  · exact Or.inl ⟨Or.inr (Or.inr (Or.inr (Or.inr (Or.inr (Or.inr (Or.inr (Or.inr (Or.inr (Or.inr (Or.inr (Or.inr (Or.inr (Or.inl c0))))))))))))), e8⟩
  · exact Or.inl ⟨Or.inr (Or.inr (Or.inr (Or.inr (Or.inr (Or.inr (Or.inr (Or.inr (Or.inr (Or.inr (Or.inr (Or.inr (Or.inr (Or.inr (Or.inl c0)))))))))))))), e8⟩
  · exact Or.inl ⟨Or.inr (Or.inr (Or.inr (Or.inr (Or.inr (Or.inr (Or.inr (Or.inr (Or.inr (Or.inr (Or.inr (Or.inr (Or.inr (Or.inr (Or.inr (Or.inl c0))))))))))))))), e8⟩
  · exact Or.inl ⟨Or.inr (Or.inr (Or.inr (Or.inr (Or.inr (Or.inr (Or.inr (Or.inr (Or.inr (Or.inr (Or.inr (Or.inr (Or.inr (Or.inr (Or.inr (Or.inr (Or.inl c0)))))))))))))))), e8⟩
  · exact Or.inl ⟨Or.inr (Or.inr (Or.inr (Or.inr (Or.inr (Or.inr (Or.inr (Or.inr (Or.inr (Or.inr (Or.inr (Or.inr (Or.inr (Or.inr (Or.inr (Or.inr (Or.inr (Or.inl c0))))))))))))))))), e8⟩
  · exact Or.inl ⟨Or.inr (Or.inr (Or.inr (Or.inr (Or.inr (Or.inr (Or.inr (Or.inr (Or.inr (Or.inr (Or.inr (Or.inr (Or.inr (Or.inr (Or.inr (Or.inr (Or.inr (Or.inr (c0)))))))))))))))))), e8⟩
  · exact Or.inr (⟨⟨c0, c1, c2, c3, c4, c5, c6, c7, c8, c9, c10, c11, c12, c13, c14, c15, c16, c17, c18⟩, e8⟩)
def pc_X12_fault (r x1 : Int32) : Prop := ((x1 = 0 ∨ x1 = 1 ∨ x1 = 2) ∧ r = 0) ∨ (¬ (0 ≤ x1 ∧ x1 ≤ 2) ∧ r = (-2))
theorem g_X12_fault (d : Nat) (h : Hp_) (w : Wf h) (f : FrM h) (x1 : Int32) : Ci (m_X12_fault (d + 9) 0 0) [.ref 1, .int x1] h (fun r _ => pc_X12_fault r x1) := by
  by_cases e0 : x1 = 0
  · subst e0
    exact Ci.mono (f_X12_fault_c0 (d + 6) h w ((f.1 32).trans hf_1_32)) (fun r h' kk => Or.inl ⟨by decide, kk.1⟩)
  by_cases e1 : x1 = 1
  · subst e1
    exact Ci.mono (f_X12_fault_c1 (d + 0) h w ((f.1 32).trans hf_1_32)) (fun r h' kk => Or.inl ⟨by decide, kk.1⟩)
  by_cases e2 : x1 = 2
  · subst e2
    exact Ci.mono (f_X12_fault_c2 (d + 3) h w ((f.1 32).trans hf_1_32)) (fun r h' kk => Or.inl ⟨by decide, kk.1⟩)
  have hn : ¬ (0 ≤ x1 ∧ x1 ≤ 2) := by grind
  exact Ci.mono (f_X12_fault_n (d + 8) h  x1 hn) (fun r h' kk => Or.inr ⟨hn, kk.1⟩)
