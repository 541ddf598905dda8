/-! work and tell of the reference -/
theorem pst_0 {s : Nat} {cd : Nat → Int32} {i n i' n' : Nat} (h : pst s cd i n = some (i', n')) : (cd i = 0 ∧ n < 199 ∧ i' = i + 2 ∧ n' = n + 1) ∨ (cd i = 1 ∧ n < 199 ∧ okl s (cd (i + 1)) = true ∧ i' = i + 2 ∧ n' = n + 1) ∨ (cd i = 33 ∧ 1 ≤ n ∧ i' = i + 1 ∧ n' = n) ∨ ((¬ cd i = 0 ∧ ¬ cd i = 1 ∧ ¬ cd i = 33 ∧ ¬ cd i = 2 ∧ ¬ cd i = 3) ∧ 2 ≤ n ∧ i' = i + 1 ∧ n' = n - 1) := by
  unfold pst at h
  split at h
  · rename_i e
    split at h
    · cases h; exact Or.inl ⟨e, by assumption, rfl, rfl⟩
    · cases h
  · rename_i e0
    split at h
    · rename_i e
      split at h
      · rename_i y
        cases h; exact Or.inr (Or.inl ⟨e, y.1, y.2, rfl, rfl⟩)
      · cases h
    · rename_i e1
      split at h
      · rename_i e
        split at h
        · cases h; exact Or.inr (Or.inr (Or.inl ⟨e, by assumption, rfl, rfl⟩))
        · cases h
      · rename_i e33
        split at h
        · cases h
        · rename_i e23
          split at h
          · cases h; exact Or.inr (Or.inr (Or.inr ⟨⟨e0, e1, e33, fun z => e23 (Or.inl z), fun z => e23 (Or.inr z)⟩, by assumption, rfl, rfl⟩))
          · cases h
theorem wev_s (cd lt : Nat → Int32) (g i n : Nat) (p : Nat → Int32) : wev cd lt (g + 1) i n p = if cd i = 0 then wev cd lt g (i + 2) (n + 1) (upp p n (cd (i + 1)))
    else if cd i = 1 then wev cd lt g (i + 2) (n + 1) (upp p n (lt (cd (i + 1)).toNatClampNeg))
    else if cd i = 33 then wev cd lt g (i + 1) n (upp p (n - 1) (if p (n - 1) = 0 then 1 else 0))
    else wev cd lt g (i + 1) (n - 1) (upp p (n - 2) (bothv (cd i) (p (n - 2)) (p (n - 1)))) := rfl
theorem wk_loop (d s : Nat) (h0 : Hp_) (cd lt : Nat → Int32) (j : Nat) (hj : j < 22400) (hend : cd j = 2 ∨ cd j = 3) : ∀ (g i n : Nat) (h : Hp_), prun s cd g i n j 1 → n ≤ 199 → Ws h0 cd lt i h →
    AW (m_X12_work (d + 3) 0 0) 0 0 2 [(0, .ref 1), (1, .int (Int32.ofNat n))] [] h (kI (fun r h' => Ws h0 cd lt (j + 1) h' ∧ r = wev cd lt g i n (h_i h 237))) := by
  intro g
  induction g with
  | zero =>
    intro i n h hp hn W
    obtain ⟨e1, e2⟩ := hp
    subst e1 e2
    obtain ⟨I, F, ec, el, er⟩ := W
    have z0 : (0 : Int32).toNatClampNeg = 0 := by simp
    have v0 : vp_in 0 200 := dp_in (lo := 0) (hi := 0) ⟨by decide, by decide⟩ (by decide) (by decide)
    have fin : Ws h0 cd lt (i + 1) (h_im h 1 52 ((h_i h 1 52) + 1)) := by
      rw [er, on_s (by omega)]
      exact Ws.rd (i := i) ⟨I, F, ec, el, er⟩ (i + 1)
    have hv : vp_in (h_i h 1 52) 22400 := by rw [er]; exact on_in hj (by decide)
    have ex : h_i h 231 (h_i h 1 52).toNatClampNeg = cd i := by rw [er, on_k (by omega), ec]
    refine t_X12_work_2 d h I.1 _ _ ⟨hv, fun _ => ⟨v0, fin, by rw [z0]; rfl⟩, fun c2 => ⟨hv, fun _ => ⟨v0, fin, by rw [z0]; rfl⟩, fun c3 => ?_⟩⟩
    rw [ex] at c2 c3
    rcases hend with z | z
    · exact absurd z c2
    · exact absurd z c3
  | succ g ih =>
    intro i n h hp hn W
    obtain ⟨i', n', hs, hp⟩ := hp
    have le := prun_le hp
    have W' := W
    obtain ⟨I, F, ec, el, er⟩ := W
    have li := pst_le hs
    have hv : vp_in (h_i h 1 52) 22400 := by rw [er]; exact on_in (by omega) (by decide)
    have ex : h_i h 231 (h_i h 1 52).toNatClampNeg = cd i := by rw [er, on_k (by omega), ec]
    have er1 : h_i h 1 52 + 1 = Int32.ofNat (i + 1) := by rw [er, on_s (by omega)]
    have hv1 : i + 1 < 22400 → vp_in (h_i h 1 52 + 1) 22400 := fun z => by rw [er1]; exact on_in z (by decide)
    have ex1 : h_i h 231 (h_i h 1 52 + 1).toNatClampNeg = cd (i + 1) := by rw [er1, on_k (by omega), ec]
    have cn : (Int32.ofNat n).toNatClampNeg = n := on_k (by omega)
    refine t_X12_work_2 d h I.1 _ _ ⟨hv, fun c2 => ?_, fun c2 => ⟨hv, fun c3 => ?_, fun c3 => ⟨hv, fun c0 => ⟨fun y => absurd c0 y, fun _ => ?_⟩, fun c0 => ⟨fun c1 => ⟨fun c33 => ?_, fun c33 => ?_⟩, fun c1 => ⟨fun _ => ?_, fun y => absurd y c0⟩⟩⟩⟩⟩
    · rw [ex] at c2
      unfold pst at hs
      rw [if_neg (by rw [c2]; decide), if_neg (by rw [c2]; decide), if_neg (by rw [c2]; decide), if_pos (Or.inl c2)] at hs
      cases hs
    · rw [ex] at c3
      unfold pst at hs
      rw [if_neg (by rw [c3]; decide), if_neg (by rw [c3]; decide), if_neg (by rw [c3]; decide), if_pos (Or.inr c3)] at hs
      cases hs
    · rw [ex] at c0
      rcases pst_0 hs with ⟨_, q1, q2, q3⟩ | ⟨q, _⟩ | ⟨q, _⟩ | ⟨q, _⟩
      · subst q2 q3
        refine ⟨hv1 (by omega), on_in (by omega) (by decide), ?_⟩
        rw [er1, on_s (by omega), on_s (by omega), cn]
        have e1 : h_i h 231 (Int32.ofNat (i + 1)).toNatClampNeg = cd (i + 1) := by rw [← er1]; exact ex1
        rw [e1]
        refine AW.mono (ih (i + 2) (n + 1) _ hp (by omega) (((W'.rd (i + 1)).pl n (cd (i + 1))).rd (i + 2))) (fun v h' q => ?_)
        obtain ⟨r, ev, q1, q2⟩ := q
        refine ⟨r, ev, q1, ?_⟩
        rw [q2, pl_rd, pl_is, pl_rd]
        show _ = wev cd lt (g + 1) i n (h_i h 237)
        rw [wev_s, if_pos c0]
      · rw [c0] at q; exact absurd q (by decide)
      · rw [c0] at q; exact absurd q (by decide)
      · exact absurd c0 q.1
    · rw [ex] at c0 c1 c33 c2 c3
      rcases pst_0 hs with ⟨q, _⟩ | ⟨q, _⟩ | ⟨q, _⟩ | ⟨_, q1, q2, q3⟩
      · exact absurd q c0
      · exact absurd q c1
      · exact absurd q c33
      · subst q2 q3
        obtain ⟨m, em⟩ : ∃ m, n = m + 2 := ⟨n - 2, by omega⟩
        subst em
        have a1 : Int32.ofNat (m + 2) + (-1) = Int32.ofNat (m + 1) := on_m (n := m + 1) (by omega)
        have a2 : Int32.ofNat (m + 1) - 1 = Int32.ofNat m := on_p (by omega)
        rw [a1, a2, on_k (n := m) (by omega), on_k (n := m + 1) (by omega), ex, er1]
        refine ⟨on_in (by omega) (by decide), on_in (by omega) (by decide), ?_⟩
        refine Ci.mono (c_both d _ (W'.rd (i + 1)).1.1 _ _ _) (fun r h9 q => ?_)
        obtain ⟨q1, q2⟩ := q
        subst q2
        refine ⟨(W'.rd (i + 1)).1.1, on_in (by omega) (by decide), ?_⟩
        refine AW.mono (ih (i + 1) (m + 1) _ hp (by omega) ((W'.rd (i + 1)).pl m r)) (fun v h' q => ?_)
        obtain ⟨r', ev, q3, q4⟩ := q
        refine ⟨r', ev, q3, ?_⟩
        rw [q4, pl_is, pl_rd, q1]
        show _ = wev cd lt (g + 1) i (m + 2) (h_i h 237)
        rw [wev_s, if_neg c0, if_neg c1, if_neg c33]
        rfl
    · rw [ex] at c0 c1 c33 c2 c3
      rcases pst_0 hs with ⟨q, _⟩ | ⟨q, _⟩ | ⟨_, q1, q2, q3⟩ | ⟨q, _⟩
      · exact absurd q c0
      · exact absurd q c1
      · subst q2 q3
        obtain ⟨m, em⟩ : ∃ m, n' = m + 1 := ⟨n' - 1, by omega⟩
        subst em
        have a2 : Int32.ofNat (m + 1) - 1 = Int32.ofNat m := on_p (by omega)
        rw [a2, on_k (n := m) (by omega), er1]
        have fin : ∀ x : Int32, x = (if h_i h 237 m = 0 then 1 else 0) → AW (m_X12_work (d + 3) 0 0) 0 0 2 [(0, .ref 1), (1, .int (Int32.ofNat (m + 1)))] [] (h_im (h_im h 1 52 (Int32.ofNat (i + 1))) 237 m x) (kI (fun r h' => Ws h0 cd lt (j + 1) h' ∧ r = wev cd lt (g + 1) i (m + 1) (h_i h 237))) := by
          intro x hx
          refine AW.mono (ih (i + 1) (m + 1) _ hp (by omega) ((W'.rd (i + 1)).pl m x)) (fun v h' q => ?_)
          obtain ⟨r', ev, q3, q4⟩ := q
          refine ⟨r', ev, q3, ?_⟩
          rw [q4, pl_is, pl_rd, hx]
          show _ = wev cd lt (g + 1) i (m + 1) (h_i h 237)
          rw [wev_s, if_neg c0, if_neg c1, if_pos c33]
          rfl
        exact ⟨on_in (by omega) (by decide), fun y => ⟨on_in (by omega) (by decide), fin 0 (by rw [if_neg y])⟩, fun y => ⟨on_in (by omega) (by decide), fin 1 (by rw [if_pos y])⟩⟩
      · exact absurd c33 q.2.2.1
    · rw [ex] at c1
      rcases pst_0 hs with ⟨q, _⟩ | ⟨_, q1, qk, q2, q3⟩ | ⟨q, _⟩ | ⟨q, _⟩
      · rw [c1] at q; exact absurd q (by decide)
      · subst q2 q3
        have rg := okl_rg qk
        refine ⟨hv1 (by omega), by rw [ex1]; exact dp_in rg (by decide) (by decide), on_in (by omega) (by decide), ?_⟩
        rw [ex1, er1, on_s (by omega), on_s (by omega), cn]
        refine AW.mono (ih (i + 2) (n + 1) _ hp (by omega) (((W'.rd (i + 1)).pl n (h_i h 236 (cd (i + 1)).toNatClampNeg)).rd (i + 2))) (fun v h' q => ?_)
        obtain ⟨r, ev, q1, q2⟩ := q
        refine ⟨r, ev, q1, ?_⟩
        rw [q2, pl_rd, pl_is, pl_rd, el]
        show _ = wev cd lt (g + 1) i n (h_i h 237)
        rw [wev_s, if_neg (by rw [c1]; decide), if_pos c1]
      · rw [c1] at q; exact absurd q (by decide)
      · exact absurd c1 q.2.1
theorem c_work (d s : Nat) (h0 : Hp_) (cd lt : Nat → Int32) {j g i : Nat} (hj : j < 22400) (hend : cd j = 2 ∨ cd j = 3) {h : Hp_} (hp : prun s cd g i 0 j 1) (W : Ws h0 cd lt i h) : Ci (m_X12_work (d + 3) 0 0) [.ref 1] h (fun r h' => Ws h0 cd lt (j + 1) h' ∧ r = wev cd lt g i 0 (h_i h 237)) :=
  t_X12_work d h _ (wk_loop d s h0 cd lt j hj hend g i 0 h hp (by omega) W)
