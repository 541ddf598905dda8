/-! codes of told sums: put together -/
theorem prun_cat {s : Nat} {cd : Nat → Int32} : ∀ {f i n j m g k l : Nat}, prun s cd f i n j m → prun s cd g j m k l → prun s cd (f + g) i n k l
  | 0, i, n, j, m, g, k, l, a, b => by
    obtain ⟨e1, e2⟩ := a
    subst e1 e2
    rw [Nat.zero_add]; exact b
  | f + 1, i, n, j, m, g, k, l, a, b => by
    obtain ⟨i', n', h1, h2⟩ := a
    rw [Nat.add_right_comm]
    exact ⟨i', n', h1, prun_cat h2 b⟩
/-- from i to j the codes raise the pile by one, by k at most between -/
def PR (s : Nat) (cd : Nat → Int32) (i j k : Nat) : Prop := ∃ g, ∀ n, n + k ≤ 199 → prun s cd g i n j (n + 1)
theorem PR.num {s : Nat} {cd : Nat → Int32} {i : Nat} (h : cd i = 0) : PR s cd i (i + 2) 1 := ⟨1, fun n hn => ⟨i + 2, n + 1, by unfold pst; rw [if_pos h, if_pos (by omega)], rfl, rfl⟩⟩
theorem PR.let_ {s : Nat} {cd : Nat → Int32} {i : Nat} (h : cd i = 1) (o : okl s (cd (i + 1)) = true) : PR s cd i (i + 2) 1 := ⟨1, fun n hn => ⟨i + 2, n + 1, by unfold pst; rw [if_neg (by rw [h]; decide), if_pos h, if_pos ⟨by omega, o⟩], rfl, rfl⟩⟩
theorem PR.not_ {s : Nat} {cd : Nat → Int32} {i j k : Nat} (a : PR s cd i j k) (h : cd j = 33) : PR s cd i (j + 1) k := by
  obtain ⟨g, hg⟩ := a
  refine ⟨g + 1, fun n hn => prun_cat (hg n hn) ⟨j + 1, n + 1, ?_, rfl, rfl⟩⟩
  unfold pst
  rw [if_neg (by rw [h]; decide), if_neg (by rw [h]; decide), if_pos h, if_pos (by omega)]
def opc (c : Int32) : Bool := !(decide (c = 0) || decide (c = 1) || decide (c = 33) || decide (c = 2) || decide (c = 3))
theorem PR.bin {s : Nat} {cd : Nat → Int32} {i j m k1 k2 K : Nat} (a : PR s cd i j k1) (b : PR s cd j m k2) (h : opc (cd m) = true) (l1 : k1 ≤ K) (l2 : k2 + 1 ≤ K) : PR s cd i (m + 1) K := by
  obtain ⟨g1, h1⟩ := a
  obtain ⟨g2, h2⟩ := b
  refine ⟨g1 + g2 + 1, fun n hn => prun_cat (prun_cat (h1 n (by omega)) (h2 (n + 1) (by omega))) ⟨m + 1, n + 1, ?_, rfl, rfl⟩⟩
  unfold opc at h
  rw [Bool.not_eq_true', Bool.or_eq_false_iff, Bool.or_eq_false_iff, Bool.or_eq_false_iff, Bool.or_eq_false_iff, decide_eq_false_iff_not, decide_eq_false_iff_not, decide_eq_false_iff_not, decide_eq_false_iff_not, decide_eq_false_iff_not] at h
  unfold pst
  rw [if_neg h.1.1.1.1, if_neg h.1.1.1.2, if_neg h.1.1.2, if_neg (fun z => z.elim h.1.2 h.2), if_pos (by omega)]
  rfl
theorem PR.more {s : Nat} {cd : Nat → Int32} {i j k K : Nat} (a : PR s cd i j k) (l : k ≤ K) : PR s cd i j K := by
  obtain ⟨g, hg⟩ := a
  exact ⟨g, fun n hn => hg n (by omega)⟩
theorem pst_sh {s : Nat} {cd cd' : Nat → Int32} {i n t : Nat} {q : Nat × Nat} (e0 : cd' (i + t) = cd i) (e1 : cd i = 1 → cd' (i + t + 1) = cd (i + 1)) (h : pst s cd i n = some q) : pst s cd' (i + t) n = some (q.1 + t, q.2) := by
  obtain ⟨i', n'⟩ := q
  rcases pst_0 h with ⟨c, q1, q2, q3⟩ | ⟨c, q1, qk, q2, q3⟩ | ⟨c, q1, q2, q3⟩ | ⟨c, q1, q2, q3⟩
  · subst q2 q3
    unfold pst
    rw [e0, if_pos c, if_pos q1, Nat.add_right_comm]
  · subst q2 q3
    unfold pst
    rw [e0, e1 c, if_neg (by rw [c]; decide), if_pos c, if_pos ⟨q1, qk⟩, Nat.add_right_comm]
  · subst q2 q3
    unfold pst
    rw [e0, if_neg (by rw [c]; decide), if_neg (by rw [c]; decide), if_pos c, if_pos q1, Nat.add_right_comm]
  · subst q2 q3
    unfold pst
    rw [e0, if_neg c.1, if_neg c.2.1, if_neg c.2.2.1, if_neg (fun z => z.elim c.2.2.2.1 c.2.2.2.2), if_pos q1, Nat.add_right_comm]
theorem pst_1 {s : Nat} {cd : Nat → Int32} {i n i' n' : Nat} (h : pst s cd i n = some (i', n')) (c : cd i = 1) : i' = i + 2 := by
  rcases pst_0 h with ⟨q, _⟩ | ⟨_, _, _, q2, _⟩ | ⟨q, _⟩ | ⟨q, _⟩
  · rw [c] at q; exact absurd q (by decide)
  · exact q2
  · rw [c] at q; exact absurd q (by decide)
  · exact absurd c q.2.1
theorem prun_sh {s : Nat} {cd cd' : Nat → Int32} {t : Nat} : ∀ {g i n j m : Nat}, (∀ x, i ≤ x → x < j → cd' (x + t) = cd x) → prun s cd g i n j m → prun s cd' g (i + t) n (j + t) m
  | 0, _, _, _, _, _, h => ⟨by rw [h.1], h.2⟩
  | g + 1, i, n, j, m, e, h => by
    obtain ⟨i', n', h1, h2⟩ := h
    have l1 := pst_le h1
    have l2 := prun_le h2
    refine ⟨i' + t, n', ?_, prun_sh (fun x a b => e x (by omega) b) h2⟩
    refine pst_sh (q := (i', n')) (e i (Nat.le_refl _) (by omega)) (fun c => ?_) h1
    have := pst_1 h1 c
    rw [show i + t + 1 = (i + 1) + t by omega]
    exact e (i + 1) (by omega) (by omega)
theorem PR.sh {s : Nat} {cd cd' : Nat → Int32} {t i j k : Nat} (e : ∀ x, i ≤ x → x < j → cd' (x + t) = cd x) (a : PR s cd i j k) : PR s cd' (i + t) (j + t) k := by
  obtain ⟨g, hg⟩ := a
  exact ⟨g, fun n hn => prun_sh e (hg n hn)⟩
theorem PR.same {s : Nat} {cd cd' : Nat → Int32} {i j k : Nat} (e : ∀ x, i ≤ x → x < j → cd' x = cd x) (a : PR s cd i j k) : PR s cd' i j k := PR.sh (t := 0) e a
theorem PR.ex {s : Nat} {cd : Nat → Int32} {i j k : Nat} (a : PR s cd i j k) (l : k ≤ 199) : ∃ g, prun s cd g i 0 j 1 := by
  obtain ⟨g, hg⟩ := a
  exact ⟨g, hg 0 (by omega)⟩
