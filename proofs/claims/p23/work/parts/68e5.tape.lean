/-! the reference's steps: codes and what they unfold to -/
def uB (cd : Nat → Int32) (i i' : Nat) (M : List Sp3) : Prop := (cd i = 0 ∧ rin (cd (i + 1)).toInt (0, 15) ∧ i' = i + 2 ∧ M = [(0, cd (i + 1), 0)]) ∨ (cd i = 1 ∧ rin (cd (i + 1)).toInt (1, 240) ∧ i' = i + 2 ∧ M = [(1, cd (i + 1), 0)]) ∨ (cd i = 2 ∧ rin (cd (i + 1)).toInt (0, 15) ∧ rin (cd (i + 2)).toInt (0, 1440) ∧ i' = i + 3 ∧ M = [(2, cd (i + 1), cd (i + 2))]) ∨ (cd i = 3 ∧ i' = i + 1 ∧ M = [(3, 0, 0)])
def sqU (S : Nat → Nat → List Sp3 → Prop) : Nat → Nat → Nat → List Sp3 → Prop
  | 0, i, j, M => i = j ∧ M = []
  | f + 1, i, j, M => ∃ i' A B, S i i' A ∧ sqU S f i' j B ∧ M = A ++ B
def uD (cd : Nat → Int32) : Nat → Nat → Nat → List Sp3 → Prop
  | 0, i, i', M => uB cd i i' M
  | g + 1, i, i', M => uB cd i i' M ∨ (cd i = 4 ∧ ∃ f j A, sqU (uD cd g) f (i + 1) j A ∧ cd j = 5 ∧ rin (cd (j + 1)).toInt (1, 20) ∧ i' = j + 2 ∧ M = rpl (cd (j + 1)).toNatClampNeg A)
theorem uB_lt {cd : Nat → Int32} {i i' : Nat} {M : List Sp3} (s : uB cd i i' M) : i < i' ∧ i' ≤ i + 3 := by
  rcases s with ⟨_, _, e, _⟩ | ⟨_, _, e, _⟩ | ⟨_, _, _, e, _⟩ | ⟨_, e, _⟩
  · omega
  · omega
  · omega
  · omega
theorem uB_same {cd cd' : Nat → Int32} {i i' : Nat} {M : List Sp3} (e : ∀ x, i ≤ x → x < i' → cd' x = cd x) (s : uB cd i i' M) : uB cd' i i' M := by
  rcases s with ⟨a, b, c, m⟩ | ⟨a, b, c, m⟩ | ⟨a, b, b', c, m⟩ | ⟨a, c, m⟩
  · have e1 := e (i + 1) (by omega) (by omega)
    exact Or.inl ⟨by rw [e i (by omega) (by omega)]; exact a, by rw [e1]; exact b, c, by rw [e1]; exact m⟩
  · have e1 := e (i + 1) (by omega) (by omega)
    exact Or.inr (Or.inl ⟨by rw [e i (by omega) (by omega)]; exact a, by rw [e1]; exact b, c, by rw [e1]; exact m⟩)
  · have e1 := e (i + 1) (by omega) (by omega)
    have e2 := e (i + 2) (by omega) (by omega)
    exact Or.inr (Or.inr (Or.inl ⟨by rw [e i (by omega) (by omega)]; exact a, by rw [e1]; exact b, by rw [e2]; exact b', c, by rw [e1, e2]; exact m⟩))
  · exact Or.inr (Or.inr (Or.inr ⟨by rw [e i (by omega) (by omega)]; exact a, c, m⟩))
theorem sqU_le {S : Nat → Nat → List Sp3 → Prop} (hS : ∀ a b M, S a b M → a < b) : ∀ {f i j : Nat} {M : List Sp3}, sqU S f i j M → i ≤ j
  | 0, _, _, _, h => Nat.le_of_eq h.1
  | f + 1, i, j, M, h => by
    obtain ⟨i', A, B, a, b, _⟩ := h
    have l1 := hS _ _ _ a
    have l2 := sqU_le hS b
    omega
theorem uD_lt {cd : Nat → Int32} : ∀ {g i i' : Nat} {M : List Sp3}, uD cd g i i' M → i < i'
  | 0, _, _, _, s => (uB_lt s).1
  | g + 1, i, i', M, s => by
    rcases s with s | ⟨_, f, j, A, q, _, _, e, _⟩
    · exact (uB_lt s).1
    · have l := sqU_le (fun a b M t => uD_lt (g := g) t) q
      omega
theorem sqU_same {cd cd' : Nat → Int32} {S S' : Nat → Nat → List Sp3 → Prop} (hl : ∀ a b M, S a b M → a < b) (hS : ∀ a b M, (∀ x, a ≤ x → x < b → cd' x = cd x) → S a b M → S' a b M) : ∀ {f i j : Nat} {M : List Sp3}, (∀ x, i ≤ x → x < j → cd' x = cd x) → sqU S f i j M → sqU S' f i j M
  | 0, _, _, _, _, h => h
  | f + 1, i, j, M, e, h => by
    obtain ⟨i', A, B, a, b, m⟩ := h
    have l1 := hl _ _ _ a
    have l2 := sqU_le hl b
    exact ⟨i', A, B, hS _ _ _ (fun x u v => e x u (by omega)) a, sqU_same hl hS (fun x u v => e x (by omega) v) b, m⟩
theorem uD_same {cd cd' : Nat → Int32} : ∀ {g i i' : Nat} {M : List Sp3}, (∀ x, i ≤ x → x < i' → cd' x = cd x) → uD cd g i i' M → uD cd' g i i' M
  | 0, _, _, _, e, s => uB_same e s
  | g + 1, i, i', M, e, s => by
    rcases s with s | ⟨a, f, j, A, q, b, c, x, m⟩
    · exact Or.inl (uB_same e s)
    · have l := sqU_le (fun _ _ _ t => uD_lt t) q
      have e1 := e (j + 1) (by omega) (by omega)
      refine Or.inr ⟨by rw [e i (by omega) (by omega)]; exact a, f, j, A, ?_, by rw [e j (by omega) (by omega)]; exact b, by rw [e1]; exact c, x, by rw [e1]; exact m⟩
      exact sqU_same (cd := cd) (cd' := cd') (fun _ _ _ t => uD_lt t) (fun _ _ _ e' s' => uD_same (g := g) e' s') (fun x u v => e x (by omega) (by omega)) q
theorem sqUD_same {cd cd' : Nat → Int32} {g f i j : Nat} {M : List Sp3} (e : ∀ x, i ≤ x → x < j → cd' x = cd x) (q : sqU (uD cd g) f i j M) : sqU (uD cd' g) f i j M :=
  sqU_same (cd := cd) (cd' := cd') (fun _ _ _ t => uD_lt t) (fun _ _ _ e' s' => uD_same e' s') e q
theorem sqU_snoc {S : Nat → Nat → List Sp3 → Prop} : ∀ {f i j k : Nat} {M N : List Sp3}, sqU S f i j M → S j k N → sqU S (f + 1) i k (M ++ N)
  | 0, i, j, k, M, N, h, s => by
    obtain ⟨h, m⟩ := h
    subst h
    exact ⟨k, N, [], s, ⟨rfl, rfl⟩, by rw [m, List.nil_append, List.append_nil]⟩
  | f + 1, i, j, k, M, N, h, s => by
    obtain ⟨i', A, B, a, b, m⟩ := h
    exact ⟨i', A, B ++ N, a, sqU_snoc b s, by rw [m, List.append_assoc]⟩
theorem uD.b {cd : Nat → Int32} {g i i' : Nat} {M : List Sp3} (s : uB cd i i' M) : uD cd g i i' M := by
  cases g with
  | zero => exact s
  | succ g => exact Or.inl s
/-- what a step's numbers may be -/
def stR (x : Sp3) : Prop := (x.1 = 0 ∧ 0 ≤ x.2.1.toInt ∧ x.2.1.toInt ≤ 15 ∧ x.2.2 = 0) ∨ (x.1 = 1 ∧ 1 ≤ x.2.1.toInt ∧ x.2.1.toInt ≤ 240 ∧ x.2.2 = 0) ∨ (x.1 = 2 ∧ 0 ≤ x.2.1.toInt ∧ x.2.1.toInt ≤ 15 ∧ 0 ≤ x.2.2.toInt ∧ x.2.2.toInt ≤ 1440) ∨ (x.1 = 3 ∧ x.2.1 = 0 ∧ x.2.2 = 0)
theorem uB_r {cd : Nat → Int32} {i i' : Nat} {M : List Sp3} (s : uB cd i i' M) : ∀ x ∈ M, stR x := by
  rcases s with ⟨_, b, _, m⟩ | ⟨_, b, _, m⟩ | ⟨_, b, b', _, m⟩ | ⟨_, _, m⟩ <;> subst m <;> intro x hx <;> rw [List.mem_singleton.mp hx]
  · exact Or.inl ⟨rfl, b.1, b.2, rfl⟩
  · exact Or.inr (Or.inl ⟨rfl, b.1, b.2, rfl⟩)
  · exact Or.inr (Or.inr (Or.inl ⟨rfl, b.1, b.2, b'.1, b'.2⟩))
  · exact Or.inr (Or.inr (Or.inr ⟨rfl, rfl, rfl⟩))
theorem rpl_r {L : List Sp3} (h : ∀ x ∈ L, stR x) : ∀ k, ∀ x ∈ rpl k L, stR x
  | 0, x, hx => by cases hx
  | k + 1, x, hx => (List.mem_append.mp hx).elim (h x) (rpl_r h k x)
theorem sqU_r {S : Nat → Nat → List Sp3 → Prop} (hS : ∀ a b M, S a b M → ∀ x ∈ M, stR x) : ∀ {f i j : Nat} {M : List Sp3}, sqU S f i j M → ∀ x ∈ M, stR x
  | 0, _, _, _, h => fun x hx => by rw [h.2] at hx; cases hx
  | f + 1, i, j, M, h => fun x hx => by
    obtain ⟨i', A, B, a, b, e⟩ := h
    rw [e] at hx
    exact (List.mem_append.mp hx).elim (hS _ _ _ a x) (sqU_r hS b x)
theorem uD_r {cd : Nat → Int32} : ∀ {g i i' : Nat} {M : List Sp3}, uD cd g i i' M → ∀ x ∈ M, stR x
  | 0, _, _, _, s => uB_r s
  | g + 1, i, i', M, s => by
    rcases s with s | ⟨_, f, j, A, q, _, _, _, e⟩
    · exact uB_r s
    · rw [e]
      exact rpl_r (sqU_r (fun _ _ _ t => uD_r (g := g) t) q) _
def uS (g : Nat) (M : List Sp3) (cd : Nat → Int32) (i j : Nat) : Prop := ∃ f, sqU (uD cd g) f i j M
def RdU (b : Nat → Int32) (n : Nat) (D : Int) (S : Rcg) (O : Nat → List Sp3) (Q : List Sp3 → (Nat → Int32) → Nat → Nat → Prop) (C : Nat → Hp_ → (Hp_ → Prop) → Prop) : Prop := ∀ (d : Nat) (h : Hp_), Iv h → Pr h → pd h = D → Tp b n h → C d h (fun h' => Ptt (Q (O (ta h))) h h' ∧ Ft b n (S (ta h)) h')
theorem nm0_n {b : Nat → Int32} {n a : Nat} {lo hi : Int32} (h : (nm0 b n a).1 = false) : nmg b n lo hi a = nm0 b n a := by
  unfold nmg nmr nm0 at *
  by_cases c : dgb (skv b n a) = true
  · rw [if_pos c] at h ⊢
    rw [if_pos c]
    by_cases d : (nml b n 4 0 (ska b n a)).1 = true
    · rw [if_pos d] at h
      cases h
    · rw [if_neg d, if_neg d]
  · rw [if_neg c, if_neg c]
theorem nm0_y {b : Nat → Int32} {n a p : Nat} {lo hi r : Int32} (c : dgb (skv b n a) = true) (e : nml b n 4 0 (ska b n a) = (true, p, r)) : nmr b n lo hi a = if lo ≤ r ∧ r ≤ hi then (true, ska b n p, r) else (false, p - 1, -1) := by
  unfold nmr
  rw [if_pos c, e, if_pos rfl]
theorem c_withinf (d : Nat) {b : Nat → Int32} {n : Nat} {h : Hp_} (I : Iv h) (t : Tp b n h) (w : h_i h 1 34 = -1) (l : pa h ≤ pz h) (x1 x2 : Int32) : Ci (m_X12_within (d + 2) 0 0) [.ref 1, .int x1, .int x2] h (fun r h' => Wi h x1 x2 r h' ∧ Ft b n (nmg b n x1 x2 (ta h)) h' ∧ (h_i h' 1 34 = -1 → r = nmw b n x1 x2 (ta h))) := by
  have p0 : 0 ≤ (h_i h 1 33).toInt := (pa_in I).1
  have t1 : (1 : Int32).toInt = 1 := rfl
  refine t_X12_within d h I.1 x1 x2 _ (Ci.mono (c_numberf d I t w l) (fun r h2 NN => ?_))
  obtain ⟨N, NF, NV⟩ := NN
  have I2 := N.1
  refine ⟨I2.1, fun n0 => ⟨⟨N, fun y => absurd y n0⟩, ?_, fun y => absurd y n0⟩, fun e => ?_⟩
  · rw [nm0_n (NF.no n0).1]
    exact NF
  · have v := NV e
    have g : (h_i h 1 33).toInt < (h_i h2 1 33).toInt := N.2.2.2.2 e
    have ey := nm0_y (lo := x1) (hi := x2) v.1 v.2
    refine ⟨fun bd => ?_, fun bd => ?_⟩
    · rw [if_pos bd] at ey
      refine ⟨⟨N, fun _ => bd⟩, Or.inl ⟨e, ?_, ?_⟩, fun _ => ?_⟩
      · show (nmr b n x1 x2 (ta h)).1 = true
        rw [ey]
      · show _ = (nmr b n x1 x2 (ta h)).2.1
        rw [ey]
      · show _ = (nmr b n x1 x2 (ta h)).2.2
        rw [ey]
    · rw [if_neg bd] at ey
      have u : (h_i h2 1 33).toInt ≤ 180 := (pa_in I2).2
      have em : (h_i h2 1 33 - 1).toInt = (h_i h2 1 33).toInt - 1 := by rw [tx_sub (by rw [t1]; omega) (by rw [t1]; omega), t1]
      have ne : ¬ h_i (h_im h2 1 34 (h_i h2 1 33 - 1)) 1 34 = -1 := by
        rw [im_at]
        intro y
        have y := congrArg Int32.toInt y
        rw [em, show (-1 : Int32).toInt = -1 from rfl] at y
        omega
      refine ⟨⟨⟨i34 I2 _, N.2.1.im (by decide +kernel), ?_, ?_, fun y => absurd y ne⟩, fun y => absurd y ne⟩, Or.inr ⟨ne, ?_, ?_⟩, fun y => absurd y ne⟩
      · show (h_i h 1 33).toInt ≤ (h_i (h_im h2 1 34 _) 1 33).toInt
        rw [f_ne (by decide)]; exact N.2.2.1
      · show (h_i (h_im h2 1 34 _) 1 33).toInt ≤ (h_i h 1 32).toInt
        rw [f_ne (by decide)]; exact N.2.2.2.1
      · show (nmr b n x1 x2 (ta h)).1 = false
        rw [ey]
      · show _ = Int32.ofNat (nmr b n x1 x2 (ta h)).2.1
        rw [ey, im_at]
        refine Int32.toInt_inj.mp ?_
        have ai : (ta h2 : Int) = (h_i h2 1 33).toInt := ta_i I2
        rw [em, on_j (by show ta h2 - 1 ≤ _; omega)]
        show _ = ((ta h2 - 1 : Nat) : Int)
        omega
theorem st_badf {b : Nat → Int32} {n : Nat} {Q : (Nat → Int32) → Nat → Nat → Prop} (d : Nat) {h h1 : Hp_} {r : Int32} (I : Iv h) (q : Pr h) (LL : Lkf b n h r h1) {T : Bool × Nat} (eT : T = (false, ska b n (ta h))) : Cv (m_X12_bad (d + 0) 0 0) [.ref 1] h1 (fun h9 => Wf h9 ∧ (Ptt Q h h9 ∧ Ft b n T h9)) := by
  obtain ⟨q1, q2, q3, q4⟩ := q
  have L := LL.1
  refine Cv.mono (c_badf d L.1 (by rw [f34 L.2.1 (by decide +kernel)]; exact q1)) (fun h9 k => ⟨k.1.1, ?_, Or.inr ⟨k.2.2.1, by rw [eT], by rw [eT, k.2.2.2, LL.2.1]⟩⟩)
  obtain ⟨k1, k2, k3, _⟩ := k
  have e33 := f33 k2 (by decide +kernel)
  have e35 := f35 k2 (by decide +kernel)
  have e35' := f35 L.2.1 (by decide +kernel)
  have l3 := L.2.2.1
  have l4 := L.2.2.2.1
  refine Ptt.of I (((Sy.rf I).mv L.1 (L.2.1.more (by decide +kernel))).mv k1 (k2.more (by decide +kernel))) (by omega) (by omega) (fun w => absurd w k3) (fun _ => ⟨by omega, ?_⟩)
  show (0 : Int) ≤ _
  omega
theorem Ft.sa {b : Nat → Int32} {n : Nat} {T : Bool × Nat} {h h' : Hp_} {x : Int32} (F : Ft b n T h) (S : Sa h x h') : Ft b n T h' := F.fr S.2.1 (by decide +kernel)
theorem ta_sa {h h' : Hp_} {x : Int32} (S : Sa h x h') : ta h' = ta h := by
  show (h_i h' 1 33).toNatClampNeg = _
  rw [(S.2.1.2 1 33 (by decide +kernel)).1]
theorem st_gwf {b : Nat → Int32} {n : Nat} {Q : (Nat → Int32) → Nat → Nat → Prop} (d : Nat) {h h1 : Hp_} {r : Int32} (I : Iv h) (t : Tp b n h) (q : Pr h) (LL : Lkf b n h r h1) (l : pa h1 < pz h) (c x1 x2 : Int32) (hq : ∀ (cd : Nat → Int32) (i : Nat), cd i = c → cd (i + 1) = nmw b n x1 x2 (ska b n (ta h) + 1) → x1 ≤ cd (i + 1) → cd (i + 1) ≤ x2 → Q cd i (i + 2)) {T : Bool × Nat} (eT : T = nmg b n x1 x2 (ska b n (ta h) + 1)) : Cv (m_X12_say (d + 0) 0 0) [.ref 1, .int c] (h_im h1 1 33 ((h_i h1 1 33) + 1)) (fun h3 => Wf h3 ∧ Ci (m_X12_within (d + 2) 0 0) [.ref 1, .int x1, .int x2] h3 (fun r4 h4 => Wf h4 ∧ Cv (m_X12_say (d + 0) 0 0) [.ref 1, .int r4] h4 (fun h5 => Wf h5 ∧ (Ptt Q h h5 ∧ Ft b n T h5)))) := by
  obtain ⟨q1, q2, q3, q4⟩ := q
  have L := LL.1
  obtain ⟨I2, F2, a2⟩ := nx1 I L l
  have na := nxa LL I2 a2
  have z1 : pz h ≤ 160 := (pz_in I).2
  have l3 := L.2.2.1
  generalize h_im h1 1 33 ((h_i h1 1 33) + 1) = h2 at I2 F2 a2 na ⊢
  have p2 := f36 F2 (by decide +kernel)
  have w2 := f34 F2 (by decide +kernel)
  have d2 := f35 F2 (by decide +kernel)
  have z2 := zf F2 (by decide +kernel)
  refine Cv.mono (c_say d I2 c (by show ps h2 ≤ 558; omega)) (fun h3 S => ⟨S.1.1, ?_⟩)
  obtain ⟨s1, s2, s3, s4, s5⟩ := Sa.q (h := h2) (x := c) (h' := h3) S
  have t3 : Tp b n h3 := (t.fr F2 (by decide +kernel)).fr S.2.1 (by decide +kernel)
  refine Ci.mono (c_withinf d S.1 t3 (by rw [s2, w2]; exact q1) (by omega) x1 x2) (fun r4 h4 W => ⟨W.1.1.1.1, ?_⟩)
  obtain ⟨⟨N, wr⟩, WF, WV⟩ := W
  rw [ta_sa S, na] at WF WV
  obtain ⟨n1, n2, n3, n4, n5⟩ := N
  have p4 := f36 n2 (by decide +kernel)
  have d4 := f35 n2 (by decide +kernel)
  refine Cv.mono (c_say d n1 r4 (by show ps h4 ≤ 558; omega)) (fun h5 T => ⟨T.1.1, ?_, by rw [eT]; exact WF.sa T⟩)
  obtain ⟨t1, t2, t3, t4, t5⟩ := Sa.q (h := h4) (x := r4) (h' := h5) T
  have Y : Sy h [c, r4] h5 := ((((Sy.rf I).mv I2 (F2.more (by decide +kernel))).say I S).mv n1 (n2.more (by decide +kernel))).say I T
  refine Ptt.of I Y (by omega) (by omega) (fun w => ?_) (fun w => ?_)
  · rw [t2] at w
    have g := n5 w
    obtain ⟨b1, b2⟩ := wr w
    have e0 := Y.2.2.2.2 0 c rfl
    have e1 : h_i h5 226 (sN h + 1) = r4 := Y.2.2.2.2 1 r4 rfl
    refine ⟨by omega, ?_, Nat.zero_lt_succ _, hq _ _ e0 (e1.trans (WV w)) (by rw [e1]; exact b1) (by rw [e1]; exact b2)⟩
    show pa h + (2 : Int) ≤ _
    omega
  · refine ⟨by omega, ?_⟩
    show (2 : Int) ≤ _
    omega
theorem st_pf {b : Nat → Int32} {n g : Nat} (d : Nat) {h h1 : Hp_} {r : Int32} (I : Iv h) (t : Tp b n h) (q : Pr h) (LL : Lkf b n h r h1) (l : pa h1 < pz h) {T : Bool × Nat} (eT : T = sqr (nmg b n 0 15) (nmg b n 0 1440) (ska b n (ta h) + 1)) {M : List Sp3} (eM : M = [(2, nmw b n 0 15 (ska b n (ta h) + 1), nmw b n 0 1440 (nmg b n 0 15 (ska b n (ta h) + 1)).2)]) : Cv (m_X12_say (d + 0) 0 0) [.ref 1, .int 2] (h_im h1 1 33 ((h_i h1 1 33) + 1)) (fun h3 => Wf h3 ∧ Ci (m_X12_within (d + 2) 0 0) [.ref 1, .int 0, .int 15] h3 (fun r4 h4 => Wf h4 ∧ Cv (m_X12_say (d + 0) 0 0) [.ref 1, .int r4] h4 (fun h5 => Wf h5 ∧ ((¬ (h_i h5 1 34) = (-1) → (Ptt (fun cd i j => uD cd g i j M) h h5 ∧ Ft b n T h5)) ∧ ((h_i h5 1 34) = (-1) → Ci (m_X12_within (d + 2) 0 0) [.ref 1, .int 0, .int 1440] h5 (fun r6 h6 => Wf h6 ∧ Cv (m_X12_say (d + 0) 0 0) [.ref 1, .int r6] h6 (fun h7 => Wf h7 ∧ (Ptt (fun cd i j => uD cd g i j M) h h7 ∧ Ft b n T h7)))))))) := by
  obtain ⟨q1, q2, q3, q4⟩ := q
  have L := LL.1
  obtain ⟨I2, F2, a2⟩ := nx1 I L l
  have na := nxa LL I2 a2
  have z1 : pz h ≤ 160 := (pz_in I).2
  have l3 := L.2.2.1
  generalize h_im h1 1 33 ((h_i h1 1 33) + 1) = h2 at I2 F2 a2 na ⊢
  have p2 := f36 F2 (by decide +kernel)
  have w2 := f34 F2 (by decide +kernel)
  have d2 := f35 F2 (by decide +kernel)
  have z2 := zf F2 (by decide +kernel)
  refine Cv.mono (c_say d I2 2 (by show ps h2 ≤ 558; omega)) (fun h3 S => ⟨S.1.1, ?_⟩)
  obtain ⟨s1, s2, s3, s4, s5⟩ := Sa.q (h := h2) (x := 2) (h' := h3) S
  have t3 : Tp b n h3 := (t.fr F2 (by decide +kernel)).fr S.2.1 (by decide +kernel)
  refine Ci.mono (c_withinf d S.1 t3 (by rw [s2, w2]; exact q1) (by omega) 0 15) (fun r4 h4 W => ⟨W.1.1.1.1, ?_⟩)
  obtain ⟨⟨N, wr⟩, WF, WV⟩ := W
  rw [ta_sa S, na] at WF WV
  obtain ⟨n1, n2, n3, n4, n5⟩ := N
  have p4 := f36 n2 (by decide +kernel)
  have d4 := f35 n2 (by decide +kernel)
  have z4 := zf n2 (by decide +kernel)
  refine Cv.mono (c_say d n1 r4 (by show ps h4 ≤ 558; omega)) (fun h5 T0 => ⟨T0.1.1, fun w => ?_, fun w => ?_⟩)
  · obtain ⟨t1, t2, t3, t4, t5⟩ := Sa.q (h := h4) (x := r4) (h' := h5) T0
    have Y : Sy h [2, r4] h5 := ((((Sy.rf I).mv I2 (F2.more (by decide +kernel))).say I S).mv n1 (n2.more (by decide +kernel))).say I T0
    have F5 := WF.sa T0
    have k5 := F5.no w
    have e5 : T = nmg b n 0 15 (ska b n (ta h) + 1) := by
      rw [eT]
      unfold sqr
      exact if_neg (by rw [k5.1]; decide)
    refine ⟨Ptt.of I Y (by omega) (by omega) (fun y => absurd y w) (fun _ => ⟨by omega, ?_⟩), by rw [e5]; exact F5⟩
    show (2 : Int) ≤ _
    omega
  · obtain ⟨t1, t2, t3', t4, t5⟩ := Sa.q (h := h4) (x := r4) (h' := h5) T0
    have Y : Sy h [2, r4] h5 := ((((Sy.rf I).mv I2 (F2.more (by decide +kernel))).say I S).mv n1 (n2.more (by decide +kernel))).say I T0
    have w4 : h_i h4 1 34 = -1 := by rw [← t2]; exact w
    have g4 := n5 w4
    obtain ⟨b1, b2⟩ := wr w4
    have F5 := WF.sa T0
    have k5 := F5.ok w
    have v5 := WV w4
    have tp5 : Tp b n h5 := (t3.fr n2 (by decide +kernel)).fr T0.2.1 (by decide +kernel)
    refine Ci.mono (c_withinf d T0.1 tp5 w (by omega) 0 1440) (fun r6 h6 W => ⟨W.1.1.1.1, ?_⟩)
    obtain ⟨⟨N', wr'⟩, WF', WV'⟩ := W
    have eT' : T = nmg b n 0 1440 (ta h5) := by
      rw [eT]
      unfold sqr
      rw [if_pos k5.1, ← k5.2, nmg_c]
    have eM' : M = [(2, r4, nmw b n 0 1440 (ta h5))] := by
      rw [eM, ← k5.2, nmw_c, v5]
    obtain ⟨m1, m2, m3, m4, m5⟩ := N'
    have p6 := f36 m2 (by decide +kernel)
    have d6 := f35 m2 (by decide +kernel)
    refine Cv.mono (c_say d m1 r6 (by show ps h6 ≤ 558; omega)) (fun h7 U => ⟨U.1.1, ?_, by rw [eT']; exact WF'.sa U⟩)
    obtain ⟨u1, u2, u3, u4, u5⟩ := Sa.q (h := h6) (x := r6) (h' := h7) U
    have X : Sy h [2, r4, r6] h7 := (Y.mv m1 (m2.more (by decide +kernel))).say I U
    refine Ptt.of I X (by omega) (by omega) (fun v => ?_) (fun v => ?_)
    · rw [u2] at v
      have g6 := m5 v
      obtain ⟨b3, b4⟩ := wr' v
      have e0 := X.2.2.2.2 0 2 rfl
      have e1 : h_i h7 226 (sN h + 1) = r4 := X.2.2.2.2 1 r4 rfl
      have e2 : h_i h7 226 (sN h + 2) = r6 := X.2.2.2.2 2 r6 rfl
      refine ⟨by omega, ?_, Nat.zero_lt_succ _, uD.b (Or.inr (Or.inr (Or.inl ⟨e0, ?_, ?_, rfl, ?_⟩)))⟩
      · show pa h + (3 : Int) ≤ _
        omega
      · rw [e1]; exact ⟨q_le.mp b1, q_le.mp b2⟩
      · rw [e2]; exact ⟨q_le.mp b3, q_le.mp b4⟩
      · rw [e1, e2, eM', WV' v]
    · refine ⟨by omega, ?_⟩
      show (3 : Int) ≤ _
      omega
theorem st_lf {b : Nat → Int32} {n g : Nat} (d : Nat) {h h1 : Hp_} {r : Int32} (I : Iv h) (q : Pr h) (LL : Lkf b n h r h1) (l : pa h1 < pz h) {T : Bool × Nat} (eT : T = (true, ska b n (ska b n (ta h) + 1))) : Cv (m_X12_say (d + 0) 0 0) [.ref 1, .int 3] (h_im h1 1 33 ((h_i h1 1 33) + 1)) (fun h3 => Wf h3 ∧ (Ptt (fun cd i j => uD cd g i j [(3, 0, 0)]) h h3 ∧ Ft b n T h3)) := by
  obtain ⟨q1, q2, q3, q4⟩ := q
  have L := LL.1
  obtain ⟨I2, F2, a2⟩ := nx1 I L l
  have na := nxa LL I2 a2
  have z1 : pz h ≤ 160 := (pz_in I).2
  have l3 := L.2.2.1
  generalize h_im h1 1 33 ((h_i h1 1 33) + 1) = h2 at I2 F2 a2 na ⊢
  have p2 := f36 F2 (by decide +kernel)
  have w2 := f34 F2 (by decide +kernel)
  have d2 := f35 F2 (by decide +kernel)
  refine Cv.mono (c_say d I2 3 (by show ps h2 ≤ 558; omega)) (fun h3 S => ⟨S.1.1, ?_, ?_⟩)
  · obtain ⟨s1, s2, s3, s4, s5⟩ := Sa.q (h := h2) (x := 3) (h' := h3) S
    have Y : Sy h [3] h3 := ((Sy.rf I).mv I2 (F2.more (by decide +kernel))).say I S
    refine Ptt.of I Y (by omega) (by omega) (fun w => ?_) (fun w => absurd (by rw [s2, w2]; exact q1) w)
    refine ⟨by omega, ?_, Nat.zero_lt_succ _, uD.b (Or.inr (Or.inr (Or.inr ⟨Y.2.2.2.2 0 3 rfl, rfl, rfl⟩)))⟩
    show pa h + (1 : Int) ≤ _
    omega
  · rw [eT]
    exact Ft.sa (h := h2) (x := 3) (Or.inl ⟨by rw [w2]; exact q1, rfl, by rw [na]⟩) S
/-! the reference's steps within brackets, one behind the other, at every depth -/
abbrev Kf (b : Nat → Int32) (n g : Nat) (M : List Sp3) (T : Bool × Nat) (h h' : Hp_) : Prop := Ptt (fun cd i j => uD cd (g + 1) i j M) h h' ∧ Ft b n T h'
theorem st_nf {b : Nat → Int32} {n g : Nat} (d e : Nat) (f : Rcg) (o : Nat → List Sp3) (B : RdU b n (4 - (g : Int)) f o (uS g) (fun d h K => Cv (m_X12_stepsRead (d + e + 52) 0 0) [.ref 1] h K)) {h h1 : Hp_} {r : Int32} (I : Iv h) (t : Tp b n h) (q : Pr h) (eD : pd h = 4 - ((g + 1 : Nat) : Int)) (LL : Lkf b n h r h1) (l : pa h1 < pz h) {T : Bool × Nat} (eT : T = sqr f (sqr (exr b n 41) (nmg b n 1 20)) (ska b n (ta h) + 1)) {M : List Sp3} (eM : M = rpl (nmw b n 1 20 (exr b n 41 (f (ska b n (ta h) + 1)).2).2).toNatClampNeg (o (ska b n (ta h) + 1))) :
    Cv (m_X12_say (d + e + 0) 0 0) [.ref 1, .int 4] (h_im (h_im h1 1 35 ((h_i h1 1 35) + 1)) 1 33 ((h_i h1 1 33) + 1)) (fun h16 => Wf h16 ∧ (Cv (m_X12_stepsRead (d + e + 52) 0 0) [.ref 1] h16 (fun h19 => Wf h19 ∧ ((¬ (h_i h19 1 34) = (-1) → (¬ (h_i h19 1 34) = (-1) → Kf b n g M T h (h_im (h_im h19 1 33 ((h_i h19 1 33) + 1)) 1 35 ((h_i h19 1 35) - 1))) ∧ ((h_i h19 1 34) = (-1) → Cv (m_X12_say (d + e + 0) 0 0) [.ref 1, .int 5] (h_im (h_im h19 1 33 ((h_i h19 1 33) + 1)) 1 35 ((h_i h19 1 35) - 1)) (fun h24 => Wf h24 ∧ (Ci (m_X12_within (d + e + 2) 0 0) [.ref 1, .int 1, .int 20] h24 (fun r29 h27 => Wf h27 ∧ (Cv (m_X12_say (d + e + 0) 0 0) [.ref 1, .int r29] h27 (fun h30 => Wf h30 ∧ (Kf b n g M T h h30)))))))) ∧ ((h_i h19 1 34) = (-1) → Ci (m_X12_look (d + e + 0) 0 0) [.ref 1] h19 (fun r35 h33 => Wf h33 ∧ ((r35 = 41 → (¬ (h_i h33 1 34) = (-1) → Kf b n g M T h (h_im (h_im h33 1 33 ((h_i h33 1 33) + 1)) 1 35 ((h_i h33 1 35) - 1))) ∧ ((h_i h33 1 34) = (-1) → Cv (m_X12_say (d + e + 0) 0 0) [.ref 1, .int 5] (h_im (h_im h33 1 33 ((h_i h33 1 33) + 1)) 1 35 ((h_i h33 1 35) - 1)) (fun h38 => Wf h38 ∧ (Ci (m_X12_within (d + e + 2) 0 0) [.ref 1, .int 1, .int 20] h38 (fun r43 h41 => Wf h41 ∧ (Cv (m_X12_say (d + e + 0) 0 0) [.ref 1, .int r43] h41 (fun h44 => Wf h44 ∧ (Kf b n g M T h h44)))))))) ∧ (¬ r35 = 41 → Cv (m_X12_bad (d + e + 0) 0 0) [.ref 1] h33 (fun h47 => Wf h47 ∧ ((¬ (h_i h47 1 34) = (-1) → Kf b n g M T h (h_im (h_im h47 1 33 ((h_i h47 1 33) + 1)) 1 35 ((h_i h47 1 35) - 1))) ∧ ((h_i h47 1 34) = (-1) → Cv (m_X12_say (d + e + 0) 0 0) [.ref 1, .int 5] (h_im (h_im h47 1 33 ((h_i h47 1 33) + 1)) 1 35 ((h_i h47 1 35) - 1)) (fun h51 => Wf h51 ∧ (Ci (m_X12_within (d + e + 2) 0 0) [.ref 1, .int 1, .int 20] h51 (fun r56 h54 => Wf h54 ∧ (Cv (m_X12_say (d + e + 0) 0 0) [.ref 1, .int r56] h54 (fun h57 => Wf h57 ∧ (Kf b n g M T h h57))))))))))))))))) := by
  obtain ⟨q1, q2, q3, q4⟩ := q
  have L := LL.1
  have z1 : pz h ≤ 160 := (pz_in I).2
  have l3 := L.2.2.1
  have d0 : 0 ≤ pd h := (dp_in7 I).1
  have o1 : (1 : Int32).toInt = 1 := rfl
  have ed1 := f35 L.2.1 (by decide +kernel)
  have a0' : 0 ≤ (h_i h1 1 33).toInt := (pa_in L.1).1
  have l' : (h_i h1 1 33).toInt < pz h := l
  have d1' : (h_i h1 1 35).toInt = pd h := ed1
  have e33 : (h_i h1 1 33 + 1).toInt = (h_i h1 1 33).toInt + 1 := by rw [tx_add (by rw [o1]; omega) (by rw [o1]; omega), o1]
  have e35 : (h_i h1 1 35 + 1).toInt = (h_i h1 1 35).toInt + 1 := by rw [tx_add (by rw [o1]; omega) (by rw [o1]; omega), o1]
  have I2 : Iv (h_im (h_im h1 1 35 ((h_i h1 1 35) + 1)) 1 33 ((h_i h1 1 33) + 1)) := i33 (i35 L.1 ⟨by rw [e35]; show (0 : Int) ≤ _; omega, by rw [e35]; show _ ≤ (7 : Int); omega⟩) ⟨by rw [e33]; show (0 : Int) ≤ _; omega, by rw [e33]; show _ ≤ (180 : Int); omega⟩
  have F2 : Fr [1033, 1034, 1035] h (h_im (h_im h1 1 35 ((h_i h1 1 35) + 1)) 1 33 ((h_i h1 1 33) + 1)) := ((L.2.1.more (by decide +kernel)).im (by decide +kernel)).im (by decide +kernel)
  have a2 : pa (h_im (h_im h1 1 35 ((h_i h1 1 35) + 1)) 1 33 ((h_i h1 1 33) + 1)) = pa h1 + 1 := by
    show (h_i (h_im _ 1 33 _) 1 33).toInt = _
    rw [im_at]; exact e33
  have na := nxa LL I2 a2
  have d2 : pd (h_im (h_im h1 1 35 ((h_i h1 1 35) + 1)) 1 33 ((h_i h1 1 33) + 1)) = pd h + 1 := by
    show (h_i (h_im _ 1 33 _) 1 35).toInt = _
    rw [f_ne (by decide), im_at, e35, d1']
  have w2 : h_i (h_im (h_im h1 1 35 ((h_i h1 1 35) + 1)) 1 33 ((h_i h1 1 33) + 1)) 1 34 = -1 := by rw [f_ne (by decide), f_ne (by decide), f34 L.2.1 (by decide +kernel)]; exact q1
  generalize h_im (h_im h1 1 35 ((h_i h1 1 35) + 1)) 1 33 ((h_i h1 1 33) + 1) = h2 at I2 F2 a2 d2 w2 na ⊢
  have p2 := f36 F2 (by decide +kernel)
  have z2 := zf F2 (by decide +kernel)
  refine Cv.mono (c_say (d + e) I2 4 (by show ps h2 ≤ 558; omega)) (fun h3 S => ⟨S.1.1, ?_⟩)
  obtain ⟨s1, s2, s3, s4, s5⟩ := Sa.q (h := h2) (x := 4) (h' := h3) S
  have Y : Sy h [4] h3 := ((Sy.rf I).mv I2 F2).say I S
  have t3 : Tp b n h3 := t.fr Y.2.1 (by decide +kernel)
  have na3 : ta h3 = ska b n (ta h) + 1 := (ta_sa S).trans na
  have n0 := sN_i I
  have n3 := sN_i Y.1
  have m3 : sN h3 = sN h + 1 := by omega
  refine Cv.mono (B d h3 Y.1 ⟨by rw [s2]; exact w2, by omega, by omega, by omega⟩ (by omega) t3) (fun h4 PP => ?_)
  obtain ⟨P, PF⟩ := PP
  refine ⟨P.1.1, ?_⟩
  rw [na3] at PF P
  generalize hA : o (ska b n (ta h) + 1) = A at P eM
  have t4 : Tp b n h4 := t3.fr P.2.1 (by decide +kernel)
  obtain ⟨p1, p2', p3, p4, p5, p6, p7, p8⟩ := P
  have z4 := zf p2' (by decide +kernel)
  have n4 := sN_i p1
  have c4 : ∀ k, k < sN h → h_i h4 226 k = h_i h 226 k := fun k hk => by rw [p5 k (by omega)]; exact Y.2.2.1 k hk
  have no : ∀ h5 : Hp_, Iv h5 → Fr [1033, 1034, 1035] h4 h5 → pd h5 = pd h4 → ¬ h_i h5 1 34 = -1 → pa h4 ≤ pa h5 → pa h5 + pd h + 1 ≤ pz h + 5 → ps h4 ≤ ps h + (pa h5 - pa h) + 2 → Ft b n T h5 → Kf b n g M T h (h_im (h_im h5 1 33 ((h_i h5 1 33) + 1)) 1 35 ((h_i h5 1 35) - 1)) := by
    intro h5 i5 f5 e5 w5 a5 b5 c5 FT
    obtain ⟨k1, k2, k3, k4, k5⟩ := cl1 i5 (by omega) (by omega)
    generalize h_im (h_im h5 1 33 ((h_i h5 1 33) + 1)) 1 35 ((h_i h5 1 35) - 1) = h6 at k1 k2 k3 k4 k5 ⊢
    have g5 := f36 f5 (by decide +kernel)
    have g6 := f36 k2 (by decide +kernel)
    refine ⟨⟨k1, (Y.2.1.tr p2').tr ((f5.tr k2).more (by decide +kernel)), by omega, by omega, fun k hk => ?_, by omega, fun w => absurd (k5 ▸ w) w5, fun _ => ⟨by omega, by omega⟩⟩, Or.inr ⟨by rw [k5]; exact w5, (FT.no w5).1, by rw [k5]; exact (FT.no w5).2⟩⟩
    rw [fr_i k2 (a := 226) (by decide +kernel), fr_i f5 (a := 226) (by decide +kernel)]
    exact c4 k hk
  refine ⟨fun w => ⟨fun _ => ?_, fun y => absurd y w⟩, fun w => ?_⟩
  · obtain ⟨t1, t2⟩ := p8 w
    have k4 := PF.no w
    have e4 : T = f (ska b n (ta h) + 1) := by
      rw [eT]
      unfold sqr
      exact if_neg (by rw [k4.1]; decide)
    exact no h4 p1 (Fr.rf _ _) rfl w (Int.le_refl _) (by omega) (by omega) (by rw [e4]; exact PF)
  · obtain ⟨t1, t2, t3', t4'⟩ := p7 w
    have k4 := PF.ok w
    have e4 : T = sqr (exr b n 41) (nmg b n 1 20) (ska b n (ta h4)) := by
      rw [eT]
      show (if (f (ska b n (ta h) + 1)).1 = true then sqr (exr b n 41) (nmg b n 1 20) (f (ska b n (ta h) + 1)).2 else f (ska b n (ta h) + 1)) = _
      rw [if_pos k4.1, ← k4.2]
    have m4 : M = rpl (nmw b n 1 20 (exr b n 41 (ska b n (ta h4))).2).toNatClampNeg A := by
      rw [eM, ← k4.2]
    refine Ci.mono (c_lookf (d + e) p1 t4) (fun r5 h5 LL5 => ⟨LL5.1.1.1, fun er => ⟨fun y => ?_, fun w5 => ?_⟩, fun nr => ?_⟩)
    · exact absurd (by rw [f34 LL5.1.2.1 (by decide +kernel)]; exact w) y
    · have L5 := LL5.1
      have l5 : pa h5 < pz h := by
        rcases L5.fwd (z := pz h) (by omega) with u | u
        · rw [er] at u; exact absurd u (by decide)
        · exact u
      have l53 := L5.2.2.1
      have e5 := f35 L5.2.1 (by decide +kernel)
      obtain ⟨k1, k2, k3, k4', k5⟩ := cl1 L5.1 (by omega) (by omega)
      have na6 := nxa LL5 k1 k3
      generalize h_im (h_im h5 1 33 ((h_i h5 1 33) + 1)) 1 35 ((h_i h5 1 35) - 1) = h6 at k1 k2 k3 k4' k5 na6 ⊢
      have ex41 : exr b n 41 (ska b n (ta h4)) = (true, ska b n (ska b n (ta h4) + 1)) := by
        unfold exr
        rw [skv_i, ska_i, if_pos (by rw [← LL5.2.2]; exact er)]
      have e6 : T = nmg b n 1 20 (ska b n (ta h4) + 1) := by
        rw [e4]
        show (if (exr b n 41 (ska b n (ta h4))).1 = true then nmg b n 1 20 (exr b n 41 (ska b n (ta h4))).2 else exr b n 41 (ska b n (ta h4))) = _
        rw [ex41, if_pos rfl, nmg_c]
      have m6 : M = rpl (nmw b n 1 20 (ska b n (ta h4) + 1)).toNatClampNeg A := by rw [m4, ex41, nmw_c]
      have g5 := f36 L5.2.1 (by decide +kernel)
      have g6 := f36 k2 (by decide +kernel)
      have z5 := zf L5.2.1 (by decide +kernel)
      have z6 := zf k2 (by decide +kernel)
      refine Cv.mono (c_say (d + e) k1 5 (by show ps h6 ≤ 558; omega)) (fun h7 T7 => ⟨T7.1.1, ?_⟩)
      obtain ⟨u1, u2, u3, u4, u5⟩ := Sa.q (h := h6) (x := 5) (h' := h7) T7
      have t7 : Tp b n h7 := ((t4.fr L5.2.1 (by decide +kernel)).fr k2 (by decide +kernel)).fr T7.2.1 (by decide +kernel)
      refine Ci.mono (c_withinf (d + e) T7.1 t7 (by rw [u2, k5]; exact w5) (by omega) 1 20) (fun r8 h8 W => ⟨W.1.1.1.1, ?_⟩)
      obtain ⟨⟨N, wr⟩, WF, WV⟩ := W
      rw [ta_sa T7, na6] at WF WV
      obtain ⟨o1, o2, o3, o4, o5⟩ := N
      have g8 := f36 o2 (by decide +kernel)
      have e8 := f35 o2 (by decide +kernel)
      refine Cv.mono (c_say (d + e) o1 r8 (by show ps h8 ≤ 558; omega)) (fun h9 U => ⟨U.1.1, ?_, by rw [e6]; exact WF.sa U⟩)
      obtain ⟨v1, v2, v3, v4, v5⟩ := Sa.q (h := h8) (x := r8) (h' := h9) U
      have X : Sy h4 [5, r8] h9 := (((((Sy.rf p1).mv L5.1 (L5.2.1.more (by decide +kernel))).mv k1 k2).say p1 T7).mv o1 (o2.more (by decide +kernel))).say p1 U
      obtain ⟨x1, x2, x3, x4, x5⟩ := X
      have x4' : ps h9 = ps h4 + 2 := x4
      have n9 := sN_i x1
      have m9 : sN h9 = sN h4 + 2 := by omega
      refine ⟨x1, (Y.2.1.tr p2').tr x2, by omega, by omega, fun k hk => ?_, by omega, fun w9 => ?_, fun w9 => ⟨by omega, by omega⟩⟩
      · rw [x3 k (by omega)]; exact c4 k hk
      · rw [v2] at w9
        have g9 := o5 w9
        obtain ⟨b1, b2⟩ := wr w9
        have y5 := x5 0 5 rfl
        have y6 : h_i h9 226 (sN h4 + 1) = r8 := x5 1 r8 rfl
        obtain ⟨ff, t4'⟩ := t4'
        refine ⟨by omega, by omega, by omega, Or.inr ⟨?_, ff, sN h4, A, ?_, y5, ?_, m9, ?_⟩⟩
        · rw [x3 _ (by omega), p5 _ (by omega)]
          exact Y.2.2.2.2 0 4 rfl
        · rw [← m3]
          exact sqUD_same (fun k _ b => x3 k b) t4'
        · rw [y6]
          exact ⟨q_le.mp b1, q_le.mp b2⟩
        · rw [y6, m6, WV w9]
    · have L5 := LL5.1
      have l53 := L5.2.2.1
      have l54 := L5.2.2.2.1
      have ex41 : exr b n 41 (ska b n (ta h4)) = (false, ska b n (ta h4)) := by
        unfold exr
        rw [skv_i, ska_i, if_neg (by rw [← LL5.2.2]; exact nr)]
      have e6 : T = (false, ska b n (ta h4)) := by
        rw [e4]
        show (if (exr b n 41 (ska b n (ta h4))).1 = true then nmg b n 1 20 (exr b n 41 (ska b n (ta h4))).2 else exr b n 41 (ska b n (ta h4))) = _
        rw [ex41, if_neg (show ¬ (false = true) by decide)]
      refine Cv.mono (c_badf (d + e) L5.1 (by rw [f34 L5.2.1 (by decide +kernel)]; exact w)) (fun h6 k => ⟨k.1.1, fun w6 => ?_, fun w6 => absurd w6 k.2.2.1⟩)
      obtain ⟨k1, k2, k3, k5⟩ := k
      have e66 := f33 k2 (by decide +kernel)
      have d6 := f35 k2 (by decide +kernel)
      have d5 := f35 L5.2.1 (by decide +kernel)
      exact no h6 k1 ((L5.2.1.more (by decide +kernel)).tr (k2.more (by decide +kernel))) (by omega) w6 (by omega) (by omega) (by omega) (Or.inr ⟨k3, by rw [e6], by rw [e6, k5, LL5.2.1]⟩)
theorem c_stepReadf {b : Nat → Int32} {n : Nat} (e g : Nat) (hg : g ≤ 4) (z : Bool) (f : Rcg) (o : Nat → List Sp3) (hz : z = true ↔ g = 0) (B : ∀ g', g = g' + 1 → RdU b n (4 - (g' : Int)) f o (uS g') (fun d h K => Cv (m_X12_stepsRead (d + e + 52) 0 0) [.ref 1] h K)) : RdU b n (4 - (g : Int)) (stq b n z f) (sto b n f o) (fun M cd i j => uD cd g i j M) (fun d h K => Cv (m_X12_stepRead (d + e + 61) 0 0) [.ref 1] h K) := by
  intro d h I q eD t
  refine t_X12_stepRead (d + e) h I.1 _ (Ci.mono (c_lookf (d + e) I t) (fun r h1 LL => ?_))
  have L := LL.1
  have ev := LL.2.2
  have fwd : ∀ c : Int32, r = c → ¬ c = -1 → pa h1 < pz h := fun c ec nc => by
    rcases L.fwd rfl with u | u
    · exact absurd (ec.symm.trans u) nc
    · exact u
  refine ⟨L.1.1, fun n1 => ⟨fun n2 => ⟨fun n3 => ⟨fun n4 => ⟨fun n5 => st_badf (d + e) I q LL ?_, fun e40 => ⟨fun d4 => st_badf (d + e) I q LL ?_, fun d4 => ?_⟩⟩, fun e108 => ?_⟩, fun e112 => ?_⟩, fun e119 => ?_⟩, fun e103 => ?_⟩
  · unfold stq
    rw [← ev, if_neg n1, if_neg n2, if_neg n3, if_neg n4, if_neg n5]
  · have d4 := q_le.mp d4
    have ed := f35 L.2.1 (by decide +kernel)
    have d4' : 4 ≤ pd h1 := d4
    unfold stq
    rw [← ev, if_neg n1, if_neg n2, if_neg n3, if_neg n4, if_pos e40, if_pos (hz.mpr (by omega))]
  · have d4 := q_nle d4
    have ed := f35 L.2.1 (by decide +kernel)
    have d4' : pd h1 < 4 := d4
    cases g with
    | zero => exact absurd eD (by omega)
    | succ g =>
      refine st_nf d e f o (B g rfl) I t q eD LL (fwd _ e40 (by decide)) ?_ ?_
      · unfold stq
        rw [← ev, if_neg n1, if_neg n2, if_neg n3, if_neg n4, if_pos e40, if_neg (fun y => absurd (hz.mp y) (by omega))]
      · unfold sto
        rw [← ev, if_neg n1, if_neg n2, if_neg n3, if_neg n4]
  · have eo : sto b n f o (ta h) = [(3, 0, 0)] := by
      unfold sto
      rw [← ev, if_neg n1, if_neg n2, if_neg n3, if_pos e108]
    rw [eo]
    refine st_lf (d + e) I q LL (fwd _ e108 (by decide)) ?_
    unfold stq
    rw [← ev, if_neg n1, if_neg n2, if_neg n3, if_pos e108]
  · refine st_pf (d + e) I t q LL (fwd _ e112 (by decide)) ?_ ?_
    · unfold stq
      rw [← ev, if_neg n1, if_neg n2, if_pos e112]
    · unfold sto
      rw [← ev, if_neg n1, if_neg n2, if_pos e112]
  · have eo : sto b n f o (ta h) = [(1, nmw b n 1 240 (ska b n (ta h) + 1), 0)] := by
      unfold sto
      rw [← ev, if_neg n1, if_pos e119]
    rw [eo]
    refine st_gwf (d + e) I t q LL (fwd _ e119 (by decide)) 1 1 240 (fun cd i a v x y => uD.b (Or.inr (Or.inl ⟨a, ⟨q_le.mp x, q_le.mp y⟩, rfl, by rw [v]⟩))) ?_
    unfold stq
    rw [← ev, if_neg n1, if_pos e119]
  · have eo : sto b n f o (ta h) = [(0, nmw b n 0 15 (ska b n (ta h) + 1), 0)] := by
      unfold sto
      rw [← ev, if_pos e103]
    rw [eo]
    refine st_gwf (d + e) I t q LL (fwd _ e103 (by decide)) 0 0 15 (fun cd i a v x y => uD.b (Or.inl ⟨a, ⟨q_le.mp x, q_le.mp y⟩, rfl, by rw [v]⟩)) ?_
    unfold stq
    rw [← ev, if_pos e103]
/-- one step more behind a sign -/
theorem Ptt.moref {g : Nat} {M N : List Sp3} {h h5 h6 h9 : Hp_} (I : Iv h) (q : Pr h) (P : Ptt (uS g M) h h5) (w : h_i h5 1 34 = -1) (I6 : Iv h6) (F6 : Fr [1033] h5 h6) (a6 : pa h6 = pa h5 + 1) (Q : Ptt (fun cd i j => uD cd g i j N) h6 h9) : Ptt (uS g (M ++ N)) h h9 := by
  obtain ⟨p1, p2, p3, p4, p5, p6, p7, p8⟩ := P
  obtain ⟨q1, q2, q3, q4, q5, q6, q7, q8⟩ := Q
  obtain ⟨t1, t2, t3, f, t4⟩ := p7 w
  have z5 := zf p2 (by decide +kernel)
  have z6 := zf F6 (by decide +kernel)
  have g6 := f36 F6 (by decide +kernel)
  have d6 := f35 F6 (by decide +kernel)
  have n5 := sN_i p1
  have n6 := sN_i I6
  have m6 : sN h6 = sN h5 := by omega
  have n0 := sN_i I
  have c6 : ∀ k, k < sN h5 → h_i h9 226 k = h_i h5 226 k := fun k hk => by rw [q5 k (by omega), fr_i F6 (a := 226) (by decide +kernel)]
  refine ⟨q1, (p2.tr (F6.more (by decide +kernel))).tr q2, by omega, by omega, fun k hk => ?_, by omega, fun w9 => ?_, fun w9 => ?_⟩
  · rw [c6 k (by omega)]; exact p5 k hk
  · obtain ⟨u1, u2, u3, u4⟩ := q7 w9
    refine ⟨by omega, by omega, by omega, f + 1, sqU_snoc (j := sN h5) (sqUD_same (fun k _ b => c6 k b) t4) ?_⟩
    rw [← m6]; exact u4
  · obtain ⟨u1, u2⟩ := q8 w9
    exact ⟨by omega, by omega⟩
theorem Ptt.to {Q Q' : (Nat → Int32) → Nat → Nat → Prop} {h h' : Hp_} (P : Ptt Q h h') (e : h_i h' 1 34 = -1 → ∀ cd i j, Q cd i j → Q' cd i j) : Ptt Q' h h' := ⟨P.1, P.2.1, P.2.2.1, P.2.2.2.1, P.2.2.2.2.1, P.2.2.2.2.2.1, fun w => ⟨(P.2.2.2.2.2.2.1 w).1, (P.2.2.2.2.2.2.1 w).2.1, (P.2.2.2.2.2.2.1 w).2.2.1, e w _ _ _ (P.2.2.2.2.2.2.1 w).2.2.2⟩, P.2.2.2.2.2.2.2⟩
theorem c_stepsReadf {b : Nat → Int32} {n : Nat} (e g : Nat) (f : Rcg) (o : Nat → List Sp3) (A : RdU b n (4 - (g : Int)) f o (fun M cd i j => uD cd g i j M) (fun d h K => Cv (m_X12_stepRead (d + e + 51) 0 0) [.ref 1] h K)) : RdU b n (4 - (g : Int)) (sps b n f) (spo b n f o) (uS g) (fun d h K => Cv (m_X12_stepsRead (d + e + 52) 0 0) [.ref 1] h K) := by
  intro d h I q eD t
  have z1 : pz h ≤ 160 := (pz_in I).2
  have qq := q
  obtain ⟨q1, q2, q3, q4⟩ := qq
  have lp : ∀ (k : Nat) (P0 : List Sp3) (h2 : Hp_), Ptt (uS g P0) h h2 → Sf b n (sps b n f (ta h)) (lpr b n (isq 59) f k) h2 → (h_i h2 1 34 = -1 → spo b n f o (ta h) = P0 ++ lpo b n f o k (ta h2)) → pz h - pa h2 ≤ k → AW (m_X12_stepsRead (d + e + 52) 0 0) 0 0 4 [(0, .ref 1)] [] h2 (kV (fun h' => Ptt (uS g (spo b n f o (ta h))) h h' ∧ Ft b n (sps b n f (ta h)) h')) := by
    intro k
    induction k with
    | zero =>
      intro P0 h2 P F E m
      refine t_X12_stepsRead_4 (d + e) h2 P.1.1 _ ⟨fun w => ⟨P.to (fun y => absurd y w), F.2 w⟩, fun w => Ci.mono (c_lookf (d + e) P.1 (t.fr P.2.1 (by decide +kernel))) (fun r h5 LL => ⟨LL.1.1.1, fun _ => ⟨(P.lk I q LL.1).to (fun _ cd i j u => ?_), lp0 F w LL⟩, fun er => ?_⟩)⟩
      · rw [E w]
        show uS g (P0 ++ []) cd i j
        rw [List.append_nil]
        exact u
      · have l3 := LL.1.2.2.1
        rcases LL.1.fwd (zf P.2.1 (by decide +kernel)) with u | u
        · rw [er] at u; exact absurd u (by decide)
        · omega
    | succ k ih =>
      intro P0 h2 P F E m
      refine t_X12_stepsRead_4 (d + e) h2 P.1.1 _ ⟨fun w => ⟨P.to (fun y => absurd y w), F.2 w⟩, fun w => Ci.mono (c_lookf (d + e) P.1 (t.fr P.2.1 (by decide +kernel))) (fun r h5 LL => ⟨LL.1.1.1, fun nr => ⟨(P.lk I q LL.1).to (fun _ cd i j u => ?_), lpx F w LL (decide_eq_false nr)⟩, fun er => ?_⟩)⟩
      · have e0 : lpo b n f o (k + 1) (ta h2) = [] := by
          show (if isq 59 (skv b n (ta h2)) = true then _ else _) = _
          exact if_neg (by rw [← LL.2.2]; exact fun y => nr (of_decide_eq_true y))
        rw [E w, e0, List.append_nil]
        exact u
      · have L := LL.1
        have P5 := P.lk I q L
        have w5 : h_i h5 1 34 = -1 := by rw [f34 L.2.1 (by decide +kernel)]; exact w
        have l3 := L.2.2.1
        have z2 := zf P.2.1 (by decide +kernel)
        have l5 : pa h5 < pz h := by
          rcases L.fwd z2 with u | u
          · rw [er] at u; exact absurd u (by decide)
          · exact u
        obtain ⟨t1, t2, t3, t4⟩ := P5.2.2.2.2.2.2.1 w5
        obtain ⟨I6, F6, a6⟩ := nx1 P.1 L (by omega)
        have na := nxa LL I6 a6
        have F56 : Fr [1033] h5 (h_im h5 1 33 ((h_i h5 1 33) + 1)) := (Fr.rf _ _).im (by decide +kernel)
        generalize h_im h5 1 33 ((h_i h5 1 33) + 1) = h6 at I6 F6 a6 F56 na ⊢
        have g6 := f36 F56 (by decide +kernel)
        have d6 := f35 F56 (by decide +kernel)
        have z6 := zf F6 (by decide +kernel)
        have d5 := P5.2.2.1
        have t6 : Tp b n h6 := (t.fr P.2.1 (by decide +kernel)).fr F6 (by decide +kernel)
        refine Cv.mono (A d h6 I6 ⟨by rw [f34 F56 (by decide +kernel)]; exact w5, by omega, by omega, by omega⟩ (by omega) t6) (fun h9 QQ => ?_)
        obtain ⟨Q, QF⟩ := QQ
        rw [na] at Q QF
        have S9 := lps F w LL.2.2 (decide_eq_true er) QF
        refine ⟨Q.1.1, ih (P0 ++ o (ska b n (ta h2) + 1)) h9 (P5.moref I q w5 I6 F56 a6 Q) S9 (fun w9 => ?_) ?_⟩
        · have e0 : lpo b n f o (k + 1) (ta h2) = o (ska b n (ta h2) + 1) ++ lpo b n f o k (f (ska b n (ta h2) + 1)).2 := by
            show (if isq 59 (skv b n (ta h2)) = true then _ else _) = _
            exact if_pos (by rw [← LL.2.2, er]; decide)
          rw [E w, e0, ← (QF.ok w9).2, lpo_c k, List.append_assoc]
        · have q4 := Q.2.2.2.1
          omega
  refine t_X12_stepsRead (d + e) h I.1 _ (Cv.mono (A d h I q eD t) (fun h1 PP => ?_))
  obtain ⟨P, PF⟩ := PP
  have P' : Ptt (uS g (o (ta h))) h h1 := P.to (fun _ cd i j u => ⟨1, _, _, [], u, ⟨rfl, rfl⟩, (List.append_nil _).symm⟩)
  refine ⟨P.1.1, lp 160 (o (ta h)) h1 P' (sqf (f := f) (lpr_c 160) PF) (fun w => ?_) ?_⟩
  · unfold spo
    rw [← (PF.ok w).2, lpo_c 160]
  · have a1 : 0 ≤ pa h1 := (pa_in P.1).1
    omega
theorem c_stepsf {b : Nat → Int32} {n : Nat} : ∀ (g : Nat), g ≤ 4 → RdU b n (4 - (g : Int)) (sps b n (stn b n g)) (spo b n (stn b n g) (ston b n g)) (uS g) (fun d h K => Cv (m_X12_stepsRead (d + (10 * g + 10) + 52) 0 0) [.ref 1] h K) := by
  intro g
  induction g with
  | zero =>
    intro _
    exact c_stepsReadf _ 0 (stn b n 0) (ston b n 0) (c_stepReadf 0 0 (by decide) true (fun a => (false, a)) (fun _ => []) (by decide) (fun g' h => absurd h (by omega)))
  | succ g ih =>
    intro hg
    have A := c_stepReadf (b := b) (n := n) (10 * g + 10) (g + 1) hg false (sps b n (stn b n g)) (spo b n (stn b n g) (ston b n g)) ⟨fun y => absurd y (by decide), fun y => absurd y (by omega)⟩ (fun g' h => by
      have h : g = g' := by omega
      subst h
      exact ih (by omega))
    refine c_stepsReadf _ (g + 1) (stn b n (g + 1)) (ston b n (g + 1)) (fun d h I q a t => ?_)
    have k := A d h I q a t
    dsimp only at k
    rw [show d + (10 * g + 10) + 61 = d + (10 * (g + 1) + 10) + 51 by omega] at k
    exact k
theorem r_stepsf (d : Nat) {b : Nat → Int32} {n : Nat} {h : Hp_} (I : Iv h) (q : Pr h) (e : pd h = 0) (t : Tp b n h) (a0 : ta h = 0) : Cv (m_X12_stepsRead (d + 80 + 52) 0 0) [.ref 1] h (fun h' => Ptt (uS 4 (beo b n)) h h' ∧ Ft b n (beq b n 0) h') := by
  have k := c_stepsf (b := b) (n := n) 4 (by decide) (d + 30) h I q (by omega) t
  dsimp only at k
  rw [show d + 30 + (10 * 4 + 10) + 52 = d + 80 + 52 by omega, a0] at k
  exact k
/-! fault of the reference for a beat; unfolding; beat -/
theorem c_faultf0 (d : Nat) {b : Nat → Int32} {n : Nat} (bb : ∀ k, k < n → ¬ b k = -1) {h : Hp_} (I : Iv h) (t : Tp b n h) : Ci (m_X12_fault (d + 80 + 59) 0 0) [.ref 1, .int 0] h (fun r h' => Iv h' ∧ Fr wzf h h' ∧ r = enq b n (beq b n) ∧ (r = -1 → uS 4 (beo b n) (h_i h' 226) 0 (sN h'))) := by
  have z0 : 0 ≤ pz h := (pz_in I).1
  have z1 : pz h ≤ 160 := (pz_in I).2
  have b0 : rin (0 : Int32).toInt (0, 180) := ⟨by decide, by decide⟩
  have I0 : Iv (h_im (h_im (h_im (h_im (h_im h 1 37 0) 1 33 0) 1 34 (-1)) 1 35 0) 1 36 0) := i36 (i35 (i34 (i33 (I.im (by rw [show tf 1 37 = rtop by decide +kernel]; exact rtop_in _) (by decide)) b0) _) ⟨by decide, by decide⟩) ⟨by decide, by decide⟩
  have F0 : Fr wzf h (h_im (h_im (h_im (h_im (h_im h 1 37 0) 1 33 0) 1 34 (-1)) 1 35 0) 1 36 0) := (((((Fr.rf _ _).im (by decide +kernel)).im (by decide +kernel)).im (by decide +kernel)).im (by decide +kernel)).im (by decide +kernel)
  have e36 : h_i (h_im (h_im (h_im (h_im (h_im h 1 37 0) 1 33 0) 1 34 (-1)) 1 35 0) 1 36 0) 1 36 = 0 := im_at
  have e35 : h_i (h_im (h_im (h_im (h_im (h_im h 1 37 0) 1 33 0) 1 34 (-1)) 1 35 0) 1 36 0) 1 35 = 0 := by rw [f_ne (by decide), im_at]
  have e34 : h_i (h_im (h_im (h_im (h_im (h_im h 1 37 0) 1 33 0) 1 34 (-1)) 1 35 0) 1 36 0) 1 34 = -1 := by rw [f_ne (by decide), f_ne (by decide), im_at]
  have e33 : h_i (h_im (h_im (h_im (h_im (h_im h 1 37 0) 1 33 0) 1 34 (-1)) 1 35 0) 1 36 0) 1 33 = 0 := by rw [f_ne (by decide), f_ne (by decide), f_ne (by decide), im_at]
  refine t_X12_fault (d + 80) h I.1 0 _ ⟨fun _ => ?_, fun y => absurd (by decide) y⟩
  generalize h_im (h_im (h_im (h_im (h_im h 1 37 0) 1 33 0) 1 34 (-1)) 1 35 0) 1 36 0 = h0 at I0 F0 e36 e35 e34 e33 ⊢
  have zz := zf F0 (by decide +kernel)
  have a0 : pa h0 = 0 := by show (h_i h0 1 33).toInt = 0; rw [e33]; rfl
  have ta0 : ta h0 = 0 := by have := ta_i I0; omega
  have d0 : pd h0 = 0 := by show (h_i h0 1 35).toInt = 0; rw [e35]; rfl
  have s0 : ps h0 = 0 := by show (h_i h0 1 36).toInt = 0; rw [e36]; rfl
  have n0 := sN_i I0
  have nz : sN h0 = 0 := by omega
  have t0 : Tp b n h0 := t.fr F0 (by decide +kernel)
  refine ⟨fun y => absurd rfl y, fun _ => ?_⟩
  refine Cv.mono (r_stepsf d I0 ⟨e34, by omega, by omega, by omega⟩ d0 t0 ta0) (fun h8 PP => ?_)
  obtain ⟨P, PF⟩ := PP
  refine ⟨P.1.1, fun w => ?_, fun w => ?_⟩
  · exact ⟨P.1, F0.tr (P.2.1.more (by decide +kernel)), enq_n PF w, fun y => absurd y w⟩
  · obtain ⟨u1, u2, u3, u4⟩ := P.2.2.2.2.2.2.1 w
    rw [nz] at u4
    refine Ci.mono (c_lookf (d + 80) P.1 (t0.fr P.2.1 (by decide +kernel))) (fun r h5 LL => ?_)
    have E := enq_y bb PF w LL
    have L := LL.1
    refine ⟨L.1.1, fun er => ?_, fun nr => ?_⟩
    · have e6 := f36 L.2.1 (by decide +kernel)
      have n5 := sN_i L.1
      have n8 := sN_i P.1
      refine ⟨L.1, F0.tr ((P.2.1.tr (L.2.1.more (by decide +kernel))).more (by decide +kernel)), E.1 er, fun _ => ?_⟩
      rw [show h_i h5 226 = h_i h8 226 from funext (fun k => fr_i L.2.1 (by decide +kernel) k), show sN h5 = sN h8 by omega]
      exact u4
    · refine Cv.mono (c_badf (d + 80) L.1 (by rw [f34 L.2.1 (by decide +kernel)]; exact w)) (fun h9 k => ⟨k.1.1, k.1, F0.tr (((P.2.1.tr (L.2.1.more (by decide +kernel))).tr (k.2.1.more (by decide +kernel))).more (by decide +kernel)), ?_, fun y => absurd y k.2.2.1⟩)
      rw [k.2.2.2]
      exact E.2 nr
/-- the steps that stand unfolded from B on -/
def Uo (B : Nat) (L : List Sp3) (h : Hp_) : Prop := L.length ≤ 150 ∧ h_i h 1 43 = Int32.ofNat L.length ∧ ∀ k x, L[k]? = some x → h_i h 228 (B + k) = x.1 ∧ h_i h 229 (B + k) = x.2.1 ∧ h_i h 230 (B + k) = x.2.2
abbrev bB (h0 : Hp_) : Nat := 150 * (h_i h0 1 42).toNatClampNeg
theorem Uo.n44 {B : Nat} {L : List Sp3} {h : Hp_} (O : Uo B L h) (x : Int32) : Uo B L (h_im h 1 44 x) := ⟨O.1, by rw [f_ne (by decide)]; exact O.2.1, fun k y e => by rw [im_ne (by decide), im_ne (by decide), im_ne (by decide)]; exact O.2.2 k y e⟩
theorem Uo.st {h0 h : Hp_} {x3 a b n s0 : Int32} (U : Uv h0 h) (hB : (h_i h0 1 42).toInt ≤ 11) (ne : ¬ h_i h 1 43 = 150) (e0 : s0 = 150 * h_i h 1 42 + h_i h 1 43) {L : List Sp3} (O : Uo (bB h0) L h) : Uo (bB h0) (L ++ [(x3, a, b)]) (h_im (h_im (h_im (h_im (h_im h 228 s0.toNatClampNeg x3) 229 s0.toNatClampNeg a) 230 s0.toNatClampNeg b) 1 43 ((h_i h 1 43) + 1)) 1 44 n) := by
  obtain ⟨I, F, C⟩ := U
  have e42 : h_i h 1 42 = h_i h0 1 42 := (F.2 1 42 (by decide +kernel)).1
  have r42 := I.2.1 1 42
  rw [show tf 1 42 = (0, 12) by decide +kernel] at r42
  have b0 : 0 ≤ (h_i h 1 42).toInt := r42.1
  have b1 : (h_i h 1 42).toInt ≤ 11 := by rw [e42]; exact hB
  have t150 : (150 : Int32).toInt = 150 := rfl
  have t1 : (1 : Int32).toInt = 1 := rfl
  have o1 := O.1
  have e43 := congrArg Int32.toInt O.2.1
  rw [on_j (by omega)] at e43
  have u1 : L.length ≤ 149 := by
    rcases Nat.lt_or_ge L.length 150 with z | z
    · omega
    · exact absurd (Int32.toInt_inj.mp (by rw [t150]; omega)) ne
  have m1 : (150 * h_i h 1 42).toInt = 150 * (h_i h 1 42).toInt := by rw [tx_mul (by rw [t150]; omega) (by rw [t150]; omega), t150]
  have m2 : s0.toInt = 150 * (h_i h 1 42).toInt + (h_i h 1 43).toInt := by rw [e0, tx_add (by omega) (by omega), m1]
  have ns := n_nat (x := s0) (by omega)
  have nB := n_nat (x := h_i h0 1 42) (by rw [← e42]; exact b0)
  have es : s0.toNatClampNeg = bB h0 + L.length := by
    show s0.toNatClampNeg = 150 * (h_i h0 1 42).toNatClampNeg + L.length
    rw [e42] at m2
    omega
  rw [es]
  refine ⟨by rw [List.length_append, List.length_singleton]; omega, ?_, fun k y ey => ?_⟩
  · rw [f_ne (by decide), im_at, List.length_append, List.length_singleton]
    refine Int32.toInt_inj.mp ?_
    rw [tx_add (by rw [t1]; omega) (by rw [t1]; omega), t1, on_j (by omega)]
    omega
  · have w8 : ∀ j, h_i (h_im (h_im (h_im (h_im (h_im h 228 (bB h0 + L.length) x3) 229 (bB h0 + L.length) a) 230 (bB h0 + L.length) b) 1 43 ((h_i h 1 43) + 1)) 1 44 n) 228 j = if j = bB h0 + L.length then x3 else h_i h 228 j := fun j => by
      rw [im_ne (by decide), im_ne (by decide), im_ne (by decide), im_ne (by decide), h_i_im]
      by_cases z : j = bB h0 + L.length
      · rw [if_pos ⟨rfl, z⟩, if_pos z]
      · rw [if_neg (fun u => z u.2), if_neg z]
    have w9 : ∀ j, h_i (h_im (h_im (h_im (h_im (h_im h 228 (bB h0 + L.length) x3) 229 (bB h0 + L.length) a) 230 (bB h0 + L.length) b) 1 43 ((h_i h 1 43) + 1)) 1 44 n) 229 j = if j = bB h0 + L.length then a else h_i h 229 j := fun j => by
      rw [im_ne (by decide), im_ne (by decide), im_ne (by decide), h_i_im]
      by_cases z : j = bB h0 + L.length
      · rw [if_pos ⟨rfl, z⟩, if_pos z]
      · rw [if_neg (fun u => z u.2), if_neg z, im_ne (by decide)]
    have w0 : ∀ j, h_i (h_im (h_im (h_im (h_im (h_im h 228 (bB h0 + L.length) x3) 229 (bB h0 + L.length) a) 230 (bB h0 + L.length) b) 1 43 ((h_i h 1 43) + 1)) 1 44 n) 230 j = if j = bB h0 + L.length then b else h_i h 230 j := fun j => by
      rw [im_ne (by decide), im_ne (by decide), h_i_im]
      by_cases z : j = bB h0 + L.length
      · rw [if_pos ⟨rfl, z⟩, if_pos z]
      · rw [if_neg (fun u => z u.2), if_neg z, im_ne (by decide), im_ne (by decide)]
    rw [w8, w9, w0]
    rcases Nat.lt_or_ge k L.length with u | u
    · rw [List.getElem?_append_left u] at ey
      rw [if_neg (by omega), if_neg (by omega), if_neg (by omega)]
      exact O.2.2 k y ey
    · have ku : k = L.length := by
        rcases Nat.lt_or_ge L.length k with v | v
        · rw [List.getElem?_eq_none (by rw [List.length_append, List.length_singleton]; omega)] at ey
          cases ey
        · omega
      subst ku
      rw [List.getElem?_append_right (Nat.le_refl _), Nat.sub_self] at ey
      have ey' : (x3, a, b) = y := by simpa using ey
      rw [if_pos rfl, if_pos rfl, if_pos rfl, ← ey']
      exact ⟨rfl, rfl, rfl⟩
/-- besides: the numbers of the beats that stood stay too -/
def Uw (h0 h : Hp_) : Prop := Uv h0 h ∧ ∀ k, k < bB h0 → h_i h 229 k = h_i h0 229 k ∧ h_i h 230 k = h_i h0 230 k
theorem Uw.n44 {h0 h : Hp_} (U : Uw h0 h) (x : Int32) : Uw h0 (h_im h 1 44 x) := ⟨U.1.n44 x, fun k hk => by rw [im_ne (by decide), im_ne (by decide)]; exact U.2 k hk⟩
theorem Uw.st {h0 h : Hp_} {x3 a b n s0 : Int32} (U : Uw h0 h) (hB : (h_i h0 1 42).toInt ≤ 11) (ne : ¬ h_i h 1 43 = 150) (e0 : s0 = 150 * h_i h 1 42 + h_i h 1 43) (bx : rin x3.toInt (0, 3)) (ba : rin a.toInt (0, 1440)) (o : ¬ x3 = 1 → rin a.toInt (0, 15)) :
    vp_in s0 1800 ∧ Uw h0 (h_im (h_im (h_im (h_im (h_im h 228 s0.toNatClampNeg x3) 229 s0.toNatClampNeg a) 230 s0.toNatClampNeg b) 1 43 ((h_i h 1 43) + 1)) 1 44 n) := by
  have S := U.1.st (b := b) (n := n) hB ne e0 bx ba o
  refine ⟨S.1, S.2, fun k hk => ?_⟩
  obtain ⟨I, F, C⟩ := U.1
  have e42 : h_i h 1 42 = h_i h0 1 42 := (F.2 1 42 (by decide +kernel)).1
  have r42 := I.2.1 1 42
  rw [show tf 1 42 = (0, 12) by decide +kernel] at r42
  have b0 : 0 ≤ (h_i h 1 42).toInt := r42.1
  have b1 : (h_i h 1 42).toInt ≤ 11 := by rw [e42]; exact hB
  have r43 := I.2.1 1 43
  rw [show tf 1 43 = (0, 150) by decide +kernel] at r43
  have u0 : 0 ≤ (h_i h 1 43).toInt := r43.1
  have u1 : (h_i h 1 43).toInt ≤ 150 := r43.2
  have t150 : (150 : Int32).toInt = 150 := rfl
  have m1 : (150 * h_i h 1 42).toInt = 150 * (h_i h 1 42).toInt := by rw [tx_mul (by rw [t150]; omega) (by rw [t150]; omega), t150]
  have m2 : s0.toInt = 150 * (h_i h 1 42).toInt + (h_i h 1 43).toInt := by rw [e0, tx_add (by omega) (by omega), m1]
  have ns := n_nat (x := s0) (by omega)
  have nB := n_nat (x := h_i h0 1 42) (by rw [← e42]; exact b0)
  have hk' : k < 150 * (h_i h0 1 42).toNatClampNeg := hk
  rw [e42] at m2
  have nk : ¬ k = s0.toNatClampNeg := by omega
  rw [im_ne (by decide), im_ne (by decide), im_ne (by decide), h_i_im, if_neg (fun u => nk u.2), im_ne (by decide), im_ne (by decide), im_ne (by decide), h_i_im, if_neg (fun u => nk u.2), im_ne (by decide), im_ne (by decide)]
  exact U.2 k hk
def Ukf (h0 : Hp_) (j : Nat) (M : List Sp3) (hs : Hp_) : Int32 → Hp_ → Prop := fun r h' => Uw h0 h' ∧ (¬ r = 0 → h_i h' 1 44 = Int32.ofNat j ∧ ∀ L, Uo (bB h0) L hs → Uo (bB h0) (L ++ M) h') ∧ (r = 0 → ∀ L, Uo (bB h0) L hs → 150 < (L ++ M).length)
theorem Ukf.pre {h0 : Hp_} {j : Nat} {A B : List Sp3} {hs h1 h' : Hp_} {r : Int32} (K : Ukf h0 j B h1 r h') (O : ∀ L, Uo (bB h0) L hs → Uo (bB h0) (L ++ A) h1) : Ukf h0 j (A ++ B) hs r h' := by
  refine ⟨K.1, fun nr => ⟨(K.2.1 nr).1, fun L u => ?_⟩, fun er L u => ?_⟩
  · rw [← List.append_assoc]
    exact (K.2.1 nr).2 _ (O L u)
  · rw [← List.append_assoc]
    exact K.2.2 er _ (O L u)
theorem uf_loopf (h0 : Hp_) (N : Nat) (hN : h_i h0 1 36 = Int32.ofNat N) (lN : N ≤ 559) (hB : (h_i h0 1 42).toInt ≤ 11) (g d : Nat)
    (B : ∀ g', g = g' + 1 → ∀ (f i j : Nat) (M : List Sp3) (h : Hp_), sqU (uD (h_i h0 226) g') f i j M → j ≤ N → (j = N ∨ h_i h0 226 j = 5) → Uw h0 h → Ci (m_X12_unfold (d + g + 0) 0 0) [.ref 1, .int (Int32.ofNat i), .int 1] h (Ukf h0 j M h)) (j : Nat) (hj : j ≤ N) (ej : j = N ∨ h_i h0 226 j = 5) :
    ∀ (f i : Nat) (M : List Sp3) (h : Hp_), sqU (uD (h_i h0 226) g) f i j M → Uw h0 h → h_i h 1 44 = Int32.ofNat i → AW (m_X12_unfold (d + g + 1) 0 0) 0 0 5 [(0, .ref 1), (2, .int 1)] [] h (kI (Ukf h0 j M h)) := by
  have oN := on_j (n := N) (by omega)
  intro f
  induction f with
  | zero =>
    intro i M h q U en
    obtain ⟨q, qm⟩ := q
    subst q
    subst qm
    have e36 : h_i h 1 36 = Int32.ofNat N := by rw [(U.1.2.1.2 1 36 (by decide +kernel)).1]; exact hN
    have e6 : ∀ k, h_i h 226 k = h_i h0 226 k := fun k => fr_i U.1.2.1 (by decide +kernel) k
    have oi := on_j (n := i) (by omega)
    have ki := on_k (n := i) (by omega)
    have fin : Ukf h0 i [] h 1 h := ⟨U, fun _ => ⟨en, fun L O => by rw [List.append_nil]; exact O⟩, fun y => absurd y (by decide)⟩
    refine t_X12_unfold_5 (d + g) h U.1.1.1 1 _ ⟨fun _ => fin, fun z => ?_⟩
    rw [e36, en] at z
    have z := q_nle z
    have c5 : h_i h0 226 i = 5 := by
      rcases ej with u | u
      · omega
      · exact u
    rw [en, ki, e6]
    exact ⟨on_in (by omega) (by decide), fun _ => fin, fun y => absurd c5 y⟩
  | succ f ih =>
    intro i M h q U en
    obtain ⟨i2, A, B2, st, q, qm⟩ := q
    subst qm
    have l1 := uD_lt st
    have l2 := sqU_le (fun _ _ _ t => uD_lt t) q
    have e36 : h_i h 1 36 = Int32.ofNat N := by rw [(U.1.2.1.2 1 36 (by decide +kernel)).1]; exact hN
    have e6 : ∀ k, h_i h 226 k = h_i h0 226 k := fun k => fr_i U.1.2.1 (by decide +kernel) k
    have oi := on_j (n := i) (by omega)
    have ki := on_k (n := i) (by omega)
    have vi : vp_in (Int32.ofNat i) 560 := on_in (by omega) (by decide)
    refine t_X12_unfold_5 (d + g) h U.1.1.1 1 _ ⟨fun z => ?_, fun _ => ?_⟩
    · rw [e36, en] at z
      have z := q_le.mp z
      omega
    rw [en, ki, e6]
    have base : uB (h_i h0 226) i i2 A → ¬ h_i h0 226 i = 5 ∧ ¬ h_i h0 226 i = 4 ∧ A.length = 1 ∧ (¬ h_i h 1 43 = 150 → AW (m_X12_unfold (d + g + 1) 0 0) 0 0 158 [(0, .ref 1), (2, .int 1), (3, .int (h_i h0 226 i))] [.int ((150 * (h_i h 1 42)) + (h_i h 1 43))] h (kI (Ukf h0 j (A ++ B2) h))) := by
      intro s
      have n1 : Int32.ofNat i + 1 = Int32.ofNat (i + 1) := on_s (by omega)
      have v1 : i + 1 < 560 → vp_in (Int32.ofNat (i + 1)) 560 := fun l => on_in l (by decide)
      rcases s with ⟨a, b, c, m⟩ | ⟨a, b, c, m⟩ | ⟨a, b, b', c, m⟩ | ⟨a, c, m⟩
      · subst m
        refine ⟨by rw [a]; decide, by rw [a]; decide, rfl, fun ne => ?_⟩
        rw [a]
        have ka := on_k (n := i + 1) (by omega)
        have S := U.st (x3 := 0) (a := h_i h 226 (i + 1)) (b := 0) (n := Int32.ofNat (i + 2)) hB ne rfl ⟨by decide, by decide⟩ (by rw [e6]; exact ⟨b.1, by have : (h_i h0 226 (i + 1)).toInt ≤ 15 := b.2; show _ ≤ (1440 : Int); omega⟩) (fun _ => by rw [e6]; exact b)
        have O1 := fun L => Uo.st (x3 := 0) (a := h_i h 226 (i + 1)) (b := 0) (n := Int32.ofNat (i + 2)) (L := L) U.1 hB ne rfl
        generalize ((150 * (h_i h 1 42)) + (h_i h 1 43)) = s0 at S O1 ⊢
        have v := S.1
        refine t_X12_unfold_158 (d + g) h U.1.1.1 1 0 s0 _ ⟨fun y => absurd y (by decide), fun _ => ⟨v, fun _ => ⟨?_, v, fun _ => ⟨v, fun _ => ⟨fun _ => ?_, fun y => absurd y (by decide)⟩, fun y => absurd y (by decide)⟩, fun y => absurd y (by decide)⟩, fun y => absurd y (by decide)⟩⟩
        · rw [en, n1]; exact v1 (by omega)
        · rw [en, n1, ka, on_2 (by omega)]
          refine AW.mono (ih (i + 2) B2 _ (by rw [← c]; exact q) S.2 im_at) (fun v h' k => ?_)
          obtain ⟨r, er, k⟩ := k
          exact ⟨r, er, k.pre (fun L O => by rw [← e6]; exact O1 L O)⟩
      · subst m
        refine ⟨by rw [a]; decide, by rw [a]; decide, rfl, fun ne => ?_⟩
        rw [a]
        have ka := on_k (n := i + 1) (by omega)
        have S := U.st (x3 := 1) (a := h_i h 226 (i + 1)) (b := 0) (n := Int32.ofNat (i + 2)) hB ne rfl ⟨by decide, by decide⟩ (by rw [e6]; exact ⟨by have : 1 ≤ (h_i h0 226 (i + 1)).toInt := b.1; show (0 : Int) ≤ _; omega, by have : (h_i h0 226 (i + 1)).toInt ≤ 240 := b.2; show _ ≤ (1440 : Int); omega⟩) (fun y => absurd rfl y)
        have O1 := fun L => Uo.st (x3 := 1) (a := h_i h 226 (i + 1)) (b := 0) (n := Int32.ofNat (i + 2)) (L := L) U.1 hB ne rfl
        generalize ((150 * (h_i h 1 42)) + (h_i h 1 43)) = s0 at S O1 ⊢
        have v := S.1
        refine t_X12_unfold_158 (d + g) h U.1.1.1 1 1 s0 _ ⟨fun y => absurd y (by decide), fun _ => ⟨v, fun _ => ⟨?_, v, fun _ => ⟨v, fun _ => ⟨fun _ => ?_, fun y => absurd y (by decide)⟩, fun y => absurd y (by decide)⟩, fun y => absurd y (by decide)⟩, fun y => absurd y (by decide)⟩⟩
        · rw [en, n1]; exact v1 (by omega)
        · rw [en, n1, ka, on_2 (by omega)]
          refine AW.mono (ih (i + 2) B2 _ (by rw [← c]; exact q) S.2 im_at) (fun v h' k => ?_)
          obtain ⟨r, er, k⟩ := k
          exact ⟨r, er, k.pre (fun L O => by rw [← e6]; exact O1 L O)⟩
      · subst m
        refine ⟨by rw [a]; decide, by rw [a]; decide, rfl, fun ne => ?_⟩
        rw [a]
        have ka := on_k (n := i + 1) (by omega)
        have kb := on_k (n := i + 2) (by omega)
        have S := U.st (x3 := 2) (a := h_i h 226 (i + 1)) (b := h_i h 226 (i + 2)) (n := Int32.ofNat (i + 3)) hB ne rfl ⟨by decide, by decide⟩ (by rw [e6]; exact ⟨b.1, by have : (h_i h0 226 (i + 1)).toInt ≤ 15 := b.2; show _ ≤ (1440 : Int); omega⟩) (fun _ => by rw [e6]; exact b)
        have O1 := fun L => Uo.st (x3 := 2) (a := h_i h 226 (i + 1)) (b := h_i h 226 (i + 2)) (n := Int32.ofNat (i + 3)) (L := L) U.1 hB ne rfl
        generalize ((150 * (h_i h 1 42)) + (h_i h 1 43)) = s0 at S O1 ⊢
        have v := S.1
        refine t_X12_unfold_158 (d + g) h U.1.1.1 1 2 s0 _ ⟨fun y => absurd y (by decide), fun _ => ⟨v, fun _ => ⟨?_, v, fun y => absurd rfl y, fun _ => ⟨?_, v, fun _ => ⟨fun y => absurd rfl y, fun _ => ?_⟩, fun y => absurd y (by decide)⟩⟩, fun y => absurd y (by decide)⟩⟩
        · rw [en, n1]; exact v1 (by omega)
        · rw [en, on_2 (by omega)]; exact on_in (by omega) (by decide)
        · rw [en, n1, ka, on_2 (by omega), kb, on_3 (by omega)]
          refine AW.mono (ih (i + 3) B2 _ (by rw [← c]; exact q) S.2 im_at) (fun v h' k => ?_)
          obtain ⟨r, er, k⟩ := k
          exact ⟨r, er, k.pre (fun L O => by rw [← e6, ← e6]; exact O1 L O)⟩
      · subst m
        refine ⟨by rw [a]; decide, by rw [a]; decide, rfl, fun ne => ?_⟩
        rw [a]
        have S := U.st (x3 := 3) (a := 0) (b := 0) (n := Int32.ofNat (i + 1)) hB ne rfl ⟨by decide, by decide⟩ ⟨by decide, by decide⟩ (fun _ => ⟨by decide, by decide⟩)
        have O1 := fun L => Uo.st (x3 := 3) (a := 0) (b := 0) (n := Int32.ofNat (i + 1)) (L := L) U.1 hB ne rfl
        generalize ((150 * (h_i h 1 42)) + (h_i h 1 43)) = s0 at S O1 ⊢
        have v := S.1
        refine t_X12_unfold_158 (d + g) h U.1.1.1 1 3 s0 _ ⟨fun y => absurd y (by decide), fun _ => ⟨v, fun y => absurd rfl y, fun _ => ⟨v, fun _ => ⟨v, fun y => absurd rfl y, fun _ => ?_⟩, fun y => absurd y (by decide)⟩⟩⟩
        rw [en, n1]
        refine AW.mono (ih (i + 1) B2 _ (by rw [← c]; exact q) S.2 im_at) (fun v h' k => ?_)
        obtain ⟨r, er, k⟩ := k
        exact ⟨r, er, k.pre (fun L O => O1 L O)⟩
    have full : A.length = 1 → h_i h 1 43 = 150 → Ukf h0 j (A ++ B2) h 0 h := fun la e43 => ⟨U, fun y => absurd rfl y, fun _ L O => by
      have c := O.2.1
      rw [e43] at c
      have c := congrArg Int32.toInt c
      have o := O.1
      rw [on_j (by omega)] at c
      have t150 : (150 : Int32).toInt = 150 := rfl
      rw [List.length_append, List.length_append]
      omega⟩
    have nb : uB (h_i h0 226) i i2 A → vp_in (Int32.ofNat i) 560 ∧ ((h_i h0 226 i = 5 → Ukf h0 j (A ++ B2) h 1 h) ∧ (¬ h_i h0 226 i = 5 → vp_in (Int32.ofNat i) 560 ∧ ((¬ h_i h0 226 i = 4 → (¬ (h_i h 1 43) = 150 → (¬ 12 = (h_i h 1 42) → AW (m_X12_unfold (d + g + 1) 0 0) 0 0 158 [(0, .ref 1), (2, .int 1), (3, .int (h_i h0 226 i))] [.int ((150 * (h_i h 1 42)) + (h_i h 1 43))] h (kI (Ukf h0 j (A ++ B2) h))) ∧ (12 = (h_i h 1 42) → AW (m_X12_unfold (d + g + 1) 0 0) 0 0 158 [(0, .ref 1), (2, .int 1), (3, .int (h_i h0 226 i))] [.int 0] h (kI (Ukf h0 j (A ++ B2) h)))) ∧ ((h_i h 1 43) = 150 → Ukf h0 j (A ++ B2) h 0 h)) ∧ (h_i h0 226 i = 4 → Ci (m_X12_unfold (d + g + 0) 0 0) [.ref 1, .int ((Int32.ofNat i) + 1), .int 1] h (fun r10 h8 => Wf h8 ∧ ((¬ r10 = 0 → vp_in ((h_i h8 1 44) + 1) 560 ∧ (AW (m_X12_unfold (d + g + 1) 0 0) 0 0 84 [(0, .ref 1), (2, .int 1), (4, .int ((Int32.ofNat i) + 1)), (5, .int (h_i h8 1 44)), (6, .int (h_i h8 226 (((h_i h8 1 44) + 1) : Int32).toNatClampNeg)), (7, .int 1)] [] h8 (kI (Ukf h0 j (A ++ B2) h)))) ∧ (r10 = 0 → Ukf h0 j (A ++ B2) h 0 h8))))))) := by
      intro s
      obtain ⟨b5, b4, la, b⟩ := base s
      refine ⟨vi, fun y => absurd y b5, fun _ => ⟨vi, fun _ => ⟨fun ne => ⟨fun _ => b ne, fun y => ?_⟩, fun e43 => full la e43⟩, fun y => absurd y b4⟩⟩
      have e42 : h_i h 1 42 = h_i h0 1 42 := (U.1.2.1.2 1 42 (by decide +kernel)).1
      rw [← e42, ← y] at hB
      exact absurd hB (by decide)
    cases g with
    | zero => exact nb st
    | succ g =>
      rcases st with s | ⟨c4, f2, j2, A0, w2, c5, tm, ei, em⟩
      · exact nb s
      · subst em
        have l3 := sqU_le (fun _ _ _ t => uD_lt t) w2
        have n1 : Int32.ofNat i + 1 = Int32.ofNat (i + 1) := on_s (by omega)
        have t0 : 1 ≤ (h_i h0 226 (j2 + 1)).toInt := tm.1
        have t1 : (h_i h0 226 (j2 + 1)).toInt ≤ 20 := tm.2
        have nT := n_nat (x := h_i h0 226 (j2 + 1)) (by omega)
        have long : ∀ (m : Nat) (L : List Sp3), m ≤ (h_i h0 226 (j2 + 1)).toNatClampNeg → 150 < (L ++ rpl m A0).length → 150 < (L ++ (rpl (h_i h0 226 (j2 + 1)).toNatClampNeg A0 ++ B2)).length := fun m L hm hl => by
          have k := rpl_l A0 hm
          rw [List.length_append] at hl
          rw [List.length_append, List.length_append]
          omega
        refine ⟨vi, fun y => absurd (c4.symm.trans y) (by decide), fun _ => ⟨vi, fun y => absurd c4 y, fun _ => ?_⟩⟩
        rw [n1]
        refine Ci.mono (B g rfl f2 (i + 1) j2 A0 h w2 (by omega) (Or.inr c5) U) (fun r h8 k => ⟨k.1.1.1.1, fun nr => ?_, fun er => ⟨k.1, fun y => absurd rfl y, fun _ L O => long 1 L (by omega) (by rw [rpl_1]; exact k.2.2 er L O)⟩⟩)
        have e44 := (k.2.1 nr).1
        have O8 := (k.2.1 nr).2
        have n2 : Int32.ofNat j2 + 1 = Int32.ofNat (j2 + 1) := on_s (by omega)
        have k2 := on_k (n := j2 + 1) (by omega)
        rw [e44, n2, k2, fr_i k.1.1.2.1 (a := 226) (by decide +kernel)]
        refine ⟨on_in (by omega) (by decide), ?_⟩
        generalize h_i h0 226 (j2 + 1) = x6 at t0 t1 nT long ⊢
        have o1 : (1 : Int32).toInt = 1 := rfl
        have out : ∀ h9, Uw h0 h9 → (∀ L, Uo (bB h0) L h → Uo (bB h0) (L ++ rpl x6.toNatClampNeg A0) h9) → AW (m_X12_unfold (d + (g + 1) + 1) 0 0) 0 0 5 [(0, .ref 1), (2, .int 1)] [] (h_im h9 1 44 (Int32.ofNat j2 + 2)) (kI (Ukf h0 j (rpl x6.toNatClampNeg A0 ++ B2) h)) := by
          intro h9 U9 O9
          rw [on_2 (by omega)]
          refine AW.mono (ih (j2 + 2) B2 _ (by rw [← ei]; exact q) (U9.n44 _) im_at) (fun v h' k => ?_)
          obtain ⟨r, er, k⟩ := k
          exact ⟨r, er, k.pre (fun L O => (O9 L O).n44 _)⟩
        have tl : ∀ (n m : Nat) (x7 : Int32) (h9 : Hp_), Uw h0 h9 → x7.toInt = (m : Int) → 1 ≤ m → (m : Int) + n = x6.toInt → (∀ L, Uo (bB h0) L h → Uo (bB h0) (L ++ rpl m A0) h9) → AW (m_X12_unfold (d + (g + 1) + 1) 0 0) 0 0 84 [(0, .ref 1), (2, .int 1), (4, .int (Int32.ofNat (i + 1))), (5, .int (Int32.ofNat j2)), (6, .int x6), (7, .int x7)] [] h9 (kI (Ukf h0 j (rpl x6.toNatClampNeg A0 ++ B2) h)) := by
          intro n
          induction n with
          | zero =>
            intro m x7 h9 U9 e7 a7 em O9
            refine t_X12_unfold_84 (d + (g + 1)) h9 U9.1.1.1 1 _ _ x6 x7 _ ⟨fun _ => out h9 U9 ?_, fun z => ?_⟩
            · rw [show x6.toNatClampNeg = m by omega]
              exact O9
            · have z := q_nle z
              omega
          | succ n ih2 =>
            intro m x7 h9 U9 e7 a7 em O9
            refine t_X12_unfold_84 (d + (g + 1)) h9 U9.1.1.1 1 _ _ x6 x7 _ ⟨fun z => ?_, fun z => ?_⟩
            · have z := q_le.mp z
              omega
            · have e7' : (x7 + 1).toInt = x7.toInt + 1 := by rw [tx_add (by rw [o1]; omega) (by rw [o1]; omega), o1]
              refine Ci.mono (B g rfl f2 (i + 1) j2 A0 h9 w2 (by omega) (Or.inr c5) U9) (fun r h10 k => ⟨k.1.1.1.1, fun nr => ih2 (m + 1) _ h10 k.1 (by rw [e7']; omega) (by omega) (by omega) (fun L O => ?_), fun er => ⟨k.1, fun y => absurd rfl y, fun _ L O => long (m + 1) L (by omega) ?_⟩⟩)
              · rw [rpl_s, ← List.append_assoc]
                exact (k.2.1 nr).2 _ (O9 L O)
              · rw [rpl_s, ← List.append_assoc]
                exact k.2.2 er _ (O9 L O)
        exact tl (x6.toInt - 1).toNat 1 1 h8 k.1 rfl (Nat.le_refl _) (by omega) (fun L O => by rw [rpl_1]; exact O8 L O)
theorem c_unfoldf (h0 : Hp_) (N : Nat) (hN : h_i h0 1 36 = Int32.ofNat N) (lN : N ≤ 559) (hB : (h_i h0 1 42).toInt ≤ 11) : ∀ (g d f i j : Nat) (M : List Sp3) (h : Hp_), sqU (uD (h_i h0 226) g) f i j M → j ≤ N → (j = N ∨ h_i h0 226 j = 5) → Uw h0 h → Ci (m_X12_unfold (d + g + 1) 0 0) [.ref 1, .int (Int32.ofNat i), .int 1] h (Ukf h0 j M h) := by
  intro g
  induction g with
  | zero =>
    intro d f i j M h q hj ej U
    refine t_X12_unfold (d + 0) h U.1.1.1 _ 1 _ (AW.mono (uf_loopf h0 N hN lN hB 0 d (fun g' e => absurd e (by omega)) j hj ej f i M _ q (U.n44 _) im_at) (fun v h' k => ?_))
    obtain ⟨r, er, k⟩ := k
    exact ⟨r, er, k.pre (A := []) (fun L O => by rw [List.append_nil]; exact O.n44 _)⟩
  | succ g ih =>
    intro d f i j M h q hj ej U
    refine t_X12_unfold (d + (g + 1)) h U.1.1.1 _ 1 _ (AW.mono (uf_loopf h0 N hN lN hB (g + 1) d (fun g' e f i j M h q hj ej U => by
      have e : g = g' := by omega
      subst e
      exact ih d f i j M h q hj ej U) j hj ej f i M _ q (U.n44 _) im_at) (fun v h' k => ?_))
    obtain ⟨r, er, k⟩ := k
    exact ⟨r, er, k.pre (A := []) (fun L O => by rw [List.append_nil]; exact O.n44 _)⟩
