section
/-- the minutes of a walk as both answer them -/
noncomputable def wI (h : Hp_) (a b : Int32) : Int32 := if (0 ≤ a ∧ a < 16) ∧ (0 ≤ b ∧ b < 16) then (if h_i h 30 (16 * a.toNatClampNeg + b.toNatClampNeg) < 1000000 then h_i h 30 (16 * a.toNatClampNeg + b.toNatClampNeg) else -1) else -1
/-! MEN: one man as a function of the slot (the class's slots); what befalls him -/
noncomputable def up1 (M : Nat → Int32) (k : Nat) (x : Int32) : Nat → Int32 := fun j => if j = k then x else M j
theorem up1_at {M : Nat → Int32} {k : Nat} {x : Int32} : up1 M k x k = x := if_pos rfl
theorem up1_ne {M : Nat → Int32} {k j : Nat} {x : Int32} (n : j ≠ k) : up1 M k x j = M j := if_neg n
theorem im_row (h : Hp_) (a k : Nat) (x : Int32) : h_i (h_im h a k x) a = up1 (h_i h a) k x := funext (fun j => by
  rw [h_i_im]
  unfold up1
  by_cases c : j = k
  · rw [if_pos ⟨rfl, c⟩, if_pos c]
  · rw [if_neg (fun z => c z.2), if_neg c])
theorem im_oth {h : Hp_} {a k b : Nat} {x : Int32} (n : b ≠ a) : h_i (h_im h a k x) b = h_i h b := funext (fun _ => im_ne n)
noncomputable abbrev Ev2 : Type := Int32 × Int32
/-- rows r, r + 1 .. take what the events say -/
noncomputable def rz (g : Ev2 → Int32) : Nat → List Ev2 → (Nat → Int32) → Nat → Int32
  | _, [], f => f
  | r, e :: E, f => rz g (r + 1) E (up1 f r (g e))
theorem rz_a (g : Ev2 → Int32) : ∀ (E1 E2 : List Ev2) (r : Nat) (f : Nat → Int32), rz g r (E1 ++ E2) f = rz g (r + E1.length) E2 (rz g r E1 f)
  | [], _, _, _ => rfl
  | e :: E1, E2, r, f => by
    show rz g (r + 1) (E1 ++ E2) (up1 f r (g e)) = rz g (r + (E1.length + 1)) E2 (rz g (r + 1) E1 (up1 f r (g e)))
    rw [rz_a g E1 E2 (r + 1), show r + 1 + E1.length = r + (E1.length + 1) by omega]
/-- what stands outside of them stays -/
theorem rz_o (g : Ev2 → Int32) : ∀ (E : List Ev2) (r : Nat) (f : Nat → Int32) (k : Nat), (k < r ∨ r + E.length ≤ k) → rz g r E f k = f k
  | [], _, _, _, _ => rfl
  | e :: E, r, f, k, hk => by
    have hk : k < r ∨ r + (E.length + 1) ≤ k := hk
    show rz g (r + 1) E (up1 f r (g e)) k = f k
    rw [rz_o g E (r + 1) _ k (by omega), up1_ne (by omega)]
theorem rz_i (g : Ev2 → Int32) : ∀ (E : List Ev2) (r : Nat) (f : Nat → Int32) (j : Nat) (e : Ev2), E[j]? = some e → rz g r E f (r + j) = g e
  | [], _, _, _, _, h => by cases h
  | x :: E, r, f, 0, e, h => by
    have h : some x = some e := h
    show rz g (r + 1) E (up1 f r (g x)) (r + 0) = g e
    rw [rz_o g E (r + 1) _ (r + 0) (by omega), Nat.add_zero, up1_at, Option.some.inj h]
  | x :: E, r, f, j + 1, e, h => by
    have h : E[j]? = some e := h
    show rz g (r + 1) E (up1 f r (g x)) (r + (j + 1)) = g e
    rw [show r + (j + 1) = r + 1 + j by omega]
    exact rz_i g E (r + 1) _ j e h
/-- he sets out: now n, m minutes, to p -/
noncomputable def sOut (n m p : Int32) (M : Nat → Int32) : Nat → Int32 := up1 (up1 (up1 M 6 p) 7 (n + m)) 5 (-1)
/-- the next of his rows is settled -/
noncomputable def sRow (e : Ev2) (M : Nat → Int32) : Nat → Int32 := up1 (up1 M 11 (M 11 + 1)) (if e.1 = 1 then 15 else 16) (M (if e.1 = 1 then 15 else 16) + 1)
noncomputable def fFree (M : Nat → Int32) : Nat → Int32 := up1 (up1 M 4 0) 7 (-1)
noncomputable def fHome (n : Int32) (w : Int32 → Int32 → Int32) (M : Nat → Int32) : Nat → Int32 := if 0 < w (M 5) (M 3) then sOut n (w (M 5) (M 3)) (M 3) (up1 M 4 2) else fFree (up1 (up1 M 4 2) 5 (M 3))
/-- he came to a point, due at u: does he wait, how is he then, what is the point -/
noncomputable def fPt (n u : Int32) (M : Nat → Int32) : Bool × (Nat → Int32) × Ev2 := if n ≤ u then (if u ≤ n then (false, sRow (1, -1) M, (1, -1)) else (true, up1 (sRow (1, -1) M) 7 u, (1, -1))) else (false, sRow (2, 1) M, (2, 1))
/-- one step: does it take time, how is he then, which points were settled -/
noncomputable def fOne (n : Int32) (w : Int32 → Int32 → Int32) (x : Sp3) (M : Nat → Int32) : Bool × (Nat → Int32) × List Ev2 := if x.1 = 1 then (true, up1 M 7 (n + x.2.1), []) else if x.1 = 3 then (true, up1 M 7 (n + 1), []) else if 0 < w (M 5) x.2.1 then (true, sOut n (w (M 5) x.2.1) x.2.1 M, []) else if x.1 = 2 then (if w (M 5) x.2.1 = -1 then (false, sRow (2, 2) M, [(2, 2)]) else ((fPt n (M 10 + x.2.2) M).1, (fPt n (M 10 + x.2.2) M).2.1, [(fPt n (M 10 + x.2.2) M).2.2])) else (false, M, [])
/-- steps one behind the other, up to one that takes time -/
noncomputable def fSt (n : Int32) (w : Int32 → Int32 → Int32) : List Sp3 → (Nat → Int32) → (Nat → Int32) × List Ev2
  | [], M => (fHome n w M, [])
  | x :: L, M => if (fOne n w x M).1 = true then ((fOne n w x M).2.1, (fOne n w x M).2.2) else ((fSt n w L (up1 (fOne n w x M).2.1 9 ((fOne n w x M).2.1 9 + 1))).1, (fOne n w x M).2.2 ++ (fSt n w L (up1 (fOne n w x M).2.1 9 ((fOne n w x M).2.1 9 + 1))).2)
/-- one who is drawn is at a place -/
noncomputable def fDr (n : Int32) (w : Int32 → Int32 → Int32) (M : Nat → Int32) : Nat → Int32 := if 0 < w (M 5) (M 13) then sOut n (w (M 5) (M 13)) (M 13) M else if M 5 = M 13 ∧ n < M 14 then up1 M 7 (M 14) else fHome n w M
/-- as he comes, or wakes -/
noncomputable def fCm (M : Nat → Int32) : Nat → Int32 := if M 6 = -1 then up1 M 7 (-1) else up1 (up1 (up1 M 6 (-1)) 5 (M 6)) 7 (-1)
/-- the step x of one who came (or not) is over, or he waits at a point -/
noncomputable def fEn (n : Int32) (x : Sp3) (came : Bool) (M : Nat → Int32) : Bool × (Nat → Int32) × List Ev2 := if x.1 = 2 ∧ came = true then ((fPt n (M 10 + x.2.2) M).1, (fPt n (M 10 + x.2.2) M).2.1, [(fPt n (M 10 + x.2.2) M).2.2]) else (false, M, [])
noncomputable def fNx (n : Int32) (w : Int32 → Int32 → Int32) (L : List Sp3) (o : Bool × (Nat → Int32) × List Ev2) : (Nat → Int32) × List Ev2 := if o.1 = true then (o.2.1, o.2.2) else ((fSt n w L (up1 o.2.1 9 (o.2.1 9 + 1))).1, o.2.2 ++ (fSt n w L (up1 o.2.1 9 (o.2.1 9 + 1))).2)
/-- what he went, waited or looked for is over: x the step, L the steps behind it -/
noncomputable def fGo (n : Int32) (w : Int32 → Int32 → Int32) (x : Sp3) (L : List Sp3) (M : Nat → Int32) : (Nat → Int32) × List Ev2 := if M 4 = 1 then fNx n w L (fEn n x (decide (¬ M 6 = -1)) (fCm M)) else if M 4 = 2 then (fFree (fCm M), []) else if M 4 = 3 then (fDr n w (fCm M), []) else (fCm M, [])
/-! slots that none of these touches -/
theorem sOut_k {n m p : Int32} {M : Nat → Int32} {k : Nat} (a : k ≠ 5) (b : k ≠ 6) (c : k ≠ 7) : sOut n m p M k = M k := by
  unfold sOut
  rw [up1_ne a, up1_ne c, up1_ne b]
theorem sRow_k {e : Ev2} {M : Nat → Int32} {k : Nat} (a : k ≠ 11) (b : k ≠ 15) (c : k ≠ 16) : sRow e M k = M k := by
  unfold sRow
  rw [up1_ne (by split <;> assumption), up1_ne a]
theorem sRow_11 {e : Ev2} {M : Nat → Int32} : sRow e M 11 = M 11 + 1 := by
  unfold sRow
  rw [up1_ne (by split <;> decide), up1_at]
theorem fFree_k {M : Nat → Int32} {k : Nat} (a : k ≠ 4) (b : k ≠ 7) : fFree M k = M k := by
  unfold fFree
  rw [up1_ne b, up1_ne a]
theorem fHome_k {n : Int32} {w : Int32 → Int32 → Int32} {M : Nat → Int32} {k : Nat} (a : k ≠ 4) (b : k ≠ 5) (c : k ≠ 6) (e : k ≠ 7) : fHome n w M k = M k := by
  unfold fHome
  split
  · rw [sOut_k b c e, up1_ne a]
  · rw [fFree_k a e, up1_ne b, up1_ne a]
theorem fPt_k {n u : Int32} {M : Nat → Int32} {k : Nat} (a : k ≠ 7) (b : k ≠ 11) (c : k ≠ 15) (e : k ≠ 16) : (fPt n u M).2.1 k = M k := by
  unfold fPt
  split
  · split
    · exact sRow_k b c e
    · show up1 (sRow (1, -1) M) 7 u k = M k
      rw [up1_ne a]
      exact sRow_k b c e
  · exact sRow_k b c e
theorem fPt_11 {n u : Int32} {M : Nat → Int32} : (fPt n u M).2.1 11 = M 11 + 1 := by
  unfold fPt
  split
  · split
    · show sRow (1, -1) M 11 = M 11 + 1
      exact sRow_11
    · show up1 (sRow (1, -1) M) 7 u 11 = M 11 + 1
      rw [up1_ne (by decide)]
      exact sRow_11
  · show sRow (2, 1) M 11 = M 11 + 1
    exact sRow_11
theorem fOne_k {n : Int32} {w : Int32 → Int32 → Int32} {x : Sp3} {M : Nat → Int32} {k : Nat} (a : k ≠ 5) (b : k ≠ 6) (c : k ≠ 7) (d : k ≠ 11) (e : k ≠ 15) (f : k ≠ 16) : (fOne n w x M).2.1 k = M k := by
  unfold fOne
  split
  · exact up1_ne c
  · split
    · exact up1_ne c
    · split
      · exact sOut_k a b c
      · split
        · split
          · exact sRow_k d e f
          · exact fPt_k c d e f
        · rfl
/-- how many rows a step settles -/
theorem fOne_11 {n : Int32} {w : Int32 → Int32 → Int32} {x : Sp3} {M : Nat → Int32} : ((fOne n w x M).2.2 = [] ∧ (fOne n w x M).2.1 11 = M 11 ∧ ((fOne n w x M).1 = false → ¬ x.1 = 2)) ∨ (x.1 = 2 ∧ (fOne n w x M).2.2.length = 1 ∧ (fOne n w x M).2.1 11 = M 11 + 1) := by
  unfold fOne
  split
  · refine Or.inl ⟨rfl, ?_, fun y => by cases y⟩
    show up1 M 7 (n + x.2.1) 11 = M 11
    exact up1_ne (by decide)
  · split
    · refine Or.inl ⟨rfl, ?_, fun y => by cases y⟩
      show up1 M 7 (n + 1) 11 = M 11
      exact up1_ne (by decide)
    · split
      · refine Or.inl ⟨rfl, ?_, fun y => by cases y⟩
        show sOut n (w (M 5) x.2.1) x.2.1 M 11 = M 11
        exact sOut_k (by decide) (by decide) (by decide)
      · split
        · rename_i e
          split
          · refine Or.inr ⟨e, rfl, ?_⟩
            show sRow (2, 2) M 11 = M 11 + 1
            exact sRow_11
          · refine Or.inr ⟨e, rfl, ?_⟩
            show (fPt n (M 10 + x.2.2) M).2.1 11 = M 11 + 1
            exact fPt_11
        · rename_i e
          exact Or.inl ⟨rfl, rfl, fun _ => e⟩
/-! MEN, the class: frames, and what its methods do to one man (cell c) -/
noncomputable def wgM : List Nat := 51999 :: 52999 :: 53999 :: wz_X11_look
noncomputable def Gw (c : Nat) (ws : List Nat) (h h' : Hp_) : Prop := h_sh h' = h_sh h ∧ ∀ b k, inw ws b k = false → h_r h' b k = h_r h b k ∧ (¬ (b = 0 ∧ k = 14) → h_l h' b k = h_l h b k) ∧ (b ≠ c → h_i h' b k = h_i h b k)
theorem Gw.rf (c : Nat) (ws : List Nat) (h : Hp_) : Gw c ws h h := ⟨rfl, fun _ _ _ => ⟨rfl, fun _ => rfl, fun _ => rfl⟩⟩
theorem Gw.tr {c : Nat} {ws : List Nat} {h h1 h2 : Hp_} (a : Gw c ws h h1) (b : Gw c ws h1 h2) : Gw c ws h h2 := ⟨b.1.trans a.1, fun x k o => ⟨(b.2 x k o).1.trans (a.2 x k o).1, fun n => ((b.2 x k o).2.1 n).trans ((a.2 x k o).2.1 n), fun n => ((b.2 x k o).2.2 n).trans ((a.2 x k o).2.2 n)⟩⟩
theorem Gw.i {c : Nat} {ws : List Nat} {h h' : Hp_} (g : Gw c ws h h') (b k : Nat) (n : b ≠ c) (o : inw ws b k = false) : h_i h' b k = h_i h b k := (g.2 b k o).2.2 n
theorem Gw.imc {c k : Nat} {ws : List Nat} {h0 h : Hp_} {x : Int32} (g : Gw c ws h0 h) : Gw c ws h0 (h_im h c k x) := ⟨g.1, fun b j o => ⟨(g.2 b j o).1, (g.2 b j o).2.1, fun n => by rw [im_ne n]; exact (g.2 b j o).2.2 n⟩⟩
theorem Gw.im {c a k : Nat} {ws : List Nat} {h0 h : Hp_} {x : Int32} (g : Gw c ws h0 h) (w : ∀ k, inw ws a k = true) : Gw c ws h0 (h_im h a k x) := ⟨g.1, fun b j o => ⟨(g.2 b j o).1, (g.2 b j o).2.1, fun n => by
  rw [h_i_im, if_neg (fun e => by rw [e.1, w] at o; cases o)]
  exact (g.2 b j o).2.2 n⟩⟩
theorem Gw.lm {c : Nat} {ws : List Nat} {h0 h : Hp_} {x : Int64} (g : Gw c ws h0 h) : Gw c ws h0 (h_lm h 0 14 x) := ⟨g.1, fun b j o => ⟨(g.2 b j o).1, fun n => by rw [h_l_lm, if_neg n]; exact (g.2 b j o).2.1 n, (g.2 b j o).2.2⟩⟩
theorem Gw.fr {c : Nat} {ws : List Nat} {h h' : Hp_} (f : Fr ws h h') : Gw c ws h h' := ⟨f.1, fun b k o => ⟨(f.2 b k o).2.2, fun _ => (f.2 b k o).2.1, fun _ => (f.2 b k o).1⟩⟩
theorem mIv {h : Hp_} (I : Iv h) {c : Nat} (h1 : 401 ≤ c) (h2 : c ≤ 412) (k : Nat) (x : Int32) : Iv (h_im h c k x) := I.im (by rw [tf_cn h1 h2, tfa_tf (show tfa 401 = some rtop by decide +kernel)]; exact rtop_in _) (jw_jr (by omega) (by
  unfold jr
  have n : ∀ {y : Nat}, y < 401 → Nat.beq c y = false := fun {y} z => by
    cases e : Nat.beq c y with
    | true => exact absurd (Nat.eq_of_beq_eq_true e) (by omega)
    | false => rfl
  rw [n (by omega), n (by omega), n (by omega), n (by omega)]
  rfl) _)
/-- where all are now, packed, when a man is put at x -/
noncomputable def hereN (h : Hp_) (c : Nat) (x : Int32) : Int64 := if x = -1 then (((h_l h 0 14) &&& (((31 : Int64) <<< (((5 * (h_i h c 0)) : Int32).toInt64 &&& 63)) ^^^ (-1 : Int64))) ||| ((17 : Int64) <<< (((5 * (h_i h c 0)) : Int32).toInt64 &&& 63))) else (((h_l h 0 14) &&& (((31 : Int64) <<< (((5 * (h_i h c 0)) : Int32).toInt64 &&& 63)) ^^^ (-1 : Int64))) ||| ((((x + 1) : Int32).toInt64) <<< (((5 * (h_i h c 0)) : Int32).toInt64 &&& 63)))
section MEN
variable {β : Type} {PB : β → Hp_ → Prop} {tB : Int32 → Int32 → β → β} {lB : Nat → Hp_ → β → β}
/-- what else is kept: by stores into a man and the points' rows, when a man is put, by tellNoted and look -/
noncomputable def PBok {β : Type} (PB : β → Hp_ → Prop) (tB : Int32 → Int32 → β → β) (lB : Nat → Hp_ → β → β) : Prop :=
  (∀ b h a k x, ((401 ≤ a ∧ a ≤ 412 ∧ 4 ≤ k ∧ k ≠ 5) ∨ (47 ≤ a ∧ a ≤ 53) ∨ (a = 16 ∧ k = 7)) → PB b h → PB b (h_im h a k x)) ∧
  (∀ b h c x, Cn h c → PB b h → PB b (h_lm (h_im h c 5 x) 0 14 (hereN h c x))) ∧
  (∀ d b h x1 x2, Iv h → (0 ≤ x2.toInt ∧ x2.toInt ≤ 20000) → PB b h → Cv (m_X4_tellNoted (d + 0) 0 0) [.ref 17, .int x1, .int x2] h (fun h' => Iv h' ∧ Fr wz_X11_look h h' ∧ PB (tB x1 x2 b) h')) ∧
  (∀ d b h c, Iv h → Cn h c → PB b h → Cv (m_X11_look (d + 5) 0 0) [.ref 0, .ref c] h (fun h' => Iv h' ∧ Fr wz_X11_look h h' ∧ PB (lB c h b) h'))
theorem c_mn (d : Nat) {h : Hp_} (I : Iv h) (a b : Int32) : Ci (m_X9_minutes (d + 1) 0 0) [.ref 10, .int a, .int b] h (fun r h' => h' = h ∧ r = wI h a b) := by
  refine t_X9_minutes d h a b _ (Ci.mono (s_X11_isPlace _ h a) (fun r h3 q => ?_))
  obtain ⟨er, eh⟩ := q
  subst er eh
  unfold wI
  refine ⟨I.1, fun z => ⟨rfl, ?_⟩, fun z => Ci.mono (s_X11_isPlace _ _ b) (fun r h4 q => ?_)⟩
  · rw [if_neg (fun y => bI_0.mp z y.1)]
  · obtain ⟨er, eh⟩ := q
    subst er eh
    have b1 : 0 ≤ a ∧ a < 16 := Decidable.byContradiction (fun n => z (bI_0.mpr n))
    refine ⟨I.1, fun z2 => ?_, fun z2 => ⟨rfl, ?_⟩⟩
    · have b2 : 0 ≤ b ∧ b < 16 := Decidable.byContradiction (fun n => z2 (bI_0.mpr n))
      have t16 : (16 : Int32).toInt = 16 := rfl
      have t0 : (0 : Int32).toInt = 0 := rfl
      have u1 := q_le.mp b1.1
      have u2 := q_lt.mp b1.2
      have u3 := q_le.mp b2.1
      have u4 := q_lt.mp b2.2
      have na := n_nat (x := a) (by omega)
      have nb := n_nat (x := b) (by omega)
      have k := i256 (i := a.toNatClampNeg) (j := b.toNatClampNeg) (by omega) (by omega)
      rw [of_nat32 (by omega), of_nat32 (by omega)] at k
      refine ⟨k.2, ?_⟩
      rw [k.1]
      exact ⟨fun c => ⟨rfl, by rw [if_pos ⟨b1, b2⟩, if_pos c]⟩, fun c => ⟨rfl, by rw [if_pos ⟨b1, b2⟩, if_neg c]⟩⟩
    · rw [if_neg (fun y => bI_0.mp z2 y.2)]
theorem c_put (P : PBok PB tB lB) (d : Nat) {h : Hp_} (I : Iv h) {c : Nat} (hc : Cn h c) {b : β} (B : PB b h) (x2 : Int32) : Cv (m_X11_putAt (d + 0) 0 0) [.ref 0, .ref c, .int x2] h (fun h' => Iv h' ∧ Gw c wgM h h' ∧ h_i h' c = up1 (h_i h c) 5 x2 ∧ (∀ a, a ≠ c → h_i h' a = h_i h a) ∧ PB b h') := by
  have c1 := hc.1
  have Q := P.2.1 b h c x2 hc B
  unfold hereN at Q
  refine t_X11_putAt d h I.1 c hc.2.2 (by omega) x2 _ ⟨fun n => ?_, fun e => ?_⟩
  · rw [if_neg n] at Q
    exact ⟨(mIv I hc.1 hc.2.1 5 x2).lm, ((Gw.rf c wgM h).imc).lm, im_row h c 5 x2, fun a n => im_oth n, Q⟩
  · rw [if_pos e] at Q
    exact ⟨(mIv I hc.1 hc.2.1 5 x2).lm, ((Gw.rf c wgM h).imc).lm, im_row h c 5 x2, fun a n => im_oth n, Q⟩
/-- from h to h': the man is M', the rows from r on take E -/
noncomputable def Sxm (PB : β → Hp_ → Prop) (c : Nat) (n : Int32) (M' : Nat → Int32) (r : Nat) (E : List Ev2) (b' : β) (h h' : Hp_) : Prop := Iv h' ∧ Gw c wgM h h' ∧ h_i h' c = M' ∧ (h_i h' 51 = rz Prod.fst r E (h_i h 51) ∧ h_i h' 52 = rz (fun _ => n) r E (h_i h 52) ∧ h_i h' 53 = rz Prod.snd r E (h_i h 53)) ∧ PB b' h'
theorem Sxm.tr {c : Nat} {n : Int32} {M1 M2 : Nat → Int32} {r r' : Nat} {E1 E2 : List Ev2} {b1 b2 : β} {h h1 h2 : Hp_} (a : Sxm PB c n M1 r E1 b1 h h1) (b : Sxm PB c n M2 r' E2 b2 h1 h2) (e : r' = r + E1.length) : Sxm PB c n M2 r (E1 ++ E2) b2 h h2 := ⟨b.1, a.2.1.tr b.2.1, b.2.2.1, ⟨by rw [b.2.2.2.1.1, a.2.2.2.1.1, e, rz_a], by rw [b.2.2.2.1.2.1, a.2.2.2.1.2.1, e, rz_a], by rw [b.2.2.2.1.2.2, a.2.2.2.1.2.2, e, rz_a]⟩, b.2.2.2.2⟩
theorem Cn.of {h h' : Hp_} {c : Nat} (hc : Cn h c) (e : h_sh h' = h_sh h) : Cn h' c := ⟨hc.1, hc.2.1, by rw [e]; exact hc.2.2⟩
theorem Sxm.cn {c : Nat} {n : Int32} {M' : Nat → Int32} {r : Nat} {E : List Ev2} {b' : β} {h h' : Hp_} (s : Sxm PB c n M' r E b' h h') (hc : Cn h c) : Cn h' c := hc.of s.2.1.1
/-- what the walks and the hour hang on stays -/
theorem Gw.k {c : Nat} {h h' : Hp_} (g : Gw c wgM h h') (hc : 401 ≤ c) : (∀ a b, wI h' a b = wI h a b) ∧ h_i h' 0 0 = h_i h 0 0 ∧ h_i h' 0 7 = h_i h 0 7 ∧ h_i h' 16 7 = h_i h 16 7 ∧ h_i h' 12 3 = h_i h 12 3 ∧ (∀ k, h_i h' 34 k = h_i h 34 k) ∧ (∀ k, h_i h' 35 k = h_i h 35 k) := by
  have e30 : ∀ k, h_i h' 30 k = h_i h 30 k := fun k => g.i 30 k (by omega) (off_inw (by decide +kernel) k)
  refine ⟨fun a b => ?_, g.i 0 0 (by omega) (by decide +kernel), g.i 0 7 (by omega) (by decide +kernel), g.i 16 7 (by omega) (by decide +kernel), g.i 12 3 (by omega) (by decide +kernel), fun k => g.i 34 k (by omega) (off_inw (by decide +kernel) k), fun k => g.i 35 k (by omega) (off_inw (by decide +kernel) k)⟩
  unfold wI
  rw [e30]
theorem c_so (P : PBok PB tB lB) (d : Nat) {h : Hp_} (I : Iv h) {c : Nat} (hc : Cn h c) {b : β} (B : PB b h) (x2 : Int32) (r : Nat) : Ci (m_X11_setsOut (d + 2) 0 0) [.ref 0, .ref c, .int x2] h (fun q h' => (0 < wI h (h_i h c 5) x2 → q = 1 ∧ Sxm PB c (h_i h 0 0) (sOut (h_i h 0 0) (wI h (h_i h c 5) x2) x2 (h_i h c)) r [] b h h') ∧ (¬ 0 < wI h (h_i h c 5) x2 → q = 0 ∧ h' = h)) := by
  have c1 := hc.1
  have c2 := hc.2.1
  refine t_X11_setsOut d h I.1 c hc.2.2 (by omega) x2 _ (Ci.mono (c_mn d I (h_i h c 5) x2) (fun q h1 k => ?_))
  obtain ⟨eh, eq⟩ := k
  subst eh eq
  refine ⟨I.1, hc.2.2, fun y => ?_, fun n => ⟨fun y => absurd y n, fun _ => ⟨rfl, rfl⟩⟩⟩
  have I2 : Iv (h_im (h_im h1 c 6 x2) c 7 (h_i h1 0 0 + wI h1 (h_i h1 c 5) x2)) := mIv (mIv I c1 c2 6 x2) c1 c2 7 _
  have B2 : PB b (h_im (h_im h1 c 6 x2) c 7 (h_i h1 0 0 + wI h1 (h_i h1 c 5) x2)) := P.1 _ _ _ _ _ (Or.inl ⟨c1, c2, by decide⟩) (P.1 _ _ _ _ _ (Or.inl ⟨c1, c2, by decide⟩) B)
  refine Cv.mono (c_put P d I2 (hc.of rfl) B2 (-1)) (fun h' k => ⟨k.1.1, fun _ => ⟨rfl, k.1, (((Gw.rf c wgM h1).imc).imc).tr k.2.1, ?_, ⟨?_, ?_, ?_⟩, k.2.2.2.2⟩, fun n => absurd y n⟩)
  · rw [k.2.2.1, im_row, im_row]
    rfl
  · rw [k.2.2.2.1 51 (by omega), im_oth (by omega), im_oth (by omega)]
    rfl
  · rw [k.2.2.2.1 52 (by omega), im_oth (by omega), im_oth (by omega)]
    rfl
  · rw [k.2.2.2.1 53 (by omega), im_oth (by omega), im_oth (by omega)]
    rfl
theorem c_sr (P : PBok PB tB lB) (d : Nat) {h : Hp_} (I : Iv h) {c : Nat} (hc : Cn h c) {b : β} (B : PB b h) (x2 x3 : Int32) (lo : 0 ≤ (h_i h c 11).toInt) (l1 : (h_i h c 11).toInt < (h_i h c 12).toInt) (l2 : (h_i h c 12).toInt ≤ (h_i h 16 7).toInt) : Cv (m_X11_settleRow (d + 1) 0 0) [.ref 0, .ref c, .int x2, .int x3] h (fun h' => Sxm PB c (h_i h 0 0) (sRow (x2, x3) (h_i h c)) (h_i h c 11).toNatClampNeg [(x2, x3)] b h h') := by
  have c1 := hc.1
  have c2 := hc.2.1
  have t0 : (0 : Int32).toInt = 0 := rfl
  have rg := I.2.1 16 7
  rw [show tf 16 7 = (0, 400) by decide +kernel] at rg
  have r4 : (h_i h 16 7).toInt ≤ 400 := rg.2
  have v : vp_in (h_i h c 11) 400 := dp_in (lo := 0) (hi := 399) ⟨lo, by show _ ≤ (399 : Int); omega⟩ (by decide) (by decide)
  have n51 : c ≠ 51 := by omega
  have n52 : c ≠ 52 := by omega
  have n53 : c ≠ 53 := by omega
  refine t_X11_settleRow d h I.1 c hc.2.2 (by omega) x2 x3 _ ⟨fun y => ?_, fun _ => t_X7_settle d h I.1 _ x2 x3 _ _ ⟨fun y => ?_, fun _ => ⟨fun y => ?_, fun _ => ⟨v, v, v, ?_⟩⟩⟩⟩
  · have y := q_le.mp y
    omega
  · have y := q_lt.mp y
    omega
  · have y := q_le.mp y
    omega
  · have I3 : Iv (h_im (h_im (h_im h 51 (h_i h c 11).toNatClampNeg x2) 53 (h_i h c 11).toNatClampNeg x3) 52 (h_i h c 11).toNatClampNeg (h_i h 0 0)) := tr_ 52 (by decide +kernel) (tr_ 53 (by decide +kernel) (tr_ 51 (by decide +kernel) I _ _ (by decide) (by decide)) _ _ (by decide) (by decide)) _ _ (by decide) (by decide)
    have B3 : PB b (h_im (h_im (h_im h 51 (h_i h c 11).toNatClampNeg x2) 53 (h_i h c 11).toNatClampNeg x3) 52 (h_i h c 11).toNatClampNeg (h_i h 0 0)) := P.1 _ _ _ _ _ (Or.inr (Or.inl ⟨by decide, by decide⟩)) (P.1 _ _ _ _ _ (Or.inr (Or.inl ⟨by decide, by decide⟩)) (P.1 _ _ _ _ _ (Or.inr (Or.inl ⟨by decide, by decide⟩)) B))
    have ec : h_i (h_im (h_im (h_im h 51 (h_i h c 11).toNatClampNeg x2) 53 (h_i h c 11).toNatClampNeg x3) 52 (h_i h c 11).toNatClampNeg (h_i h 0 0)) c = h_i h c := by rw [im_oth n52, im_oth n53, im_oth n51]
    have G3 : Gw c wgM h (h_im (h_im (h_im h 51 (h_i h c 11).toNatClampNeg x2) 53 (h_i h c 11).toNatClampNeg x3) 52 (h_i h c 11).toNatClampNeg (h_i h 0 0)) := (((Gw.rf c wgM h).im (fun k => inw_row (by decide +kernel) k)).im (fun k => inw_row (by decide +kernel) k)).im (fun k => inw_row (by decide +kernel) k)
    rw [ec]
    generalize hg : h_im (h_im (h_im h 51 (h_i h c 11).toNatClampNeg x2) 53 (h_i h c 11).toNatClampNeg x3) 52 (h_i h c 11).toNatClampNeg (h_i h 0 0) = g at *
    have g51 : h_i g 51 = up1 (h_i h 51) (h_i h c 11).toNatClampNeg x2 := by rw [← hg, im_oth (by decide), im_oth (by decide), im_row]
    have g53 : h_i g 53 = up1 (h_i h 53) (h_i h c 11).toNatClampNeg x3 := by rw [← hg, im_oth (by decide), im_row, im_oth (by decide)]
    have g52 : h_i g 52 = up1 (h_i h 52) (h_i h c 11).toNatClampNeg (h_i h 0 0) := by rw [← hg, im_row, im_oth (by decide), im_oth (by decide)]
    refine ⟨I3.1, by rw [G3.1]; exact hc.2.2, fun n1 => ?_, fun y1 => ?_⟩
    · refine ⟨mIv (mIv I3 c1 c2 11 _) c1 c2 16 _, (G3.imc).imc, ?_, ⟨?_, ?_, ?_⟩, P.1 _ _ _ _ _ (Or.inl ⟨c1, c2, by decide⟩) (P.1 _ _ _ _ _ (Or.inl ⟨c1, c2, by decide⟩) B3)⟩
      · rw [im_row, im_row, ec]
        unfold sRow
        rw [if_neg n1]
      · rw [im_oth (by omega), im_oth (by omega)]
        exact g51
      · rw [im_oth (by omega), im_oth (by omega)]
        exact g52
      · rw [im_oth (by omega), im_oth (by omega)]
        exact g53
    · refine ⟨mIv (mIv I3 c1 c2 11 _) c1 c2 15 _, (G3.imc).imc, ?_, ⟨?_, ?_, ?_⟩, P.1 _ _ _ _ _ (Or.inl ⟨c1, c2, by decide⟩) (P.1 _ _ _ _ _ (Or.inl ⟨c1, c2, by decide⟩) B3)⟩
      · rw [im_row, im_row, ec]
        unfold sRow
        rw [if_pos y1]
      · rw [im_oth (by omega), im_oth (by omega)]
        exact g51
      · rw [im_oth (by omega), im_oth (by omega)]
        exact g52
      · rw [im_oth (by omega), im_oth (by omega)]
        exact g53
theorem inw_man {c : Nat} (h1 : 401 ≤ c) (h2 : c ≤ 412) (k : Nat) : inw wgM c k = false := by
  have e : cn c = cn 401 := by
    have q := cn_man (j := c - 401) (by omega)
    rw [show 401 + (c - 401) = c by omega] at q
    rw [q]
    decide
  rw [inw_ce e]
  exact off_inw (by decide +kernel) k
/-- tellNoted and look: the man and the points' rows stay -/
theorem Sxm.fr {c : Nat} {n : Int32} {M : Nat → Int32} {r : Nat} {E : List Ev2} {b b' : β} {h h1 h2 : Hp_} (hc : Cn h c) (s : Sxm PB c n M r E b h h1) (I : Iv h2) (f : Fr wz_X11_look h1 h2) (B : PB b' h2) : Sxm PB c n M r E b' h h2 := by
  have c1 := hc.1
  have c2 := hc.2.1
  have g : Fr wgM h1 h2 := f.more (by decide +kernel)
  refine ⟨I, s.2.1.tr (Gw.fr g), ?_, ⟨?_, ?_, ?_⟩, B⟩
  · rw [← s.2.2.1]
    exact funext (fun k => (g.2 c k (inw_man c1 c2 k)).1)
  · rw [← s.2.2.2.1.1]
    exact funext (fun k => fr_i f (by decide +kernel) k)
  · rw [← s.2.2.2.1.2.1]
    exact funext (fun k => fr_i f (by decide +kernel) k)
  · rw [← s.2.2.2.1.2.2]
    exact funext (fun k => fr_i f (by decide +kernel) k)
theorem Sxm.rf {c : Nat} {n : Int32} {r : Nat} {b : β} {h : Hp_} (I : Iv h) (B : PB b h) : Sxm PB c n (h_i h c) r [] b h h := ⟨I, Gw.rf _ _ _, rfl, ⟨rfl, rfl, rfl⟩, B⟩
theorem Sxm.im (P : PBok PB tB lB) {c k : Nat} {n : Int32} {M : Nat → Int32} {r : Nat} {E : List Ev2} {b : β} {h h1 : Hp_} (hc : Cn h c) (s : Sxm PB c n M r E b h h1) (nk : 4 ≤ k ∧ k ≠ 5) (v : Int32) : Sxm PB c n (up1 M k v) r E b h (h_im h1 c k v) := by
  have c1 := hc.1
  have c2 := hc.2.1
  exact ⟨mIv s.1 c1 c2 k v, s.2.1.imc, by rw [im_row, s.2.2.1], ⟨by rw [im_oth (by omega)]; exact s.2.2.2.1.1, by rw [im_oth (by omega)]; exact s.2.2.2.1.2.1, by rw [im_oth (by omega)]; exact s.2.2.2.1.2.2⟩, P.1 _ _ _ _ _ (Or.inl ⟨c1, c2, nk⟩) s.2.2.2.2⟩
theorem wI_im {h : Hp_} {c k : Nat} {x : Int32} (n : c ≠ 30) : wI (h_im h c k x) = wI h := by
  funext a b
  unfold wI
  rw [im_ne (Ne.symm n)]
theorem wI_eq {c : Nat} {h h' : Hp_} (g : Gw c wgM h h') (hc : 401 ≤ c) : wI h' = wI h := by
  funext a b
  exact (g.k hc).1 a b
theorem now_in {h : Hp_} (I : Iv h) : 0 ≤ (h_i h 0 0).toInt ∧ (h_i h 0 0).toInt ≤ 20000 := by
  have rg := I.2.1 0 0
  rw [show tf 0 0 = (0, 20000) by decide +kernel] at rg
  exact ⟨rg.1, rg.2⟩
theorem c_wp (P : PBok PB tB lB) (d : Nat) {h : Hp_} (I : Iv h) {c : Nat} (hc : Cn h c) {b : β} (B : PB b h) (x2 u : Int32) (eu : h_i h c 10 + (x2 >>> ((6 : Int32) &&& 31)) = u) (lo : 0 ≤ (h_i h c 11).toInt) (l1 : (h_i h c 11).toInt < (h_i h c 12).toInt) (l2 : (h_i h c 12).toInt ≤ (h_i h 16 7).toInt) : Ci (m_X11_waitsAtPoint (d + 2) 0 0) [.ref 0, .ref c, .int x2] h (fun q h' => q = (if (fPt (h_i h 0 0) u (h_i h c)).1 = true then 1 else 0) ∧ Sxm PB c (h_i h 0 0) (fPt (h_i h 0 0) u (h_i h c)).2.1 (h_i h c 11).toNatClampNeg [(fPt (h_i h 0 0) u (h_i h c)).2.2] b h h') := by
  have c1 := hc.1
  refine t_X11_waitsAtPoint d h c hc.2.2 (by omega) x2 _ (t_X0_amountOf d h x2 _ ⟨I.1, hc.2.2, ?_⟩)
  rw [eu]
  refine ⟨fun y => Cv.mono (c_sr P d I hc B 1 (-1) lo l1 l2) (fun h' k => ?_), fun y => Cv.mono (c_sr P d I hc B 2 1 lo l1 l2) (fun h' k => ⟨k.1.1, ?_⟩)⟩
  · have e0 := (k.2.1.k c1).2.1
    rw [e0]
    refine ⟨k.1.1, (k.cn hc).2.2, fun z => ?_, fun z => ?_⟩
    · unfold fPt
      rw [if_pos y, if_pos z]
      exact ⟨rfl, k⟩
    · unfold fPt
      rw [if_pos y, if_neg z]
      exact ⟨rfl, k.im P hc (by decide) u⟩
  · unfold fPt
    rw [if_neg y]
    exact ⟨rfl, k⟩
noncomputable def fB (tB : Int32 → Int32 → β → β) (n : Int32) (M : Nat → Int32) (b : β) : β := if M 4 = 0 then tB (M 0) n b else b
theorem c_sf (P : PBok PB tB lB) (d : Nat) {h : Hp_} (I : Iv h) {c : Nat} (hc : Cn h c) {b : β} (B : PB b h) (r : Nat) : Cv (m_X11_setFree (d + 1) 0 0) [.ref 0, .ref c] h (fun h' => Sxm PB c (h_i h 0 0) (fFree (h_i h c)) r [] (tB (h_i h c 0) (h_i h 0 0) b) h h') := by
  have c1 := hc.1
  have s : Sxm PB c (h_i h 0 0) (fFree (h_i h c)) r [] b h (h_im (h_im h c 4 0) c 7 (-1)) := ((Sxm.rf I B).im P hc (by decide) 0).im P hc (by decide) (-1)
  refine t_X11_setFree d h I.1 c hc.2.2 (by omega) _ (Cv.mono (P.2.2.1 d b _ (h_i h c 0) (h_i h 0 0) s.1 (now_in I) s.2.2.2.2) (fun h' k => ⟨k.1.1, s.fr hc k.1 k.2.1 k.2.2⟩))
theorem c_gh (P : PBok PB tB lB) (d : Nat) {h : Hp_} (I : Iv h) {c : Nat} (hc : Cn h c) {b : β} (B : PB b h) (r : Nat) : Cv (m_X11_goHome (d + 3) 0 0) [.ref 0, .ref c] h (fun h' => Sxm PB c (h_i h 0 0) (fHome (h_i h 0 0) (wI h) (h_i h c)) r [] (fB tB (h_i h 0 0) (fHome (h_i h 0 0) (wI h) (h_i h c)) b) h h') := by
  have c1 := hc.1
  have c2 := hc.2.1
  have s : Sxm PB c (h_i h 0 0) (up1 (h_i h c) 4 2) r [] b h (h_im h c 4 2) := (Sxm.rf I B).im P hc (by decide) 2
  have ew : wI (h_im h c 4 2) = wI h := wI_im (by omega)
  have e0 : h_i (h_im h c 4 2) 0 0 = h_i h 0 0 := im_ne (by omega)
  have e5 : up1 (h_i h c) 4 2 5 = h_i h c 5 := up1_ne (by decide)
  have k := c_so P d s.1 (s.cn hc) s.2.2.2.2 (h_i h c 3) r
  rw [ew, e0, s.2.2.1, e5] at k
  refine t_X11_goHome d h I.1 c hc.2.2 (by omega) _ (Ci.mono k (fun q h1 k => ?_))
  by_cases y : 0 < wI h (h_i h c 5) (h_i h c 3)
  · replace k := k.1 y
    obtain ⟨eq, k⟩ := k
    subst eq
    refine ⟨k.1.1, (k.cn (s.cn hc)).2.2, fun _ => ?_, fun e => absurd e (by decide)⟩
    have f : fHome (h_i h 0 0) (wI h) (h_i h c) = sOut (h_i h 0 0) (wI h (h_i h c 5) (h_i h c 3)) (h_i h c 3) (up1 (h_i h c) 4 2) := by
      unfold fHome
      rw [if_pos y]
    have f4 : fB tB (h_i h 0 0) (sOut (h_i h 0 0) (wI h (h_i h c 5) (h_i h c 3)) (h_i h c 3) (up1 (h_i h c) 4 2)) b = b := by
      unfold fB
      rw [sOut_k (by decide) (by decide) (by decide), up1_at, if_neg (by decide)]
    rw [f, f4]
    exact s.tr k rfl
  · obtain ⟨eq, eh⟩ := k.2 y
    subst eq eh
    have e3 : h_i (h_im h c 4 2) c 3 = h_i h c 3 := by rw [im_row, up1_ne (by decide)]
    refine ⟨s.1.1, (s.cn hc).2.2, fun n => absurd rfl n, fun _ => Cv.mono (c_put P d s.1 (s.cn hc) s.2.2.2.2 _) (fun h6 k6 => ?_)⟩
    rw [e3] at k6
    have s6 : Sxm PB c (h_i h 0 0) (up1 (up1 (h_i h c) 4 2) 5 (h_i h c 3)) r [] b h h6 := ⟨k6.1, s.2.1.tr k6.2.1, by rw [k6.2.2.1, s.2.2.1], ⟨by rw [k6.2.2.2.1 51 (by omega)]; exact s.2.2.2.1.1, by rw [k6.2.2.2.1 52 (by omega)]; exact s.2.2.2.1.2.1, by rw [k6.2.2.2.1 53 (by omega)]; exact s.2.2.2.1.2.2⟩, k6.2.2.2.2⟩
    have f : fHome (h_i h 0 0) (wI h) (h_i h c) = fFree (up1 (up1 (h_i h c) 4 2) 5 (h_i h c 3)) := by
      unfold fHome
      rw [if_neg y]
    have z0 : fFree (up1 (up1 (h_i h c) 4 2) 5 (h_i h c 3)) 4 = 0 := by
      unfold fFree
      rw [up1_ne (by decide), up1_at]
    have z1 : fFree (up1 (up1 (h_i h c) 4 2) 5 (h_i h c 3)) 0 = h_i h c 0 := by
      rw [fFree_k (by decide) (by decide), up1_ne (by decide), up1_ne (by decide)]
    have f4 : fB tB (h_i h 0 0) (fFree (up1 (up1 (h_i h c) 4 2) 5 (h_i h c 3))) b = tB (h_i h c 0) (h_i h 0 0) b := by
      unfold fB
      rw [if_pos z0, z1]
    have k9 := c_sf P d s6.1 (s6.cn hc) s6.2.2.2.2 r
    rw [(s6.2.1.k c1).2.1, s6.2.2.1, show up1 (up1 (h_i h c) 4 2) 5 (h_i h c 3) 0 = h_i h c 0 by rw [up1_ne (by decide), up1_ne (by decide)]] at k9
    refine ⟨s6.1.1, (s6.cn hc).2.2, Cv.mono k9 (fun h9 k9 => ⟨k9.1.1, ?_⟩)⟩
    rw [f, f4]
    exact s6.tr k9 rfl
/-- the steps of a beat from the i-th on -/
noncomputable def Stb (h : Hp_) (b0 : Int32) (i : Nat) (L : List Sp3) : Prop := (0 ≤ b0.toInt ∧ b0.toInt ≤ 11) ∧ i + L.length ≤ 150 ∧ ∀ k x, L[k]? = some x → h_i h 34 (150 * b0.toNatClampNeg + (i + k)) = pkS x ∧ stR x
theorem Stb.hd {h : Hp_} {b0 : Int32} {i : Nat} {x : Sp3} {L : List Sp3} (s : Stb h b0 i (x :: L)) : h_i h 34 (150 * b0.toNatClampNeg + i) = pkS x ∧ stR x := s.2.2 0 x rfl
theorem Stb.tl {h : Hp_} {b0 : Int32} {i : Nat} {x : Sp3} {L : List Sp3} (s : Stb h b0 i (x :: L)) : Stb h b0 (i + 1) L := ⟨s.1, by
  have q : i + (L.length + 1) ≤ 150 := s.2.1
  omega, fun k y e => by
  have q := s.2.2 (k + 1) y e
  rw [show i + 1 + k = i + (k + 1) by omega]
  exact q⟩
theorem Stb.cg {h h' : Hp_} {b0 : Int32} {i : Nat} {L : List Sp3} (s : Stb h b0 i L) (e : ∀ k, h_i h' 34 k = h_i h 34 k) : Stb h' b0 i L := ⟨s.1, s.2.1, fun k x q => by rw [e]; exact s.2.2 k x q⟩
theorem stR_k {x : Sp3} (sr : stR x) : x.1 = 0 ∨ x.1 = 1 ∨ x.1 = 2 ∨ x.1 = 3 := by
  rcases sr with q | q | q | q
  · exact Or.inl q.1
  · exact Or.inr (Or.inl q.1)
  · exact Or.inr (Or.inr (Or.inl q.1))
  · exact Or.inr (Or.inr (Or.inr q.1))
theorem c_sa (d : Nat) {h : Hp_} (I : Iv h) {b0 : Int32} {i : Nat} {x : Sp3} {L : List Sp3} (s : Stb h b0 i (x :: L)) : Ci (m_X0_stepAt (d + 0) 0 0) [.ref 12, .int b0, .int (Int32.ofNat i)] h (fun r h' => h' = h ∧ r = pkS x) := by
  have t0 : (0 : Int32).toInt = 0 := rfl
  have t150 : (150 : Int32).toInt = 150 := rfl
  have t1800 : (1800 : Int32).toInt = 1800 := rfl
  have b1 := s.1
  have l : i + (L.length + 1) ≤ 150 := s.2.1
  have oi := on_j (n := i) (by omega)
  have n1 := n_nat b1.1
  have m1 : (b0 * 150).toInt = b0.toInt * 150 := by rw [tx_mul (by rw [t150]; omega) (by rw [t150]; omega), t150]
  have m2 : (b0 * 150 + Int32.ofNat i).toInt = b0.toInt * 150 + (i : Int) := by rw [tx_add (by omega) (by omega), m1, oi]
  have nm := n_nat (x := b0 * 150 + Int32.ofNat i) (by omega)
  have km : (b0 * 150 + Int32.ofNat i).toNatClampNeg = 150 * b0.toNatClampNeg + i := by omega
  refine t_X0_stepAt d h I.1 b0 _ _ ⟨fun z => ?_, fun _ => ⟨fun z => ?_, fun _ => ⟨dp_in (lo := 0) (hi := 1799) ⟨by show (0 : Int) ≤ _; omega, by show _ ≤ (1799 : Int); omega⟩ (by decide) (by decide), rfl, ?_⟩⟩⟩
  · have z := q_lt.mp z
    omega
  · have z := q_le.mp z
    omega
  · rw [km]
    exact s.hd.1
/-- room for m rows more among his own -/
noncomputable def Rok (h : Hp_) (M : Nat → Int32) (m : Nat) : Prop := 0 ≤ (M 11).toInt ∧ (M 11).toInt + (m : Int) ≤ (M 12).toInt ∧ (M 12).toInt ≤ (h_i h 16 7).toInt
theorem c_tt (P : PBok PB tB lB) (d : Nat) {h : Hp_} (I : Iv h) {c : Nat} (hc : Cn h c) {b : β} (B : PB b h) {i : Nat} {x : Sp3} {L : List Sp3} (S : Stb h (h_i h c 8) i (x :: L)) (e9 : h_i h c 9 = Int32.ofNat i) (R : Rok h (h_i h c) (if x.1 = 2 then 1 else 0)) : Ci (m_X11_takesTime (d + 4) 0 0) [.ref 0, .ref c] h (fun q h' => q = (if (fOne (h_i h 0 0) (wI h) x (h_i h c)).1 = true then 1 else 0) ∧ Sxm PB c (h_i h 0 0) (fOne (h_i h 0 0) (wI h) x (h_i h c)).2.1 (h_i h c 11).toNatClampNeg (fOne (h_i h 0 0) (wI h) x (h_i h c)).2.2 b h h') := by
  have c1 := hc.1
  have sr := S.hd.2
  have kd := stR_k sr
  have k := c_sa d I S
  rw [← e9] at k
  refine t_X11_takesTime d h I.1 c hc.2.2 (by omega) _ (Ci.mono k (fun r h1 k => ?_))
  obtain ⟨eh, er⟩ := k
  subst eh er
  refine ⟨I.1, hc.2.2, t_X0_kindOf d h1 _ _ ⟨I.1, hc.2.2, ?_⟩⟩
  rw [pkS_3 kd]
  refine ⟨fun y1 => t_X0_amountOf d h1 _ _ ⟨I.1, hc.2.2, ?_⟩, fun y2 => ?_, fun y3 => ?_, fun yn => ?_⟩
  · rw [pkS_am sr, if_pos y1]
    unfold fOne
    rw [if_pos y1]
    exact ⟨rfl, (Sxm.rf I B).im P hc (by decide) _⟩
  · have ny : ¬ x.1 = 1 := by rw [y2]; decide
    have n3 : ¬ x.1 = 3 := by rw [y2]; decide
    rw [if_pos y2] at R
    refine t_X11_goesToMeet d h1 c hc.2.2 (by omega) _ _ (t_X0_placeOf d h1 _ _ ⟨I.1, hc.2.2, ?_⟩)
    rw [pkS_pl sr ny]
    refine Ci.mono (c_mn d I (h_i h1 c 5) x.2.1) (fun r h2 k => ?_)
    obtain ⟨eh, er⟩ := k
    subst eh er
    refine ⟨I.1, hc.2.2, fun n1 => Ci.mono (c_so P d I hc B x.2.1 (h_i h2 c 11).toNatClampNeg) (fun q h3 k => ?_), fun e1 => Cv.mono (c_sr P d I hc B 2 2 R.1 (by have := R.2.1; omega) R.2.2) (fun h3 k => ⟨k.1.1, k.1.1, Or.inl rfl, ?_⟩)⟩
    · by_cases y : 0 < wI h2 (h_i h2 c 5) x.2.1
      · replace k := k.1 y
        obtain ⟨eq, k⟩ := k
        subst eq
        refine ⟨k.1.1, (k.cn hc).2.2, fun _ => ⟨k.1.1, Or.inr rfl, ?_⟩, fun e => absurd e (by decide)⟩
        unfold fOne
        rw [if_neg ny, if_neg n3, if_pos y]
        exact ⟨rfl, k⟩
      · obtain ⟨eq, eh⟩ := k.2 y
        subst eq eh
        have am := pkS_am sr
        rw [if_neg ny] at am
        refine ⟨I.1, hc.2.2, fun n => absurd rfl n, fun _ => Ci.mono (c_wp P d I hc B (pkS x) (h_i h3 c 10 + x.2.2) (by rw [am]) R.1 (by have := R.2.1; omega) R.2.2) (fun q h4 k => ?_)⟩
        obtain ⟨eq, k⟩ := k
        have fo : fOne (h_i h3 0 0) (wI h3) x (h_i h3 c) = ((fPt (h_i h3 0 0) (h_i h3 c 10 + x.2.2) (h_i h3 c)).1, (fPt (h_i h3 0 0) (h_i h3 c 10 + x.2.2) (h_i h3 c)).2.1, [(fPt (h_i h3 0 0) (h_i h3 c 10 + x.2.2) (h_i h3 c)).2.2]) := by
          unfold fOne
          rw [if_neg ny, if_neg n3, if_neg y, if_pos y2, if_neg n1]
        rw [fo]
        by_cases t : (fPt (h_i h3 0 0) (h_i h3 c 10 + x.2.2) (h_i h3 c)).1 = true
        · rw [if_pos t] at eq
          subst eq
          exact ⟨k.1.1, fun e => absurd e (by decide), fun _ => ⟨k.1.1, Or.inr rfl, by show (1 : Int32) = if (fPt (h_i h3 0 0) (h_i h3 c 10 + x.2.2) (h_i h3 c)).1 = true then 1 else 0; rw [if_pos t], k⟩⟩
        · rw [if_neg t] at eq
          subst eq
          exact ⟨k.1.1, fun _ => ⟨k.1.1, Or.inl rfl, by show (0 : Int32) = if (fPt (h_i h3 0 0) (h_i h3 c 10 + x.2.2) (h_i h3 c)).1 = true then 1 else 0; rw [if_neg t], k⟩, fun n => absurd rfl n⟩
    · have nw : ¬ 0 < wI h2 (h_i h2 c 5) x.2.1 := by rw [e1]; decide
      unfold fOne
      rw [if_neg ny, if_neg n3, if_neg nw, if_pos y2, if_pos e1]
      exact ⟨rfl, k⟩
  · have ny : ¬ x.1 = 1 := by rw [y3]; decide
    unfold fOne
    rw [if_neg ny, if_pos y3]
    exact ⟨rfl, (Sxm.rf I B).im P hc (by decide) _⟩
  · refine t_X0_placeOf d h1 _ _ ⟨I.1, hc.2.2, ?_⟩
    rw [pkS_pl sr yn.1]
    refine Ci.mono (c_so P d I hc B x.2.1 (h_i h1 c 11).toNatClampNeg) (fun q h3 k => ?_)
    by_cases y : 0 < wI h1 (h_i h1 c 5) x.2.1
    · replace k := k.1 y
      obtain ⟨eq, k⟩ := k
      subst eq
      refine ⟨k.1.1, Or.inr rfl, ?_⟩
      unfold fOne
      rw [if_neg yn.1, if_neg yn.2.2, if_pos y]
      exact ⟨rfl, k⟩
    · obtain ⟨eq, eh⟩ := k.2 y
      subst eq eh
      refine ⟨I.1, Or.inl rfl, ?_⟩
      unfold fOne
      rw [if_neg yn.1, if_neg yn.2.2, if_neg y, if_neg yn.2.1]
      exact ⟨rfl, Sxm.rf I B⟩
end MEN
/-! MEN, the class: steps, and one who wakes -/
section MEN
variable {β : Type} {PB : β → Hp_ → Prop} {tB : Int32 → Int32 → β → β} {lB : Nat → Hp_ → β → β}
/-- the row number behind those that were settled -/
theorem row_n {x : Int32} (lo : 0 ≤ x.toInt) (hi : x.toInt < 1000) : (x + 1).toNatClampNeg = x.toNatClampNeg + 1 ∧ (x + 1).toInt = x.toInt + 1 := by
  have t1 : (1 : Int32).toInt = 1 := rfl
  have e : (x + 1).toInt = x.toInt + 1 := tx_add (by rw [t1]; omega) (by rw [t1]; omega)
  have n1 := n_nat (x := x) lo
  have n2 := n_nat (x := x + 1) (by omega)
  exact ⟨by omega, e⟩
theorem rowX_in {h : Hp_} (I : Iv h) : 0 ≤ (h_i h 16 7).toInt ∧ (h_i h 16 7).toInt ≤ 400 := by
  have rg := I.2.1 16 7
  rw [show tf 16 7 = (0, 400) by decide +kernel] at rg
  exact ⟨rg.1, rg.2⟩
theorem fOne_r {h : Hp_} (I : Iv h) {n : Int32} {w : Int32 → Int32 → Int32} {x : Sp3} {M : Nat → Int32} {L : List Sp3} (R : Rok h M (mts (x :: L))) : ((fOne n w x M).2.1 11).toNatClampNeg = (M 11).toNatClampNeg + (fOne n w x M).2.2.length ∧ ((fOne n w x M).1 = false → Rok h (fOne n w x M).2.1 (mts L)) := by
  have r4 := rowX_in I
  have m : mts (x :: L) = (if x.1 = 2 then 1 else 0) + mts L := rfl
  have e12 : (fOne n w x M).2.1 12 = M 12 := fOne_k (by decide) (by decide) (by decide) (by decide) (by decide) (by decide)
  have r1 := R.1
  have r2 := R.2.1
  have r3 := R.2.2
  rw [m] at r2
  rcases fOne_11 (n := n) (w := w) (x := x) (M := M) with ⟨a, b, c⟩ | ⟨a, b, c⟩
  · refine ⟨by rw [a, b]; rfl, fun y => ?_⟩
    have c := c y
    rw [if_neg c] at r2
    exact ⟨by rw [b]; exact r1, by rw [b, e12]; omega, by rw [e12]; exact r3⟩
  · rw [if_pos a] at r2
    have q := row_n (x := M 11) r1 (by omega)
    refine ⟨by rw [b, c]; exact q.1, fun _ => ⟨by rw [c]; omega, by rw [c, e12]; omega, by rw [e12]; exact r3⟩⟩
theorem ds_lp (P : PBok PB tB lB) (d : Nat) {c : Nat} : ∀ (L : List Sp3) {h : Hp_} {b : β} (i : Nat) (x2 : Int32), Iv h → Cn h c → PB b h → Stb h (h_i h c 8) i L → h_i h c 9 = Int32.ofNat i → x2 = Int32.ofNat (i + L.length) → Rok h (h_i h c) (mts L) → h_i h c 4 = 1 → AW (m_X11_doSteps (d + 5) 0 0) 0 0 12 [(0, .ref 0), (1, .ref c), (2, .int x2)] [] h (kV (fun h' => Sxm PB c (h_i h 0 0) (fSt (h_i h 0 0) (wI h) L (h_i h c)).1 (h_i h c 11).toNatClampNeg (fSt (h_i h 0 0) (wI h) L (h_i h c)).2 (fB tB (h_i h 0 0) (fSt (h_i h 0 0) (wI h) L (h_i h c)).1 b) h h'))
  | [], h, b, i, x2, I, hc, B, S, e9, e2, R, e4 => by
    have c1 := hc.1
    refine t_X11_doSteps_12 d h I.1 c hc.2.2 (by omega) x2 _ ⟨fun _ => Cv.mono (c_gh P d I hc B (h_i h c 11).toNatClampNeg) (fun h' k => ⟨k.1.1, k⟩), fun n => absurd (q_le.mpr ?_) n⟩
    rw [e9, e2]
    exact Int.le_refl _
  | x :: L, h, b, i, x2, I, hc, B, S, e9, e2, R, e4 => by
    have c1 := hc.1
    have ll : i + (L.length + 1) ≤ 150 := S.2.1
    have l2 : (i + (x :: L).length : Nat) = i + (L.length + 1) := rfl
    refine t_X11_doSteps_12 d h I.1 c hc.2.2 (by omega) x2 _ ⟨fun y => ?_, fun _ => Ci.mono (c_tt P d I hc B S e9 ⟨R.1, ?_, R.2.2⟩) (fun q h9 k => ?_)⟩
    · have y := q_le.mp y
      rw [e9, e2, on_j (by omega), on_j (by omega)] at y
      omega
    · have m : mts (x :: L) = (if x.1 = 2 then 1 else 0) + mts L := rfl
      have r2 := R.2.1
      rw [m] at r2
      omega
    · obtain ⟨eq, k⟩ := k
      have fr := fOne_r I (n := h_i h 0 0) (w := wI h) R
      have f4 : (fOne (h_i h 0 0) (wI h) x (h_i h c)).2.1 4 = 1 := by rw [fOne_k (by decide) (by decide) (by decide) (by decide) (by decide) (by decide)]; exact e4
      by_cases t : (fOne (h_i h 0 0) (wI h) x (h_i h c)).1 = true
      · rw [if_pos t] at eq
        subst eq
        have f : fSt (h_i h 0 0) (wI h) (x :: L) (h_i h c) = ((fOne (h_i h 0 0) (wI h) x (h_i h c)).2.1, (fOne (h_i h 0 0) (wI h) x (h_i h c)).2.2) := by
          show (if (fOne (h_i h 0 0) (wI h) x (h_i h c)).1 = true then _ else _) = _
          rw [if_pos t]
        refine ⟨k.1.1, (k.cn hc).2.2, fun e => absurd e (by decide), fun _ => ?_⟩
        rw [f]
        have fb : fB tB (h_i h 0 0) (fOne (h_i h 0 0) (wI h) x (h_i h c)).2.1 b = b := by
          unfold fB
          rw [f4, if_neg (by decide)]
        show Sxm PB c (h_i h 0 0) (fOne (h_i h 0 0) (wI h) x (h_i h c)).2.1 (h_i h c 11).toNatClampNeg (fOne (h_i h 0 0) (wI h) x (h_i h c)).2.2 (fB tB (h_i h 0 0) (fOne (h_i h 0 0) (wI h) x (h_i h c)).2.1 b) h h9
        rw [fb]
        exact k
      · rw [if_neg t] at eq
        subst eq
        have tf' : (fOne (h_i h 0 0) (wI h) x (h_i h c)).1 = false := by
          cases z : (fOne (h_i h 0 0) (wI h) x (h_i h c)).1 with
          | true => exact absurd z t
          | false => rfl
        have f : fSt (h_i h 0 0) (wI h) (x :: L) (h_i h c) = ((fSt (h_i h 0 0) (wI h) L (up1 (fOne (h_i h 0 0) (wI h) x (h_i h c)).2.1 9 ((fOne (h_i h 0 0) (wI h) x (h_i h c)).2.1 9 + 1))).1, (fOne (h_i h 0 0) (wI h) x (h_i h c)).2.2 ++ (fSt (h_i h 0 0) (wI h) L (up1 (fOne (h_i h 0 0) (wI h) x (h_i h c)).2.1 9 ((fOne (h_i h 0 0) (wI h) x (h_i h c)).2.1 9 + 1))).2) := by
          show (if (fOne (h_i h 0 0) (wI h) x (h_i h c)).1 = true then _ else _) = _
          rw [if_neg t]
        refine ⟨k.1.1, (k.cn hc).2.2, fun _ => ?_, fun n => absurd rfl n⟩
        rw [f, show h_i h9 c 9 = (fOne (h_i h 0 0) (wI h) x (h_i h c)).2.1 9 from congrFun k.2.2.1 9]
        have k10 := k.im P hc (k := 9) (by decide) ((fOne (h_i h 0 0) (wI h) x (h_i h c)).2.1 9 + 1)
        have f9 : (fOne (h_i h 0 0) (wI h) x (h_i h c)).2.1 9 = Int32.ofNat i := by rw [fOne_k (by decide) (by decide) (by decide) (by decide) (by decide) (by decide)]; exact e9
        have f8 : (fOne (h_i h 0 0) (wI h) x (h_i h c)).2.1 8 = h_i h c 8 := fOne_k (by decide) (by decide) (by decide) (by decide) (by decide) (by decide)
        have kk := k10.2.1.k c1
        have Rk := fr.2 tf'
        have r11 := fr.1
        generalize h_im h9 c 9 ((fOne (h_i h 0 0) (wI h) x (h_i h c)).2.1 9 + 1) = h10 at *
        have ec := k10.2.2.1
        have ih := ds_lp P d L (h := h10) (b := b) (i + 1) x2 k10.1 (k10.cn hc) k10.2.2.2.2 (by rw [ec, up1_ne (by decide), f8]; exact S.tl.cg kk.2.2.2.2.2.1) (by rw [ec, up1_at, f9, on_s (by omega)]) (by rw [e2, l2, show i + 1 + L.length = i + (L.length + 1) by omega]) (by
          rw [ec]
          exact ⟨by rw [up1_ne (by decide)]; exact Rk.1, by rw [up1_ne (by decide), up1_ne (by decide)]; exact Rk.2.1, by rw [up1_ne (by decide), kk.2.2.2.1]; exact Rk.2.2⟩) (by rw [ec, up1_ne (by decide)]; exact f4)
        rw [kk.2.1, wI_eq k10.2.1 c1, ec] at ih
        refine AW.mono ih (fun v h' z => ⟨z.1, k10.tr z.2 ?_⟩)
        rw [up1_ne (by decide)]
        exact r11
theorem c_ds (P : PBok PB tB lB) (d : Nat) {h : Hp_} (I : Iv h) {c : Nat} (hc : Cn h c) {b : β} (B : PB b h) (L : List Sp3) (i : Nat) (S : Stb h (h_i h c 8) i L) (e9 : h_i h c 9 = Int32.ofNat i) (b3 : (h_i h c 8).toInt < (h_i h 12 3).toInt) (e35 : h_i h 35 (h_i h c 8).toNatClampNeg = Int32.ofNat (i + L.length)) (R : Rok h (h_i h c) (mts L)) (e4 : h_i h c 4 = 1) : Cv (m_X11_doSteps (d + 5) 0 0) [.ref 0, .ref c] h (fun h' => Sxm PB c (h_i h 0 0) (fSt (h_i h 0 0) (wI h) L (h_i h c)).1 (h_i h c 11).toNatClampNeg (fSt (h_i h 0 0) (wI h) L (h_i h c)).2 (fB tB (h_i h 0 0) (fSt (h_i h 0 0) (wI h) L (h_i h c)).1 b) h h') := by
  have c1 := hc.1
  have t0 : (0 : Int32).toInt = 0 := rfl
  have b8 := S.1
  refine t_X11_doSteps d h I.1 c hc.2.2 (by omega) _ (t_X0_stepsOf d h I.1 _ _ (Ci.mono (c_has d I _) (fun r3 h3 q => ?_)))
  obtain ⟨e, q⟩ := q
  subst e
  refine ⟨I.1, fun z => ?_, fun _ => ⟨dp_in (lo := 0) (hi := 11) ⟨b8.1, b8.2⟩ (by decide) (by decide), I.1, hc.2.2, ?_⟩⟩
  · rcases q with q | q
    · rw [z] at q
      exact absurd q.1 (by decide)
    · refine absurd ⟨fun y => ?_, fun y => ?_⟩ q.2
      · have y := q_lt.mp y
        omega
      · have y := q_le.mp y
        omega
  · exact ds_lp P d L i _ I hc B S e9 e35 R e4
theorem c_sd (P : PBok PB tB lB) (d : Nat) {h : Hp_} (I : Iv h) {c : Nat} (hc : Cn h c) {b : β} (B : PB b h) (r : Nat) (e4 : h_i h c 4 = 3) : Cv (m_X11_serveDrawn (d + 4) 0 0) [.ref 0, .ref c] h (fun h' => Sxm PB c (h_i h 0 0) (fDr (h_i h 0 0) (wI h) (h_i h c)) r [] (fB tB (h_i h 0 0) (fDr (h_i h 0 0) (wI h) (h_i h c)) b) h h') := by
  have c1 := hc.1
  refine t_X11_serveDrawn d h I.1 c hc.2.2 (by omega) _ (Ci.mono (c_so P d I hc B (h_i h c 13) r) (fun q h1 k => ?_))
  by_cases y : 0 < wI h (h_i h c 5) (h_i h c 13)
  · replace k := k.1 y
    obtain ⟨eq, k⟩ := k
    subst eq
    have f : fDr (h_i h 0 0) (wI h) (h_i h c) = sOut (h_i h 0 0) (wI h (h_i h c 5) (h_i h c 13)) (h_i h c 13) (h_i h c) := by
      unfold fDr
      rw [if_pos y]
    refine ⟨k.1.1, (k.cn hc).2.2, fun e => absurd e (by decide), fun _ => ?_⟩
    rw [f]
    unfold fB
    rw [sOut_k (by decide) (by decide) (by decide), e4, if_neg (by decide)]
    exact k
  · obtain ⟨eq, eh⟩ := k.2 y
    subst eq eh
    refine ⟨I.1, hc.2.2, fun _ => ⟨fun n => Cv.mono (c_gh P d I hc B r) (fun h' k => ⟨k.1.1, ?_⟩), fun e => ⟨fun l => Cv.mono (c_gh P d I hc B r) (fun h' k => ⟨k.1.1, ?_⟩), fun l => ?_⟩⟩, fun n => absurd rfl n⟩
    · have f : fDr (h_i h1 0 0) (wI h1) (h_i h1 c) = fHome (h_i h1 0 0) (wI h1) (h_i h1 c) := by
        unfold fDr
        rw [if_neg y, if_neg (fun z => n z.1)]
      rw [f]
      exact k
    · have l := q_le.mp l
      have f : fDr (h_i h1 0 0) (wI h1) (h_i h1 c) = fHome (h_i h1 0 0) (wI h1) (h_i h1 c) := by
        unfold fDr
        rw [if_neg y, if_neg (fun z => by have := q_lt.mp z.2; omega)]
      rw [f]
      exact k
    · have l := q_nle l
      have f : fDr (h_i h1 0 0) (wI h1) (h_i h1 c) = up1 (h_i h1 c) 7 (h_i h1 c 14) := by
        unfold fDr
        rw [if_neg y, if_pos ⟨e, q_lt.mpr l⟩]
      rw [f]
      unfold fB
      rw [up1_ne (by decide), e4, if_neg (by decide)]
      exact (Sxm.rf I B).im P hc (by decide) _
/-- the step is over, or he waits; a look is had -/
theorem c_es (P : PBok PB tB lB) (d : Nat) {h : Hp_} (I : Iv h) {c : Nat} (hc : Cn h c) {b : β} (B : PB b h) {i : Nat} {x : Sp3} {L : List Sp3} (S : Stb h (h_i h c 8) i (x :: L)) (e9 : h_i h c 9 = Int32.ofNat i) (x2 : Int32) (came : Bool) (ec : came = true ↔ ¬ x2 = 0) (R : x.1 = 2 → came = true → Rok h (h_i h c) 1) : Ci (m_X11_endsStep (d + 6) 0 0) [.ref 0, .ref c, .int x2] h (fun q h' => q = (if (fEn (h_i h 0 0) x came (h_i h c)).1 = true then 0 else 1) ∧ Sxm PB c (h_i h 0 0) (fEn (h_i h 0 0) x came (h_i h c)).2.1 (h_i h c 11).toNatClampNeg (fEn (h_i h 0 0) x came (h_i h c)).2.2 (if x.1 = 3 then lB c h b else b) h h') := by
  have c1 := hc.1
  have sr := S.hd.2
  have kd := stR_k sr
  have k := c_sa (d + 1) I S
  rw [← e9] at k
  refine t_X11_endsStep (d + 1) h I.1 c hc.2.2 (by omega) x2 _ (Ci.mono k (fun r h1 k => ?_))
  obtain ⟨eh, er⟩ := k
  subst eh er
  refine ⟨I.1, hc.2.2, t_X0_kindOf (d + 1) h1 _ _ ⟨I.1, hc.2.2, ?_⟩⟩
  rw [pkS_3 kd]
  refine ⟨fun n3 => ⟨fun n2 => ?_, fun y2 => ⟨fun e0 => ?_, fun n0 => ?_⟩⟩, fun y3 => Cv.mono (P.2.2.2 d b h1 c I hc B) (fun h' k => ⟨k.1.1, by rw [k.2.1.1]; exact hc.2.2, fun _ => ?_, fun y2 => absurd (y3.symm.trans y2) (by decide)⟩)⟩
  · have fo : fEn (h_i h1 0 0) x came (h_i h1 c) = (false, h_i h1 c, []) := if_neg (fun z => n2 z.1)
    rw [fo, if_neg n3]
    exact ⟨rfl, Sxm.rf I B⟩
  · have fo : fEn (h_i h1 0 0) x came (h_i h1 c) = (false, h_i h1 c, []) := if_neg (fun z => ec.mp z.2 e0)
    rw [fo, if_neg n3]
    exact ⟨rfl, Sxm.rf I B⟩
  · have yc := ec.mpr n0
    have ny : ¬ x.1 = 1 := by rw [y2]; decide
    have am := pkS_am sr
    rw [if_neg ny] at am
    have R' := R y2 yc
    refine Ci.mono (c_wp P (d + 1) I hc B (pkS x) (h_i h1 c 10 + x.2.2) (by rw [am]) R'.1 (by have := R'.2.1; omega) R'.2.2) (fun q h4 k => ?_)
    obtain ⟨eq, k⟩ := k
    have fo : fEn (h_i h1 0 0) x came (h_i h1 c) = ((fPt (h_i h1 0 0) (h_i h1 c 10 + x.2.2) (h_i h1 c)).1, (fPt (h_i h1 0 0) (h_i h1 c 10 + x.2.2) (h_i h1 c)).2.1, [(fPt (h_i h1 0 0) (h_i h1 c 10 + x.2.2) (h_i h1 c)).2.2]) := by
      unfold fEn
      rw [if_pos ⟨y2, yc⟩]
    rw [fo, if_neg n3]
    by_cases t : (fPt (h_i h1 0 0) (h_i h1 c 10 + x.2.2) (h_i h1 c)).1 = true
    · rw [if_pos t] at eq
      subst eq
      exact ⟨k.1.1, fun _ => ⟨by show (0 : Int32) = if (fPt (h_i h1 0 0) (h_i h1 c 10 + x.2.2) (h_i h1 c)).1 = true then 0 else 1; rw [if_pos t], k⟩, fun e => absurd e (by decide)⟩
    · rw [if_neg t] at eq
      subst eq
      exact ⟨k.1.1, fun n => absurd rfl n, fun _ => ⟨by show (1 : Int32) = if (fPt (h_i h1 0 0) (h_i h1 c 10 + x.2.2) (h_i h1 c)).1 = true then 0 else 1; rw [if_neg t], k⟩⟩
  · have n2 : ¬ x.1 = 2 := by rw [y3]; decide
    have fo : fEn (h_i h1 0 0) x came (h_i h1 c) = (false, h_i h1 c, []) := if_neg (fun z => n2 z.1)
    rw [fo, if_pos y3]
    exact ⟨rfl, (Sxm.rf I B).fr hc k.1 k.2.1 k.2.2⟩
end MEN
/-! MEN, the class: goOn -/
section MEN
variable {β : Type} {PB : β → Hp_ → Prop} {tB : Int32 → Int32 → β → β} {lB : Nat → Hp_ → β → β}
/-- one on a beat: his step x, the steps L behind it, room for his rows -/
noncomputable def Btk (h : Hp_) (M : Nat → Int32) (i : Nat) (x : Sp3) (L : List Sp3) (came : Bool) : Prop := Stb h (M 8) i (x :: L) ∧ M 9 = Int32.ofNat i ∧ (M 8).toInt < (h_i h 12 3).toInt ∧ h_i h 35 (M 8).toNatClampNeg = Int32.ofNat (i + (L.length + 1)) ∧ Rok h M ((if x.1 = 2 ∧ came = true then 1 else 0) + mts L)
theorem fEn_k {n : Int32} {x : Sp3} {came : Bool} {M : Nat → Int32} {k : Nat} (a : k ≠ 7) (b : k ≠ 11) (c : k ≠ 15) (e : k ≠ 16) : (fEn n x came M).2.1 k = M k := by
  unfold fEn
  split
  · exact fPt_k a b c e
  · rfl
theorem fEn_r {h : Hp_} (I : Iv h) {n : Int32} {x : Sp3} {came : Bool} {M : Nat → Int32} {m : Nat} (R : Rok h M ((if x.1 = 2 ∧ came = true then 1 else 0) + m)) : ((fEn n x came M).2.1 11).toNatClampNeg = (M 11).toNatClampNeg + (fEn n x came M).2.2.length ∧ Rok h (fEn n x came M).2.1 m := by
  have r4 := rowX_in I
  have e12 : (fEn n x came M).2.1 12 = M 12 := fEn_k (by decide) (by decide) (by decide) (by decide)
  have r1 := R.1
  have r2 := R.2.1
  have r3 := R.2.2
  unfold Rok
  rw [e12]
  unfold fEn
  by_cases y : x.1 = 2 ∧ came = true
  · rw [if_pos y] at r2 ⊢
    have q := row_n (x := M 11) r1 (by omega)
    refine ⟨?_, ?_, ?_, r3⟩
    · show ((fPt n (M 10 + x.2.2) M).2.1 11).toNatClampNeg = (M 11).toNatClampNeg + 1
      rw [fPt_11]
      exact q.1
    · show 0 ≤ ((fPt n (M 10 + x.2.2) M).2.1 11).toInt
      rw [fPt_11]
      omega
    · show ((fPt n (M 10 + x.2.2) M).2.1 11).toInt + (m : Int) ≤ (M 12).toInt
      rw [fPt_11]
      omega
  · rw [if_neg y] at r2 ⊢
    exact ⟨rfl, r1, by show (M 11).toInt + (m : Int) ≤ (M 12).toInt; omega, r3⟩
theorem go_b (P : PBok PB tB lB) (d : Nat) {h : Hp_} (I : Iv h) {c : Nat} (hc : Cn h c) {b : β} (B : PB b h) {i : Nat} {x : Sp3} {L : List Sp3} {came : Bool} (T : Btk h (h_i h c) i x L came) (e4 : h_i h c 4 = 1) (x2 : Int32) (ec : came = true ↔ ¬ x2 = 0) (K : Hp_ → Prop) (hK : ∀ h', Sxm PB c (h_i h 0 0) (fNx (h_i h 0 0) (wI h) L (fEn (h_i h 0 0) x came (h_i h c))).1 (h_i h c 11).toNatClampNeg (fNx (h_i h 0 0) (wI h) L (fEn (h_i h 0 0) x came (h_i h c))).2 (fB tB (h_i h 0 0) (fNx (h_i h 0 0) (wI h) L (fEn (h_i h 0 0) x came (h_i h c))).1 (if x.1 = 3 then lB c h b else b)) h h' → K h') : Ci (m_X11_endsStep (d + 6) 0 0) [.ref 0, .ref c, .int x2] h (fun r14 h12 => Wf h12 ∧ h_sh h12 c = some (12, 17) ∧ ((r14 = 0 → K h12) ∧ (¬ r14 = 0 → Cv (m_X11_doSteps (d + 1 + 5) 0 0) [.ref 0, .ref c] (h_im h12 c 9 ((h_i h12 c 9) + 1)) (fun h17 => Wf h17 ∧ (K h17))))) := by
  have c1 := hc.1
  obtain ⟨S, e9, b3, e35, R⟩ := T
  have ll : i + (L.length + 1) ≤ 150 := S.2.1
  refine Ci.mono (c_es P d I hc B S e9 x2 came ec (fun y2 yc => ?_)) (fun q h12 k => ?_)
  · rw [if_pos ⟨y2, yc⟩] at R
    exact ⟨R.1, by have := R.2.1; omega, R.2.2⟩
  · obtain ⟨eq, k⟩ := k
    have f4 : (fEn (h_i h 0 0) x came (h_i h c)).2.1 4 = 1 := by rw [fEn_k (by decide) (by decide) (by decide) (by decide)]; exact e4
    have fr := fEn_r I (n := h_i h 0 0) R
    refine ⟨k.1.1, (k.cn hc).2.2, fun e0 => hK h12 ?_, fun n0 => ?_⟩
    · have t : (fEn (h_i h 0 0) x came (h_i h c)).1 = true := by
        cases z : (fEn (h_i h 0 0) x came (h_i h c)).1 with
        | true => rfl
        | false =>
          rw [z, if_neg (by decide)] at eq
          rw [eq] at e0
          exact absurd e0 (by decide)
      have f : fNx (h_i h 0 0) (wI h) L (fEn (h_i h 0 0) x came (h_i h c)) = ((fEn (h_i h 0 0) x came (h_i h c)).2.1, (fEn (h_i h 0 0) x came (h_i h c)).2.2) := by
        unfold fNx
        rw [if_pos t]
      rw [f]
      unfold fB
      show Sxm PB c (h_i h 0 0) (fEn (h_i h 0 0) x came (h_i h c)).2.1 (h_i h c 11).toNatClampNeg (fEn (h_i h 0 0) x came (h_i h c)).2.2 (if (fEn (h_i h 0 0) x came (h_i h c)).2.1 4 = 0 then _ else _) h h12
      rw [f4, if_neg (by decide)]
      exact k
    · have t : ¬ (fEn (h_i h 0 0) x came (h_i h c)).1 = true := fun z => by
        rw [z, if_pos rfl] at eq
        exact n0 eq
      have f : fNx (h_i h 0 0) (wI h) L (fEn (h_i h 0 0) x came (h_i h c)) = ((fSt (h_i h 0 0) (wI h) L (up1 (fEn (h_i h 0 0) x came (h_i h c)).2.1 9 ((fEn (h_i h 0 0) x came (h_i h c)).2.1 9 + 1))).1, (fEn (h_i h 0 0) x came (h_i h c)).2.2 ++ (fSt (h_i h 0 0) (wI h) L (up1 (fEn (h_i h 0 0) x came (h_i h c)).2.1 9 ((fEn (h_i h 0 0) x came (h_i h c)).2.1 9 + 1))).2) := by
        unfold fNx
        rw [if_neg t]
      rw [f] at hK
      rw [show h_i h12 c 9 = (fEn (h_i h 0 0) x came (h_i h c)).2.1 9 from congrFun k.2.2.1 9]
      have k10 := k.im P hc (k := 9) (by decide) ((fEn (h_i h 0 0) x came (h_i h c)).2.1 9 + 1)
      have f9 : (fEn (h_i h 0 0) x came (h_i h c)).2.1 9 = Int32.ofNat i := by rw [fEn_k (by decide) (by decide) (by decide) (by decide)]; exact e9
      have f8 : (fEn (h_i h 0 0) x came (h_i h c)).2.1 8 = h_i h c 8 := fEn_k (by decide) (by decide) (by decide) (by decide)
      have kk := k10.2.1.k c1
      have Rk := fr.2
      have r11 := fr.1
      generalize h_im h12 c 9 ((fEn (h_i h 0 0) x came (h_i h c)).2.1 9 + 1) = h10 at *
      have ec' := k10.2.2.1
      have g := c_ds P (d + 1) (h := h10) k10.1 (k10.cn hc) k10.2.2.2.2 L (i + 1) (by rw [ec', up1_ne (by decide), f8]; exact S.tl.cg kk.2.2.2.2.2.1) (by rw [ec', up1_at, f9, on_s (by omega)]) (by rw [ec', up1_ne (by decide), f8, kk.2.2.2.2.1]; exact b3) (by rw [ec', up1_ne (by decide), f8, kk.2.2.2.2.2.2, e35, show i + 1 + L.length = i + (L.length + 1) by omega]) (by
        rw [ec']
        exact ⟨by rw [up1_ne (by decide)]; exact Rk.1, by rw [up1_ne (by decide), up1_ne (by decide)]; exact Rk.2.1, by rw [up1_ne (by decide), kk.2.2.2.1]; exact Rk.2.2⟩) (by rw [ec', up1_ne (by decide)]; exact f4)
      rw [kk.2.1, wI_eq k10.2.1 c1, ec'] at g
      refine Cv.mono g (fun h' z => ⟨z.1.1, hK h' (k10.tr z ?_)⟩)
      rw [up1_ne (by decide)]
      exact r11
/-- look's share: only one who looks -/
noncomputable def bL3 (lB : Nat → Hp_ → β → β) (c : Nat) (h : Hp_) (x : Sp3) (b : β) : β := if h_i h c 4 = 1 ∧ x.1 = 3 then lB c h b else b
theorem go_t (P : PBok PB tB lB) (d : Nat) {h g : Hp_} {c : Nat} (hc : Cn h c) {b : β} {r : Nat} (er : r = (h_i h c 11).toNatClampNeg) (n0 : ¬ h_i h c 4 = 0) (s : Sxm PB c (h_i h 0 0) (fCm (h_i h c)) r [] b h (h_im g c 7 (-1))) (eg : h_i g c 4 = h_i h c 4) {i : Nat} {x : Sp3} {L : List Sp3} (T : h_i h c 4 = 1 → Btk h (h_i h c) i x L (decide (¬ h_i h c 6 = -1))) (x2 : Int32) (ec : decide (¬ h_i h c 6 = -1) = true ↔ ¬ x2 = 0) (K : Hp_ → Prop) (hK : ∀ h', Sxm PB c (h_i h 0 0) (fGo (h_i h 0 0) (wI h) x L (h_i h c)).1 r (fGo (h_i h 0 0) (wI h) x L (h_i h c)).2 (fB tB (h_i h 0 0) (fGo (h_i h 0 0) (wI h) x L (h_i h c)).1 (bL3 lB c (h_im g c 7 (-1)) x b)) h h' → K h') : (¬ (h_i g c 4) = 1 → (¬ (h_i g c 4) = 2 → (¬ (h_i g c 4) = 3 → K (h_im g c 7 (-1))) ∧ ((h_i g c 4) = 3 → Cv (m_X11_serveDrawn (d + 1 + 4) 0 0) [.ref 0, .ref c] (h_im g c 7 (-1)) (fun h6 => Wf h6 ∧ (K h6)))) ∧ ((h_i g c 4) = 2 → Cv (m_X11_setFree (d + 1 + 1) 0 0) [.ref 0, .ref c] (h_im g c 7 (-1)) (fun h9 => Wf h9 ∧ (K h9)))) ∧ ((h_i g c 4) = 1 → Ci (m_X11_endsStep (d + 1 + 5) 0 0) [.ref 0, .ref c, .int x2] (h_im g c 7 (-1)) (fun r14 h12 => Wf h12 ∧ h_sh h12 c = some (12, 17) ∧ ((r14 = 0 → K h12) ∧ (¬ r14 = 0 → Cv (m_X11_doSteps (d + 1 + 5) 0 0) [.ref 0, .ref c] (h_im h12 c 9 ((h_i h12 c 9) + 1)) (fun h17 => Wf h17 ∧ (K h17)))))) := by
  have c1 := hc.1
  have kk := s.2.1.k c1
  have ew := wI_eq s.2.1 c1
  have ecc := s.2.2.1
  have f4 : fCm (h_i h c) 4 = h_i h c 4 := by
    unfold fCm
    split
    · rw [up1_ne (by decide)]
    · rw [up1_ne (by decide), up1_ne (by decide), up1_ne (by decide)]
  have f11 : fCm (h_i h c) 11 = h_i h c 11 := by
    unfold fCm
    split
    · rw [up1_ne (by decide)]
    · rw [up1_ne (by decide), up1_ne (by decide), up1_ne (by decide)]
  have g4 : h_i (h_im g c 7 (-1)) c 4 = h_i h c 4 := by rw [ecc]; exact f4
  rw [eg]
  have nb : ¬ h_i h c 4 = 1 → bL3 lB c (h_im g c 7 (-1)) x b = b := fun n => by
    unfold bL3
    rw [if_neg (fun z => n (g4.symm.trans z.1))]
  refine ⟨fun n1 => ⟨fun n2 => ⟨fun n3 => hK _ ?_, fun y3 => ?_⟩, fun y2 => ?_⟩, fun y1 => ?_⟩
  · have f : fGo (h_i h 0 0) (wI h) x L (h_i h c) = (fCm (h_i h c), []) := by
      unfold fGo
      rw [if_neg n1, if_neg n2, if_neg n3]
    rw [f, nb n1]
    unfold fB
    show Sxm PB c (h_i h 0 0) (fCm (h_i h c)) r [] (if fCm (h_i h c) 4 = 0 then _ else _) h _
    rw [f4, if_neg n0]
    exact s
  · have f : fGo (h_i h 0 0) (wI h) x L (h_i h c) = (fDr (h_i h 0 0) (wI h) (fCm (h_i h c)), []) := by
      unfold fGo
      rw [if_neg n1, if_neg n2, if_pos y3]
    rw [f, nb n1] at hK
    have z := c_sd P (d + 1) s.1 (s.cn hc) s.2.2.2.2 r (by rw [g4]; exact y3)
    rw [kk.2.1, ew, ecc] at z
    exact Cv.mono z (fun h' k => ⟨k.1.1, hK h' (s.tr k rfl)⟩)
  · have f : fGo (h_i h 0 0) (wI h) x L (h_i h c) = (fFree (fCm (h_i h c)), []) := by
      unfold fGo
      rw [if_neg n1, if_pos y2]
    rw [f, nb n1] at hK
    have z := c_sf P (d + 1) s.1 (s.cn hc) s.2.2.2.2 r
    rw [kk.2.1, ecc] at z
    refine Cv.mono z (fun h' k => ⟨k.1.1, hK h' ?_⟩)
    have z0 : fFree (fCm (h_i h c)) 4 = 0 := by
      unfold fFree
      rw [up1_ne (by decide), up1_at]
    have z1 : fFree (fCm (h_i h c)) 0 = fCm (h_i h c) 0 := fFree_k (by decide) (by decide)
    unfold fB
    show Sxm PB c (h_i h 0 0) (fFree (fCm (h_i h c))) r [] (if fFree (fCm (h_i h c)) 4 = 0 then tB (fFree (fCm (h_i h c)) 0) (h_i h 0 0) b else b) h h'
    rw [if_pos z0, z1]
    exact s.tr k rfl
  · have T := T y1
    obtain ⟨S, e9, b3, e35, R⟩ := T
    have fk : ∀ k, k ≠ 5 → k ≠ 6 → k ≠ 7 → fCm (h_i h c) k = h_i h c k := fun k a b e => by
      unfold fCm
      split
      · rw [up1_ne e]
      · rw [up1_ne e, up1_ne a, up1_ne b]
    have T7 : Btk (h_im g c 7 (-1)) (h_i (h_im g c 7 (-1)) c) i x L (decide (¬ h_i h c 6 = -1)) := by
      rw [ecc]
      unfold Btk Rok
      rw [fk 8 (by decide) (by decide) (by decide), fk 9 (by decide) (by decide) (by decide), fk 11 (by decide) (by decide) (by decide), fk 12 (by decide) (by decide) (by decide), kk.2.2.2.2.1, kk.2.2.2.2.2.2, kk.2.2.2.1]
      exact ⟨S.cg kk.2.2.2.2.2.1, e9, b3, e35, R⟩
    have f : fGo (h_i h 0 0) (wI h) x L (h_i h c) = fNx (h_i h 0 0) (wI h) L (fEn (h_i h 0 0) x (decide (¬ h_i h c 6 = -1)) (fCm (h_i h c))) := by
      unfold fGo
      rw [if_pos y1]
    have eb : bL3 lB c (h_im g c 7 (-1)) x b = if x.1 = 3 then lB c (h_im g c 7 (-1)) b else b := by
      unfold bL3
      by_cases z : x.1 = 3
      · rw [if_pos z, if_pos ⟨g4.trans y1, z⟩]
      · rw [if_neg z, if_neg (fun q => z q.2)]
    rw [f, eb] at hK
    refine go_b P d s.1 (s.cn hc) s.2.2.2.2 T7 (by rw [g4]; exact y1) x2 ec K (fun h' k => hK h' ?_)
    rw [kk.2.1, ew, ecc, f11] at k
    rw [er]
    rw [er] at s
    exact s.tr k rfl
theorem c_go (P : PBok PB tB lB) (d : Nat) {h : Hp_} (I : Iv h) {c : Nat} (hc : Cn h c) {b : β} (B : PB b h) (n0 : ¬ h_i h c 4 = 0) {i : Nat} {x : Sp3} {L : List Sp3} (T : h_i h c 4 = 1 → Btk h (h_i h c) i x L (decide (¬ h_i h c 6 = -1)) ∧ (x.1 = 3 → h_i h c 6 = -1)) : Cv (m_X11_goOn (d + 7) 0 0) [.ref 0, .ref c] h (fun h' => Sxm PB c (h_i h 0 0) (fGo (h_i h 0 0) (wI h) x L (h_i h c)).1 (h_i h c 11).toNatClampNeg (fGo (h_i h 0 0) (wI h) x L (h_i h c)).2 (fB tB (h_i h 0 0) (fGo (h_i h 0 0) (wI h) x L (h_i h c)).1 (bL3 lB c (h_im h c 7 (-1)) x b)) h h') := by
  have c1 := hc.1
  refine t_X11_goOn (d + 1) h I.1 c hc.2.2 (by omega) _ ⟨fun e6 => ?_, fun n6 => ?_⟩
  · have fc : fCm (h_i h c) = up1 (h_i h c) 7 (-1) := by
      unfold fCm
      rw [if_pos e6]
    have s : Sxm PB c (h_i h 0 0) (fCm (h_i h c)) (h_i h c 11).toNatClampNeg [] b h (h_im h c 7 (-1)) := by
      rw [fc]
      exact (Sxm.rf I B).im P hc (by decide) (-1)
    exact go_t P d hc rfl n0 s rfl (fun y => (T y).1) 0 (by rw [decide_eq_true_iff]; exact ⟨fun y => absurd e6 y, fun y => absurd rfl y⟩) _ (fun h' k => k)
  · have s6 : Sxm PB c (h_i h 0 0) (up1 (h_i h c) 6 (-1)) (h_i h c 11).toNatClampNeg [] b h (h_im h c 6 (-1)) := (Sxm.rf I B).im P hc (by decide) (-1)
    refine Cv.mono (c_put P (d + 1) s6.1 (s6.cn hc) s6.2.2.2.2 (h_i h c 6)) (fun h21 k6 => ?_)
    have s21 : Sxm PB c (h_i h 0 0) (up1 (up1 (h_i h c) 6 (-1)) 5 (h_i h c 6)) (h_i h c 11).toNatClampNeg [] b h h21 := ⟨k6.1, s6.2.1.tr k6.2.1, by rw [k6.2.2.1, s6.2.2.1], ⟨by rw [k6.2.2.2.1 51 (by omega)]; exact s6.2.2.2.1.1, by rw [k6.2.2.2.1 52 (by omega)]; exact s6.2.2.2.1.2.1, by rw [k6.2.2.2.1 53 (by omega)]; exact s6.2.2.2.1.2.2⟩, k6.2.2.2.2⟩
    have fc : fCm (h_i h c) = up1 (up1 (up1 (h_i h c) 6 (-1)) 5 (h_i h c 6)) 7 (-1) := by
      unfold fCm
      rw [if_neg n6]
    have s : Sxm PB c (h_i h 0 0) (fCm (h_i h c)) (h_i h c 11).toNatClampNeg [] b h (h_im h21 c 7 (-1)) := by
      rw [fc]
      exact s21.im P hc (by decide) (-1)
    refine ⟨s21.1.1, (s21.cn hc).2.2, go_t P d hc rfl n0 s (by rw [s21.2.2.1, up1_ne (by decide), up1_ne (by decide)]) (fun y => (T y).1) 1 (by rw [decide_eq_true_iff]; exact ⟨fun _ => by decide, fun _ => n6⟩) _ (fun h' k => ?_)⟩
    have e1 : bL3 lB c (h_im h21 c 7 (-1)) x b = b := by
      unfold bL3
      refine if_neg (fun z => ?_)
      have e4 : h_i h c 4 = 1 := by
        have q := z.1
        rw [s.2.2.1, fc, up1_ne (by decide), up1_ne (by decide), up1_ne (by decide)] at q
        exact q
      exact n6 ((T e4).2 z.2)
    have e2 : bL3 lB c (h_im h c 7 (-1)) x b = b := by
      unfold bL3
      refine if_neg (fun z => ?_)
      have e4 : h_i h c 4 = 1 := by
        have q := z.1
        rw [im_row, up1_ne (by decide)] at q
        exact q
      exact n6 ((T e4).2 z.2)
    rw [e1] at k
    rw [e2]
    exact k
end MEN
end
section
/-! MEN, the class: what is dropped, rows written, begin -/
noncomputable def dRow (cz : Int32) : Nat → (Nat → Int32) → Nat → Int32
  | 0, M => M
  | k + 1, M => dRow cz k (sRow (2, cz) M)
theorem dRow_k {cz : Int32} {j : Nat} (a : j ≠ 11) (b : j ≠ 15) (c : j ≠ 16) : ∀ (k : Nat) (M : Nat → Int32), dRow cz k M j = M j
  | 0, _ => rfl
  | k + 1, M => by
    show dRow cz k (sRow (2, cz) M) j = M j
    rw [dRow_k a b c k, sRow_k a b c]
/-- what he is about is dropped -/
noncomputable def fDp (cz : Int32) (M : Nat → Int32) : (Nat → Int32) × List Ev2 := if M 4 = 1 then (dRow cz (M 12 - M 11).toNatClampNeg M, List.replicate (M 12 - M 11).toNatClampNeg (2, cz)) else (M, [])
theorem fDp_k {cz : Int32} {M : Nat → Int32} {j : Nat} (a : j ≠ 11) (b : j ≠ 15) (c : j ≠ 16) : (fDp cz M).1 j = M j := by
  unfold fDp
  split
  · exact dRow_k a b c _ _
  · rfl
/-- the points of a beat: place, minutes -/
noncomputable def ptL : List Sp3 → List Ev2
  | [] => []
  | x :: L => if x.1 = 2 then x.2 :: ptL L else ptL L
theorem ptL_l : ∀ L : List Sp3, (ptL L).length = mts L
  | [] => rfl
  | x :: L => by
    show (if x.1 = 2 then x.2 :: ptL L else ptL L).length = (if x.1 = 2 then 1 else 0) + mts L
    split
    · show (ptL L).length + 1 = 1 + mts L
      rw [ptL_l L]
      omega
    · rw [ptL_l L]
      omega
section MEN
variable {β : Type} {PB : β → Hp_ → Prop} {tB : Int32 → Int32 → β → β} {lB : Nat → Hp_ → β → β}
theorem dp_lp (P : PBok PB tB lB) (d : Nat) {c : Nat} (cz x3 : Int32) (u3 : x3.toInt ≤ 400) : ∀ (k : Nat) {h : Hp_} {b : β} (x4 : Int32), Iv h → Cn h c → PB b h → 0 ≤ x4.toInt → x4.toInt + (k : Int) = x3.toInt → 0 ≤ (h_i h c 11).toInt → (h_i h c 11).toInt + (k : Int) = (h_i h c 12).toInt → (h_i h c 12).toInt ≤ (h_i h 16 7).toInt → AW (m_X11_drop (d + 2) 0 0) 0 0 16 [(0, .ref 0), (1, .ref c), (2, .int cz), (3, .int x3), (4, .int x4)] [] h (kV (fun h' => Sxm PB c (h_i h 0 0) (dRow cz k (h_i h c)) (h_i h c 11).toNatClampNeg (List.replicate k (2, cz)) b h h'))
  | 0, h, b, x4, I, hc, B, p4, e3, lo, e12, l2 => by
    have c1 := hc.1
    refine t_X11_drop_16 d h I.1 c hc.2.2 (by omega) cz x3 x4 _ ⟨fun _ => Sxm.rf I B, fun n => absurd (q_le.mpr (by omega)) n⟩
  | k + 1, h, b, x4, I, hc, B, p4, e3, lo, e12, l2 => by
    have c1 := hc.1
    have t1 : (1 : Int32).toInt = 1 := rfl
    have r4 := rowX_in I
    refine t_X11_drop_16 d h I.1 c hc.2.2 (by omega) cz x3 x4 _ ⟨fun y => ?_, fun _ => Cv.mono (c_sr P d I hc B 2 cz lo (by omega) l2) (fun h7 s => ⟨s.1.1, (s.cn hc).2.2, ?_⟩)⟩
    · have y := q_le.mp y
      omega
    · have kk := s.2.1.k c1
      have q := row_n (x := h_i h c 11) lo (by omega)
      have e4 : (x4 + 1).toInt = x4.toInt + 1 := tx_add (by rw [t1]; omega) (by rw [t1]; omega)
      have e11 : h_i h7 c 11 = h_i h c 11 + 1 := by rw [s.2.2.1]; exact sRow_11
      have e12' : h_i h7 c 12 = h_i h c 12 := by rw [s.2.2.1]; exact sRow_k (by decide) (by decide) (by decide)
      have ih := dp_lp P d cz x3 u3 k (h := h7) (b := b) (x4 + 1) s.1 (s.cn hc) s.2.2.2.2 (by omega) (by omega) (by rw [e11]; omega) (by rw [e11, e12']; omega) (by rw [e12', kk.2.2.2.1]; exact l2)
      rw [kk.2.1, e11, q.1, s.2.2.1] at ih
      exact AW.mono ih (fun v h' z => ⟨z.1, s.tr z.2 rfl⟩)
theorem c_dp (P : PBok PB tB lB) (d : Nat) {h : Hp_} (I : Iv h) {c : Nat} (hc : Cn h c) {b : β} (B : PB b h) (cz : Int32) (R : h_i h c 4 = 1 → Rok h (h_i h c) 0) : Cv (m_X11_drop (d + 2) 0 0) [.ref 0, .ref c, .int cz] h (fun h' => Sxm PB c (h_i h 0 0) (fDp cz (h_i h c)).1 (h_i h c 11).toNatClampNeg (fDp cz (h_i h c)).2 b h h') := by
  have c1 := hc.1
  unfold fDp
  refine t_X11_drop d h c hc.2.2 (by omega) cz _ ⟨fun n => ?_, fun y => t_X2_openPoints d h c hc.2.2 (by omega) _ ⟨I.1, hc.2.2, ?_⟩⟩
  · rw [if_neg n]
    exact Sxm.rf I B
  · rw [if_pos y]
    have R := R y
    have r4 := rowX_in I
    have r1 := R.1
    have r2 := R.2.1
    have r3 := R.2.2
    have es : (h_i h c 12 - h_i h c 11).toInt = (h_i h c 12).toInt - (h_i h c 11).toInt := tx_sub (by omega) (by omega)
    have ns := n_nat (x := h_i h c 12 - h_i h c 11) (by omega)
    have t0 : (0 : Int32).toInt = 0 := rfl
    exact dp_lp P d cz _ (by omega) (h_i h c 12 - h_i h c 11).toNatClampNeg (b := b) 0 I hc B (by omega) (by omega) r1 (by omega) r3
/-- rows written from r on: the man, the points E -/
noncomputable def wwR : List Nat := [16007, 47999, 48999, 49999, 50999]
noncomputable def Wx (PB : β → Hp_ → Prop) (m n : Int32) (r : Nat) (E : List Ev2) (b : β) (h h' : Hp_) : Prop := Iv h' ∧ Fr wwR h h' ∧ h_i h' 47 = rz (fun _ => m) r E (h_i h 47) ∧ h_i h' 48 = rz Prod.fst r E (h_i h 48) ∧ h_i h' 49 = rz (fun e => n + e.2) r E (h_i h 49) ∧ h_i h' 50 = rz (fun _ => n) r E (h_i h 50) ∧ h_i h' 16 7 = Int32.ofNat (r + E.length) ∧ PB b h'
theorem wr_lp (P : PBok PB tB lB) (d : Nat) {c : Nat} : ∀ (L : List Sp3) {h : Hp_} {b : β} (i : Nat) (x2 : Int32), Iv h → Cn h c → PB b h → Stb h (h_i h c 8) i L → x2 = Int32.ofNat (i + L.length) → (h_i h 16 7).toInt + (mts L : Int) ≤ 400 → AW (m_X11_writeRows (d + 2) 0 0) 0 0 14 [(0, .ref 0), (1, .ref c), (2, .int x2), (3, .int (Int32.ofNat i))] [] h (kV (fun h' => Wx PB (h_i h c 0) (h_i h 0 0) (h_i h 16 7).toNatClampNeg (ptL L) b h h'))
  | [], h, b, i, x2, I, hc, B, S, e2, R => by
    have c1 := hc.1
    have r4 := rowX_in I
    refine t_X11_writeRows_14 d h I.1 c hc.2.2 (by omega) x2 _ _ ⟨fun _ => ⟨I, Fr.rf _ _, rfl, rfl, rfl, rfl, ?_, B⟩, fun n => absurd (q_le.mpr ?_) n⟩
    · exact (of_nat32 r4.1).symm
    · rw [e2]
      exact Int.le_refl _
  | x :: L, h, b, i, x2, I, hc, B, S, e2, R => by
    have c1 := hc.1
    have r4 := rowX_in I
    have ll : i + (L.length + 1) ≤ 150 := S.2.1
    have l2 : (i + (x :: L).length : Nat) = i + (L.length + 1) := rfl
    have sr := S.hd.2
    have kd := stR_k sr
    have m : mts (x :: L) = (if x.1 = 2 then 1 else 0) + mts L := rfl
    rw [m] at R
    refine t_X11_writeRows_14 d h I.1 c hc.2.2 (by omega) x2 _ _ ⟨fun y => ?_, fun _ => Ci.mono (c_sa d I S) (fun r8 h6 k => ?_)⟩
    · have y := q_le.mp y
      rw [e2, on_j (by omega), on_j (by omega)] at y
      omega
    · obtain ⟨eh, er⟩ := k
      subst eh er
      refine ⟨I.1, hc.2.2, t_X0_kindOf d h6 _ _ ⟨I.1, hc.2.2, ?_⟩⟩
      rw [pkS_3 kd, on_s (by omega)]
      refine ⟨fun n2 => ?_, fun y2 => t_X0_placeOf d h6 _ _ ⟨I.1, hc.2.2, t_X0_amountOf d h6 _ _ ⟨I.1, hc.2.2, ?_⟩⟩⟩
      · have f : ptL (x :: L) = ptL L := if_neg n2
        rw [f]
        rw [if_neg n2] at R
        exact wr_lp P d L (i + 1) x2 I hc B S.tl (by rw [e2, l2, show i + 1 + L.length = i + (L.length + 1) by omega]) (by omega)
      · have ny : ¬ x.1 = 1 := by rw [y2]; decide
        have f : ptL (x :: L) = x.2 :: ptL L := if_pos y2
        have am := pkS_am sr
        rw [if_neg ny] at am
        rw [if_pos y2] at R
        rw [pkS_pl sr ny, am, f]
        have v : vp_in (h_i h6 16 7) 400 := dp_in (lo := 0) (hi := 399) ⟨r4.1, by show _ ≤ (399 : Int); omega⟩ (by decide) (by decide)
        have t400 : (400 : Int32).toInt = 400 := rfl
        have rn := row_n (x := h_i h6 16 7) r4.1 (by omega)
        refine t_X7_write d h6 I.1 _ _ _ _ _ ⟨fun y => ?_, fun _ => ⟨v, v, v, v, ?_⟩⟩
        · have y := q_le.mp y
          omega
        · have I5 : Iv (h_im (h_im (h_im (h_im (h_im h6 47 (h_i h6 16 7).toNatClampNeg (h_i h6 c 0)) 48 (h_i h6 16 7).toNatClampNeg x.2.1) 49 (h_i h6 16 7).toNatClampNeg (h_i h6 0 0 + x.2.2)) 50 (h_i h6 16 7).toNatClampNeg (h_i h6 0 0)) 16 7 (h_i h6 16 7 + 1)) := (tr_ 50 (by decide +kernel) (tr_ 49 (by decide +kernel) (tr_ 48 (by decide +kernel) (tr_ 47 (by decide +kernel) I _ _ (by decide) (by decide)) _ _ (by decide) (by decide)) _ _ (by decide) (by decide)) _ _ (by decide) (by decide)).im (a := 16) (k := 7) (by rw [show tf 16 7 = (0, 400) by decide +kernel]; exact ⟨by show (0 : Int) ≤ _; omega, by show _ ≤ (400 : Int); omega⟩) (by decide)
          have B5 : PB b (h_im (h_im (h_im (h_im (h_im h6 47 (h_i h6 16 7).toNatClampNeg (h_i h6 c 0)) 48 (h_i h6 16 7).toNatClampNeg x.2.1) 49 (h_i h6 16 7).toNatClampNeg (h_i h6 0 0 + x.2.2)) 50 (h_i h6 16 7).toNatClampNeg (h_i h6 0 0)) 16 7 (h_i h6 16 7 + 1)) := P.1 _ _ _ _ _ (Or.inr (Or.inr ⟨rfl, rfl⟩)) (P.1 _ _ _ _ _ (Or.inr (Or.inl ⟨by decide, by decide⟩)) (P.1 _ _ _ _ _ (Or.inr (Or.inl ⟨by decide, by decide⟩)) (P.1 _ _ _ _ _ (Or.inr (Or.inl ⟨by decide, by decide⟩)) (P.1 _ _ _ _ _ (Or.inr (Or.inl ⟨by decide, by decide⟩)) B))))
          have F5 : Fr wwR h6 (h_im (h_im (h_im (h_im (h_im h6 47 (h_i h6 16 7).toNatClampNeg (h_i h6 c 0)) 48 (h_i h6 16 7).toNatClampNeg x.2.1) 49 (h_i h6 16 7).toNatClampNeg (h_i h6 0 0 + x.2.2)) 50 (h_i h6 16 7).toNatClampNeg (h_i h6 0 0)) 16 7 (h_i h6 16 7 + 1)) := (((((Fr.rf _ _).im (inw_row (by decide +kernel) _)).im (inw_row (by decide +kernel) _)).im (inw_row (by decide +kernel) _)).im (inw_row (by decide +kernel) _)).im (by decide +kernel)
          generalize hg : h_im (h_im (h_im (h_im (h_im h6 47 (h_i h6 16 7).toNatClampNeg (h_i h6 c 0)) 48 (h_i h6 16 7).toNatClampNeg x.2.1) 49 (h_i h6 16 7).toNatClampNeg (h_i h6 0 0 + x.2.2)) 50 (h_i h6 16 7).toNatClampNeg (h_i h6 0 0)) 16 7 (h_i h6 16 7 + 1) = g at *
          have g47 : h_i g 47 = up1 (h_i h6 47) (h_i h6 16 7).toNatClampNeg (h_i h6 c 0) := by rw [← hg, im_oth (by decide), im_oth (by decide), im_oth (by decide), im_oth (by decide), im_row]
          have g48 : h_i g 48 = up1 (h_i h6 48) (h_i h6 16 7).toNatClampNeg x.2.1 := by rw [← hg, im_oth (by decide), im_oth (by decide), im_oth (by decide), im_row, im_oth (by decide)]
          have g49 : h_i g 49 = up1 (h_i h6 49) (h_i h6 16 7).toNatClampNeg (h_i h6 0 0 + x.2.2) := by rw [← hg, im_oth (by decide), im_oth (by decide), im_row, im_oth (by decide), im_oth (by decide)]
          have g50 : h_i g 50 = up1 (h_i h6 50) (h_i h6 16 7).toNatClampNeg (h_i h6 0 0) := by rw [← hg, im_oth (by decide), im_row, im_oth (by decide), im_oth (by decide), im_oth (by decide)]
          have g16 : h_i g 16 7 = h_i h6 16 7 + 1 := by rw [← hg, im_at]
          have g0 : h_i g 0 0 = h_i h6 0 0 := (F5.2 0 0 (by decide +kernel)).1
          have gc : h_i g c = h_i h6 c := by rw [← hg, im_oth (by omega), im_oth (by omega), im_oth (by omega), im_oth (by omega), im_oth (by omega)]
          have g34 : ∀ k, h_i g 34 k = h_i h6 34 k := fun k => fr_i F5 (by decide +kernel) k
          have hcg : Cn g c := hc.of F5.1
          have ih := wr_lp P d L (h := g) (b := b) (i + 1) x2 I5 hcg B5 (by rw [gc]; exact S.tl.cg g34) (by rw [e2, l2, show i + 1 + L.length = i + (L.length + 1) by omega]) (by rw [g16]; omega)
          rw [g0, gc, g16, rn.1] at ih
          refine ⟨I5.1, hcg.2.2, AW.mono ih (fun v h' z => ⟨z.1, z.2.1, F5.tr z.2.2.1, ?_, ?_, ?_, ?_, ?_, z.2.2.2.2.2.2.2.2⟩)⟩
          · rw [z.2.2.2.1, g47]
            rfl
          · rw [z.2.2.2.2.1, g48]
            rfl
          · rw [z.2.2.2.2.2.1, g49]
            rfl
          · rw [z.2.2.2.2.2.2.1, g50]
            rfl
          · rw [z.2.2.2.2.2.2.2.1]
            show Int32.ofNat ((h_i h6 16 7).toNatClampNeg + 1 + (ptL L).length) = Int32.ofNat ((h_i h6 16 7).toNatClampNeg + ((ptL L).length + 1))
            rw [show (h_i h6 16 7).toNatClampNeg + 1 + (ptL L).length = (h_i h6 16 7).toNatClampNeg + ((ptL L).length + 1) by omega]
end MEN
/-! MEN, the reference: man j of its rows against a man M as the class has him -/
theorem wI_X {h : Hp_} {a b : Int32} (p1 : 0 ≤ a.toInt ∧ a.toInt < 16) (p2 : 0 ≤ b.toInt ∧ b.toInt < 16) : (∀ k, wX h a.toNatClampNeg b.toNatClampNeg = some k → (wI h a b).toInt = k) ∧ (wX h a.toNatClampNeg b.toNatClampNeg = none → wI h a b = -1) := by
  have t16 : (16 : Int32).toInt = 16 := rfl
  have t0 : (0 : Int32).toInt = 0 := rfl
  have tm : (1000000 : Int32).toInt = 1000000 := rfl
  have na := n_nat p1.1
  have nb := n_nat p2.1
  have c : (0 ≤ a ∧ a < 16) ∧ (0 ≤ b ∧ b < 16) := ⟨⟨q_le.mpr (by omega), q_lt.mpr (by omega)⟩, ⟨q_le.mpr (by omega), q_lt.mpr (by omega)⟩⟩
  unfold wX wI
  rw [if_pos c]
  by_cases y : dX h a.toNatClampNeg b.toNatClampNeg < 1000000
  · have y' : h_i h 30 (16 * a.toNatClampNeg + b.toNatClampNeg) < 1000000 := q_lt.mpr (by rw [tm]; exact y)
    rw [if_pos ⟨by omega, by omega, y⟩, if_pos y']
    exact ⟨fun k e => Option.some.inj e, fun e => (by cases e)⟩
  · have y' : ¬ h_i h 30 (16 * a.toNatClampNeg + b.toNatClampNeg) < 1000000 := fun z => y (by have := q_lt.mp z; rw [tm] at this; exact this)
    rw [if_neg (fun z => y z.2.2), if_neg y']
    exact ⟨fun k e => (by cases e), fun _ => rfl⟩
theorem wI_p {h : Hp_} (I : Iv h) (X : ExP h) (a b : Int32) : wI h a b = -1 ∨ (0 ≤ (wI h a b).toInt ∧ (wI h a b).toInt ≤ 900 ∧ (0 ≤ a.toInt ∧ a.toInt < 16) ∧ (0 ≤ b.toInt ∧ b.toInt < 16) ∧ wX h a.toNatClampNeg b.toNatClampNeg = some (wI h a b).toInt) := by
  by_cases c : (0 ≤ a ∧ a < 16) ∧ (0 ≤ b ∧ b < 16)
  · have t16 : (16 : Int32).toInt = 16 := rfl
    have t0 : (0 : Int32).toInt = 0 := rfl
    have u1 := q_le.mp c.1.1
    have u2 := q_lt.mp c.1.2
    have u3 := q_le.mp c.2.1
    have u4 := q_lt.mp c.2.2
    have q := wI_X (h := h) (a := a) (b := b) ⟨by omega, by omega⟩ ⟨by omega, by omega⟩
    cases e : wX h a.toNatClampNeg b.toNatClampNeg with
    | none => exact Or.inl (q.2 e)
    | some k =>
      have w := wX_le I X _ _ _ e
      have z := q.1 k e
      exact Or.inr ⟨by omega, by omega, ⟨by omega, by omega⟩, ⟨by omega, by omega⟩, by rw [z]⟩
  · refine Or.inl ?_
    unfold wI
    rw [if_neg c]
theorem c_woI (d : Nat) {h : Hp_} (I : Iv h) (x : ExP h) (x1 x2 : Int32) (p1 : 0 ≤ x1.toInt ∧ x1.toInt < 16) (p2 : 0 ≤ x2.toInt ∧ x2.toInt < 16) : Ci (m_X12_walkOf (d + 0) 0 0) [.ref 1, .int x1, .int x2] h (fun r h' => Iv h' ∧ Fr [203999] h h' ∧ r = wI h x1 x2) := by
  have q := wI_X (h := h) p1 p2
  refine Ci.mono (c_woR d I x x1 x2 p1 p2) (fun r h' k => ⟨k.1, k.2.1, ?_⟩)
  rcases k.2.2 with ⟨k, e, y⟩ | ⟨e, y⟩
  · exact Int32.toInt_inj.mp (y.trans (q.1 k e).symm)
  · rw [y, q.2 e]
noncomputable def mrL : List Nat := [208, 209, 210, 211, 212, 213, 214, 215, 216, 217, 218, 219, 248]
noncomputable def mwR : List Nat := 208999 :: 209999 :: 210999 :: 211999 :: 213999 :: 216999 :: 218999 :: 219999 :: 241999 :: 242999 :: 243999 :: 248999 :: wz_X12_see
noncomputable def Gmm (j : Nat) (h h' : Hp_) : Prop := Fr mwR h h' ∧ ∀ a, a ∈ mrL → ∀ k, k ≠ j → h_i h' a k = h_i h a k
theorem Gmm.rf (j : Nat) (h : Hp_) : Gmm j h h := ⟨Fr.rf _ _, fun _ _ _ _ => rfl⟩
theorem Gmm.tr {j : Nat} {h h1 h2 : Hp_} (a : Gmm j h h1) (b : Gmm j h1 h2) : Gmm j h h2 := ⟨a.1.tr b.1, fun x hx k n => (b.2 x hx k n).trans (a.2 x hx k n)⟩
theorem Gmm.im {j a k : Nat} {h0 h : Hp_} {x : Int32} (g : Gmm j h0 h) (w : inw mwR a k = true) (hk : a ∈ mrL → k = j) : Gmm j h0 (h_im h a k x) := ⟨g.1.im w, fun b hb i n => by
  rw [h_i_im, if_neg (fun e => n (e.2.trans (hk (e.1 ▸ hb))))]
  exact g.2 b hb i n⟩
theorem Gmm.imj {j a : Nat} {h0 h : Hp_} {x : Int32} (g : Gmm j h0 h) (w : inw mwR a 999 = true) : Gmm j h0 (h_im h a j x) := g.im (inw_row w j) (fun _ => rfl)
theorem Gmm.imo {j a k : Nat} {h0 h : Hp_} {x : Int32} (g : Gmm j h0 h) (w : inw mwR a 999 = true) (n : a ∉ mrL) : Gmm j h0 (h_im h a k x) := g.im (inw_row w k) (fun z => absurd z n)
theorem Gmm.fr {j : Nat} {ws : List Nat} {h0 h h' : Hp_} (g : Gmm j h0 h) (f : Fr ws h h') (s : wsub ws mwR = true) (o : mrL.all (fun a => off ws a) = true) : Gmm j h0 h' := g.tr ⟨f.more s, fun a ha k _ => fr_i f (List.all_eq_true.mp o a ha) k⟩
/-- what the reference reads and none of these methods writes -/
theorem Gmm.k {j : Nat} {h h' : Hp_} (g : Gmm j h h') : wI h' = wI h ∧ h_i h' 1 0 = h_i h 1 0 ∧ (∀ k, h_i h' 206 k = h_i h 206 k) ∧ (∀ k, h_i h' 227 k = h_i h 227 k) ∧ (∀ k, sB h' k = sB h k) ∧ (ExP h → ExP h') := by
  have e30 : ∀ k, h_i h' 30 k = h_i h 30 k := fun k => fr_i g.1 (by decide +kernel) k
  have e8 : ∀ k, h_i h' 228 k = h_i h 228 k := fun k => fr_i g.1 (by decide +kernel) k
  have e9 : ∀ k, h_i h' 229 k = h_i h 229 k := fun k => fr_i g.1 (by decide +kernel) k
  have e10 : ∀ k, h_i h' 230 k = h_i h 230 k := fun k => fr_i g.1 (by decide +kernel) k
  refine ⟨?_, (g.1.2 1 0 (by decide +kernel)).1, fun k => fr_i g.1 (by decide +kernel) k, fun k => fr_i g.1 (by decide +kernel) k, fun k => ?_, fun x => x.fr g.1 (by decide +kernel)⟩
  · funext a b
    unfold wI
    rw [e30]
  · funext i
    unfold sB
    rw [e8, e9, e10]
/-- man j of the reference is M -/
noncomputable def RMp (j : Nat) (M : Nat → Int32) (h : Hp_) : Prop := (h_i h 208 j = M 4 ∧ h_i h 209 j = M 5 ∧ h_i h 210 j = M 6 ∧ h_i h 211 j = M 7) ∧ (M 4 = 1 → h_i h 212 j = M 8 ∧ h_i h 213 j = M 9 ∧ h_i h 214 j = M 10 ∧ h_i h 216 j = M 11 ∧ h_i h 217 j = M 12) ∧ (M 4 = 3 → h_i h 218 j = M 13 ∧ h_i h 219 j = M 14) ∧ h_i h 206 j = M 3
/-- the reference's rows take events -/
noncomputable def rq (g : Ev2 → Option Int32) : Nat → List Ev2 → (Nat → Int32) → Nat → Int32
  | _, [], f => f
  | r, e :: E, f => rq g (r + 1) E (match g e with | some v => up1 f r v | none => f)
theorem rq_a (g : Ev2 → Option Int32) : ∀ (E1 E2 : List Ev2) (r : Nat) (f : Nat → Int32), rq g r (E1 ++ E2) f = rq g (r + E1.length) E2 (rq g r E1 f)
  | [], _, _, _ => rfl
  | e :: E1, E2, r, f => by
    show rq g (r + 1) (E1 ++ E2) _ = rq g (r + (E1.length + 1)) E2 (rq g (r + 1) E1 _)
    rw [rq_a g E1 E2 (r + 1), show r + 1 + E1.length = r + (E1.length + 1) by omega]
noncomputable def gM (n : Int32) (e : Ev2) : Option Int32 := if e.1 = 1 then some n else none
noncomputable def gS (n : Int32) (e : Ev2) : Option Int32 := if e.1 = 1 then none else some n
noncomputable def gC (e : Ev2) : Option Int32 := if e.1 = 1 then none else some e.2
section MEN
variable {β : Type} {PM : β → Hp_ → Prop} {tB : Int32 → Int32 → β → β} {lM : Nat → Hp_ → β → β}
/-- what else is kept in the reference -/
noncomputable def PMok {β : Type} (PM : β → Hp_ → Prop) (tB : Int32 → Int32 → β → β) (lM : Nat → Hp_ → β → β) : Prop :=
  (∀ b h a k x, ((208 ≤ a ∧ a ≤ 219) ∨ (238 ≤ a ∧ a ≤ 244) ∨ a = 248 ∨ (a = 1 ∧ k = 63)) → PM b h → PM b (h_im h a k x)) ∧
  (∀ b h h', Fr [203999] h h' → PM b h → PM b h') ∧
  (∀ d b h x1, Iv h → (0 ≤ x1.toInt ∧ x1.toInt ≤ 11) → PM b h → AW (m_X12_free (d + 0) 0 0) 0 0 42 [(0, .ref 1), (1, .int x1), (2, .int 0)] [] h (kV (fun h' => Iv h' ∧ Fr [260999] h h' ∧ PM (tB x1 (h_i h 1 0) b) h'))) ∧
  (∀ d b h x1, Iv h → (0 ≤ x1.toInt ∧ x1.toInt ≤ 11) → PM b h → Cv (m_X12_see (d + 7) 0 0) [.ref 1, .int x1] h (fun h' => Iv h' ∧ Fr wz_X12_see h h' ∧ PM (lM x1.toNatClampNeg h b) h'))
noncomputable def Mx (PM : β → Hp_ → Prop) (j : Nat) (n : Int32) (M' : Nat → Int32) (r : Nat) (E : List Ev2) (b' : β) (h h' : Hp_) : Prop := Iv h' ∧ Gmm j h h' ∧ RMp j M' h' ∧ (h_i h' 241 = rq (gM n) r E (h_i h 241) ∧ h_i h' 242 = rq (gS n) r E (h_i h 242) ∧ h_i h' 243 = rq gC r E (h_i h 243)) ∧ PM b' h'
theorem Mx.tr {j : Nat} {n : Int32} {M1 M2 : Nat → Int32} {r r' : Nat} {E1 E2 : List Ev2} {b1 b2 : β} {h h1 h2 : Hp_} (a : Mx PM j n M1 r E1 b1 h h1) (b : Mx PM j n M2 r' E2 b2 h1 h2) (e : r' = r + E1.length) : Mx PM j n M2 r (E1 ++ E2) b2 h h2 := ⟨b.1, a.2.1.tr b.2.1, b.2.2.1, ⟨by rw [b.2.2.2.1.1, a.2.2.2.1.1, e, rq_a], by rw [b.2.2.2.1.2.1, a.2.2.2.1.2.1, e, rq_a], by rw [b.2.2.2.1.2.2, a.2.2.2.1.2.2, e, rq_a]⟩, b.2.2.2.2⟩
theorem Mx.rf {j : Nat} {n : Int32} {M : Nat → Int32} {r : Nat} {b : β} {h : Hp_} (I : Iv h) (R : RMp j M h) (B : PM b h) : Mx PM j n M r [] b h h := ⟨I, Gmm.rf _ _, R, ⟨rfl, rfl, rfl⟩, B⟩
theorem v12 {x1 : Int32} (b : 0 ≤ x1.toInt ∧ x1.toInt ≤ 11) : vp_in x1 12 := dp_in (lo := 0) (hi := 11) ⟨b.1, b.2⟩ (by decide) (by decide)
/-- ranges of what the reference keeps of a man -/
theorem m209 {h : Hp_} (I : Iv h) (k : Nat) : -1 ≤ (h_i h 209 k).toInt ∧ (h_i h 209 k).toInt ≤ 15 := by
  have rg := I.2.1 209 k
  rw [tfa_tf (show tfa 209 = some (-1, 15) by decide +kernel)] at rg
  exact ⟨rg.1, rg.2⟩
theorem m210 {h : Hp_} (I : Iv h) (k : Nat) : -1 ≤ (h_i h 210 k).toInt ∧ (h_i h 210 k).toInt ≤ 15 := by
  have rg := I.2.1 210 k
  rw [tfa_tf (show tfa 210 = some (-1, 15) by decide +kernel)] at rg
  exact ⟨rg.1, rg.2⟩
theorem m206 {h : Hp_} (I : Iv h) (k : Nat) : 0 ≤ (h_i h 206 k).toInt ∧ (h_i h 206 k).toInt ≤ 15 := by
  have rg := I.2.1 206 k
  rw [tfa_tf (show tfa 206 = some (0, 15) by decide +kernel)] at rg
  exact ⟨rg.1, rg.2⟩
theorem m218 {h : Hp_} (I : Iv h) (k : Nat) : 0 ≤ (h_i h 218 k).toInt ∧ (h_i h 218 k).toInt ≤ 15 := by
  have rg := I.2.1 218 k
  rw [tfa_tf (show tfa 218 = some (0, 15) by decide +kernel)] at rg
  exact ⟨rg.1, rg.2⟩
theorem im208 {h : Hp_} (I : Iv h) (k : Nat) (x : Int32) : Iv (h_im h 208 k x) := tr_ 208 (by decide +kernel) I _ _ (by decide) (by decide)
theorem im211 {h : Hp_} (I : Iv h) (k : Nat) (x : Int32) : Iv (h_im h 211 k x) := tr_ 211 (by decide +kernel) I _ _ (by decide) (by decide)
theorem im209 {h : Hp_} (I : Iv h) (k : Nat) (x : Int32) (b : -1 ≤ x.toInt ∧ x.toInt ≤ 15) : Iv (h_im h 209 k x) := I.im (by rw [tfa_tf (show tfa 209 = some (-1, 15) by decide +kernel)]; exact ⟨b.1, b.2⟩) (jw_jr (by decide) (by decide) _)
theorem im210 {h : Hp_} (I : Iv h) (k : Nat) (x : Int32) (b : -1 ≤ x.toInt ∧ x.toInt ≤ 15) : Iv (h_im h 210 k x) := I.im (by rw [tfa_tf (show tfa 210 = some (-1, 15) by decide +kernel)]; exact ⟨b.1, b.2⟩) (jw_jr (by decide) (by decide) _)
theorem im213 {h : Hp_} (I : Iv h) (k : Nat) (x : Int32) (b : -1 ≤ x.toInt ∧ x.toInt ≤ 150) : Iv (h_im h 213 k x) := I.im (by rw [tfa_tf (show tfa 213 = some (-1, 150) by decide +kernel)]; exact ⟨b.1, b.2⟩) (jw_jr (by decide) (by decide) _)
theorem im216 {h : Hp_} (I : Iv h) (k : Nat) (x : Int32) (b : 0 ≤ x.toInt ∧ x.toInt ≤ 400) : Iv (h_im h 216 k x) := I.im (by rw [tfa_tf (show tfa 216 = some (0, 400) by decide +kernel)]; exact ⟨b.1, b.2⟩) (jw_jr (by decide) (by decide) _)
theorem i24 {h : Hp_} (I : Iv h) (a k : Nat) (x : Int32) (b : a = 241 ∨ a = 242 ∨ a = 243) : Iv (h_im h a k x) := by
  rcases b with e | e | e <;> subst e
  · exact tr_ 241 (by decide +kernel) I _ _ (by decide) (by decide)
  · exact tr_ 242 (by decide +kernel) I _ _ (by decide) (by decide)
  · exact tr_ 243 (by decide +kernel) I _ _ (by decide) (by decide)
/-- he sets out: the reference, where there is a walk and it takes time -/
theorem m_so (P : PMok PM tB lM) (d : Nat) {h : Hp_} (I : Iv h) (X : ExP h) {x1 : Int32} (hx : 0 ≤ x1.toInt ∧ x1.toInt ≤ 11) {M : Nat → Int32} (R : RMp x1.toNatClampNeg M h) {b : β} (B : PM b h) (x2 : Int32) (p : 0 ≤ (M 5).toInt) (p2 : 0 ≤ x2.toInt ∧ x2.toInt ≤ 15) (r : Nat) (nz : ¬ wI h (M 5) x2 = -1) : Cv (m_X12_setOut (d + 1) 0 0) [.ref 1, .int x1, .int x2] h (fun h' => Mx PM x1.toNatClampNeg (h_i h 1 0) (if 0 < wI h (M 5) x2 then sOut (h_i h 1 0) (wI h (M 5) x2) x2 M else M) r [] b h h') := by
  have v := v12 hx
  have b9 := m209 I x1.toNatClampNeg
  have t0 : (0 : Int32).toInt = 0 := rfl
  rw [R.1.2.1] at b9
  have W := c_woI d I X (M 5) x2 ⟨p, by omega⟩ ⟨p2.1, by omega⟩
  refine t_X12_setOut d h I.1 x1 x2 _ ⟨v, ?_⟩
  rw [R.1.2.1]
  refine Ci.mono W (fun r4 h2 k => ?_)
  obtain ⟨I2, F2, er⟩ := k
  subst er
  have G2 : Gmm x1.toNatClampNeg h h2 := (Gmm.rf _ _).fr F2 (by decide +kernel) (by decide +kernel)
  have B2 : PM b h2 := P.2.1 b h h2 F2 B
  have f : ∀ a, off [203999] a = true → ∀ k, h_i h2 a k = h_i h a k := fun a o k => fr_i F2 o k
  have n2 : h_i h2 1 0 = h_i h 1 0 := (F2.2 1 0 (by decide +kernel)).1
  refine ⟨I2.1, fun n0 => ⟨v, v, v, ?_⟩, fun e0 => ?_⟩
  · have y : 0 < wI h (M 5) x2 := by
      rcases wI_p I X (M 5) x2 with q | q
      · exact absurd q nz
      · refine q_lt.mpr ?_
        rcases Int.lt_or_le 0 (wI h (M 5) x2).toInt with u | u
        · omega
        · exact absurd (Int32.toInt_inj.mp (by omega)) n0
    rw [if_pos y, n2]
    refine ⟨im211 (im210 (im209 I2 _ _ (by decide)) _ _ ⟨by omega, p2.2⟩) _ _, ((G2.imj (by decide +kernel)).imj (by decide +kernel)).imj (by decide +kernel), ⟨⟨?_, ?_, ?_, ?_⟩, fun e4 => ?_, fun e4 => ?_, ?_⟩, ⟨?_, ?_, ?_⟩, P.1 _ _ _ _ _ (Or.inl (by decide)) (P.1 _ _ _ _ _ (Or.inl (by decide)) (P.1 _ _ _ _ _ (Or.inl (by decide)) B2))⟩
    · rw [im_ne (by decide), im_ne (by decide), im_ne (by decide), f 208 (by decide +kernel), sOut_k (by decide) (by decide) (by decide)]
      exact R.1.1
    · rw [im_ne (by decide), im_ne (by decide), im_at]
      exact up1_at.symm
    · rw [im_ne (by decide), im_at]
      unfold sOut
      rw [up1_ne (by decide), up1_ne (by decide), up1_at]
    · rw [im_at]
      unfold sOut
      rw [up1_ne (by decide), up1_at]
    · rw [sOut_k (by decide) (by decide) (by decide)] at e4
      rw [im_ne (by decide), im_ne (by decide), im_ne (by decide), im_ne (by decide), im_ne (by decide), im_ne (by decide), im_ne (by decide), im_ne (by decide), im_ne (by decide), im_ne (by decide), im_ne (by decide), im_ne (by decide), im_ne (by decide), im_ne (by decide), im_ne (by decide), f 212 (by decide +kernel), f 213 (by decide +kernel), f 214 (by decide +kernel), f 216 (by decide +kernel), f 217 (by decide +kernel), sOut_k (by decide) (by decide) (by decide), sOut_k (by decide) (by decide) (by decide), sOut_k (by decide) (by decide) (by decide), sOut_k (by decide) (by decide) (by decide), sOut_k (by decide) (by decide) (by decide)]
      exact R.2.1 e4
    · rw [sOut_k (by decide) (by decide) (by decide)] at e4
      rw [im_ne (by decide), im_ne (by decide), im_ne (by decide), im_ne (by decide), im_ne (by decide), im_ne (by decide), f 218 (by decide +kernel), f 219 (by decide +kernel), sOut_k (by decide) (by decide) (by decide), sOut_k (by decide) (by decide) (by decide)]
      exact R.2.2.1 e4
    · rw [im_ne (by decide), im_ne (by decide), im_ne (by decide), f 206 (by decide +kernel), sOut_k (by decide) (by decide) (by decide)]
      exact R.2.2.2
    · rw [im_oth (by decide), im_oth (by decide), im_oth (by decide)]
      exact funext (fun k => f 241 (by decide +kernel) k)
    · rw [im_oth (by decide), im_oth (by decide), im_oth (by decide)]
      exact funext (fun k => f 242 (by decide +kernel) k)
    · rw [im_oth (by decide), im_oth (by decide), im_oth (by decide)]
      exact funext (fun k => f 243 (by decide +kernel) k)
  · rw [if_neg (by rw [e0]; decide)]
    refine ⟨I2, G2, ?_, ⟨funext (fun k => f 241 (by decide +kernel) k), funext (fun k => f 242 (by decide +kernel) k), funext (fun k => f 243 (by decide +kernel) k)⟩, B2⟩
    unfold RMp
    rw [f 208 (by decide +kernel), f 209 (by decide +kernel), f 210 (by decide +kernel), f 211 (by decide +kernel), f 212 (by decide +kernel), f 213 (by decide +kernel), f 214 (by decide +kernel), f 216 (by decide +kernel), f 217 (by decide +kernel), f 218 (by decide +kernel), f 219 (by decide +kernel), f 206 (by decide +kernel)]
    exact R
end MEN
/-! MEN, the reference: free, goHome, stay, goDrawn, comes -/
theorem RMp.cg {j : Nat} {M : Nat → Int32} {h h' : Hp_} (R : RMp j M h) (e : ∀ a, a ∈ (206 :: mrL) → h_i h' a j = h_i h a j) : RMp j M h' := by
  unfold RMp
  rw [e 208 (by decide), e 209 (by decide), e 210 (by decide), e 211 (by decide), e 212 (by decide), e 213 (by decide), e 214 (by decide), e 216 (by decide), e 217 (by decide), e 218 (by decide), e 219 (by decide), e 206 (by decide)]
  exact R
section MEN
variable {β : Type} {PM : β → Hp_ → Prop} {tB : Int32 → Int32 → β → β} {lM : Nat → Hp_ → β → β}
theorem Mx.fr {j : Nat} {n : Int32} {M : Nat → Int32} {r : Nat} {E : List Ev2} {b b' : β} {ws : List Nat} {h h1 h2 : Hp_} (s : Mx PM j n M r E b h h1) (I : Iv h2) (f : Fr ws h1 h2) (B : PM b' h2) (o1 : wsub ws mwR = true) (o2 : mrL.all (fun a => off ws a) = true) (o3 : (off ws 206 && off ws 241 && off ws 242 && off ws 243) = true) : Mx PM j n M r E b' h h2 := by
  simp only [Bool.and_eq_true] at o3
  refine ⟨I, s.2.1.fr f o1 o2, s.2.2.1.cg (fun a ha => ?_), ⟨?_, ?_, ?_⟩, B⟩
  · rcases List.mem_cons.mp ha with e | e
    · rw [e]
      exact fr_i f o3.1.1.1 j
    · exact fr_i f (List.all_eq_true.mp o2 a e) j
  · rw [← s.2.2.2.1.1]
    exact funext (fun k => fr_i f o3.1.1.2 k)
  · rw [← s.2.2.2.1.2.1]
    exact funext (fun k => fr_i f o3.1.2 k)
  · rw [← s.2.2.2.1.2.2]
    exact funext (fun k => fr_i f o3.2 k)
theorem m_fr (P : PMok PM tB lM) (d : Nat) {h : Hp_} (I : Iv h) {x1 : Int32} (hx : 0 ≤ x1.toInt ∧ x1.toInt ≤ 11) {b : β} (B : PM b h) (r : Nat) (M' : Nat → Int32) (e4 : M' 4 = 0) (e5 : M' 5 = h_i h 206 x1.toNatClampNeg) (e6 : M' 6 = -1) (e7 : M' 7 = -1) (e3 : M' 3 = h_i h 206 x1.toNatClampNeg) : Cv (m_X12_free (d + 0) 0 0) [.ref 1, .int x1] h (fun h' => Mx PM x1.toNatClampNeg (h_i h 1 0) M' r [] (tB x1 (h_i h 1 0) b) h h') := by
  have v := v12 hx
  have b6 := m206 I x1.toNatClampNeg
  have I5 := im213 (im211 (im210 (im209 (im208 I x1.toNatClampNeg 0) x1.toNatClampNeg (h_i h 206 x1.toNatClampNeg) ⟨by omega, b6.2⟩) x1.toNatClampNeg (-1) (by decide)) x1.toNatClampNeg (-1)) x1.toNatClampNeg (-1) (by decide)
  have B5 := P.1 _ _ 213 x1.toNatClampNeg (-1) (Or.inl (by decide)) (P.1 _ _ 211 x1.toNatClampNeg (-1) (Or.inl (by decide)) (P.1 _ _ 210 x1.toNatClampNeg (-1) (Or.inl (by decide)) (P.1 _ _ 209 x1.toNatClampNeg (h_i h 206 x1.toNatClampNeg) (Or.inl (by decide)) (P.1 b h 208 x1.toNatClampNeg 0 (Or.inl (by decide)) B))))
  have G5 : Gmm x1.toNatClampNeg h (h_im (h_im (h_im (h_im (h_im h 208 x1.toNatClampNeg 0) 209 x1.toNatClampNeg (h_i h 206 x1.toNatClampNeg)) 210 x1.toNatClampNeg (-1)) 211 x1.toNatClampNeg (-1)) 213 x1.toNatClampNeg (-1)) := (((((Gmm.rf _ _).imj (by decide +kernel)).imj (by decide +kernel)).imj (by decide +kernel)).imj (by decide +kernel)).imj (by decide +kernel)
  have q8 : h_i (h_im (h_im (h_im (h_im (h_im h 208 x1.toNatClampNeg 0) 209 x1.toNatClampNeg (h_i h 206 x1.toNatClampNeg)) 210 x1.toNatClampNeg (-1)) 211 x1.toNatClampNeg (-1)) 213 x1.toNatClampNeg (-1)) 208 x1.toNatClampNeg = 0 := by rw [im_ne (by decide), im_ne (by decide), im_ne (by decide), im_ne (by decide), im_at]
  have q9 : h_i (h_im (h_im (h_im (h_im (h_im h 208 x1.toNatClampNeg 0) 209 x1.toNatClampNeg (h_i h 206 x1.toNatClampNeg)) 210 x1.toNatClampNeg (-1)) 211 x1.toNatClampNeg (-1)) 213 x1.toNatClampNeg (-1)) 209 x1.toNatClampNeg = h_i h 206 x1.toNatClampNeg := by rw [im_ne (by decide), im_ne (by decide), im_ne (by decide), im_at]
  have q10 : h_i (h_im (h_im (h_im (h_im (h_im h 208 x1.toNatClampNeg 0) 209 x1.toNatClampNeg (h_i h 206 x1.toNatClampNeg)) 210 x1.toNatClampNeg (-1)) 211 x1.toNatClampNeg (-1)) 213 x1.toNatClampNeg (-1)) 210 x1.toNatClampNeg = -1 := by rw [im_ne (by decide), im_ne (by decide), im_at]
  have q11 : h_i (h_im (h_im (h_im (h_im (h_im h 208 x1.toNatClampNeg 0) 209 x1.toNatClampNeg (h_i h 206 x1.toNatClampNeg)) 210 x1.toNatClampNeg (-1)) 211 x1.toNatClampNeg (-1)) 213 x1.toNatClampNeg (-1)) 211 x1.toNatClampNeg = -1 := by rw [im_ne (by decide), im_at]
  have qo : ∀ a, a ≠ 208 → a ≠ 209 → a ≠ 210 → a ≠ 211 → a ≠ 213 → h_i (h_im (h_im (h_im (h_im (h_im h 208 x1.toNatClampNeg 0) 209 x1.toNatClampNeg (h_i h 206 x1.toNatClampNeg)) 210 x1.toNatClampNeg (-1)) 211 x1.toNatClampNeg (-1)) 213 x1.toNatClampNeg (-1)) a = h_i h a := fun a n1 n2 n3 n4 n5 => by rw [im_oth n5, im_oth n4, im_oth n3, im_oth n2, im_oth n1]
  refine t_X12_free d h I.1 x1 _ ⟨v, v, v, v, v, v, ?_⟩
  generalize h_im (h_im (h_im (h_im (h_im h 208 x1.toNatClampNeg 0) 209 x1.toNatClampNeg (h_i h 206 x1.toNatClampNeg)) 210 x1.toNatClampNeg (-1)) 211 x1.toNatClampNeg (-1)) 213 x1.toNatClampNeg (-1) = g at *
  have g0 : h_i g 1 0 = h_i h 1 0 := by rw [qo 1 (by decide) (by decide) (by decide) (by decide) (by decide)]
  have s : Mx PM x1.toNatClampNeg (h_i h 1 0) M' r [] b h g := ⟨I5, G5, ⟨⟨by rw [q8, e4], by rw [q9, e5], by rw [q10, e6], by rw [q11, e7]⟩, fun y => absurd (e4.symm.trans y) (by decide), fun y => absurd (e4.symm.trans y) (by decide), by rw [qo 206 (by decide) (by decide) (by decide) (by decide) (by decide), e3]⟩, ⟨qo 241 (by decide) (by decide) (by decide) (by decide) (by decide), qo 242 (by decide) (by decide) (by decide) (by decide) (by decide), qo 243 (by decide) (by decide) (by decide) (by decide) (by decide)⟩, B5⟩
  have z := P.2.2.1 d b g x1 I5 hx B5
  rw [g0] at z
  exact AW.mono z (fun w h' k => ⟨k.1, s.fr k.2.1 k.2.2.1 k.2.2.2 (by decide +kernel) (by decide +kernel) (by decide +kernel)⟩)
/-- a store into the man himself -/
theorem Mx.imj (P : PMok PM tB lM) {j a : Nat} {n : Int32} {M M' : Nat → Int32} {r : Nat} {E : List Ev2} {b : β} {h h1 : Hp_} {x : Int32} (s : Mx PM j n M r E b h h1) (I : Iv (h_im h1 a j x)) (ha : 208 ≤ a ∧ a ≤ 219) (w : inw mwR a 999 = true) (R : RMp j M' (h_im h1 a j x)) : Mx PM j n M' r E b h (h_im h1 a j x) := ⟨I, s.2.1.imj w, R, ⟨by rw [im_oth (by omega)]; exact s.2.2.2.1.1, by rw [im_oth (by omega)]; exact s.2.2.2.1.2.1, by rw [im_oth (by omega)]; exact s.2.2.2.1.2.2⟩, P.1 _ _ _ _ _ (Or.inl ha) s.2.2.2.2⟩
theorem m_gh (P : PMok PM tB lM) (d : Nat) {h : Hp_} (I : Iv h) (X : ExP h) {x1 : Int32} (hx : 0 ≤ x1.toInt ∧ x1.toInt ≤ 11) {M : Nat → Int32} (R : RMp x1.toNatClampNeg M h) {b : β} (B : PM b h) (p : 0 ≤ (M 5).toInt) (p6 : M 6 = -1) (n0 : M 0 = x1) (r : Nat) : Cv (m_X12_goHome (d + 2) 0 0) [.ref 1, .int x1] h (fun h' => Mx PM x1.toNatClampNeg (h_i h 1 0) (fHome (h_i h 1 0) (wI h) M) r [] (fB tB (h_i h 1 0) (fHome (h_i h 1 0) (wI h) M) b) h h') := by
  have v := v12 hx
  have b6 := m206 I x1.toNatClampNeg
  have b9 := m209 I x1.toNatClampNeg
  have t0 : (0 : Int32).toInt = 0 := rfl
  have I3 := im211 (im213 (im208 I x1.toNatClampNeg 2) x1.toNatClampNeg (-1) (by decide)) x1.toNatClampNeg (-1)
  have B3 := P.1 _ _ 211 x1.toNatClampNeg (-1) (Or.inl (by decide)) (P.1 _ _ 213 x1.toNatClampNeg (-1) (Or.inl (by decide)) (P.1 b h 208 x1.toNatClampNeg 2 (Or.inl (by decide)) B))
  have G3 : Gmm x1.toNatClampNeg h (h_im (h_im (h_im h 208 x1.toNatClampNeg 2) 213 x1.toNatClampNeg (-1)) 211 x1.toNatClampNeg (-1)) := (((Gmm.rf _ _).imj (by decide +kernel)).imj (by decide +kernel)).imj (by decide +kernel)
  have R3 : RMp x1.toNatClampNeg (up1 (up1 M 4 2) 7 (-1)) (h_im (h_im (h_im h 208 x1.toNatClampNeg 2) 213 x1.toNatClampNeg (-1)) 211 x1.toNatClampNeg (-1)) := by
    refine ⟨⟨?_, ?_, ?_, ?_⟩, fun y => absurd (show (2 : Int32) = 1 from y) (by decide), fun y => absurd (show (2 : Int32) = 3 from y) (by decide), ?_⟩
    · rw [im_ne (by decide), im_ne (by decide), im_at]
      rfl
    · rw [im_ne (by decide), im_ne (by decide), im_ne (by decide)]
      exact R.1.2.1
    · rw [im_ne (by decide), im_ne (by decide), im_ne (by decide)]
      exact R.1.2.2.1
    · rw [im_at]
      rfl
    · rw [im_ne (by decide), im_ne (by decide), im_ne (by decide)]
      exact R.2.2.2
  have qo : ∀ a, a ≠ 208 → a ≠ 213 → a ≠ 211 → h_i (h_im (h_im (h_im h 208 x1.toNatClampNeg 2) 213 x1.toNatClampNeg (-1)) 211 x1.toNatClampNeg (-1)) a = h_i h a := fun a n1 n2 n3 => by rw [im_oth n3, im_oth n2, im_oth n1]
  have s : Mx PM x1.toNatClampNeg (h_i h 1 0) (up1 (up1 M 4 2) 7 (-1)) r [] b h (h_im (h_im (h_im h 208 x1.toNatClampNeg 2) 213 x1.toNatClampNeg (-1)) 211 x1.toNatClampNeg (-1)) := ⟨I3, G3, R3, ⟨qo 241 (by decide) (by decide) (by decide), qo 242 (by decide) (by decide) (by decide), qo 243 (by decide) (by decide) (by decide)⟩, B3⟩
  have e206 := R.2.2.2
  have e209 := R.1.2.1
  refine t_X12_goHome d h I.1 x1 _ ⟨v, v, v, v, v, ?_⟩
  generalize h_im (h_im (h_im h 208 x1.toNatClampNeg 2) 213 x1.toNatClampNeg (-1)) 211 x1.toNatClampNeg (-1) = g at *
  have gk := G3.k
  rw [e206] at b6
  rw [e209] at b9
  rw [e206, e209]
  have W := c_woI d I3 (gk.2.2.2.2.2 X) (M 5) (M 3) ⟨p, by omega⟩ ⟨by omega, by omega⟩
  rw [gk.1] at W
  refine Ci.mono W (fun r8 h6 k => ?_)
  obtain ⟨I6, F6, er⟩ := k
  subst er
  have B6 : PM b h6 := P.2.1 b g h6 F6 B3
  have s6 : Mx PM x1.toNatClampNeg (h_i h 1 0) (up1 (up1 M 4 2) 7 (-1)) r [] b h h6 := s.fr I6 F6 B6 (by decide +kernel) (by decide +kernel) (by decide +kernel)
  have k6 := s6.2.1.k
  have h206 : h_i h6 206 x1.toNatClampNeg = M 3 := s6.2.2.1.2.2.2
  have fr : ¬ 0 < wI h (M 5) (M 3) → Cv (m_X12_free (d + 0) 0 0) [.ref 1, .int x1] h6 (fun h10 => Wf h10 ∧ Mx PM x1.toNatClampNeg (h_i h 1 0) (fHome (h_i h 1 0) (wI h) M) r [] (fB tB (h_i h 1 0) (fHome (h_i h 1 0) (wI h) M) b) h h10) := fun y => by
    have f : fHome (h_i h 1 0) (wI h) M = fFree (up1 (up1 M 4 2) 5 (M 3)) := by
      unfold fHome
      rw [if_neg y]
    have z0 : fFree (up1 (up1 M 4 2) 5 (M 3)) 4 = 0 := by
      unfold fFree
      rw [up1_ne (by decide), up1_at]
    have z1 : fFree (up1 (up1 M 4 2) 5 (M 3)) 0 = x1 := by
      rw [fFree_k (by decide) (by decide), up1_ne (by decide), up1_ne (by decide), n0]
    have fb : fB tB (h_i h 1 0) (fFree (up1 (up1 M 4 2) 5 (M 3))) b = tB x1 (h_i h 1 0) b := by
      unfold fB
      rw [if_pos z0, z1]
    rw [f, fb]
    have z := m_fr P d I6 hx B6 r (fFree (up1 (up1 M 4 2) 5 (M 3))) z0 (by rw [fFree_k (by decide) (by decide), up1_at, h206]) (by rw [fFree_k (by decide) (by decide), up1_ne (by decide), up1_ne (by decide)]; exact p6) (by unfold fFree; rw [up1_at]) (by rw [fFree_k (by decide) (by decide), up1_ne (by decide), up1_ne (by decide), h206])
    rw [k6.2.1] at z
    exact Cv.mono z (fun h10 k => ⟨k.1.1, s6.tr k rfl⟩)
  refine ⟨I6.1, fun e1 => fr (by rw [e1]; decide), fun n1 => ⟨fun nz => ⟨v, ?_⟩, fun e0 => fr (by rw [e0]; decide)⟩⟩
  have y : 0 < wI h (M 5) (M 3) := by
    rcases wI_p I X (M 5) (M 3) with q | q
    · exact absurd q n1
    · refine q_lt.mpr ?_
      rcases Int.lt_or_le 0 (wI h (M 5) (M 3)).toInt with u | u
      · omega
      · exact absurd (Int32.toInt_inj.mp (by omega)) nz
  have f : fHome (h_i h 1 0) (wI h) M = sOut (h_i h 1 0) (wI h (M 5) (M 3)) (M 3) (up1 M 4 2) := by
    unfold fHome
    rw [if_pos y]
  have f7 : sOut (h_i h 1 0) (wI h (M 5) (M 3)) (M 3) (up1 (up1 M 4 2) 7 (-1)) = sOut (h_i h 1 0) (wI h (M 5) (M 3)) (M 3) (up1 M 4 2) := by
    funext k
    unfold sOut
    by_cases a5 : k = 5
    · rw [a5, up1_at, up1_at]
    · rw [up1_ne a5, up1_ne a5]
      by_cases a7 : k = 7
      · rw [a7, up1_at, up1_at]
      · rw [up1_ne a7, up1_ne a7]
        by_cases a6 : k = 6
        · rw [a6, up1_at, up1_at]
        · rw [up1_ne a6, up1_ne a6, up1_ne a7]
  have fb : fB tB (h_i h 1 0) (sOut (h_i h 1 0) (wI h (M 5) (M 3)) (M 3) (up1 M 4 2)) b = b := by
    unfold fB
    rw [sOut_k (by decide) (by decide) (by decide), up1_at, if_neg (by decide)]
  rw [h206, f, fb]
  have u5 : up1 (up1 M 4 2) 7 (-1) 5 = M 5 := by rw [up1_ne (by decide), up1_ne (by decide)]
  have z := m_so P d I6 (k6.2.2.2.2.2 X) hx s6.2.2.1 B6 (M 3) (by rw [u5]; exact p) ⟨by omega, by omega⟩ r (by rw [u5, k6.1]; exact n1)
  rw [u5, k6.1, k6.2.1, if_pos y, f7] at z
  exact Cv.mono z (fun h15 k => ⟨k.1.1, s6.tr k rfl⟩)
end MEN
/-! walks: who can reach whom -/
theorem wkq_1 {E : Nat → Nat × Nat × Int} {n i : Nat} (hi : i < n) : wkq E n (E i).1 1 (E i).2.1 (E i).2.2 ∧ wkq E n (E i).2.1 1 (E i).1 (E i).2.2 := ⟨⟨i, hi, Or.inl ⟨rfl, rfl, Int.sub_self _⟩⟩, ⟨i, hi, Or.inr ⟨rfl, rfl, Int.sub_self _⟩⟩⟩
theorem wkq_rv {E : Nat → Nat × Nat × Int} {n u : Nat} : ∀ (k v : Nat) (t : Int), wkq E n u k v t → ∃ k' t', wkq E n v k' u t'
  | 0, v, t, h => by
    have h' : v = u ∧ t = 0 := h
    exact ⟨0, 0, h'.1.symm, rfl⟩
  | k + 1, v, t, ⟨i, hi, h⟩ => by
    have e := wkq_1 (E := E) hi
    rcases h with ⟨a, b⟩ | ⟨a, b⟩
    · obtain ⟨k', t', z⟩ := wkq_rv k _ _ b
      rw [a]
      exact ⟨_, _, wkq_cc e.2 k' _ _ z⟩
    · obtain ⟨k', t', z⟩ := wkq_rv k _ _ b
      rw [a]
      exact ⟨_, _, wkq_cc e.1 k' _ _ z⟩
theorem Exr.cn {E : Nat → Nat × Nat × Int} {n u : Nat} {B : Int} {d : Nat → Int} (x : Exr E n B u d) (e : Ev E n) (hB : 1000 < B) : ∀ (k v : Nat) (t : Int), v < 16 → wkq E n u k v t → d v < B
  | 0, v, t, hv, h => by
    have q := (x v hv).2.1 0 t h
    have h' : v = u ∧ t = 0 := h
    omega
  | k + 1, v, t, hv, ⟨i, hi, h⟩ => by
    have ei := e i hi
    have fe := x.fe e i hi
    rcases h with ⟨a, b⟩ | ⟨a, b⟩
    · have ih := x.cn e hB k _ _ ei.1.1 b
      have l := x.le e ei.1.1 ih
      rw [a]
      omega
    · have ih := x.cn e hB k _ _ ei.1.2 b
      have l := x.le e ei.1.2 ih
      rw [a]
      omega
theorem wkq_t {E : Nat → Nat × Nat × Int} {n u : Nat} (e : Ev E n) : ∀ (k v : Nat) (t : Int), wkq E n u k v t → (k : Int) ≤ t
  | 0, v, t, h => by
    have h' : v = u ∧ t = 0 := h
    omega
  | k + 1, v, t, ⟨i, hi, h⟩ => by
    have ei := e i hi
    rcases h with ⟨_, b⟩ | ⟨_, b⟩
    · have ih := wkq_t e k _ _ b
      omega
    · have ih := wkq_t e k _ _ b
      omega
/-- there is a walk from a to b -/
noncomputable def Wy (h : Hp_) (a b : Int32) : Prop := (0 ≤ a.toInt ∧ a.toInt < 16) ∧ (0 ≤ b.toInt ∧ b.toInt < 16) ∧ ∃ k t, wkq (eE h) (eN h) a.toNatClampNeg k b.toNatClampNeg t
theorem wI_y {h : Hp_} (I : Iv h) (X : ExP h) {a b : Int32} : ¬ wI h a b = -1 ↔ Wy h a b := by
  constructor
  · intro n
    rcases wI_p I X a b with q | q
    · exact absurd q n
    · refine ⟨q.2.2.1, q.2.2.2.1, ?_⟩
      have na := n_nat q.2.2.1.1
      have nb := n_nat q.2.2.2.1.1
      have e := q.2.2.2.2
      unfold wX at e
      split at e
      · rename_i c
        obtain ⟨k, w⟩ := (X.2 a.toNatClampNeg c.1 b.toNatClampNeg c.2.1).2.2 c.2.2
        exact ⟨k, _, w⟩
      · cases e
  · intro y e
    obtain ⟨p1, p2, k, t, w⟩ := y
    have na := n_nat p1.1
    have nb := n_nat p2.1
    have l := (X.2 a.toNatClampNeg (by omega)).cn (ev_ I X.1) (by decide) k b.toNatClampNeg t (by omega) w
    have q := (wI_X (h := h) p1 p2).1 (dX h a.toNatClampNeg b.toNatClampNeg) (by
      unfold wX
      rw [if_pos ⟨by omega, by omega, l⟩])
    have z := (X.2 a.toNatClampNeg (by omega) b.toNatClampNeg (by omega)).1.1
    rw [e] at q
    have tm : (-1 : Int32).toInt = -1 := rfl
    omega
theorem Wy.s {h : Hp_} {a b : Int32} (y : Wy h a b) : Wy h b a := by
  obtain ⟨p1, p2, k, t, w⟩ := y
  obtain ⟨k', t', w'⟩ := wkq_rv k _ _ w
  exact ⟨p2, p1, k', t', w'⟩
theorem Wy.t {h : Hp_} {a b c : Int32} (y : Wy h a b) (z : Wy h b c) : Wy h a c := by
  obtain ⟨p1, _, k, t, w⟩ := y
  obtain ⟨_, p3, k', t', w'⟩ := z
  exact ⟨p1, p3, _, _, wkq_cc w k' _ _ w'⟩
theorem Wy.r {h : Hp_} {a : Int32} (p : 0 ≤ a.toInt ∧ a.toInt < 16) : Wy h a a := ⟨p, p, 0, 0, rfl, rfl⟩
theorem wI_z {h : Hp_} (I : Iv h) (X : ExP h) {a b : Int32} (e0 : wI h a b = 0) : a = b := by
  rcases wI_p I X a b with q | q
  · rw [q] at e0
    exact absurd e0 (by decide)
  · have na := n_nat q.2.2.1.1
    have nb := n_nat q.2.2.2.1.1
    have e := q.2.2.2.2
    have t0 : (0 : Int32).toInt = 0 := rfl
    rw [e0] at e
    unfold wX at e
    split at e
    · rename_i c
      have e := Option.some.inj e
      obtain ⟨k, w⟩ := (X.2 a.toNatClampNeg c.1 b.toNatClampNeg c.2.1).2.2 c.2.2
      have l := wkq_t (ev_ I X.1) k _ _ w
      have k0 : k = 0 := by omega
      rw [k0] at w
      have w' : b.toNatClampNeg = a.toNatClampNeg ∧ dX h a.toNatClampNeg b.toNatClampNeg = 0 := w
      exact Int32.toInt_inj.mp (by omega)
    · cases e
theorem wI_tr {h : Hp_} (I : Iv h) (X : ExP h) {a p q : Int32} (y : ¬ wI h a p = -1) (z : ¬ wI h a q = -1) : ¬ wI h p q = -1 := (wI_y I X).mpr (((wI_y I X).mp y).s.t ((wI_y I X).mp z))
theorem wI_t2 {h : Hp_} (I : Iv h) (X : ExP h) {a p q : Int32} (y : ¬ wI h a p = -1) (z : ¬ wI h p q = -1) : ¬ wI h a q = -1 := (wI_y I X).mpr (((wI_y I X).mp y).t ((wI_y I X).mp z))
theorem wI_r {h : Hp_} (I : Iv h) (X : ExP h) {a : Int32} (p : 0 ≤ a.toInt ∧ a.toInt ≤ 15) : ¬ wI h a a = -1 := (wI_y I X).mpr (Wy.r ⟨p.1, by omega⟩)
end
section
/-! MEN, the reference: one who is drawn; points; steps -/
theorem fHome_7 {n x : Int32} {w : Int32 → Int32 → Int32} {M : Nat → Int32} : fHome n w (up1 M 7 x) = fHome n w M := by
  have u5 : up1 M 7 x 5 = M 5 := up1_ne (by decide)
  have u3 : up1 M 7 x 3 = M 3 := up1_ne (by decide)
  unfold fHome
  rw [u5, u3]
  funext k
  split
  · unfold sOut
    by_cases a5 : k = 5
    · rw [a5, up1_at, up1_at]
    · rw [up1_ne a5, up1_ne a5]
      by_cases a7 : k = 7
      · rw [a7, up1_at, up1_at]
      · rw [up1_ne a7, up1_ne a7]
        by_cases a6 : k = 6
        · rw [a6, up1_at, up1_at]
        · rw [up1_ne a6, up1_ne a6]
          by_cases a4 : k = 4
          · rw [a4, up1_at, up1_at]
          · rw [up1_ne a4, up1_ne a4, up1_ne a7]
  · unfold fFree
    by_cases a7 : k = 7
    · rw [a7, up1_at, up1_at]
    · rw [up1_ne a7, up1_ne a7]
      by_cases a4 : k = 4
      · rw [a4, up1_at, up1_at]
      · rw [up1_ne a4, up1_ne a4]
        by_cases a5 : k = 5
        · rw [a5, up1_at, up1_at]
        · rw [up1_ne a5, up1_ne a5, up1_ne a4, up1_ne a4, up1_ne a7]
theorem sOut_7 {n m p x : Int32} {M : Nat → Int32} : sOut n m p (up1 M 7 x) = sOut n m p M := by
  funext k
  unfold sOut
  by_cases a5 : k = 5
  · rw [a5, up1_at, up1_at]
  · rw [up1_ne a5, up1_ne a5]
    by_cases a7 : k = 7
    · rw [a7, up1_at, up1_at]
    · rw [up1_ne a7, up1_ne a7]
      by_cases a6 : k = 6
      · rw [a6, up1_at, up1_at]
      · rw [up1_ne a6, up1_ne a6, up1_ne a7]
theorem nm_ {a b : Nat} (ha : a ∈ 206 :: mrL) (hb : b ∉ 206 :: mrL) : a ≠ b := fun e => hb (e ▸ ha)
theorem RMp.im {j a k : Nat} {M : Nat → Int32} {h : Hp_} {x : Int32} (R : RMp j M h) (n : a ∉ 206 :: mrL) : RMp j M (h_im h a k x) := R.cg (fun b hb => im_ne (nm_ hb n))
theorem RMp.i7 {j : Nat} {M : Nat → Int32} {h : Hp_} {x : Int32} (R : RMp j M h) : RMp j (up1 M 7 x) (h_im h 211 j x) := by
  refine ⟨⟨?_, ?_, ?_, ?_⟩, fun e => ?_, fun e => ?_, ?_⟩
  · rw [im_ne (by decide), up1_ne (by decide)]
    exact R.1.1
  · rw [im_ne (by decide), up1_ne (by decide)]
    exact R.1.2.1
  · rw [im_ne (by decide), up1_ne (by decide)]
    exact R.1.2.2.1
  · rw [im_at, up1_at]
  · rw [up1_ne (by decide)] at e
    have q := R.2.1 e
    rw [im_ne (by decide), im_ne (by decide), im_ne (by decide), im_ne (by decide), im_ne (by decide), up1_ne (by decide), up1_ne (by decide), up1_ne (by decide), up1_ne (by decide), up1_ne (by decide)]
    exact q
  · rw [up1_ne (by decide)] at e
    have q := R.2.2.1 e
    rw [im_ne (by decide), im_ne (by decide), up1_ne (by decide), up1_ne (by decide)]
    exact q
  · rw [im_ne (by decide), up1_ne (by decide)]
    exact R.2.2.2
theorem RMp.i9 {j : Nat} {M : Nat → Int32} {h : Hp_} {x : Int32} (R : RMp j M h) : RMp j (up1 M 9 x) (h_im h 213 j x) := by
  refine ⟨⟨?_, ?_, ?_, ?_⟩, fun e => ?_, fun e => ?_, ?_⟩
  · rw [im_ne (by decide), up1_ne (by decide)]
    exact R.1.1
  · rw [im_ne (by decide), up1_ne (by decide)]
    exact R.1.2.1
  · rw [im_ne (by decide), up1_ne (by decide)]
    exact R.1.2.2.1
  · rw [im_ne (by decide), up1_ne (by decide)]
    exact R.1.2.2.2
  · rw [up1_ne (by decide)] at e
    have q := R.2.1 e
    rw [im_ne (by decide), im_at, im_ne (by decide), im_ne (by decide), im_ne (by decide), up1_ne (by decide), up1_at, up1_ne (by decide), up1_ne (by decide), up1_ne (by decide)]
    exact ⟨q.1, rfl, q.2.2⟩
  · rw [up1_ne (by decide)] at e
    have q := R.2.2.1 e
    rw [im_ne (by decide), im_ne (by decide), up1_ne (by decide), up1_ne (by decide)]
    exact q
  · rw [im_ne (by decide), up1_ne (by decide)]
    exact R.2.2.2
theorem RMp.row {j : Nat} {M : Nat → Int32} {h : Hp_} {e : Ev2} (R : RMp j M h) (e4 : M 4 = 1) : RMp j (sRow e M) (h_im h 216 j (M 11 + 1)) := by
  have q := R.2.1 e4
  refine ⟨⟨?_, ?_, ?_, ?_⟩, fun _ => ?_, fun z => ?_, ?_⟩
  · rw [im_ne (by decide), sRow_k (by decide) (by decide) (by decide)]
    exact R.1.1
  · rw [im_ne (by decide), sRow_k (by decide) (by decide) (by decide)]
    exact R.1.2.1
  · rw [im_ne (by decide), sRow_k (by decide) (by decide) (by decide)]
    exact R.1.2.2.1
  · rw [im_ne (by decide), sRow_k (by decide) (by decide) (by decide)]
    exact R.1.2.2.2
  · rw [im_ne (by decide), im_ne (by decide), im_ne (by decide), im_at, im_ne (by decide), sRow_11, sRow_k (by decide) (by decide) (by decide), sRow_k (by decide) (by decide) (by decide), sRow_k (by decide) (by decide) (by decide), sRow_k (by decide) (by decide) (by decide)]
    exact ⟨q.1, q.2.1, q.2.2.1, rfl, q.2.2.2.2⟩
  · rw [sRow_k (by decide) (by decide) (by decide), e4] at z
    exact absurd z (by decide)
  · rw [im_ne (by decide), sRow_k (by decide) (by decide) (by decide)]
    exact R.2.2.2
/-- a step that takes no time leaves him where he is -/
theorem fOne_n {n : Int32} {w : Int32 → Int32 → Int32} {x : Sp3} {M : Nat → Int32} (t : (fOne n w x M).1 = false) : (fOne n w x M).2.1 5 = M 5 ∧ (fOne n w x M).2.1 6 = M 6 ∧ (fOne n w x M).2.1 7 = M 7 := by
  unfold fOne at t ⊢
  split at t
  · cases t
  · rename_i c1
    rw [if_neg c1]
    split at t
    · cases t
    · rename_i c3
      rw [if_neg c3]
      split at t
      · cases t
      · rename_i cw
        rw [if_neg cw]
        split at t
        · rename_i c2
          rw [if_pos c2]
          split at t
          · rename_i cm
            rw [if_pos cm]
            show sRow (2, 2) M 5 = M 5 ∧ sRow (2, 2) M 6 = M 6 ∧ sRow (2, 2) M 7 = M 7
            exact ⟨sRow_k (by decide) (by decide) (by decide), sRow_k (by decide) (by decide) (by decide), sRow_k (by decide) (by decide) (by decide)⟩
          · rename_i cm
            rw [if_neg cm]
            show (fPt n (M 10 + x.2.2) M).2.1 5 = M 5 ∧ (fPt n (M 10 + x.2.2) M).2.1 6 = M 6 ∧ (fPt n (M 10 + x.2.2) M).2.1 7 = M 7
            have t : (fPt n (M 10 + x.2.2) M).1 = false := t
            refine ⟨fPt_k (by decide) (by decide) (by decide) (by decide), fPt_k (by decide) (by decide) (by decide) (by decide), ?_⟩
            unfold fPt at t ⊢
            split at t
            · rename_i c
              rw [if_pos c]
              split at t
              · rename_i c'
                rw [if_pos c']
                show sRow (1, -1) M 7 = M 7
                exact sRow_k (by decide) (by decide) (by decide)
              · cases t
            · rename_i c
              rw [if_neg c]
              show sRow (2, 1) M 7 = M 7
              exact sRow_k (by decide) (by decide) (by decide)
        · rename_i c2
          rw [if_neg c2]
          exact ⟨rfl, rfl, rfl⟩
theorem fOne_m {n : Int32} {w : Int32 → Int32 → Int32} {x : Sp3} {M : Nat → Int32} {m : Nat} (r0 : 0 ≤ (M 11).toInt) (r4 : (M 11).toInt + (((if x.1 = 2 then 1 else 0) + m : Nat) : Int) ≤ 400) (t : (fOne n w x M).1 = false) : ((fOne n w x M).2.1 11).toNatClampNeg = (M 11).toNatClampNeg + (fOne n w x M).2.2.length ∧ 0 ≤ ((fOne n w x M).2.1 11).toInt ∧ ((fOne n w x M).2.1 11).toInt + (m : Int) ≤ 400 := by
  rcases fOne_11 (n := n) (w := w) (x := x) (M := M) with ⟨a, b, c⟩ | ⟨a, b, c⟩
  · have c := c t
    rw [if_neg c] at r4
    refine ⟨by rw [a, b]; rfl, by rw [b]; exact r0, by rw [b]; omega⟩
  · rw [if_pos a] at r4
    have q := row_n (x := M 11) r0 (by omega)
    refine ⟨by rw [b, c]; exact q.1, by rw [c]; omega, by rw [c]; omega⟩
section MEN
variable {β : Type} {PM : β → Hp_ → Prop} {tB : Int32 → Int32 → β → β} {lM : Nat → Hp_ → β → β}
theorem m_st (P : PMok PM tB lM) (d : Nat) {h : Hp_} (I : Iv h) (X : ExP h) {x1 : Int32} (hx : 0 ≤ x1.toInt ∧ x1.toInt ≤ 11) {M : Nat → Int32} (R : RMp x1.toNatClampNeg M h) {b : β} (B : PM b h) (p : 0 ≤ (M 5).toInt) (p6 : M 6 = -1) (n0 : M 0 = x1) (e4 : M 4 = 3) (r : Nat) (F : Nat → Int32) (hF : F = if h_i h 1 0 < M 14 then up1 M 7 (M 14) else fHome (h_i h 1 0) (wI h) M) : Cv (m_X12_stay (d + 3) 0 0) [.ref 1, .int x1] h (fun h' => Mx PM x1.toNatClampNeg (h_i h 1 0) F r [] (fB tB (h_i h 1 0) F b) h h') := by
  have v := v12 hx
  have e19 := (R.2.2.1 e4).2
  have Tt := t_X12_stay d h I.1 x1
  rw [e19] at Tt
  refine Tt _ ⟨v, fun y => ⟨v, v, ?_⟩, fun n => ?_⟩
  · rw [if_pos y] at hF
    have fb : fB tB (h_i h 1 0) F b = b := by
      unfold fB
      rw [hF, up1_ne (by decide), e4, if_neg (by decide)]
    rw [fb, hF]
    exact (Mx.rf I R B).imj P (im211 I _ _) (by decide) (by decide +kernel) R.i7
  · rw [if_neg n] at hF
    rw [hF]
    exact Cv.mono (m_gh P d I X hx R B p p6 n0 r) (fun h' k => ⟨k.1.1, k⟩)
/-- one drawn who is at a place -/
theorem m_gd (P : PMok PM tB lM) (d : Nat) {h : Hp_} (I : Iv h) (X : ExP h) {x1 : Int32} (hx : 0 ≤ x1.toInt ∧ x1.toInt ≤ 11) {M : Nat → Int32} (R : RMp x1.toNatClampNeg M h) {b : β} (B : PM b h) (p : 0 ≤ (M 5).toInt) (p6 : M 6 = -1) (n0 : M 0 = x1) (e4 : M 4 = 3) (nz : ¬ wI h (M 5) (M 13) = -1) (z0 : wI h (M 5) (M 13) = 0 → M 5 = M 13) (r : Nat) : Cv (m_X12_goDrawn (d + 4) 0 0) [.ref 1, .int x1] h (fun h' => Mx PM x1.toNatClampNeg (h_i h 1 0) (fDr (h_i h 1 0) (wI h) M) r [] (fB tB (h_i h 1 0) (fDr (h_i h 1 0) (wI h) M) b) h h') := by
  have v := v12 hx
  have e18 := (R.2.2.1 e4).1
  have b18 := m218 I x1.toNatClampNeg
  rw [e18] at b18
  have Tt := t_X12_goDrawn d h I.1 x1
  rw [e18] at Tt
  have s1 : Mx PM x1.toNatClampNeg (h_i h 1 0) (up1 M 7 (-1)) r [] b h (h_im h 211 x1.toNatClampNeg (-1)) := (Mx.rf I R B).imj P (im211 I _ _) (by decide) (by decide +kernel) R.i7
  have k1 := s1.2.1.k
  have u5 : up1 M 7 (-1) 5 = M 5 := up1_ne (by decide)
  have z := m_so P d s1.1 (k1.2.2.2.2.2 X) hx s1.2.2.1 s1.2.2.2.2 (M 13) (by rw [u5]; exact p) ⟨b18.1, b18.2⟩ r (by rw [u5, k1.1]; exact nz)
  rw [u5, k1.1, k1.2.1] at z
  refine Tt _ ⟨v, v, Cv.mono z (fun h3 k => ?_)⟩
  by_cases y : 0 < wI h (M 5) (M 13)
  · rw [if_pos y, sOut_7] at k
    have f : fDr (h_i h 1 0) (wI h) M = sOut (h_i h 1 0) (wI h (M 5) (M 13)) (M 13) M := by
      unfold fDr
      rw [if_pos y]
    have fb : fB tB (h_i h 1 0) (sOut (h_i h 1 0) (wI h (M 5) (M 13)) (M 13) M) b = b := by
      unfold fB
      rw [sOut_k (by decide) (by decide) (by decide), e4, if_neg (by decide)]
    have e10 : h_i h3 210 x1.toNatClampNeg = M 13 := by
      rw [k.2.2.1.1.2.2.1]
      unfold sOut
      rw [up1_ne (by decide), up1_ne (by decide), up1_at]
    refine ⟨k.1.1, v, fun _ => ?_, fun e => ?_⟩
    · rw [f, fb]
      exact s1.tr k rfl
    · rw [e10] at e
      rw [e] at b18
      exact absurd b18.1 (by decide)
  · rw [if_neg y] at k
    have w0 : wI h (M 5) (M 13) = 0 := by
      have t0 : (0 : Int32).toInt = 0 := rfl
      rcases wI_p I X (M 5) (M 13) with q | q
      · exact absurd q nz
      · have y' := q_nlt y
        exact Int32.toInt_inj.mp (by omega)
    have s3 := s1.tr k rfl
    have k3 := s3.2.1.k
    have e10 : h_i h3 210 x1.toNatClampNeg = -1 := by
      rw [k.2.2.1.1.2.2.1, up1_ne (by decide)]
      exact p6
    refine ⟨k.1.1, v, fun n => absurd e10 n, fun _ => ?_⟩
    have f : fDr (h_i h 1 0) (wI h) M = if h_i h 1 0 < M 14 then up1 (up1 M 7 (-1)) 7 (M 14) else fHome (h_i h 1 0) (wI h) (up1 M 7 (-1)) := by
      unfold fDr
      rw [if_neg y, fHome_7]
      by_cases c : h_i h 1 0 < M 14
      · rw [if_pos ⟨z0 w0, c⟩, if_pos c]
        funext k
        by_cases a7 : k = 7
        · rw [a7, up1_at, up1_at]
        · rw [up1_ne a7, up1_ne a7, up1_ne a7]
      · rw [if_neg (fun q => c q.2), if_neg c]
    have q := m_st P d s3.1 (k3.2.2.2.2.2 X) hx s3.2.2.1 s3.2.2.2.2 (by rw [u5]; exact p) (by rw [up1_ne (by decide)]; exact p6) (by rw [up1_ne (by decide)]; exact n0) (by rw [up1_ne (by decide)]; exact e4) r (fDr (h_i h 1 0) (wI h) M) (by
      rw [k3.2.1, k3.1, show up1 M 7 (-1) 14 = M 14 from up1_ne (by decide)]
      exact f)
    rw [k3.2.1] at q
    exact Cv.mono q (fun h8 k8 => ⟨k8.1.1, s3.tr k8 rfl⟩)
/-- he came to a point -/
theorem m_cm (P : PMok PM tB lM) (d : Nat) {h : Hp_} (I : Iv h) {x1 : Int32} (hx : 0 ≤ x1.toInt ∧ x1.toInt ≤ 11) {M : Nat → Int32} (R : RMp x1.toNatClampNeg M h) {b : β} (B : PM b h) (e4 : M 4 = 1) (x2 : Int32) (r0 : 0 ≤ (M 11).toInt ∧ (M 11).toInt < 400) : Ci (m_X12_comes (d + 1) 0 0) [.ref 1, .int x1, .int x2] h (fun q h' => q = (if (fPt (h_i h 1 0) (M 10 + x2) M).1 = true then 1 else 0) ∧ Mx PM x1.toNatClampNeg (h_i h 1 0) (fPt (h_i h 1 0) (M 10 + x2) M).2.1 (M 11).toNatClampNeg [(fPt (h_i h 1 0) (M 10 + x2) M).2.2] b h h') := by
  have v := v12 hx
  have q := R.2.1 e4
  have rn := row_n (x := M 11) r0.1 (by omega)
  have vr : vp_in (M 11) 400 := dp_in (lo := 0) (hi := 399) ⟨r0.1, by show _ ≤ (399 : Int); omega⟩ (by decide) (by decide)
  have I1 : Iv (h_im h 216 x1.toNatClampNeg (M 11 + 1)) := im216 I _ _ ⟨by omega, by omega⟩
  have G1 : Gmm x1.toNatClampNeg h (h_im h 216 x1.toNatClampNeg (M 11 + 1)) := (Gmm.rf _ _).imj (by decide +kernel)
  have B1 : PM b (h_im h 216 x1.toNatClampNeg (M 11 + 1)) := P.1 _ _ _ _ _ (Or.inl (by decide)) B
  have Tt := t_X12_comes d h I.1 x1 x2
  rw [q.2.2.1, q.2.2.2.1] at Tt
  refine Tt _ ⟨v, v, v, v, fun y => ⟨vr, fun z => ?_, fun z => ⟨v, ?_⟩⟩, fun y => t_X12_miss d _ I1.1 (M 11) 1 _ ⟨vr, vr, ?_⟩⟩
  · have fo : fPt (h_i h 1 0) (M 10 + x2) M = (false, sRow (1, -1) M, (1, -1)) := by
      unfold fPt
      rw [if_pos y, if_pos z]
    rw [fo]
    exact ⟨rfl, i24 I1 241 _ _ (Or.inl rfl), G1.imo (by decide +kernel) (by decide), (R.row e4).im (by decide), ⟨by rw [im_row, im_oth (by decide)]; rfl, by rw [im_oth (by decide), im_oth (by decide)]; rfl, by rw [im_oth (by decide), im_oth (by decide)]; rfl⟩, P.1 _ _ _ _ _ (Or.inr (Or.inl (by decide))) B1⟩
  · have fo : fPt (h_i h 1 0) (M 10 + x2) M = (true, up1 (sRow (1, -1) M) 7 (M 10 + x2), (1, -1)) := by
      unfold fPt
      rw [if_pos y, if_neg z]
    rw [fo]
    exact ⟨rfl, im211 (i24 I1 241 _ _ (Or.inl rfl)) _ _, (G1.imo (by decide +kernel) (by decide)).imj (by decide +kernel), ((R.row e4).im (by decide)).i7, ⟨by rw [im_oth (by decide), im_row, im_oth (by decide)]; rfl, by rw [im_oth (by decide), im_oth (by decide), im_oth (by decide)]; rfl, by rw [im_oth (by decide), im_oth (by decide), im_oth (by decide)]; rfl⟩, P.1 _ _ _ _ _ (Or.inl (by decide)) (P.1 _ _ _ _ _ (Or.inr (Or.inl (by decide))) B1)⟩
  · have fo : fPt (h_i h 1 0) (M 10 + x2) M = (false, sRow (2, 1) M, (2, 1)) := by
      unfold fPt
      rw [if_neg y]
    have e0 : h_i (h_im h 216 x1.toNatClampNeg (M 11 + 1)) 1 0 = h_i h 1 0 := im_ne (by decide)
    rw [fo, e0]
    have I3 := i24 (i24 I1 242 (M 11).toNatClampNeg (h_i h 1 0) (Or.inr (Or.inl rfl))) 243 (M 11).toNatClampNeg 1 (Or.inr (Or.inr rfl))
    exact ⟨I3.1, rfl, I3, (G1.imo (by decide +kernel) (by decide)).imo (by decide +kernel) (by decide), ((R.row e4).im (by decide)).im (by decide), ⟨by rw [im_oth (by decide), im_oth (by decide), im_oth (by decide)]; rfl, by rw [im_oth (by decide), im_row, im_oth (by decide)]; rfl, by rw [im_row, im_oth (by decide), im_oth (by decide)]; rfl⟩, P.1 _ _ _ _ _ (Or.inr (Or.inl (by decide))) (P.1 _ _ _ _ _ (Or.inr (Or.inl (by decide))) B1)⟩
/-- the steps of a beat from the i-th on, in the reference -/
noncomputable def Stm (h : Hp_) (b0 : Int32) (i : Nat) (L : List Sp3) : Prop := (0 ≤ b0.toInt ∧ b0.toInt ≤ 11) ∧ i + L.length ≤ 150 ∧ ∀ k x, L[k]? = some x → sB h b0.toNatClampNeg (i + k) = x ∧ stR x
theorem Stm.hd {h : Hp_} {b0 : Int32} {i : Nat} {x : Sp3} {L : List Sp3} (s : Stm h b0 i (x :: L)) : sB h b0.toNatClampNeg i = x ∧ stR x := s.2.2 0 x rfl
theorem Stm.tl {h : Hp_} {b0 : Int32} {i : Nat} {x : Sp3} {L : List Sp3} (s : Stm h b0 i (x :: L)) : Stm h b0 (i + 1) L := ⟨s.1, by
  have q : i + (L.length + 1) ≤ 150 := s.2.1
  omega, fun k y e => by
  have q := s.2.2 (k + 1) y e
  rw [show i + 1 + k = i + (k + 1) by omega]
  exact q⟩
theorem Stm.cg {h h' : Hp_} {b0 : Int32} {i : Nat} {L : List Sp3} (s : Stm h b0 i L) (e : ∀ k, sB h' k = sB h k) : Stm h' b0 i L := ⟨s.1, s.2.1, fun k x q => by rw [e]; exact s.2.2 k x q⟩
theorem mgo_1 (P : PMok PM tB lM) (d : Nat) {h : Hp_} (I : Iv h) (X : ExP h) {x1 : Int32} (hx : 0 ≤ x1.toInt ∧ x1.toInt ≤ 11) {M : Nat → Int32} (R : RMp x1.toNatClampNeg M h) {b : β} (B : PM b h) (e4 : M 4 = 1) (p5 : 0 ≤ (M 5).toInt) (p7 : M 7 = -1) {i : Nat} {x : Sp3} {L : List Sp3} (S : Stm h (M 8) i (x :: L)) (e9 : M 9 = Int32.ofNat i) (e227 : h_i h 227 (M 8).toNatClampNeg = Int32.ofNat (i + (L.length + 1))) (r0 : 0 ≤ (M 11).toInt) (r4 : (M 11).toInt + (if x.1 = 2 then 1 else 0) ≤ 400) (K : Hp_ → Prop)
    (hY : (fOne (h_i h 1 0) (wI h) x M).1 = true → ∀ h', Mx PM x1.toNatClampNeg (h_i h 1 0) (fOne (h_i h 1 0) (wI h) x M).2.1 (M 11).toNatClampNeg (fOne (h_i h 1 0) (wI h) x M).2.2 b h h' → K h')
    (hN : (fOne (h_i h 1 0) (wI h) x M).1 = false → ∀ h', Mx PM x1.toNatClampNeg (h_i h 1 0) (up1 (fOne (h_i h 1 0) (wI h) x M).2.1 9 ((fOne (h_i h 1 0) (wI h) x M).2.1 9 + 1)) (M 11).toNatClampNeg (fOne (h_i h 1 0) (wI h) x M).2.2 b h h' → AW (m_X12_goOn (d + 3) 0 0) 0 0 0 [(0, .ref 1), (1, .int x1)] [] h' (kV K)) : AW (m_X12_goOn (d + 3) 0 0) 0 0 0 [(0, .ref 1), (1, .int x1)] [] h (kV K) := by
  have v := v12 hx
  have q := R.2.1 e4
  have t0 : (0 : Int32).toInt = 0 := rfl
  have t150 : (150 : Int32).toInt = 150 := rfl
  have b8 := S.1
  have sr := S.hd.2
  have ll : i + (L.length + 1) ≤ 150 := S.2.1
  have oi := on_j (n := i) (by omega)
  have ol := on_j (n := i + (L.length + 1)) (by omega)
  have n8 := n_nat b8.1
  have b9 := m209 I x1.toNatClampNeg
  rw [R.1.2.1] at b9
  have m1 : (150 * M 8).toInt = 150 * (M 8).toInt := by rw [tx_mul (by rw [t150]; omega) (by rw [t150]; omega), t150]
  have m2 : (150 * M 8 + Int32.ofNat i).toInt = 150 * (M 8).toInt + (i : Int) := by rw [tx_add (by omega) (by omega), m1, oi]
  have nm := n_nat (x := 150 * M 8 + Int32.ofNat i) (by omega)
  have km : (150 * M 8 + Int32.ofNat i).toNatClampNeg = 150 * (M 8).toNatClampNeg + i := by omega
  have vi : vp_in (150 * M 8 + Int32.ofNat i) 1800 := dp_in (lo := 0) (hi := 1799) ⟨by show (0 : Int) ≤ _; omega, by show _ ≤ (1799 : Int); omega⟩ (by decide) (by decide)
  have v8 : vp_in (M 8) 12 := dp_in (lo := 0) (hi := 11) ⟨b8.1, b8.2⟩ (by decide) (by decide)
  have sb := S.hd.1
  have a8 : h_i h 228 (150 * (M 8).toNatClampNeg + i) = x.1 := congrArg (fun z => z.1) sb
  have a9 : h_i h 229 (150 * (M 8).toNatClampNeg + i) = x.2.1 := congrArg (fun z => z.2.1) sb
  have Tt := t_X12_goOn_0 d h I.1 x1
  rw [R.1.1, e4, q.1, q.2.1, e9, km, e227, a8, a9, R.1.2.1] at Tt
  have s1 : Mx PM x1.toNatClampNeg (h_i h 1 0) M (M 11).toNatClampNeg [] b h (h_im h 211 x1.toNatClampNeg (-1)) := (Mx.rf I R B).imj P (im211 I _ _) (by decide) (by decide +kernel) (by
    have z := R.i7 (x := -1)
    have e : up1 M 7 (-1) = M := funext (fun k => by
      by_cases c : k = 7
      · rw [c, up1_at, p7]
      · rw [up1_ne c])
    rw [e] at z
    exact z)
  have k1 := s1.2.1.k
  have W : 0 ≤ x.2.1.toInt → x.2.1.toInt ≤ 15 → Ci (m_X12_walkOf (d + 0) 0 0) [.ref 1, .int (M 5), .int x.2.1] (h_im h 211 x1.toNatClampNeg (-1)) (fun r h' => Iv h' ∧ Fr [203999] (h_im h 211 x1.toNatClampNeg (-1)) h' ∧ r = wI h (M 5) x.2.1) := fun l1 l2 => by
    have z := c_woI d s1.1 (k1.2.2.2.2.2 X) (M 5) x.2.1 ⟨p5, by omega⟩ ⟨l1, by omega⟩
    rw [k1.1] at z
    exact z
  refine Tt _ ⟨v, fun n => absurd rfl n, fun _ => ⟨v, v, v8, fun _ => ⟨v, v, vi, v, fun y0 => ⟨v, vi, ?_⟩, fun n0 => ⟨fun n2 => ⟨fun n1 => ⟨v, ?_⟩, fun y1 => ⟨vi, v, ?_⟩⟩, fun y2 => ⟨v, vi, ?_⟩⟩⟩, fun e => ?_⟩⟩
  · have n1 : ¬ x.1 = 1 := by rw [y0]; decide
    have n3 : ¬ x.1 = 3 := by rw [y0]; decide
    have p2 : 0 ≤ x.2.1.toInt ∧ x.2.1.toInt ≤ 15 := by
      rcases sr with q | q | q | q
      · exact ⟨q.2.1, q.2.2.1⟩
      · exact absurd q.1 n1
      · exact ⟨q.2.1, q.2.2.1⟩
      · exact absurd q.1 n3
    refine Ci.mono (W p2.1 p2.2) (fun q2 h2 k => ?_)
    obtain ⟨I2, F2, er⟩ := k
    subst er
    have B2 : PM b h2 := P.2.1 b _ h2 F2 s1.2.2.2.2
    have s2 : Mx PM x1.toNatClampNeg (h_i h 1 0) M (M 11).toNatClampNeg [] b h h2 := s1.fr I2 F2 B2 (by decide +kernel) (by decide +kernel) (by decide +kernel)
    have k2 := s2.2.1.k
    have sb2 : sB h2 (M 8).toNatClampNeg i = x := by rw [k2.2.2.2.2.1]; exact sb
    have c9 : h_i h2 229 (150 * (M 8).toNatClampNeg + i) = x.2.1 := congrArg (fun z => z.2.1) sb2
    have c10 : h_i h2 230 (150 * (M 8).toNatClampNeg + i) = x.2.2 := congrArg (fun z => z.2.2) sb2
    have q2 := s2.2.2.1.2.1 e4
    have e13 : h_i h2 213 x1.toNatClampNeg = Int32.ofNat i := q2.2.1.trans e9
    rw [c9, c10, e13, q2.2.2.2.1]
    have b13 : ∀ g, Iv g → Iv (h_im g 213 x1.toNatClampNeg (Int32.ofNat i + 1)) := fun g Ig => by
      rw [on_s (by omega)]
      exact im213 Ig _ _ (by rw [on_j (by omega)]; omega)
    refine ⟨I2.1, fun le => ⟨fun n2 => ⟨fun _ => ⟨v, v, ?_⟩, fun y2 => absurd y2 n2⟩, fun y2 => ⟨fun nmn => ⟨fun n2 => absurd y2 n2, fun _ => ⟨vi, ?_⟩⟩, fun em => ⟨v, ?_⟩⟩⟩, fun gt => ⟨vi, ?_⟩⟩
    · have le := q_le.mp le
      have nw : ¬ 0 < wI h (M 5) x.2.1 := fun z => by have := q_lt.mp z; omega
      have fo : fOne (h_i h 1 0) (wI h) x M = (false, M, []) := by
        unfold fOne
        rw [if_neg n1, if_neg n3, if_neg nw, if_neg n2]
      rw [fo] at hN
      refine hN rfl _ ?_
      show Mx PM x1.toNatClampNeg (h_i h 1 0) (up1 M 9 (M 9 + 1)) (M 11).toNatClampNeg [] b h _
      rw [e9]
      exact s2.imj P (b13 _ I2) (by decide) (by decide +kernel) s2.2.2.1.i9
    · have le := q_le.mp le
      have nw : ¬ 0 < wI h (M 5) x.2.1 := fun z => by have := q_lt.mp z; omega
      have fo : fOne (h_i h 1 0) (wI h) x M = ((fPt (h_i h 1 0) (M 10 + x.2.2) M).1, (fPt (h_i h 1 0) (M 10 + x.2.2) M).2.1, [(fPt (h_i h 1 0) (M 10 + x.2.2) M).2.2]) := by
        unfold fOne
        rw [if_neg n1, if_neg n3, if_neg nw, if_pos y2, if_neg nmn]
      rw [if_pos y2] at r4
      have z := m_cm P d I2 hx s2.2.2.1 B2 e4 x.2.2 ⟨r0, by omega⟩
      rw [k2.2.1] at z
      rw [fo] at hY hN
      refine Ci.mono z (fun q3 h4 k => ?_)
      obtain ⟨eq, k⟩ := k
      have k4 := s2.tr k rfl
      refine ⟨k.1.1, fun e0 => ⟨v, v, ?_⟩, fun ne => hY ?_ _ k4⟩
      · have t : (fPt (h_i h 1 0) (M 10 + x.2.2) M).1 = false := by
          cases z : (fPt (h_i h 1 0) (M 10 + x.2.2) M).1 with
          | true =>
            rw [z, if_pos rfl] at eq
            rw [eq] at e0
            exact absurd e0 (by decide)
          | false => rfl
        refine hN t _ ?_
        have f9 : (fPt (h_i h 1 0) (M 10 + x.2.2) M).2.1 9 = Int32.ofNat i := by rw [fPt_k (by decide) (by decide) (by decide) (by decide)]; exact e9
        have f4 : (fPt (h_i h 1 0) (M 10 + x.2.2) M).2.1 4 = 1 := by rw [fPt_k (by decide) (by decide) (by decide) (by decide)]; exact e4
        have g13 : h_i h4 213 x1.toNatClampNeg = Int32.ofNat i := (k4.2.2.1.2.1 f4).2.1.trans f9
        rw [g13]
        show Mx PM x1.toNatClampNeg (h_i h 1 0) (up1 (fPt (h_i h 1 0) (M 10 + x.2.2) M).2.1 9 ((fPt (h_i h 1 0) (M 10 + x.2.2) M).2.1 9 + 1)) (M 11).toNatClampNeg [(fPt (h_i h 1 0) (M 10 + x.2.2) M).2.2] b h _
        rw [f9]
        exact k4.imj P (b13 _ k4.1) (by decide) (by decide +kernel) k4.2.2.1.i9
      · cases z : (fPt (h_i h 1 0) (M 10 + x.2.2) M).1 with
        | true => rfl
        | false =>
          rw [z, if_neg (by decide)] at eq
          exact absurd eq ne
    · have nw : ¬ 0 < wI h (M 5) x.2.1 := by rw [em]; decide
      have fo : fOne (h_i h 1 0) (wI h) x M = (false, sRow (2, 2) M, [(2, 2)]) := by
        unfold fOne
        rw [if_neg n1, if_neg n3, if_neg nw, if_pos y2, if_pos em]
      rw [if_pos y2] at r4
      rw [fo] at hN
      have vr : vp_in (M 11) 400 := dp_in (lo := 0) (hi := 399) ⟨r0, by show _ ≤ (399 : Int); omega⟩ (by decide) (by decide)
      have I3 := i24 (i24 I2 242 (M 11).toNatClampNeg (h_i h2 1 0) (Or.inr (Or.inl rfl))) 243 (M 11).toNatClampNeg 2 (Or.inr (Or.inr rfl))
      have rn := row_n (x := M 11) r0 (by omega)
      refine t_X12_miss d h2 I2.1 (M 11) 2 _ ⟨vr, vr, I3.1, v, v, v, v, hN rfl _ ?_⟩
      have g16 : h_i (h_im (h_im h2 242 (M 11).toNatClampNeg (h_i h2 1 0)) 243 (M 11).toNatClampNeg 2) 216 x1.toNatClampNeg = M 11 := by rw [im_ne (by decide), im_ne (by decide)]; exact q2.2.2.2.1
      have g13 : h_i (h_im (h_im h2 242 (M 11).toNatClampNeg (h_i h2 1 0)) 243 (M 11).toNatClampNeg 2) 213 x1.toNatClampNeg = Int32.ofNat i := by rw [im_ne (by decide), im_ne (by decide)]; exact e13
      rw [g16, g13]
      show Mx PM x1.toNatClampNeg (h_i h 1 0) (up1 (sRow (2, 2) M) 9 (sRow (2, 2) M 9 + 1)) (M 11).toNatClampNeg [(2, 2)] b h _
      rw [sRow_k (by decide) (by decide) (by decide), e9]
      have R3 : RMp x1.toNatClampNeg M (h_im (h_im h2 242 (M 11).toNatClampNeg (h_i h2 1 0)) 243 (M 11).toNatClampNeg 2) := (s2.2.2.1.im (by decide)).im (by decide)
      have I4 : Iv (h_im (h_im (h_im h2 242 (M 11).toNatClampNeg (h_i h2 1 0)) 243 (M 11).toNatClampNeg 2) 216 x1.toNatClampNeg (M 11 + 1)) := im216 I3 _ _ ⟨by omega, by omega⟩
      have s4 : Mx PM x1.toNatClampNeg (h_i h 1 0) (sRow (2, 2) M) (M 11).toNatClampNeg [(2, 2)] b h (h_im (h_im (h_im h2 242 (M 11).toNatClampNeg (h_i h2 1 0)) 243 (M 11).toNatClampNeg 2) 216 x1.toNatClampNeg (M 11 + 1)) := ⟨I4, ((s2.2.1.imo (by decide +kernel) (by decide)).imo (by decide +kernel) (by decide)).imj (by decide +kernel), R3.row e4, ⟨by rw [im_oth (by decide), im_oth (by decide), im_oth (by decide), s2.2.2.2.1.1]; rfl, by rw [im_oth (by decide), im_oth (by decide), im_row, s2.2.2.2.1.2.1, k2.2.1]; rfl, by rw [im_oth (by decide), im_row, im_oth (by decide), s2.2.2.2.1.2.2]; rfl⟩, P.1 _ _ _ _ _ (Or.inl (by decide)) (P.1 _ _ _ _ _ (Or.inr (Or.inl (by decide))) (P.1 _ _ _ _ _ (Or.inr (Or.inl (by decide))) B2))⟩
      exact s4.imj P (b13 _ I4) (by decide) (by decide +kernel) s4.2.2.1.i9
    · have gt := q_nle gt
      have yw : 0 < wI h (M 5) x.2.1 := q_lt.mpr gt
      have nmn : ¬ wI h (M 5) x.2.1 = -1 := fun z => by rw [z] at yw; exact absurd yw (by decide)
      have fo : fOne (h_i h 1 0) (wI h) x M = (true, sOut (h_i h 1 0) (wI h (M 5) x.2.1) x.2.1 M, []) := by
        unfold fOne
        rw [if_neg n1, if_neg n3, if_pos yw]
      rw [fo] at hY
      have z := m_so P d I2 (k2.2.2.2.2.2 X) hx s2.2.2.1 B2 x.2.1 p5 p2 (M 11).toNatClampNeg (by rw [k2.1]; exact nmn)
      rw [k2.1, k2.2.1, if_pos yw] at z
      exact Cv.mono z (fun h9 k => ⟨k.1.1, hY rfl _ (s2.tr k rfl)⟩)
  · have y3 : x.1 = 3 := by
      rcases stR_k sr with z | z | z | z
      · exact absurd z n0
      · exact absurd z n1
      · exact absurd z n2
      · exact z
    have fo : fOne (h_i h 1 0) (wI h) x M = (true, up1 M 7 (h_i h 1 0 + 1), []) := by
      unfold fOne
      rw [if_neg n1, if_pos y3]
    rw [fo] at hY
    refine hY rfl _ (s1.imj P (im211 s1.1 _ _) (by decide) (by decide +kernel) s1.2.2.1.i7)
  · have fo : fOne (h_i h 1 0) (wI h) x M = (true, up1 M 7 (h_i h 1 0 + x.2.1), []) := by
      unfold fOne
      rw [if_pos y1]
    rw [fo] at hY
    refine hY rfl _ (s1.imj P (im211 s1.1 _ _) (by decide) (by decide +kernel) s1.2.2.1.i7)
  · have n1 : ¬ x.1 = 1 := by rw [y2]; decide
    have n3 : ¬ x.1 = 3 := by rw [y2]; decide
    have p2 : 0 ≤ x.2.1.toInt ∧ x.2.1.toInt ≤ 15 := by
      rcases sr with q | q | q | q
      · exact ⟨q.2.1, q.2.2.1⟩
      · exact absurd q.1 n1
      · exact ⟨q.2.1, q.2.2.1⟩
      · exact absurd q.1 n3
    refine Ci.mono (W p2.1 p2.2) (fun q2 h2 k => ?_)
    obtain ⟨I2, F2, er⟩ := k
    subst er
    have B2 : PM b h2 := P.2.1 b _ h2 F2 s1.2.2.2.2
    have s2 : Mx PM x1.toNatClampNeg (h_i h 1 0) M (M 11).toNatClampNeg [] b h h2 := s1.fr I2 F2 B2 (by decide +kernel) (by decide +kernel) (by decide +kernel)
    have k2 := s2.2.1.k
    have sb2 : sB h2 (M 8).toNatClampNeg i = x := by rw [k2.2.2.2.2.1]; exact sb
    have c9 : h_i h2 229 (150 * (M 8).toNatClampNeg + i) = x.2.1 := congrArg (fun z => z.2.1) sb2
    have c10 : h_i h2 230 (150 * (M 8).toNatClampNeg + i) = x.2.2 := congrArg (fun z => z.2.2) sb2
    have q2 := s2.2.2.1.2.1 e4
    have e13 : h_i h2 213 x1.toNatClampNeg = Int32.ofNat i := q2.2.1.trans e9
    rw [c9, c10, e13, q2.2.2.2.1]
    have b13 : ∀ g, Iv g → Iv (h_im g 213 x1.toNatClampNeg (Int32.ofNat i + 1)) := fun g Ig => by
      rw [on_s (by omega)]
      exact im213 Ig _ _ (by rw [on_j (by omega)]; omega)
    refine ⟨I2.1, fun le => ⟨fun n2 => ⟨fun _ => ⟨v, v, ?_⟩, fun y2 => absurd y2 n2⟩, fun y2 => ⟨fun nmn => ⟨fun n2 => absurd y2 n2, fun _ => ⟨vi, ?_⟩⟩, fun em => ⟨v, ?_⟩⟩⟩, fun gt => ⟨vi, ?_⟩⟩
    · have le := q_le.mp le
      have nw : ¬ 0 < wI h (M 5) x.2.1 := fun z => by have := q_lt.mp z; omega
      have fo : fOne (h_i h 1 0) (wI h) x M = (false, M, []) := by
        unfold fOne
        rw [if_neg n1, if_neg n3, if_neg nw, if_neg n2]
      rw [fo] at hN
      refine hN rfl _ ?_
      show Mx PM x1.toNatClampNeg (h_i h 1 0) (up1 M 9 (M 9 + 1)) (M 11).toNatClampNeg [] b h _
      rw [e9]
      exact s2.imj P (b13 _ I2) (by decide) (by decide +kernel) s2.2.2.1.i9
    · have le := q_le.mp le
      have nw : ¬ 0 < wI h (M 5) x.2.1 := fun z => by have := q_lt.mp z; omega
      have fo : fOne (h_i h 1 0) (wI h) x M = ((fPt (h_i h 1 0) (M 10 + x.2.2) M).1, (fPt (h_i h 1 0) (M 10 + x.2.2) M).2.1, [(fPt (h_i h 1 0) (M 10 + x.2.2) M).2.2]) := by
        unfold fOne
        rw [if_neg n1, if_neg n3, if_neg nw, if_pos y2, if_neg nmn]
      rw [if_pos y2] at r4
      have z := m_cm P d I2 hx s2.2.2.1 B2 e4 x.2.2 ⟨r0, by omega⟩
      rw [k2.2.1] at z
      rw [fo] at hY hN
      refine Ci.mono z (fun q3 h4 k => ?_)
      obtain ⟨eq, k⟩ := k
      have k4 := s2.tr k rfl
      refine ⟨k.1.1, fun e0 => ⟨v, v, ?_⟩, fun ne => hY ?_ _ k4⟩
      · have t : (fPt (h_i h 1 0) (M 10 + x.2.2) M).1 = false := by
          cases z : (fPt (h_i h 1 0) (M 10 + x.2.2) M).1 with
          | true =>
            rw [z, if_pos rfl] at eq
            rw [eq] at e0
            exact absurd e0 (by decide)
          | false => rfl
        refine hN t _ ?_
        have f9 : (fPt (h_i h 1 0) (M 10 + x.2.2) M).2.1 9 = Int32.ofNat i := by rw [fPt_k (by decide) (by decide) (by decide) (by decide)]; exact e9
        have f4 : (fPt (h_i h 1 0) (M 10 + x.2.2) M).2.1 4 = 1 := by rw [fPt_k (by decide) (by decide) (by decide) (by decide)]; exact e4
        have g13 : h_i h4 213 x1.toNatClampNeg = Int32.ofNat i := (k4.2.2.1.2.1 f4).2.1.trans f9
        rw [g13]
        show Mx PM x1.toNatClampNeg (h_i h 1 0) (up1 (fPt (h_i h 1 0) (M 10 + x.2.2) M).2.1 9 ((fPt (h_i h 1 0) (M 10 + x.2.2) M).2.1 9 + 1)) (M 11).toNatClampNeg [(fPt (h_i h 1 0) (M 10 + x.2.2) M).2.2] b h _
        rw [f9]
        exact k4.imj P (b13 _ k4.1) (by decide) (by decide +kernel) k4.2.2.1.i9
      · cases z : (fPt (h_i h 1 0) (M 10 + x.2.2) M).1 with
        | true => rfl
        | false =>
          rw [z, if_neg (by decide)] at eq
          exact absurd eq ne
    · have nw : ¬ 0 < wI h (M 5) x.2.1 := by rw [em]; decide
      have fo : fOne (h_i h 1 0) (wI h) x M = (false, sRow (2, 2) M, [(2, 2)]) := by
        unfold fOne
        rw [if_neg n1, if_neg n3, if_neg nw, if_pos y2, if_pos em]
      rw [if_pos y2] at r4
      rw [fo] at hN
      have vr : vp_in (M 11) 400 := dp_in (lo := 0) (hi := 399) ⟨r0, by show _ ≤ (399 : Int); omega⟩ (by decide) (by decide)
      have I3 := i24 (i24 I2 242 (M 11).toNatClampNeg (h_i h2 1 0) (Or.inr (Or.inl rfl))) 243 (M 11).toNatClampNeg 2 (Or.inr (Or.inr rfl))
      have rn := row_n (x := M 11) r0 (by omega)
      refine t_X12_miss d h2 I2.1 (M 11) 2 _ ⟨vr, vr, I3.1, v, v, v, v, hN rfl _ ?_⟩
      have g16 : h_i (h_im (h_im h2 242 (M 11).toNatClampNeg (h_i h2 1 0)) 243 (M 11).toNatClampNeg 2) 216 x1.toNatClampNeg = M 11 := by rw [im_ne (by decide), im_ne (by decide)]; exact q2.2.2.2.1
      have g13 : h_i (h_im (h_im h2 242 (M 11).toNatClampNeg (h_i h2 1 0)) 243 (M 11).toNatClampNeg 2) 213 x1.toNatClampNeg = Int32.ofNat i := by rw [im_ne (by decide), im_ne (by decide)]; exact e13
      rw [g16, g13]
      show Mx PM x1.toNatClampNeg (h_i h 1 0) (up1 (sRow (2, 2) M) 9 (sRow (2, 2) M 9 + 1)) (M 11).toNatClampNeg [(2, 2)] b h _
      rw [sRow_k (by decide) (by decide) (by decide), e9]
      have R3 : RMp x1.toNatClampNeg M (h_im (h_im h2 242 (M 11).toNatClampNeg (h_i h2 1 0)) 243 (M 11).toNatClampNeg 2) := (s2.2.2.1.im (by decide)).im (by decide)
      have I4 : Iv (h_im (h_im (h_im h2 242 (M 11).toNatClampNeg (h_i h2 1 0)) 243 (M 11).toNatClampNeg 2) 216 x1.toNatClampNeg (M 11 + 1)) := im216 I3 _ _ ⟨by omega, by omega⟩
      have s4 : Mx PM x1.toNatClampNeg (h_i h 1 0) (sRow (2, 2) M) (M 11).toNatClampNeg [(2, 2)] b h (h_im (h_im (h_im h2 242 (M 11).toNatClampNeg (h_i h2 1 0)) 243 (M 11).toNatClampNeg 2) 216 x1.toNatClampNeg (M 11 + 1)) := ⟨I4, ((s2.2.1.imo (by decide +kernel) (by decide)).imo (by decide +kernel) (by decide)).imj (by decide +kernel), R3.row e4, ⟨by rw [im_oth (by decide), im_oth (by decide), im_oth (by decide), s2.2.2.2.1.1]; rfl, by rw [im_oth (by decide), im_oth (by decide), im_row, s2.2.2.2.1.2.1, k2.2.1]; rfl, by rw [im_oth (by decide), im_row, im_oth (by decide), s2.2.2.2.1.2.2]; rfl⟩, P.1 _ _ _ _ _ (Or.inl (by decide)) (P.1 _ _ _ _ _ (Or.inr (Or.inl (by decide))) (P.1 _ _ _ _ _ (Or.inr (Or.inl (by decide))) B2))⟩
      exact s4.imj P (b13 _ I4) (by decide) (by decide +kernel) s4.2.2.1.i9
    · have gt := q_nle gt
      have yw : 0 < wI h (M 5) x.2.1 := q_lt.mpr gt
      have nmn : ¬ wI h (M 5) x.2.1 = -1 := fun z => by rw [z] at yw; exact absurd yw (by decide)
      have fo : fOne (h_i h 1 0) (wI h) x M = (true, sOut (h_i h 1 0) (wI h (M 5) x.2.1) x.2.1 M, []) := by
        unfold fOne
        rw [if_neg n1, if_neg n3, if_pos yw]
      rw [fo] at hY
      have z := m_so P d I2 (k2.2.2.2.2.2 X) hx s2.2.2.1 B2 x.2.1 p5 p2 (M 11).toNatClampNeg (by rw [k2.1]; exact nmn)
      rw [k2.1, k2.2.1, if_pos yw] at z
      exact Cv.mono z (fun h9 k => ⟨k.1.1, hY rfl _ (s2.tr k rfl)⟩)
  · have z := congrArg Int32.toInt e
    omega
/-- steps one behind the other -/
theorem mgo_lp (P : PMok PM tB lM) (d : Nat) {x1 : Int32} (hx : 0 ≤ x1.toInt ∧ x1.toInt ≤ 11) : ∀ (L : List Sp3) {h : Hp_} {b : β} {M : Nat → Int32} (i : Nat), Iv h → ExP h → RMp x1.toNatClampNeg M h → PM b h → M 4 = 1 → M 6 = -1 → 0 ≤ (M 5).toInt → M 7 = -1 → M 0 = x1 → Stm h (M 8) i L → M 9 = Int32.ofNat i → h_i h 227 (M 8).toNatClampNeg = Int32.ofNat (i + L.length) → 0 ≤ (M 11).toInt → (M 11).toInt + (mts L : Int) ≤ 400 → AW (m_X12_goOn (d + 3) 0 0) 0 0 0 [(0, .ref 1), (1, .int x1)] [] h (kV (fun h' => Mx PM x1.toNatClampNeg (h_i h 1 0) (fSt (h_i h 1 0) (wI h) L M).1 (M 11).toNatClampNeg (fSt (h_i h 1 0) (wI h) L M).2 (fB tB (h_i h 1 0) (fSt (h_i h 1 0) (wI h) L M).1 b) h h'))
  | [], h, b, M, i, I, X, R, B, e4, p6, p5, p7, n0, S, e9, e227, r0, r4 => by
    have v := v12 hx
    have q := R.2.1 e4
    have Tt := t_X12_goOn_0 d h I.1 x1
    rw [R.1.1, e4, q.1, q.2.1, e9, e227] at Tt
    exact Tt _ ⟨v, fun n => absurd rfl n, fun _ => ⟨v, v, dp_in (lo := 0) (hi := 11) ⟨S.1.1, S.1.2⟩ (by decide) (by decide), fun n => absurd rfl n, fun _ => Cv.mono (m_gh P d I X hx R B p5 p6 n0 (M 11).toNatClampNeg) (fun h' k => ⟨k.1.1, k⟩)⟩⟩
  | x :: L, h, b, M, i, I, X, R, B, e4, p6, p5, p7, n0, S, e9, e227, r0, r4 => by
    have m : mts (x :: L) = (if x.1 = 2 then 1 else 0) + mts L := rfl
    rw [m] at r4
    have ll : i + (L.length + 1) ≤ 150 := S.2.1
    have f4 : (fOne (h_i h 1 0) (wI h) x M).2.1 4 = 1 := by rw [fOne_k (by decide) (by decide) (by decide) (by decide) (by decide) (by decide)]; exact e4
    refine mgo_1 P d I X hx R B e4 p5 p7 S e9 e227 r0 (by split at r4 <;> (rename_i c; first | rw [if_pos c] | rw [if_neg c]) <;> omega) _ (fun t h' k => ?_) (fun t h' k => ?_)
    · have f : fSt (h_i h 1 0) (wI h) (x :: L) M = ((fOne (h_i h 1 0) (wI h) x M).2.1, (fOne (h_i h 1 0) (wI h) x M).2.2) := by
        show (if (fOne (h_i h 1 0) (wI h) x M).1 = true then _ else _) = _
        rw [if_pos t]
      have fb : fB tB (h_i h 1 0) (fOne (h_i h 1 0) (wI h) x M).2.1 b = b := by
        unfold fB
        rw [f4, if_neg (by decide)]
      rw [f]
      show Mx PM x1.toNatClampNeg (h_i h 1 0) (fOne (h_i h 1 0) (wI h) x M).2.1 (M 11).toNatClampNeg (fOne (h_i h 1 0) (wI h) x M).2.2 (fB tB (h_i h 1 0) (fOne (h_i h 1 0) (wI h) x M).2.1 b) h h'
      rw [fb]
      exact k
    · have f : fSt (h_i h 1 0) (wI h) (x :: L) M = ((fSt (h_i h 1 0) (wI h) L (up1 (fOne (h_i h 1 0) (wI h) x M).2.1 9 ((fOne (h_i h 1 0) (wI h) x M).2.1 9 + 1))).1, (fOne (h_i h 1 0) (wI h) x M).2.2 ++ (fSt (h_i h 1 0) (wI h) L (up1 (fOne (h_i h 1 0) (wI h) x M).2.1 9 ((fOne (h_i h 1 0) (wI h) x M).2.1 9 + 1))).2) := by
        show (if (fOne (h_i h 1 0) (wI h) x M).1 = true then _ else _) = _
        rw [if_neg (by rw [t]; decide)]
      rw [f]
      have f9 : (fOne (h_i h 1 0) (wI h) x M).2.1 9 = Int32.ofNat i := by rw [fOne_k (by decide) (by decide) (by decide) (by decide) (by decide) (by decide)]; exact e9
      have f8 : (fOne (h_i h 1 0) (wI h) x M).2.1 8 = M 8 := fOne_k (by decide) (by decide) (by decide) (by decide) (by decide) (by decide)
      have f0 : (fOne (h_i h 1 0) (wI h) x M).2.1 0 = x1 := by rw [fOne_k (by decide) (by decide) (by decide) (by decide) (by decide) (by decide)]; exact n0
      have fN := fOne_n (n := h_i h 1 0) (w := wI h) (x := x) (M := M) t
      have fr := fOne_m (n := h_i h 1 0) (w := wI h) (x := x) (M := M) (m := mts L) r0 r4 t
      have kk := k.2.1.k
      have ih := mgo_lp P d hx L (h := h') (b := b) (M := up1 (fOne (h_i h 1 0) (wI h) x M).2.1 9 ((fOne (h_i h 1 0) (wI h) x M).2.1 9 + 1)) (i + 1) k.1 (kk.2.2.2.2.2 X) k.2.2.1 k.2.2.2.2 (by rw [up1_ne (by decide)]; exact f4) (by rw [up1_ne (by decide), fN.2.1]; exact p6) (by rw [up1_ne (by decide), fN.1]; exact p5) (by rw [up1_ne (by decide), fN.2.2]; exact p7) (by rw [up1_ne (by decide)]; exact f0) (by rw [up1_ne (by decide), f8]; exact S.tl.cg kk.2.2.2.2.1) (by rw [up1_at, f9, on_s (by omega)]) (by rw [up1_ne (by decide), f8, kk.2.2.2.1, e227]; show Int32.ofNat (i + (L.length + 1)) = Int32.ofNat (i + 1 + L.length); rw [show i + (L.length + 1) = i + 1 + L.length by omega]) (by rw [up1_ne (by decide)]; exact fr.2.1) (by rw [up1_ne (by decide)]; exact fr.2.2)
      rw [kk.2.1, kk.1] at ih
      refine AW.mono ih (fun w h2 z => ⟨z.1, k.tr z.2 ?_⟩)
      rw [up1_ne (by decide)]
      exact fr.1
end MEN
/-! MEN, the reference: one who wakes -/
theorem wI_s {h : Hp_} (I : Iv h) (X : ExP h) (a : Int32) : wI h a a = 0 ∨ wI h a a = -1 := by
  rcases wI_p I X a a with q | q
  · exact Or.inr q
  · refine Or.inl (Int32.toInt_inj.mp ?_)
    have na := n_nat q.2.2.1.1
    have z := (X.2 a.toNatClampNeg (by omega) a.toNatClampNeg (by omega)).2.1 0 0 ⟨rfl, rfl⟩
    have e := q.2.2.2.2
    unfold wX at e
    split at e
    · have e := Option.some.inj e
      have t0 : (0 : Int32).toInt = 0 := rfl
      omega
    · cases e
theorem im248 {h : Hp_} (I : Iv h) (k : Nat) (x : Int32) (b : x = 0 ∨ x = 1) : Iv (h_im h 248 k (vp_nar .boolean x)) := I.im (by
  rw [tfa_tf (show tfa 248 = some (0, 1) by decide +kernel)]
  rcases b with e | e <;> subst e <;> exact ⟨by decide, by decide⟩) (jw_jr (by decide) (by decide) _)
theorem RMp.i8 {j : Nat} {M : Nat → Int32} {h : Hp_} {x : Int32} (R : RMp j M h) : RMp j M (h_im h 248 j x) := by
  unfold RMp
  rw [im_ne (by decide), im_ne (by decide), im_ne (by decide), im_ne (by decide), im_ne (by decide), im_ne (by decide), im_ne (by decide), im_ne (by decide), im_ne (by decide), im_ne (by decide), im_ne (by decide), im_ne (by decide)]
  exact R
section MEN
variable {β : Type} {PM : β → Hp_ → Prop} {tB : Int32 → Int32 → β → β} {lM : Nat → Hp_ → β → β}
theorem cv_goOn {d : Nat} {x1 : Int32} {h : Hp_} {K : Hp_ → Prop} (k : AW (m_X12_goOn (d + 3) 0 0) 0 0 0 [(0, .ref 1), (1, .int x1)] [] h (kV K)) : Cv (m_X12_goOn (d + 3) 0 0) [.ref 1, .int x1] h K := by
  refine Ct.of (fun _ _ _ => trivial) pn_X12 (Nat.le_of_ble_eq_true rfl) ?_
  exact k
/-- the step is over: those behind it -/
theorem mgo_c (P : PMok PM tB lM) (d : Nat) {h h1 : Hp_} (X : ExP h) {x1 : Int32} (hx : 0 ≤ x1.toInt ∧ x1.toInt ≤ 11) {M1 : Nat → Int32} {r : Nat} {E : List Ev2} {b1 : β} (s : Mx PM x1.toNatClampNeg (h_i h 1 0) M1 r E b1 h h1) (er : (M1 11).toNatClampNeg = r + E.length) (e4 : M1 4 = 1) (p6 : M1 6 = -1) (p5 : 0 ≤ (M1 5).toInt) (p7 : M1 7 = -1) (n0 : M1 0 = x1) {i : Nat} {x : Sp3} {L : List Sp3} (S : Stm h (M1 8) i (x :: L)) (e9 : M1 9 = Int32.ofNat i) (e227 : h_i h 227 (M1 8).toNatClampNeg = Int32.ofNat (i + (L.length + 1))) (r0 : 0 ≤ (M1 11).toInt) (r4 : (M1 11).toInt + (mts L : Int) ≤ 400) (K : Hp_ → Prop) (hK : ∀ h', Mx PM x1.toNatClampNeg (h_i h 1 0) (fSt (h_i h 1 0) (wI h) L (up1 M1 9 (M1 9 + 1))).1 r (E ++ (fSt (h_i h 1 0) (wI h) L (up1 M1 9 (M1 9 + 1))).2) (fB tB (h_i h 1 0) (fSt (h_i h 1 0) (wI h) L (up1 M1 9 (M1 9 + 1))).1 b1) h h' → K h') : Cv (m_X12_goOn (d + 3) 0 0) [.ref 1, .int x1] (h_im h1 213 x1.toNatClampNeg ((h_i h1 213 x1.toNatClampNeg) + 1)) (fun h' => Wf h' ∧ (K h')) := by
  have ll : i + (L.length + 1) ≤ 150 := S.2.1
  have g13 : h_i h1 213 x1.toNatClampNeg = M1 9 := (s.2.2.1.2.1 e4).2.1
  rw [g13]
  have I2 : Iv (h_im h1 213 x1.toNatClampNeg (M1 9 + 1)) := by
    rw [e9, on_s (by omega)]
    exact im213 s.1 _ _ (by rw [on_j (by omega)]; omega)
  have s2 := s.imj P I2 (by decide) (by decide +kernel) s.2.2.1.i9
  have kk := s2.2.1.k
  generalize h_im h1 213 x1.toNatClampNeg (M1 9 + 1) = g at *
  have z := mgo_lp P d hx L (h := g) (b := b1) (M := up1 M1 9 (M1 9 + 1)) (i + 1) I2 (kk.2.2.2.2.2 X) s2.2.2.1 s2.2.2.2.2 (by rw [up1_ne (by decide)]; exact e4) (by rw [up1_ne (by decide)]; exact p6) (by rw [up1_ne (by decide)]; exact p5) (by rw [up1_ne (by decide)]; exact p7) (by rw [up1_ne (by decide)]; exact n0) (by rw [up1_ne (by decide)]; exact S.tl.cg kk.2.2.2.2.1) (by rw [up1_at, e9, on_s (by omega)]) (by rw [up1_ne (by decide), kk.2.2.2.1, e227, show i + (L.length + 1) = i + 1 + L.length by omega]) (by rw [up1_ne (by decide)]; exact r0) (by rw [up1_ne (by decide)]; exact r4)
  rw [kk.2.1, kk.1, show up1 M1 9 (M1 9 + 1) 11 = M1 11 from up1_ne (by decide)] at z
  exact cv_goOn (AW.mono z (fun v h' k => ⟨k.1, k.2.1.1, hK h' (s2.tr k.2 er)⟩))
theorem m_wb (P : PMok PM tB lM) (d : Nat) {h : Hp_} (I : Iv h) (X : ExP h) {x1 : Int32} (hx : 0 ≤ x1.toInt ∧ x1.toInt ≤ 11) {M : Nat → Int32} (R : RMp x1.toNatClampNeg M h) {b : β} (B : PM b h) (e4 : M 4 = 1) (p6 : M 6 = -1) (p5 : 0 ≤ (M 5).toInt) (p7 : M 7 = -1) (n0 : M 0 = x1) {i : Nat} {x : Sp3} {L : List Sp3} (S : Stm h (M 8) i (x :: L)) (e9 : M 9 = Int32.ofNat i) (e227 : h_i h 227 (M 8).toNatClampNeg = Int32.ofNat (i + (L.length + 1))) (came : Bool) (x2 : Int32) (ec : came = true ↔ ¬ x2 = 0) (r0 : 0 ≤ (M 11).toInt) (r4 : (M 11).toInt + (((if x.1 = 2 ∧ came = true then 1 else 0) + mts L : Nat) : Int) ≤ 400) (lk : x.1 = 3 → came = false) : Cv (m_X12_wakeBeat (d + 8) 0 0) [.ref 1, .int x1, .int x2] h (fun h' => Mx PM x1.toNatClampNeg (h_i h 1 0) (fNx (h_i h 1 0) (wI h) L (fEn (h_i h 1 0) x came M)).1 (M 11).toNatClampNeg (fNx (h_i h 1 0) (wI h) L (fEn (h_i h 1 0) x came M)).2 (fB tB (h_i h 1 0) (fNx (h_i h 1 0) (wI h) L (fEn (h_i h 1 0) x came M)).1 (if x.1 = 3 then lM x1.toNatClampNeg h b else b)) h h') := by
  have v := v12 hx
  have q := R.2.1 e4
  have t0 : (0 : Int32).toInt = 0 := rfl
  have t150 : (150 : Int32).toInt = 150 := rfl
  have b8 := S.1
  have sr := S.hd.2
  have ll : i + (L.length + 1) ≤ 150 := S.2.1
  have oi := on_j (n := i) (by omega)
  have n8 := n_nat b8.1
  have m1 : (150 * M 8).toInt = 150 * (M 8).toInt := by rw [tx_mul (by rw [t150]; omega) (by rw [t150]; omega), t150]
  have m2 : (150 * M 8 + Int32.ofNat i).toInt = 150 * (M 8).toInt + (i : Int) := by rw [tx_add (by omega) (by omega), m1, oi]
  have nm := n_nat (x := 150 * M 8 + Int32.ofNat i) (by omega)
  have km : (150 * M 8 + Int32.ofNat i).toNatClampNeg = 150 * (M 8).toNatClampNeg + i := by omega
  have vi : vp_in (150 * M 8 + Int32.ofNat i) 1800 := dp_in (lo := 0) (hi := 1799) ⟨by show (0 : Int) ≤ _; omega, by show _ ≤ (1799 : Int); omega⟩ (by decide) (by decide)
  have sb := S.hd.1
  have a8 : h_i h 228 (150 * (M 8).toNatClampNeg + i) = x.1 := congrArg (fun z => z.1) sb
  have a10 : h_i h 230 (150 * (M 8).toNatClampNeg + i) = x.2.2 := congrArg (fun z => z.2.2) sb
  have e13 : h_i h 213 x1.toNatClampNeg = Int32.ofNat i := q.2.1.trans e9
  have Tt := t_X12_wakeBeat d h I.1 x1 x2
  rw [q.1, e13, km, a8, a10] at Tt
  rw [← e13] at Tt
  rw [← e13] at vi
  have on : ∀ (h1 : Hp_) (b1 : β), ¬ (x.1 = 2 ∧ came = true) → b1 = (if x.1 = 3 then lM x1.toNatClampNeg h b else b) → Mx PM x1.toNatClampNeg (h_i h 1 0) M (M 11).toNatClampNeg [] b1 h h1 → Cv (m_X12_goOn (d + 3) 0 0) [.ref 1, .int x1] (h_im h1 213 x1.toNatClampNeg ((h_i h1 213 x1.toNatClampNeg) + 1)) (fun h' => Wf h' ∧ Mx PM x1.toNatClampNeg (h_i h 1 0) (fNx (h_i h 1 0) (wI h) L (fEn (h_i h 1 0) x came M)).1 (M 11).toNatClampNeg (fNx (h_i h 1 0) (wI h) L (fEn (h_i h 1 0) x came M)).2 (fB tB (h_i h 1 0) (fNx (h_i h 1 0) (wI h) L (fEn (h_i h 1 0) x came M)).1 (if x.1 = 3 then lM x1.toNatClampNeg h b else b)) h h') := fun h1 b1 ny eb s => by
    have fo : fEn (h_i h 1 0) x came M = (false, M, []) := if_neg ny
    have fx : fNx (h_i h 1 0) (wI h) L (false, M, []) = ((fSt (h_i h 1 0) (wI h) L (up1 M 9 (M 9 + 1))).1, [] ++ (fSt (h_i h 1 0) (wI h) L (up1 M 9 (M 9 + 1))).2) := by
      unfold fNx
      rw [if_neg (show ¬ (false : Bool) = true by decide)]
    rw [if_neg ny] at r4
    rw [fo, fx, ← eb]
    exact mgo_c P d X hx s rfl e4 p6 p5 p7 n0 S e9 e227 r0 (by omega) _ (fun h' k => k)
  refine Tt _ ⟨v, v, fun y0 => ⟨vi, fun n3 => ⟨v, v, ?_⟩, fun y3 => ?_⟩, fun n0' => ⟨vi, fun n2 => ⟨v, v, ?_⟩, fun y2 => ⟨vi, ?_⟩⟩⟩
  · have nc : ¬ (x.1 = 2 ∧ came = true) := fun z => ec.mp z.2 y0
    exact on h b nc (by rw [if_neg n3]) (Mx.rf I R B)
  · have nc : ¬ (x.1 = 2 ∧ came = true) := fun z => ec.mp z.2 y0
    refine Cv.mono (P.2.2.2 d b h x1 I hx B) (fun h1 k => ⟨k.1.1, v, v, on h1 _ nc (by rw [if_pos y3]) ((Mx.rf I R B).fr k.1 k.2.1 k.2.2 (by decide +kernel) (by decide +kernel) (by decide +kernel))⟩)
  · have n3 : ¬ x.1 = 3 := fun z => by
      have c1 := lk z
      have c2 := ec.mpr n0'
      rw [c1] at c2
      cases c2
    exact on h b (fun z => n2 z.1) (by rw [if_neg n3]) (Mx.rf I R B)
  · have yc := ec.mpr n0'
    have n3 : ¬ x.1 = 3 := by rw [y2]; decide
    rw [if_pos ⟨y2, yc⟩] at r4
    have fo : fEn (h_i h 1 0) x came M = ((fPt (h_i h 1 0) (M 10 + x.2.2) M).1, (fPt (h_i h 1 0) (M 10 + x.2.2) M).2.1, [(fPt (h_i h 1 0) (M 10 + x.2.2) M).2.2]) := if_pos ⟨y2, yc⟩
    rw [fo, if_neg n3]
    have fk : ∀ k, k ≠ 7 → k ≠ 11 → k ≠ 15 → k ≠ 16 → (fPt (h_i h 1 0) (M 10 + x.2.2) M).2.1 k = M k := fun k a b c d => fPt_k a b c d
    have rn := row_n (x := M 11) r0 (by omega)
    refine Ci.mono (m_cm P d I hx R B e4 x.2.2 ⟨r0, by omega⟩) (fun q3 h4 k => ?_)
    obtain ⟨eq, k⟩ := k
    refine ⟨k.1.1, fun e0 => ⟨v, v, ?_⟩, fun ne => ?_⟩
    · have t : (fPt (h_i h 1 0) (M 10 + x.2.2) M).1 = false := by
        cases z : (fPt (h_i h 1 0) (M 10 + x.2.2) M).1 with
        | true =>
          rw [z, if_pos rfl] at eq
          rw [eq] at e0
          exact absurd e0 (by decide)
        | false => rfl
      have fx : fNx (h_i h 1 0) (wI h) L ((fPt (h_i h 1 0) (M 10 + x.2.2) M).1, (fPt (h_i h 1 0) (M 10 + x.2.2) M).2.1, [(fPt (h_i h 1 0) (M 10 + x.2.2) M).2.2]) = ((fSt (h_i h 1 0) (wI h) L (up1 (fPt (h_i h 1 0) (M 10 + x.2.2) M).2.1 9 ((fPt (h_i h 1 0) (M 10 + x.2.2) M).2.1 9 + 1))).1, [(fPt (h_i h 1 0) (M 10 + x.2.2) M).2.2] ++ (fSt (h_i h 1 0) (wI h) L (up1 (fPt (h_i h 1 0) (M 10 + x.2.2) M).2.1 9 ((fPt (h_i h 1 0) (M 10 + x.2.2) M).2.1 9 + 1))).2) := by
        unfold fNx
        rw [if_neg (by rw [t]; decide)]
      rw [fx]
      have f7 : (fPt (h_i h 1 0) (M 10 + x.2.2) M).2.1 7 = -1 := by
        rw [← p7]
        unfold fPt at t ⊢
        split at t
        · rename_i c
          rw [if_pos c]
          split at t
          · rename_i c'
            rw [if_pos c']
            show sRow (1, -1) M 7 = M 7
            exact sRow_k (by decide) (by decide) (by decide)
          · cases t
        · rename_i c
          rw [if_neg c]
          show sRow (2, 1) M 7 = M 7
          exact sRow_k (by decide) (by decide) (by decide)
      exact mgo_c P d X hx k (by rw [fPt_11]; exact rn.1) (by rw [fk 4 (by decide) (by decide) (by decide) (by decide)]; exact e4) (by rw [fk 6 (by decide) (by decide) (by decide) (by decide)]; exact p6) (by rw [fk 5 (by decide) (by decide) (by decide) (by decide)]; exact p5) f7 (by rw [fk 0 (by decide) (by decide) (by decide) (by decide)]; exact n0) (by rw [fk 8 (by decide) (by decide) (by decide) (by decide)]; exact S) (by rw [fk 9 (by decide) (by decide) (by decide) (by decide)]; exact e9) (by rw [fk 8 (by decide) (by decide) (by decide) (by decide)]; exact e227) (by rw [fPt_11]; omega) (by rw [fPt_11]; omega) _ (fun h' k => k)
    · have t : (fPt (h_i h 1 0) (M 10 + x.2.2) M).1 = true := by
        cases z : (fPt (h_i h 1 0) (M 10 + x.2.2) M).1 with
        | true => rfl
        | false =>
          rw [z, if_neg (by decide)] at eq
          exact absurd eq ne
      have fx : fNx (h_i h 1 0) (wI h) L ((fPt (h_i h 1 0) (M 10 + x.2.2) M).1, (fPt (h_i h 1 0) (M 10 + x.2.2) M).2.1, [(fPt (h_i h 1 0) (M 10 + x.2.2) M).2.2]) = ((fPt (h_i h 1 0) (M 10 + x.2.2) M).2.1, [(fPt (h_i h 1 0) (M 10 + x.2.2) M).2.2]) := by
        unfold fNx
        rw [if_pos t]
      rw [fx]
      have fb : fB tB (h_i h 1 0) (fPt (h_i h 1 0) (M 10 + x.2.2) M).2.1 b = b := by
        unfold fB
        rw [fk 4 (by decide) (by decide) (by decide) (by decide), e4, if_neg (by decide)]
      show Mx PM x1.toNatClampNeg (h_i h 1 0) (fPt (h_i h 1 0) (M 10 + x.2.2) M).2.1 (M 11).toNatClampNeg [(fPt (h_i h 1 0) (M 10 + x.2.2) M).2.2] (fB tB (h_i h 1 0) (fPt (h_i h 1 0) (M 10 + x.2.2) M).2.1 b) h h4
      rw [fb]
      exact k
/-- what holds of a man at any time: w the walks, at minute n -/
noncomputable def KmA (w : Int32 → Int32 → Int32) (M : Nat → Int32) : Prop := (0 ≤ (M 3).toInt ∧ (M 3).toInt ≤ 15) ∧ (M 6 = -1 → 0 ≤ (M 5).toInt) ∧ (¬ M 6 = -1 → 0 ≤ (M 6).toInt) ∧ (M 4 = 0 → M 6 = -1 ∧ M 7 = -1) ∧ (M 4 = 4 → M 6 = -1 ∧ M 5 = M 3) ∧ (M 4 = 2 → M 6 = M 3) ∧ (M 4 = 3 → (0 ≤ (M 13).toInt ∧ (M 13).toInt ≤ 15) ∧ ¬ w (M 3) (M 13) = -1 ∧ (M 6 = -1 → M 5 = M 13 ∧ M 7 = M 14)) ∧ ¬ w (M 3) (if M 6 = -1 then M 5 else M 6) = -1
theorem m_wk (P : PMok PM tB lM) (d : Nat) {h : Hp_} (I : Iv h) (X : ExP h) {x1 : Int32} (hx : 0 ≤ x1.toInt ∧ x1.toInt ≤ 11) {M : Nat → Int32} (R : RMp x1.toNatClampNeg M h) {b : β} (B : PM b h) (n0 : M 0 = x1) (ka : KmA (wI h) M) (wt : ∀ p q, ¬ wI h (M 3) p = -1 → ¬ wI h (M 3) q = -1 → ¬ wI h p q = -1) (wz : ∀ p q, wI h p q = 0 → p = q) {i : Nat} {x : Sp3} {L : List Sp3} (T : M 4 = 1 → (Stm h (M 8) i (x :: L) ∧ M 9 = Int32.ofNat i ∧ h_i h 227 (M 8).toNatClampNeg = Int32.ofNat (i + (L.length + 1)) ∧ 0 ≤ (M 11).toInt ∧ (M 11).toInt + (((if x.1 = 2 ∧ decide (¬ M 6 = -1) = true then 1 else 0) + mts L : Nat) : Int) ≤ 400) ∧ (x.1 = 3 → M 6 = -1)) (yt : M 7 = h_i h 1 0) : Cv (m_X12_wake (d + 9) 0 0) [.ref 1, .int x1] h (fun h' => Mx PM x1.toNatClampNeg (h_i h 1 0) (fGo (h_i h 1 0) (wI h) x L M).1 (M 11).toNatClampNeg (fGo (h_i h 1 0) (wI h) x L M).2 (fB tB (h_i h 1 0) (fGo (h_i h 1 0) (wI h) x L M).1 (if M 4 = 1 ∧ x.1 = 3 then lM x1.toNatClampNeg (h_im h 211 x1.toNatClampNeg (-1)) b else b)) h h') := by
  have v := v12 hx
  have t0 : (0 : Int32).toInt = 0 := rfl
  have tm : (-1 : Int32).toInt = -1 := rfl
  obtain ⟨k3, k5, k6, kf, _, k2, kd, kc⟩ := ka
  have bn := I.2.1 1 0
  rw [show tf 1 0 = (0, 20000) by decide +kernel] at bn
  have bn0 : 0 ≤ (h_i h 1 0).toInt := bn.1
  have n00 : ¬ M 4 = 0 := fun e => by
    have z := congrArg Int32.toInt ((kf e).2.symm.trans yt)
    omega
  have Tt := t_X12_wake d h I.1 x1
  rw [R.1.2.2.2, R.1.2.2.1] at Tt
  have E29 : ∀ s0 : Int32, (decide (¬ M 6 = -1) = true ↔ ¬ s0 = 0) → AW (m_X12_wake (d + 9) 0 0) 0 0 29 [(0, .ref 1), (1, .int x1)] [.int s0] h (kV (fun h' => Mx PM x1.toNatClampNeg (h_i h 1 0) (fGo (h_i h 1 0) (wI h) x L M).1 (M 11).toNatClampNeg (fGo (h_i h 1 0) (wI h) x L M).2 (fB tB (h_i h 1 0) (fGo (h_i h 1 0) (wI h) x L M).1 (if M 4 = 1 ∧ x.1 = 3 then lM x1.toNatClampNeg (h_im h 211 x1.toNatClampNeg (-1)) b else b)) h h')) := fun s0 ec => by
    have e208 := R.1.1
    have T2 := t_X12_wake_29 d h I.1 x1 s0
    rw [e208, R.1.2.1, R.1.2.2.1] at T2
    refine T2 _ ⟨fun y => ?_, fun n => ?_⟩
    · have e6 : M 6 = -1 := Decidable.byContradiction (fun z => ec.mp (decide_eq_true z) y)
      have fc : fCm M = up1 M 7 (-1) := by
        unfold fCm
        rw [if_pos e6]
      have s : Mx PM x1.toNatClampNeg (h_i h 1 0) (fCm M) (M 11).toNatClampNeg [] b h (h_im h 211 x1.toNatClampNeg (-1)) := by
        rw [fc]
        exact (Mx.rf I R B).imj P (im211 I _ _) (by decide) (by decide +kernel) R.i7
      have ck : ∀ k, k ≠ 7 → fCm M k = M k := fun k a => by rw [fc, up1_ne a]
      have kk := s.2.1.k
      refine ⟨v, v, fun n2 => ⟨v, fun n3 => ⟨v, fun n1 => ?_, fun y1 => ?_⟩, fun y3 => ⟨fun z => absurd y z, fun _ => ?_⟩⟩, fun y2 => ?_⟩
      · have f : fGo (h_i h 1 0) (wI h) x L M = (fCm M, []) := by
          unfold fGo
          rw [if_neg n1, if_neg n2, if_neg n3]
        rw [f, if_neg (fun z => n1 z.1)]
        unfold fB
        show Mx PM x1.toNatClampNeg (h_i h 1 0) (fCm M) (M 11).toNatClampNeg [] (if fCm M 4 = 0 then _ else _) h _
        rw [ck 4 (by decide), if_neg n00]
        exact s
      · have f : fGo (h_i h 1 0) (wI h) x L M = fNx (h_i h 1 0) (wI h) L (fEn (h_i h 1 0) x (decide (¬ M 6 = -1)) (fCm M)) := by
          unfold fGo
          rw [if_pos y1]
        have T1 := T y1
        rw [f]
        have z := m_wb P d s.1 (kk.2.2.2.2.2 X) hx s.2.2.1 s.2.2.2.2 (by rw [ck 4 (by decide)]; exact y1) (by rw [ck 6 (by decide)]; exact e6) (by rw [ck 5 (by decide)]; exact k5 e6) (by rw [fc, up1_at]) (by rw [ck 0 (by decide)]; exact n0) (i := i) (x := x) (L := L) (by rw [ck 8 (by decide)]; exact T1.1.1.cg kk.2.2.2.2.1) (by rw [ck 9 (by decide)]; exact T1.1.2.1) (by rw [ck 8 (by decide), kk.2.2.2.1]; exact T1.1.2.2.1) (decide (¬ M 6 = -1)) s0 ec (by rw [ck 11 (by decide)]; exact T1.1.2.2.2.1) (by rw [ck 11 (by decide)]; exact T1.1.2.2.2.2) (fun _ => decide_eq_false (fun z => z e6))
        rw [kk.2.1, kk.1, ck 11 (by decide)] at z
        have eb : (if M 4 = 1 ∧ x.1 = 3 then lM x1.toNatClampNeg (h_im h 211 x1.toNatClampNeg (-1)) b else b) = (if x.1 = 3 then lM x1.toNatClampNeg (h_im h 211 x1.toNatClampNeg (-1)) b else b) := by
          by_cases c : x.1 = 3
          · rw [if_pos c, if_pos ⟨y1, c⟩]
          · rw [if_neg c, if_neg (fun u => c u.2)]
        rw [eb]
        exact Cv.mono z (fun h' k => ⟨k.1.1, s.tr k rfl⟩)
      · have f : fGo (h_i h 1 0) (wI h) x L M = (fDr (h_i h 1 0) (wI h) (fCm M), []) := by
          unfold fGo
          rw [if_neg (by rw [y3]; decide), if_neg (by rw [y3]; decide), if_pos y3]
        have q := kd y3
        have q6 := q.2.2 e6
        have z0 : wI h (M 5) (M 13) = 0 ∨ ¬ 0 < wI h (M 5) (M 13) := Or.inr (fun z => by
          have e := q6.1
          rw [e] at z
          rcases wI_s I X (M 13) with w0 | w0 <;> rw [w0] at z <;> exact absurd z (by decide))
        have nw : ¬ 0 < wI h (M 5) (M 13) := z0.elim (fun z => by rw [z]; decide) id
        have fd : fDr (h_i h 1 0) (wI h) (fCm M) = fHome (h_i h 1 0) (wI h) (fCm M) := by
          unfold fDr
          rw [ck 5 (by decide), ck 13 (by decide), ck 14 (by decide), if_neg nw, if_neg (fun z => by
            have l := q_lt.mp z.2
            rw [← q6.2, yt] at l
            omega)]
        rw [f, fd, if_neg (fun z => by rw [y3] at z; exact absurd z.1 (by decide))]
        have z := m_gh P d s.1 (kk.2.2.2.2.2 X) hx s.2.2.1 s.2.2.2.2 (by rw [ck 5 (by decide)]; exact k5 e6) (by rw [ck 6 (by decide)]; exact e6) (by rw [ck 0 (by decide)]; exact n0) (M 11).toNatClampNeg
        rw [kk.2.1, kk.1] at z
        exact Cv.mono z (fun h' k => ⟨k.1.1, s.tr k rfl⟩)
      · have z := k2 y2
        rw [e6] at z
        rw [← z] at k3
        exact absurd k3.1 (by decide)
    · have n6 : ¬ M 6 = -1 := of_decide_eq_true (ec.mpr n)
      have fc : fCm M = up1 (up1 (up1 M 6 (-1)) 5 (M 6)) 7 (-1) := by
        unfold fCm
        rw [if_neg n6]
      have b10 := m210 I x1.toNatClampNeg
      rw [R.1.2.2.1] at b10
      have ck : ∀ k, k ≠ 5 → k ≠ 6 → k ≠ 7 → fCm M k = M k := fun k a b c => by rw [fc, up1_ne c, up1_ne a, up1_ne b]
      have c5 : fCm M 5 = M 6 := by rw [fc, up1_ne (by decide), up1_at]
      have c6 : fCm M 6 = -1 := by rw [fc, up1_ne (by decide), up1_ne (by decide), up1_at]
      have c7 : fCm M 7 = -1 := by rw [fc, up1_at]
      have I3 : Iv (h_im (h_im (h_im h 209 x1.toNatClampNeg (M 6)) 210 x1.toNatClampNeg (-1)) 211 x1.toNatClampNeg (-1)) := im211 (im210 (im209 I _ _ b10) _ _ (by decide)) _ _
      have R3 : RMp x1.toNatClampNeg (fCm M) (h_im (h_im (h_im h 209 x1.toNatClampNeg (M 6)) 210 x1.toNatClampNeg (-1)) 211 x1.toNatClampNeg (-1)) := by
        refine ⟨⟨?_, ?_, ?_, ?_⟩, fun e => ?_, fun e => ?_, ?_⟩
        · rw [im_ne (by decide), im_ne (by decide), im_ne (by decide), ck 4 (by decide) (by decide) (by decide)]
          exact e208
        · rw [im_ne (by decide), im_ne (by decide), im_at, c5]
        · rw [im_ne (by decide), im_at, c6]
        · rw [im_at, c7]
        · rw [ck 4 (by decide) (by decide) (by decide)] at e
          have u := R.2.1 e
          rw [im_ne (by decide), im_ne (by decide), im_ne (by decide), im_ne (by decide), im_ne (by decide), im_ne (by decide), im_ne (by decide), im_ne (by decide), im_ne (by decide), im_ne (by decide), im_ne (by decide), im_ne (by decide), im_ne (by decide), im_ne (by decide), im_ne (by decide), ck 8 (by decide) (by decide) (by decide), ck 9 (by decide) (by decide) (by decide), ck 10 (by decide) (by decide) (by decide), ck 11 (by decide) (by decide) (by decide), ck 12 (by decide) (by decide) (by decide)]
          exact u
        · rw [ck 4 (by decide) (by decide) (by decide)] at e
          have u := R.2.2.1 e
          rw [im_ne (by decide), im_ne (by decide), im_ne (by decide), im_ne (by decide), im_ne (by decide), im_ne (by decide), ck 13 (by decide) (by decide) (by decide), ck 14 (by decide) (by decide) (by decide)]
          exact u
        · rw [im_ne (by decide), im_ne (by decide), im_ne (by decide), ck 3 (by decide) (by decide) (by decide)]
          exact R.2.2.2
      have s : Mx PM x1.toNatClampNeg (h_i h 1 0) (fCm M) (M 11).toNatClampNeg [] b h (h_im (h_im (h_im h 209 x1.toNatClampNeg (M 6)) 210 x1.toNatClampNeg (-1)) 211 x1.toNatClampNeg (-1)) := ⟨I3, (((Gmm.rf _ _).imj (by decide +kernel)).imj (by decide +kernel)).imj (by decide +kernel), R3, ⟨by rw [im_oth (by decide), im_oth (by decide), im_oth (by decide)]; rfl, by rw [im_oth (by decide), im_oth (by decide), im_oth (by decide)]; rfl, by rw [im_oth (by decide), im_oth (by decide), im_oth (by decide)]; rfl⟩, P.1 _ _ _ _ _ (Or.inl (by decide)) (P.1 _ _ _ _ _ (Or.inl (by decide)) (P.1 _ _ _ _ _ (Or.inl (by decide)) B))⟩
      have s8 : Mx PM x1.toNatClampNeg (h_i h 1 0) (fCm M) (M 11).toNatClampNeg [] b h (h_im (h_im (h_im (h_im h 209 x1.toNatClampNeg (M 6)) 210 x1.toNatClampNeg (-1)) 211 x1.toNatClampNeg (-1)) 248 x1.toNatClampNeg (vp_nar .boolean 1)) := ⟨im248 I3 _ 1 (Or.inr rfl), s.2.1.imj (by decide +kernel), R3.i8, ⟨by rw [im_oth (by decide)]; exact s.2.2.2.1.1, by rw [im_oth (by decide)]; exact s.2.2.2.1.2.1, by rw [im_oth (by decide)]; exact s.2.2.2.1.2.2⟩, P.1 _ _ _ _ _ (Or.inr (Or.inr (Or.inl rfl))) s.2.2.2.2⟩
      have kk := s.2.1.k
      have p6 := k6 n6
      rw [if_neg n6] at kc
      have gd : ∀ (g : Hp_), M 4 = 3 → Mx PM x1.toNatClampNeg (h_i h 1 0) (fCm M) (M 11).toNatClampNeg [] b h g → Cv (m_X12_goDrawn (d + 4) 0 0) [.ref 1, .int x1] g (fun h' => Wf h' ∧ Mx PM x1.toNatClampNeg (h_i h 1 0) (fDr (h_i h 1 0) (wI h) (fCm M)) (M 11).toNatClampNeg [] (fB tB (h_i h 1 0) (fDr (h_i h 1 0) (wI h) (fCm M)) b) h h') := fun g y3 sg => by
        have kg := sg.2.1.k
        have q := kd y3
        have z := m_gd P d sg.1 (kg.2.2.2.2.2 X) hx sg.2.2.1 sg.2.2.2.2 (by rw [c5]; exact p6) c6 (by rw [ck 0 (by decide) (by decide) (by decide)]; exact n0) (by rw [ck 4 (by decide) (by decide) (by decide)]; exact y3) (by rw [c5, ck 13 (by decide) (by decide) (by decide), kg.1]; exact wt _ _ kc q.2.1) (by rw [c5, ck 13 (by decide) (by decide) (by decide), kg.1]; exact wz _ _) (M 11).toNatClampNeg
        rw [kg.2.1, kg.1] at z
        exact Cv.mono z (fun h' k => ⟨k.1.1, sg.tr k rfl⟩)
      refine ⟨v, v, v, v, v, fun n2 => ⟨v, fun n3 => ⟨v, fun n1 => ?_, fun y1 => ?_⟩, fun y3 => ⟨fun _ => ?_, fun z => absurd z n⟩⟩, fun y2 => ?_⟩
      · have f : fGo (h_i h 1 0) (wI h) x L M = (fCm M, []) := by
          unfold fGo
          rw [if_neg n1, if_neg n2, if_neg n3]
        rw [f, if_neg (fun z => n1 z.1)]
        unfold fB
        show Mx PM x1.toNatClampNeg (h_i h 1 0) (fCm M) (M 11).toNatClampNeg [] (if fCm M 4 = 0 then _ else _) h _
        rw [ck 4 (by decide) (by decide) (by decide), if_neg n00]
        exact s
      · have f : fGo (h_i h 1 0) (wI h) x L M = fNx (h_i h 1 0) (wI h) L (fEn (h_i h 1 0) x (decide (¬ M 6 = -1)) (fCm M)) := by
          unfold fGo
          rw [if_pos y1]
        have T1 := T y1
        rw [f]
        have n3x : ¬ x.1 = 3 := fun z => n6 (T1.2 z)
        have z := m_wb P d s.1 (kk.2.2.2.2.2 X) hx s.2.2.1 s.2.2.2.2 (by rw [ck 4 (by decide) (by decide) (by decide)]; exact y1) c6 (by rw [c5]; exact p6) c7 (by rw [ck 0 (by decide) (by decide) (by decide)]; exact n0) (i := i) (x := x) (L := L) (by rw [ck 8 (by decide) (by decide) (by decide)]; exact T1.1.1.cg kk.2.2.2.2.1) (by rw [ck 9 (by decide) (by decide) (by decide)]; exact T1.1.2.1) (by rw [ck 8 (by decide) (by decide) (by decide), kk.2.2.2.1]; exact T1.1.2.2.1) (decide (¬ M 6 = -1)) s0 ec (by rw [ck 11 (by decide) (by decide) (by decide)]; exact T1.1.2.2.2.1) (by rw [ck 11 (by decide) (by decide) (by decide)]; exact T1.1.2.2.2.2) (fun z => absurd z n3x)
        rw [kk.2.1, kk.1, ck 11 (by decide) (by decide) (by decide), if_neg n3x] at z
        rw [if_neg (fun u => n3x u.2)]
        exact Cv.mono z (fun h' k => ⟨k.1.1, s.tr k rfl⟩)
      · have f : fGo (h_i h 1 0) (wI h) x L M = (fDr (h_i h 1 0) (wI h) (fCm M), []) := by
          unfold fGo
          rw [if_neg (by rw [y3]; decide), if_neg (by rw [y3]; decide), if_pos y3]
        rw [f, if_neg (fun z => by rw [y3] at z; exact absurd z.1 (by decide))]
        have e18 := (R.2.2.1 y3).1
        rw [e18]
        refine ⟨v, v, fun ne => ⟨v, gd _ y3 s8⟩, fun e => ⟨v, fun z => ⟨v, gd _ y3 s8⟩, fun z => ?_⟩⟩
        have w0 : ¬ 0 < wI h (fCm M 5) (fCm M 13) := by
          rw [c5, ck 13 (by decide) (by decide) (by decide), e]
          rcases wI_s I X (M 13) with w0 | w0 <;> rw [w0] <;> decide
        have fd : fDr (h_i h 1 0) (wI h) (fCm M) = if h_i h 1 0 < fCm M 14 then up1 (fCm M) 7 (fCm M 14) else fHome (h_i h 1 0) (wI h) (fCm M) := by
          unfold fDr
          rw [if_neg w0]
          by_cases c : h_i h 1 0 < fCm M 14
          · rw [if_pos ⟨by rw [c5, ck 13 (by decide) (by decide) (by decide)]; exact e, c⟩, if_pos c]
          · rw [if_neg (fun u => c u.2), if_neg c]
        have z := m_st P d s.1 (kk.2.2.2.2.2 X) hx s.2.2.1 s.2.2.2.2 (by rw [c5]; exact p6) c6 (by rw [ck 0 (by decide) (by decide) (by decide)]; exact n0) (by rw [ck 4 (by decide) (by decide) (by decide)]; exact y3) (M 11).toNatClampNeg (fDr (h_i h 1 0) (wI h) (fCm M)) (by rw [kk.2.1, kk.1]; exact fd)
        rw [kk.2.1] at z
        exact Cv.mono z (fun h' k => ⟨k.1.1, s.tr k rfl⟩)
      · have f : fGo (h_i h 1 0) (wI h) x L M = (fFree (fCm M), []) := by
          unfold fGo
          rw [if_neg (by rw [y2]; decide), if_pos y2]
        have z0 : fFree (fCm M) 4 = 0 := by
          unfold fFree
          rw [up1_ne (by decide), up1_at]
        have z1 : fFree (fCm M) 0 = x1 := by
          rw [fFree_k (by decide) (by decide), ck 0 (by decide) (by decide) (by decide)]
          exact n0
        have fb : fB tB (h_i h 1 0) (fFree (fCm M)) b = tB x1 (h_i h 1 0) b := by
          unfold fB
          rw [if_pos z0, z1]
        have h206 : h_i (h_im (h_im (h_im h 209 x1.toNatClampNeg (M 6)) 210 x1.toNatClampNeg (-1)) 211 x1.toNatClampNeg (-1)) 206 x1.toNatClampNeg = M 3 := by
          rw [R3.2.2.2]
          exact ck 3 (by decide) (by decide) (by decide)
        rw [f, if_neg (fun z => by rw [y2] at z; exact absurd z.1 (by decide))]
        show Cv _ _ _ (fun h72 => Wf h72 ∧ Mx PM x1.toNatClampNeg (h_i h 1 0) (fFree (fCm M)) (M 11).toNatClampNeg [] (fB tB (h_i h 1 0) (fFree (fCm M)) b) h h72)
        rw [fb]
        have z := m_fr P d s.1 hx s.2.2.2.2 (M 11).toNatClampNeg (fFree (fCm M)) z0 (by rw [fFree_k (by decide) (by decide), c5, h206]; exact k2 y2) (by rw [fFree_k (by decide) (by decide)]; exact c6) (by unfold fFree; rw [up1_at]) (by rw [fFree_k (by decide) (by decide), h206]; exact ck 3 (by decide) (by decide) (by decide))
        rw [kk.2.1] at z
        exact Cv.mono z (fun h' k => ⟨k.1.1, s.tr k rfl⟩)
  refine Tt _ ⟨v, fun _ => ⟨v, fun e6 => E29 0 ?_, fun n6 => E29 1 ?_⟩, fun n => absurd yt n⟩
  · rw [decide_eq_true_iff]
    exact ⟨fun z => absurd e6 z, fun z => absurd rfl z⟩
  · rw [decide_eq_true_iff]
    exact ⟨fun _ => by decide, fun _ => n6⟩
end MEN
end
section
/-! MEN: what holds of a man at any time, kept by all that befalls him -/
noncomputable def WOk (w : Int32 → Int32 → Int32) : Prop := (∀ a p q, ¬ w a p = -1 → ¬ w p q = -1 → ¬ w a q = -1) ∧ (∀ a, 0 ≤ a.toInt ∧ a.toInt ≤ 15 → ¬ w a a = -1) ∧ (∀ a b, ¬ w a b = -1 → (0 ≤ b.toInt ∧ b.toInt ≤ 15) ∧ 0 ≤ (w a b).toInt) ∧ (∀ a p q, ¬ w a p = -1 → ¬ w a q = -1 → ¬ w p q = -1) ∧ ∀ a b, w a b = 0 → a = b
theorem wok {h : Hp_} (I : Iv h) (X : ExP h) : WOk (wI h) := ⟨fun _ _ _ y z => wI_t2 I X y z, fun _ p => wI_r I X p, fun a b y => by
  rcases wI_p I X a b with q | q
  · exact absurd q y
  · exact ⟨⟨q.2.2.2.1.1, by have := q.2.2.2.1.2; omega⟩, q.1⟩, fun _ _ _ y z => wI_tr I X y z, fun _ _ e => wI_z I X e⟩
noncomputable def KmB (BL : Nat → List Sp3) (nb rw : Nat) (M : Nat → Int32) : Prop := ∃ i x L, (0 ≤ (M 8).toInt ∧ (M 8).toNatClampNeg < nb) ∧ (BL (M 8).toNatClampNeg).drop i = x :: L ∧ M 9 = Int32.ofNat i ∧ ((x.1 = 1 ∨ x.1 = 3) → M 6 = -1) ∧ 0 ≤ (M 11).toInt ∧ (M 11).toInt + (((if x.1 = 2 ∧ decide (¬ M 6 = -1) = true then 1 else 0) + mts L : Nat) : Int) = (M 12).toInt ∧ (M 12).toInt ≤ (rw : Int)
noncomputable def Km (w : Int32 → Int32 → Int32) (BL : Nat → List Sp3) (nb rw : Nat) (M : Nat → Int32) : Prop := KmA w M ∧ (M 4 = 1 → KmB BL nb rw M)
/-- events of one sort, of the other -/
noncomputable def c1 : List Ev2 → Nat
  | [] => 0
  | e :: E => (if e.1 = 1 then 1 else 0) + c1 E
noncomputable def c2 : List Ev2 → Nat
  | [] => 0
  | e :: E => (if e.1 = 1 then 0 else 1) + c2 E
theorem c1_a : ∀ A B : List Ev2, c1 (A ++ B) = c1 A + c1 B
  | [], B => by show c1 B = 0 + c1 B; omega
  | e :: A, B => by
    show (if e.1 = 1 then 1 else 0) + c1 (A ++ B) = (if e.1 = 1 then 1 else 0) + c1 A + c1 B
    rw [c1_a A B]
    omega
theorem c2_a : ∀ A B : List Ev2, c2 (A ++ B) = c2 A + c2 B
  | [], B => by show c2 B = 0 + c2 B; omega
  | e :: A, B => by
    show (if e.1 = 1 then 0 else 1) + c2 (A ++ B) = (if e.1 = 1 then 0 else 1) + c2 A + c2 B
    rw [c2_a A B]
    omega
/-- slots that stay -/
noncomputable abbrev fx (k : Nat) : Prop := k ≠ 4 ∧ k ≠ 5 ∧ k ≠ 6 ∧ k ≠ 7 ∧ k ≠ 9 ∧ k ≠ 11 ∧ k ≠ 15 ∧ k ≠ 16
/-- what became of a man M: nothing but his own, m rows at most were settled -/
noncomputable def Rk (m : Nat) (M : Nat → Int32) (o : (Nat → Int32) × List Ev2) : Prop := (∀ k, fx k → o.1 k = M k) ∧ (∀ e ∈ o.2, e.1 = 1 ∨ e.1 = 2) ∧ o.2.length ≤ m ∧ o.1 11 = M 11 + Int32.ofNat o.2.length ∧ o.1 15 = M 15 + Int32.ofNat (c1 o.2) ∧ o.1 16 = M 16 + Int32.ofNat (c2 o.2)
theorem i_0 (x : Int32) : x + Int32.ofNat 0 = x := by
  show x + 0 = x
  exact Int32.add_zero x
theorem i_a (x : Int32) (a b : Nat) : x + Int32.ofNat a + Int32.ofNat b = x + Int32.ofNat (a + b) := by rw [Int32.add_assoc, Int32.ofNat_add]
theorem Rk.rf {m : Nat} {M M' : Nat → Int32} (a : ∀ k, fx k → M' k = M k) (b : M' 11 = M 11) (c : M' 15 = M 15) (d : M' 16 = M 16) : Rk m M (M', []) := ⟨a, fun e he => (by cases he), Nat.zero_le _, by show M' 11 = M 11 + Int32.ofNat 0; rw [i_0, b], by show M' 15 = M 15 + Int32.ofNat 0; rw [i_0, c], by show M' 16 = M 16 + Int32.ofNat 0; rw [i_0, d]⟩
theorem Rk.tr {m m' : Nat} {M M1 : Nat → Int32} {E1 : List Ev2} {o : (Nat → Int32) × List Ev2} (a : Rk m M (M1, E1)) (b : Rk m' M1 o) : Rk (m + m') M (o.1, E1 ++ o.2) := ⟨fun k hk => (b.1 k hk).trans (a.1 k hk), fun e he => (List.mem_append.mp he).elim (a.2.1 e) (b.2.1 e), by
  have x := a.2.2.1
  have y := b.2.2.1
  show (E1 ++ o.2).length ≤ m + m'
  rw [List.length_append]
  have x : E1.length ≤ m := x
  omega, by
  show o.1 11 = M 11 + Int32.ofNat (E1 ++ o.2).length
  rw [b.2.2.2.1, show M1 11 = M 11 + Int32.ofNat E1.length from a.2.2.2.1, i_a, List.length_append], by
  show o.1 15 = M 15 + Int32.ofNat (c1 (E1 ++ o.2))
  rw [b.2.2.2.2.1, show M1 15 = M 15 + Int32.ofNat (c1 E1) from a.2.2.2.2.1, i_a, c1_a], by
  show o.1 16 = M 16 + Int32.ofNat (c2 (E1 ++ o.2))
  rw [b.2.2.2.2.2, show M1 16 = M 16 + Int32.ofNat (c2 E1) from a.2.2.2.2.2, i_a, c2_a]⟩
theorem Rk.mo {m m' : Nat} {M : Nat → Int32} {o : (Nat → Int32) × List Ev2} (a : Rk m M o) (l : m ≤ m') : Rk m' M o := ⟨a.1, a.2.1, Nat.le_trans a.2.2.1 l, a.2.2.2⟩
theorem n9 {k : Nat} (hk : fx k) : k ≠ 4 ∧ k ≠ 5 ∧ k ≠ 6 ∧ k ≠ 7 ∧ k ≠ 9 ∧ k ≠ 11 ∧ k ≠ 15 ∧ k ≠ 16 := hk
theorem Rk.out {m : Nat} {n k p : Int32} {M : Nat → Int32} : Rk m M (sOut n k p M, []) := Rk.rf (fun j hj => sOut_k (n9 hj).2.1 (n9 hj).2.2.1 (n9 hj).2.2.2.1) (sOut_k (by decide) (by decide) (by decide)) (sOut_k (by decide) (by decide) (by decide)) (sOut_k (by decide) (by decide) (by decide))
theorem Rk.u7 {m : Nat} {x : Int32} {M : Nat → Int32} : Rk m M (up1 M 7 x, []) := Rk.rf (fun j hj => up1_ne (n9 hj).2.2.2.1) (up1_ne (by decide)) (up1_ne (by decide)) (up1_ne (by decide))
theorem Rk.u9 {m : Nat} {x : Int32} {M : Nat → Int32} : Rk m M (up1 M 9 x, []) := Rk.rf (fun j hj => up1_ne (n9 hj).2.2.2.2.1) (up1_ne (by decide)) (up1_ne (by decide)) (up1_ne (by decide))
theorem Rk.hm {m : Nat} {n : Int32} {w : Int32 → Int32 → Int32} {M : Nat → Int32} : Rk m M (fHome n w M, []) := Rk.rf (fun j hj => fHome_k (n9 hj).1 (n9 hj).2.1 (n9 hj).2.2.1 (n9 hj).2.2.2.1) (fHome_k (by decide) (by decide) (by decide) (by decide)) (fHome_k (by decide) (by decide) (by decide) (by decide)) (fHome_k (by decide) (by decide) (by decide) (by decide))
theorem Rk.row {m : Nat} {e : Ev2} {M : Nat → Int32} (he : e.1 = 1 ∨ e.1 = 2) (l : 1 ≤ m) : Rk m M (sRow e M, [e]) := by
  have o1 : Int32.ofNat 1 = 1 := rfl
  refine ⟨fun j hj => sRow_k (n9 hj).2.2.2.2.2.1 (n9 hj).2.2.2.2.2.2.1 (n9 hj).2.2.2.2.2.2.2, fun x hx => by rw [List.mem_singleton.mp hx]; exact he, l, sRow_11, ?_, ?_⟩
  · show sRow e M 15 = M 15 + Int32.ofNat ((if e.1 = 1 then 1 else 0) + 0)
    unfold sRow
    by_cases c : e.1 = 1
    · rw [if_pos c, if_pos c, up1_at]
      rfl
    · rw [if_neg c, if_neg c, up1_ne (by decide), up1_ne (by decide)]
      exact (i_0 _).symm
  · show sRow e M 16 = M 16 + Int32.ofNat ((if e.1 = 1 then 0 else 1) + 0)
    unfold sRow
    by_cases c : e.1 = 1
    · rw [if_pos c, if_pos c, up1_ne (by decide), up1_ne (by decide)]
      exact (i_0 _).symm
    · rw [if_neg c, if_neg c, up1_at]
      rfl
theorem Rk.pt {m : Nat} {n u : Int32} {M : Nat → Int32} (l : 1 ≤ m) : Rk m M ((fPt n u M).2.1, [(fPt n u M).2.2]) := by
  unfold fPt
  split
  · split
    · exact Rk.row (Or.inl rfl) l
    · have a := Rk.row (m := m) (M := M) (e := (1, -1)) (Or.inl rfl) l
      have b := Rk.u7 (m := 0) (x := u) (M := sRow (1, -1) M)
      have c := a.tr b
      exact c
  · exact Rk.row (Or.inr rfl) l
theorem Rk.one {m : Nat} {n : Int32} {w : Int32 → Int32 → Int32} {x : Sp3} {M : Nat → Int32} (l : x.1 = 2 → 1 ≤ m) : Rk m M ((fOne n w x M).2.1, (fOne n w x M).2.2) := by
  unfold fOne
  split
  · exact Rk.u7
  · split
    · exact Rk.u7
    · split
      · exact Rk.out
      · split
        · rename_i c
          split
          · exact Rk.row (Or.inr rfl) (l c)
          · exact Rk.pt (l c)
        · exact Rk.rf (fun _ _ => rfl) rfl rfl rfl
theorem Rk.st {n : Int32} {w : Int32 → Int32 → Int32} : ∀ (L : List Sp3) (M : Nat → Int32), Rk (mts L) M (fSt n w L M)
  | [], _ => Rk.hm
  | x :: L, M => by
    have o := Rk.one (m := if x.1 = 2 then 1 else 0) (n := n) (w := w) (x := x) (M := M) (fun e => by rw [if_pos e]; exact Nat.le_refl _)
    show Rk ((if x.1 = 2 then 1 else 0) + mts L) M (if (fOne n w x M).1 = true then ((fOne n w x M).2.1, (fOne n w x M).2.2) else ((fSt n w L (up1 (fOne n w x M).2.1 9 ((fOne n w x M).2.1 9 + 1))).1, (fOne n w x M).2.2 ++ (fSt n w L (up1 (fOne n w x M).2.1 9 ((fOne n w x M).2.1 9 + 1))).2))
    by_cases t : (fOne n w x M).1 = true
    · rw [if_pos t]
      exact o.mo (Nat.le_add_right _ _)
    · rw [if_neg t]
      have z := (o.tr (Rk.u9 (m := 0) (x := (fOne n w x M).2.1 9 + 1))).tr (Rk.st (n := n) (w := w) L (up1 (fOne n w x M).2.1 9 ((fOne n w x M).2.1 9 + 1)))
      have e : (fOne n w x M).2.2 ++ ([] : List Ev2) = (fOne n w x M).2.2 := List.append_nil _
      have z : Rk ((if x.1 = 2 then 1 else 0) + 0 + mts L) M ((fSt n w L (up1 (fOne n w x M).2.1 9 ((fOne n w x M).2.1 9 + 1))).1, ((fOne n w x M).2.2 ++ []) ++ (fSt n w L (up1 (fOne n w x M).2.1 9 ((fOne n w x M).2.1 9 + 1))).2) := z
      rw [e] at z
      exact z
theorem Rk.cm {m : Nat} {M : Nat → Int32} : Rk m M (fCm M, []) := by
  have q : ∀ k, k ≠ 5 → k ≠ 6 → k ≠ 7 → fCm M k = M k := fun k a b e => by
    unfold fCm
    split
    · rw [up1_ne e]
    · rw [up1_ne e, up1_ne a, up1_ne b]
  exact Rk.rf (fun j hj => q j (n9 hj).2.1 (n9 hj).2.2.1 (n9 hj).2.2.2.1) (q 11 (by decide) (by decide) (by decide)) (q 15 (by decide) (by decide) (by decide)) (q 16 (by decide) (by decide) (by decide))
theorem Rk.fr {m : Nat} {M : Nat → Int32} : Rk m M (fFree M, []) := Rk.rf (fun j hj => fFree_k (n9 hj).1 (n9 hj).2.2.2.1) (fFree_k (by decide) (by decide)) (fFree_k (by decide) (by decide)) (fFree_k (by decide) (by decide))
theorem Rk.dr {m : Nat} {n : Int32} {w : Int32 → Int32 → Int32} {M : Nat → Int32} : Rk m M (fDr n w M, []) := by
  unfold fDr
  split
  · exact Rk.out
  · split
    · exact Rk.u7
    · exact Rk.hm
theorem Rk.en {m : Nat} {n : Int32} {x : Sp3} {came : Bool} {M : Nat → Int32} (l : x.1 = 2 ∧ came = true → 1 ≤ m) : Rk m M ((fEn n x came M).2.1, (fEn n x came M).2.2) := by
  unfold fEn
  split
  · rename_i c
    exact Rk.pt (l c)
  · exact Rk.rf (fun _ _ => rfl) rfl rfl rfl
theorem Rk.nx {m : Nat} {n : Int32} {w : Int32 → Int32 → Int32} {L : List Sp3} {M : Nat → Int32} {o : Bool × (Nat → Int32) × List Ev2} (a : Rk m M (o.2.1, o.2.2)) : Rk (m + mts L) M (fNx n w L o) := by
  unfold fNx
  split
  · exact a.mo (by omega)
  · have z := (a.tr (Rk.u9 (m := 0) (x := o.2.1 9 + 1))).tr (Rk.st (n := n) (w := w) L (up1 o.2.1 9 (o.2.1 9 + 1)))
    have e : o.2.2 ++ ([] : List Ev2) = o.2.2 := List.append_nil _
    have z : Rk (m + 0 + mts L) M ((fSt n w L (up1 o.2.1 9 (o.2.1 9 + 1))).1, (o.2.2 ++ []) ++ (fSt n w L (up1 o.2.1 9 (o.2.1 9 + 1))).2) := z
    rw [e] at z
    exact z
theorem Rk.go {n : Int32} {w : Int32 → Int32 → Int32} {x : Sp3} {L : List Sp3} {M : Nat → Int32} : Rk ((if x.1 = 2 ∧ decide (¬ M 6 = -1) = true then 1 else 0) + mts L) M (fGo n w x L M) := by
  have o := Rk.en (m := if x.1 = 2 ∧ decide (¬ M 6 = -1) = true then 1 else 0) (n := n) (x := x) (came := decide (¬ M 6 = -1)) (M := fCm M) (fun e => by rw [if_pos e]; exact Nat.le_refl _)
  generalize (if x.1 = 2 ∧ decide (¬ M 6 = -1) = true then 1 else 0) = q at o ⊢
  unfold fGo
  split
  · have z := (Rk.cm (m := 0) (M := M)).tr (Rk.nx (n := n) (w := w) (L := L) o)
    exact z.mo (by omega)
  · split
    · exact ((Rk.cm (m := 0) (M := M)).tr (Rk.fr (m := 0))).mo (by omega)
    · split
      · exact ((Rk.cm (m := 0) (M := M)).tr (Rk.dr (m := 0) (n := n) (w := w))).mo (by omega)
      · exact Rk.cm
/-! the invariant -/
theorem km_hm {n : Int32} {w : Int32 → Int32 → Int32} {BL : Nat → List Sp3} {nb rw : Nat} {M : Nat → Int32} (W : WOk w) (p3 : 0 ≤ (M 3).toInt ∧ (M 3).toInt ≤ 15) (p6 : M 6 = -1) : Km w BL nb rw (fHome n w M) := by
  have tm : (-1 : Int32).toInt = -1 := rfl
  unfold fHome
  split
  · have e3 : sOut n (w (M 5) (M 3)) (M 3) (up1 M 4 2) 3 = M 3 := by rw [sOut_k (by decide) (by decide) (by decide), up1_ne (by decide)]
    have e4 : sOut n (w (M 5) (M 3)) (M 3) (up1 M 4 2) 4 = 2 := by rw [sOut_k (by decide) (by decide) (by decide), up1_at]
    have e6 : sOut n (w (M 5) (M 3)) (M 3) (up1 M 4 2) 6 = M 3 := by
      unfold sOut
      rw [up1_ne (by decide), up1_ne (by decide), up1_at]
    have n6 : ¬ M 3 = -1 := fun e => by rw [e] at p3; exact absurd p3.1 (by decide)
    unfold Km KmA
    rw [e3, e4, e6]
    exact ⟨⟨p3, fun e => absurd e n6, fun _ => p3.1, fun e => absurd e (by decide), fun e => absurd e (by decide), fun _ => rfl, fun e => absurd e (by decide), by rw [if_neg n6]; exact W.2.1 _ p3⟩, fun e => absurd e (by decide)⟩
  · have e3 : fFree (up1 (up1 M 4 2) 5 (M 3)) 3 = M 3 := by rw [fFree_k (by decide) (by decide), up1_ne (by decide), up1_ne (by decide)]
    have e4 : fFree (up1 (up1 M 4 2) 5 (M 3)) 4 = 0 := by
      unfold fFree
      rw [up1_ne (by decide), up1_at]
    have e5 : fFree (up1 (up1 M 4 2) 5 (M 3)) 5 = M 3 := by rw [fFree_k (by decide) (by decide), up1_at]
    have e6 : fFree (up1 (up1 M 4 2) 5 (M 3)) 6 = -1 := by rw [fFree_k (by decide) (by decide), up1_ne (by decide), up1_ne (by decide), p6]
    have e7 : fFree (up1 (up1 M 4 2) 5 (M 3)) 7 = -1 := by
      unfold fFree
      rw [up1_at]
    unfold Km KmA
    rw [e3, e4, e5, e6, e7]
    exact ⟨⟨p3, fun _ => p3.1, fun e => absurd rfl e, fun _ => ⟨rfl, rfl⟩, fun e => absurd e (by decide), fun e => absurd e (by decide), fun e => absurd e (by decide), by rw [if_pos rfl]; exact W.2.1 _ p3⟩, fun e => absurd e (by decide)⟩
/-- one who stands at a place, free of points to come to -/
theorem kma_at {w : Int32 → Int32 → Int32} {M : Nat → Int32} (p3 : 0 ≤ (M 3).toInt ∧ (M 3).toInt ≤ 15) (p6 : M 6 = -1) (p5 : 0 ≤ (M 5).toInt) (e4 : M 4 = 1) (c : ¬ w (M 3) (M 5) = -1) : KmA w M := ⟨p3, fun _ => p5, fun e => absurd p6 e, fun e => absurd (e4.symm.trans e) (by decide), fun e => absurd (e4.symm.trans e) (by decide), fun e => absurd (e4.symm.trans e) (by decide), fun e => absurd (e4.symm.trans e) (by decide), by rw [if_pos p6]; exact c⟩
theorem kma_out {n : Int32} {w : Int32 → Int32 → Int32} {M : Nat → Int32} {p : Int32} (W : WOk w) (p3 : 0 ≤ (M 3).toInt ∧ (M 3).toInt ≤ 15) (e4 : M 4 = 1) (c : ¬ w (M 3) (M 5) = -1) (y : 0 < w (M 5) p) : KmA w (sOut n (w (M 5) p) p M) ∧ ¬ sOut n (w (M 5) p) p M 6 = -1 := by
  have ny : ¬ w (M 5) p = -1 := fun e => by rw [e] at y; exact absurd y (by decide)
  have q := W.2.2.1 _ _ ny
  have e3 : sOut n (w (M 5) p) p M 3 = M 3 := sOut_k (by decide) (by decide) (by decide)
  have e4' : sOut n (w (M 5) p) p M 4 = 1 := by rw [sOut_k (by decide) (by decide) (by decide), e4]
  have e6 : sOut n (w (M 5) p) p M 6 = p := by
    unfold sOut
    rw [up1_ne (by decide), up1_ne (by decide), up1_at]
  have n6 : ¬ p = -1 := fun e => by rw [e] at q; exact absurd q.1.1 (by decide)
  unfold KmA
  rw [e3, e4', e6]
  exact ⟨⟨p3, fun e => absurd e n6, fun _ => q.1.1, fun e => absurd e (by decide), fun e => absurd e (by decide), fun e => absurd e (by decide), fun e => absurd e (by decide), by rw [if_neg n6]; exact W.1 _ _ _ c ny⟩, n6⟩
theorem km_st {n : Int32} {w : Int32 → Int32 → Int32} {BL : Nat → List Sp3} {nb rw : Nat} (W : WOk w) : ∀ (L : List Sp3) (M : Nat → Int32) (i : Nat), (∀ x ∈ L, stR x) → M 4 = 1 → M 6 = -1 → 0 ≤ (M 5).toInt → (0 ≤ (M 3).toInt ∧ (M 3).toInt ≤ 15) → ¬ w (M 3) (M 5) = -1 → (0 ≤ (M 8).toInt ∧ (M 8).toNatClampNeg < nb) → (BL (M 8).toNatClampNeg).drop i = L → M 9 = Int32.ofNat i → i + L.length ≤ 150 → 0 ≤ (M 11).toInt → (M 11).toInt + (mts L : Int) = (M 12).toInt → (M 12).toInt ≤ (rw : Int) → rw ≤ 400 → Km w BL nb rw (fSt n w L M).1
  | [], M, i, _, e4, p6, p5, p3, c, b8, hd, e9, il, r0, r12, rr, r4 => km_hm W p3 p6
  | x :: L, M, i, hs, e4, p6, p5, p3, c, b8, hd, e9, il, r0, r12, rr, r4 => by
    have sr := hs x List.mem_cons_self
    have m : mts (x :: L) = (if x.1 = 2 then 1 else 0) + mts L := rfl
    have il' : i + (L.length + 1) ≤ 150 := il
    rw [m] at r12
    have dr : (BL (M 8).toNatClampNeg).drop (i + 1) = L := by
      rw [← List.drop_drop, hd]
      rfl
    show Km w BL nb rw (if (fOne n w x M).1 = true then ((fOne n w x M).2.1, (fOne n w x M).2.2) else ((fSt n w L (up1 (fOne n w x M).2.1 9 ((fOne n w x M).2.1 9 + 1))).1, (fOne n w x M).2.2 ++ (fSt n w L (up1 (fOne n w x M).2.1 9 ((fOne n w x M).2.1 9 + 1))).2)).1
    by_cases t : (fOne n w x M).1 = true
    · rw [if_pos t]
      show Km w BL nb rw (fOne n w x M).2.1
      have fk : ∀ k, k ≠ 5 → k ≠ 6 → k ≠ 7 → k ≠ 11 → k ≠ 15 → k ≠ 16 → (fOne n w x M).2.1 k = M k := fun k a b c d e f => fOne_k a b c d e f
      have key : KmA w (fOne n w x M).2.1 ∧ ((x.1 = 1 ∨ x.1 = 3) → (fOne n w x M).2.1 6 = -1) ∧ 0 ≤ ((fOne n w x M).2.1 11).toInt ∧ ((fOne n w x M).2.1 11).toInt + (((if x.1 = 2 ∧ decide (¬ (fOne n w x M).2.1 6 = -1) = true then 1 else 0) + mts L : Nat) : Int) = (M 12).toInt := by
        by_cases y1 : x.1 = 1
        · have fo : fOne n w x M = (true, up1 M 7 (n + x.2.1), []) := by
            unfold fOne
            rw [if_pos y1]
          rw [fo]
          show KmA w (up1 M 7 (n + x.2.1)) ∧ (_ → up1 M 7 (n + x.2.1) 6 = -1) ∧ 0 ≤ (up1 M 7 (n + x.2.1) 11).toInt ∧ (up1 M 7 (n + x.2.1) 11).toInt + (((if x.1 = 2 ∧ decide (¬ up1 M 7 (n + x.2.1) 6 = -1) = true then 1 else 0) + mts L : Nat) : Int) = (M 12).toInt
          rw [up1_ne (by decide), up1_ne (by decide)]
          have n2 : ¬ x.1 = 2 := by rw [y1]; decide
          rw [if_neg n2] at r12
          rw [if_neg (fun z => n2 z.1)]
          exact ⟨kma_at (by rw [up1_ne (by decide)]; exact p3) (by rw [up1_ne (by decide)]; exact p6) (by rw [up1_ne (by decide)]; exact p5) (by rw [up1_ne (by decide)]; exact e4) (by rw [up1_ne (by decide), up1_ne (by decide)]; exact c), fun _ => p6, r0, r12⟩
        · by_cases y3 : x.1 = 3
          · have fo : fOne n w x M = (true, up1 M 7 (n + 1), []) := by
              unfold fOne
              rw [if_neg y1, if_pos y3]
            rw [fo]
            show KmA w (up1 M 7 (n + 1)) ∧ (_ → up1 M 7 (n + 1) 6 = -1) ∧ 0 ≤ (up1 M 7 (n + 1) 11).toInt ∧ (up1 M 7 (n + 1) 11).toInt + (((if x.1 = 2 ∧ decide (¬ up1 M 7 (n + 1) 6 = -1) = true then 1 else 0) + mts L : Nat) : Int) = (M 12).toInt
            rw [up1_ne (by decide), up1_ne (by decide)]
            have n2 : ¬ x.1 = 2 := by rw [y3]; decide
            rw [if_neg n2] at r12
            rw [if_neg (fun z => n2 z.1)]
            exact ⟨kma_at (by rw [up1_ne (by decide)]; exact p3) (by rw [up1_ne (by decide)]; exact p6) (by rw [up1_ne (by decide)]; exact p5) (by rw [up1_ne (by decide)]; exact e4) (by rw [up1_ne (by decide), up1_ne (by decide)]; exact c), fun _ => p6, r0, r12⟩
          · by_cases yw : 0 < w (M 5) x.2.1
            · have fo : fOne n w x M = (true, sOut n (w (M 5) x.2.1) x.2.1 M, []) := by
                unfold fOne
                rw [if_neg y1, if_neg y3, if_pos yw]
              rw [fo]
              have q := kma_out (n := n) (M := M) W p3 e4 c yw
              show KmA w (sOut n (w (M 5) x.2.1) x.2.1 M) ∧ (_ → sOut n (w (M 5) x.2.1) x.2.1 M 6 = -1) ∧ 0 ≤ (sOut n (w (M 5) x.2.1) x.2.1 M 11).toInt ∧ (sOut n (w (M 5) x.2.1) x.2.1 M 11).toInt + (((if x.1 = 2 ∧ decide (¬ sOut n (w (M 5) x.2.1) x.2.1 M 6 = -1) = true then 1 else 0) + mts L : Nat) : Int) = (M 12).toInt
              rw [sOut_k (k := 11) (by decide) (by decide) (by decide)]
              refine ⟨q.1, fun z => absurd z (fun u => u.elim y1 y3), r0, ?_⟩
              by_cases y2 : x.1 = 2
              · rw [if_pos y2] at r12
                rw [if_pos ⟨y2, decide_eq_true q.2⟩]
                exact r12
              · rw [if_neg y2] at r12
                rw [if_neg (fun z => y2 z.1)]
                exact r12
            · by_cases y2 : x.1 = 2
              · rw [if_pos y2] at r12
                by_cases em : w (M 5) x.2.1 = -1
                · have fo : fOne n w x M = (false, sRow (2, 2) M, [(2, 2)]) := by
                    unfold fOne
                    rw [if_neg y1, if_neg y3, if_neg yw, if_pos y2, if_pos em]
                  rw [fo] at t
                  cases t
                · have fo : fOne n w x M = ((fPt n (M 10 + x.2.2) M).1, (fPt n (M 10 + x.2.2) M).2.1, [(fPt n (M 10 + x.2.2) M).2.2]) := by
                    unfold fOne
                    rw [if_neg y1, if_neg y3, if_neg yw, if_pos y2, if_neg em]
                  rw [fo]
                  have pk : ∀ k, k ≠ 7 → k ≠ 11 → k ≠ 15 → k ≠ 16 → (fPt n (M 10 + x.2.2) M).2.1 k = M k := fun k a b c d => fPt_k a b c d
                  have rn := row_n (x := M 11) r0 (by omega)
                  show KmA w (fPt n (M 10 + x.2.2) M).2.1 ∧ (_ → (fPt n (M 10 + x.2.2) M).2.1 6 = -1) ∧ 0 ≤ ((fPt n (M 10 + x.2.2) M).2.1 11).toInt ∧ ((fPt n (M 10 + x.2.2) M).2.1 11).toInt + (((if x.1 = 2 ∧ decide (¬ (fPt n (M 10 + x.2.2) M).2.1 6 = -1) = true then 1 else 0) + mts L : Nat) : Int) = (M 12).toInt
                  rw [fPt_11, pk 6 (by decide) (by decide) (by decide) (by decide)]
                  have nn : ¬ (x.1 = 2 ∧ decide (¬ M 6 = -1) = true) := fun z => of_decide_eq_true z.2 p6
                  rw [if_neg nn]
                  exact ⟨kma_at (by rw [pk 3 (by decide) (by decide) (by decide) (by decide)]; exact p3) (by rw [pk 6 (by decide) (by decide) (by decide) (by decide)]; exact p6) (by rw [pk 5 (by decide) (by decide) (by decide) (by decide)]; exact p5) (by rw [pk 4 (by decide) (by decide) (by decide) (by decide)]; exact e4) (by rw [pk 3 (by decide) (by decide) (by decide) (by decide), pk 5 (by decide) (by decide) (by decide) (by decide)]; exact c), fun _ => p6, by omega, by omega⟩
              · have fo : fOne n w x M = (false, M, []) := by
                  unfold fOne
                  rw [if_neg y1, if_neg y3, if_neg yw, if_neg y2]
                rw [fo] at t
                cases t
      refine ⟨key.1, fun _ => ⟨i, x, L, ?_, ?_, ?_, key.2.1, key.2.2.1, ?_, ?_⟩⟩
      · rw [fk 8 (by decide) (by decide) (by decide) (by decide) (by decide) (by decide)]
        exact b8
      · rw [fk 8 (by decide) (by decide) (by decide) (by decide) (by decide) (by decide)]
        exact hd
      · rw [fk 9 (by decide) (by decide) (by decide) (by decide) (by decide) (by decide)]
        exact e9
      · rw [fk 12 (by decide) (by decide) (by decide) (by decide) (by decide) (by decide)]
        exact key.2.2.2
      · rw [fk 12 (by decide) (by decide) (by decide) (by decide) (by decide) (by decide)]
        exact rr
    · rw [if_neg t]
      show Km w BL nb rw (fSt n w L (up1 (fOne n w x M).2.1 9 ((fOne n w x M).2.1 9 + 1))).1
      have tf' : (fOne n w x M).1 = false := by
        cases z : (fOne n w x M).1 with
        | true => exact absurd z t
        | false => rfl
      have fn := fOne_n tf'
      have fk : ∀ k, k ≠ 5 → k ≠ 6 → k ≠ 7 → k ≠ 11 → k ≠ 15 → k ≠ 16 → (fOne n w x M).2.1 k = M k := fun k a b c d e f => fOne_k a b c d e f
      have f9 : (fOne n w x M).2.1 9 = Int32.ofNat i := by rw [fk 9 (by decide) (by decide) (by decide) (by decide) (by decide) (by decide)]; exact e9
      have f11 : 0 ≤ ((fOne n w x M).2.1 11).toInt ∧ ((fOne n w x M).2.1 11).toInt + (mts L : Int) = (M 12).toInt := by
        rcases fOne_11 (n := n) (w := w) (x := x) (M := M) with ⟨_, b, c⟩ | ⟨a, _, c⟩
        · have c := c tf'
          rw [if_neg c] at r12
          rw [b]
          exact ⟨r0, by omega⟩
        · rw [if_pos a] at r12
          have rn := row_n (x := M 11) r0 (by omega)
          rw [c]
          exact ⟨by omega, by omega⟩
      refine km_st W L _ (i + 1) (fun y hy => hs y (List.mem_cons_of_mem _ hy)) ?_ ?_ ?_ ?_ ?_ ?_ ?_ ?_ (by omega) ?_ ?_ ?_ r4
      · rw [up1_ne (by decide), fk 4 (by decide) (by decide) (by decide) (by decide) (by decide) (by decide)]
        exact e4
      · rw [up1_ne (by decide), fn.2.1]
        exact p6
      · rw [up1_ne (by decide), fn.1]
        exact p5
      · rw [up1_ne (by decide), fk 3 (by decide) (by decide) (by decide) (by decide) (by decide) (by decide)]
        exact p3
      · rw [up1_ne (by decide), up1_ne (by decide), fk 3 (by decide) (by decide) (by decide) (by decide) (by decide) (by decide), fn.1]
        exact c
      · rw [up1_ne (by decide), fk 8 (by decide) (by decide) (by decide) (by decide) (by decide) (by decide)]
        exact b8
      · rw [up1_ne (by decide), fk 8 (by decide) (by decide) (by decide) (by decide) (by decide) (by decide)]
        exact dr
      · rw [up1_at, f9, on_s (by omega)]
      · rw [up1_ne (by decide)]
        exact f11.1
      · rw [up1_ne (by decide), up1_ne (by decide), fk 12 (by decide) (by decide) (by decide) (by decide) (by decide) (by decide)]
        exact f11.2
      · rw [up1_ne (by decide), fk 12 (by decide) (by decide) (by decide) (by decide) (by decide) (by decide)]
        exact rr
theorem km_dr {n : Int32} {w : Int32 → Int32 → Int32} {BL : Nat → List Sp3} {nb rw : Nat} {M : Nat → Int32} (W : WOk w) (p3 : 0 ≤ (M 3).toInt ∧ (M 3).toInt ≤ 15) (p6 : M 6 = -1) (p5 : 0 ≤ (M 5).toInt) (e4 : M 4 = 3) (c : ¬ w (M 3) (M 5) = -1) (p13 : 0 ≤ (M 13).toInt ∧ (M 13).toInt ≤ 15) (c13 : ¬ w (M 3) (M 13) = -1) : Km w BL nb rw (fDr n w M) := by
  unfold fDr
  split
  · rename_i y
    have n6 : ¬ M 13 = -1 := fun e => by rw [e] at p13; exact absurd p13.1 (by decide)
    have e3 : sOut n (w (M 5) (M 13)) (M 13) M 3 = M 3 := sOut_k (by decide) (by decide) (by decide)
    have e4' : sOut n (w (M 5) (M 13)) (M 13) M 4 = 3 := by rw [sOut_k (by decide) (by decide) (by decide), e4]
    have e13 : sOut n (w (M 5) (M 13)) (M 13) M 13 = M 13 := sOut_k (by decide) (by decide) (by decide)
    have e6 : sOut n (w (M 5) (M 13)) (M 13) M 6 = M 13 := by
      unfold sOut
      rw [up1_ne (by decide), up1_ne (by decide), up1_at]
    unfold Km KmA
    rw [e3, e4', e6, e13]
    exact ⟨⟨p3, fun e => absurd e n6, fun _ => p13.1, fun e => absurd e (by decide), fun e => absurd e (by decide), fun e => absurd e (by decide), fun _ => ⟨p13, c13, fun e => absurd e n6⟩, by rw [if_neg n6]; exact c13⟩, fun e => absurd e (by decide)⟩
  · split
    · rename_i y
      unfold Km KmA
      rw [up1_ne (k := 7) (j := 3) (by decide), up1_ne (k := 7) (j := 4) (by decide), up1_ne (k := 7) (j := 5) (by decide), up1_ne (k := 7) (j := 6) (by decide), up1_ne (k := 7) (j := 13) (by decide), up1_ne (k := 7) (j := 14) (by decide), up1_at, e4]
      exact ⟨⟨p3, fun _ => p5, fun e => absurd p6 e, fun e => absurd e (by decide), fun e => absurd e (by decide), fun e => absurd e (by decide), fun _ => ⟨p13, c13, fun _ => ⟨y.1, rfl⟩⟩, by rw [if_pos p6]; exact c⟩, fun e => absurd e (by decide)⟩
    · exact km_hm W p3 p6
theorem km_go {n : Int32} {w : Int32 → Int32 → Int32} {BL : Nat → List Sp3} {nb rw : Nat} {M : Nat → Int32} (W : WOk w) (hb : ∀ k x, k < nb → x ∈ BL k → stR x) (hl : ∀ k, k < nb → (BL k).length ≤ 150) (r4 : rw ≤ 400) (n0 : ¬ M 4 = 0) (K : Km w BL nb rw M) {i : Nat} {x : Sp3} {L : List Sp3} (T : M 4 = 1 → (BL (M 8).toNatClampNeg).drop i = x :: L ∧ M 9 = Int32.ofNat i ∧ (0 ≤ (M 8).toInt ∧ (M 8).toNatClampNeg < nb) ∧ 0 ≤ (M 11).toInt ∧ (M 11).toInt + (((if x.1 = 2 ∧ decide (¬ M 6 = -1) = true then 1 else 0) + mts L : Nat) : Int) = (M 12).toInt ∧ (M 12).toInt ≤ (rw : Int)) : Km w BL nb rw (fGo n w x L M).1 := by
  obtain ⟨⟨p3, k5, k6, kf, k4, k2, kd, kc⟩, _⟩ := K
  have ck : ∀ k, k ≠ 5 → k ≠ 6 → k ≠ 7 → fCm M k = M k := fun k a b e => by
    unfold fCm
    split
    · rw [up1_ne e]
    · rw [up1_ne e, up1_ne a, up1_ne b]
  have c6 : fCm M 6 = -1 := by
    unfold fCm
    split
    · rename_i e
      rw [up1_ne (by decide), e]
    · rw [up1_ne (by decide), up1_ne (by decide), up1_at]
  have c5 : fCm M 5 = if M 6 = -1 then M 5 else M 6 := by
    unfold fCm
    split
    · rw [up1_ne (by decide)]
    · rw [up1_ne (by decide), up1_at]
  have p5 : 0 ≤ (fCm M 5).toInt := by
    rw [c5]
    split
    · rename_i e
      exact k5 e
    · rename_i e
      exact k6 e
  have cc : ¬ w (fCm M 3) (fCm M 5) = -1 := by
    rw [c5, ck 3 (by decide) (by decide) (by decide)]
    exact kc
  unfold fGo
  split
  · rename_i y1
    have T := T y1
    obtain ⟨hd, e9, b8, r0, r12, rr⟩ := T
    have hdl : (BL (M 8).toNatClampNeg).drop i = x :: L := hd
    have il : i + (L.length + 1) ≤ 150 := by
      have l := congrArg List.length hd
      rw [List.length_drop] at l
      have l : (BL (M 8).toNatClampNeg).length - i = L.length + 1 := l
      have := hl _ b8.2
      omega
    have dr : (BL (M 8).toNatClampNeg).drop (i + 1) = L := by
      rw [← List.drop_drop, hd]
      rfl
    have hs : ∀ y ∈ L, stR y := fun y hy => hb _ y b8.2 (List.mem_of_mem_drop (i := i) (by rw [hd]; exact List.mem_cons_of_mem _ hy))
    unfold fNx
    have ek : ∀ k, k ≠ 7 → k ≠ 11 → k ≠ 15 → k ≠ 16 → (fEn n x (decide (¬ M 6 = -1)) (fCm M)).2.1 k = fCm M k := fun k a b c d => fEn_k a b c d
    have e11 : 0 ≤ ((fEn n x (decide (¬ M 6 = -1)) (fCm M)).2.1 11).toInt ∧ ((fEn n x (decide (¬ M 6 = -1)) (fCm M)).2.1 11).toInt + (mts L : Int) = (M 12).toInt := by
      unfold fEn
      by_cases y : x.1 = 2 ∧ decide (¬ M 6 = -1) = true
      · rw [if_pos y] at r12 ⊢
        have rn := row_n (x := M 11) r0 (by omega)
        show 0 ≤ ((fPt n (fCm M 10 + x.2.2) (fCm M)).2.1 11).toInt ∧ ((fPt n (fCm M 10 + x.2.2) (fCm M)).2.1 11).toInt + (mts L : Int) = (M 12).toInt
        rw [fPt_11, ck 11 (by decide) (by decide) (by decide)]
        omega
      · rw [if_neg y] at r12 ⊢
        show 0 ≤ (fCm M 11).toInt ∧ (fCm M 11).toInt + (mts L : Int) = (M 12).toInt
        rw [ck 11 (by decide) (by decide) (by decide)]
        omega
    split
    · rename_i t
      show Km w BL nb rw (fEn n x (decide (¬ M 6 = -1)) (fCm M)).2.1
      have y : x.1 = 2 ∧ decide (¬ M 6 = -1) = true := Decidable.byContradiction (fun y => by
        unfold fEn at t
        rw [if_neg y] at t
        cases t)
      refine ⟨kma_at (by rw [ek 3 (by decide) (by decide) (by decide) (by decide), ck 3 (by decide) (by decide) (by decide)]; exact p3) (by rw [ek 6 (by decide) (by decide) (by decide) (by decide)]; exact c6) (by rw [ek 5 (by decide) (by decide) (by decide) (by decide)]; exact p5) (by rw [ek 4 (by decide) (by decide) (by decide) (by decide), ck 4 (by decide) (by decide) (by decide)]; exact y1) (by rw [ek 3 (by decide) (by decide) (by decide) (by decide), ek 5 (by decide) (by decide) (by decide) (by decide)]; exact cc), fun _ => ⟨i, x, L, ?_, ?_, ?_, fun _ => ?_, e11.1, ?_, ?_⟩⟩
      · rw [ek 8 (by decide) (by decide) (by decide) (by decide), ck 8 (by decide) (by decide) (by decide)]
        exact b8
      · rw [ek 8 (by decide) (by decide) (by decide) (by decide), ck 8 (by decide) (by decide) (by decide)]
        exact hd
      · rw [ek 9 (by decide) (by decide) (by decide) (by decide), ck 9 (by decide) (by decide) (by decide)]
        exact e9
      · rw [ek 6 (by decide) (by decide) (by decide) (by decide)]
        exact c6
      · have n6 : ¬ (x.1 = 2 ∧ decide (¬ (fEn n x (decide (¬ M 6 = -1)) (fCm M)).2.1 6 = -1) = true) := fun z => of_decide_eq_true z.2 (by rw [ek 6 (by decide) (by decide) (by decide) (by decide)]; exact c6)
        rw [if_neg n6, ek 12 (by decide) (by decide) (by decide) (by decide), ck 12 (by decide) (by decide) (by decide)]
        have := e11.2
        omega
      · rw [ek 12 (by decide) (by decide) (by decide) (by decide), ck 12 (by decide) (by decide) (by decide)]
        exact rr
    · rename_i t
      show Km w BL nb rw (fSt n w L (up1 (fEn n x (decide (¬ M 6 = -1)) (fCm M)).2.1 9 ((fEn n x (decide (¬ M 6 = -1)) (fCm M)).2.1 9 + 1))).1
      refine km_st W L _ (i + 1) hs ?_ ?_ ?_ ?_ ?_ ?_ ?_ ?_ (by omega) ?_ ?_ ?_ r4
      · rw [up1_ne (by decide), ek 4 (by decide) (by decide) (by decide) (by decide), ck 4 (by decide) (by decide) (by decide)]
        exact y1
      · rw [up1_ne (by decide), ek 6 (by decide) (by decide) (by decide) (by decide)]
        exact c6
      · rw [up1_ne (by decide), ek 5 (by decide) (by decide) (by decide) (by decide)]
        exact p5
      · rw [up1_ne (by decide), ek 3 (by decide) (by decide) (by decide) (by decide), ck 3 (by decide) (by decide) (by decide)]
        exact p3
      · rw [up1_ne (by decide), up1_ne (by decide), ek 3 (by decide) (by decide) (by decide) (by decide), ek 5 (by decide) (by decide) (by decide) (by decide)]
        exact cc
      · rw [up1_ne (by decide), ek 8 (by decide) (by decide) (by decide) (by decide), ck 8 (by decide) (by decide) (by decide)]
        exact b8
      · rw [up1_ne (by decide), ek 8 (by decide) (by decide) (by decide) (by decide), ck 8 (by decide) (by decide) (by decide)]
        exact dr
      · rw [up1_at, ek 9 (by decide) (by decide) (by decide) (by decide), ck 9 (by decide) (by decide) (by decide), e9, on_s (by omega)]
      · rw [up1_ne (by decide)]
        exact e11.1
      · rw [up1_ne (by decide), up1_ne (by decide), ek 12 (by decide) (by decide) (by decide) (by decide), ck 12 (by decide) (by decide) (by decide)]
        exact e11.2
      · rw [up1_ne (by decide), ek 12 (by decide) (by decide) (by decide) (by decide), ck 12 (by decide) (by decide) (by decide)]
        exact rr
  · rename_i y1
    split
    · rename_i y2
      show Km w BL nb rw (fFree (fCm M))
      have n6 : ¬ M 6 = -1 := fun e => by
        have z := k2 y2
        rw [e] at z
        rw [← z] at p3
        exact absurd p3.1 (by decide)
      have e5 : fFree (fCm M) 5 = M 3 := by rw [fFree_k (by decide) (by decide), c5, if_neg n6]; exact k2 y2
      have e3 : fFree (fCm M) 3 = M 3 := by rw [fFree_k (by decide) (by decide)]; exact ck 3 (by decide) (by decide) (by decide)
      have e4 : fFree (fCm M) 4 = 0 := by
        unfold fFree
        rw [up1_ne (by decide), up1_at]
      have e6 : fFree (fCm M) 6 = -1 := by rw [fFree_k (by decide) (by decide)]; exact c6
      have e7 : fFree (fCm M) 7 = -1 := by
        unfold fFree
        rw [up1_at]
      unfold Km KmA
      rw [e3, e4, e5, e6, e7]
      exact ⟨⟨p3, fun _ => p3.1, fun e => absurd rfl e, fun _ => ⟨rfl, rfl⟩, fun e => absurd e (by decide), fun e => absurd e (by decide), fun e => absurd e (by decide), by rw [if_pos rfl]; exact W.2.1 _ p3⟩, fun e => absurd e (by decide)⟩
    · rename_i y2
      split
      · rename_i y3
        have q := kd y3
        exact km_dr W (by rw [ck 3 (by decide) (by decide) (by decide)]; exact p3) c6 p5 (by rw [ck 4 (by decide) (by decide) (by decide)]; exact y3) cc (by rw [ck 13 (by decide) (by decide) (by decide)]; exact q.1) (by rw [ck 3 (by decide) (by decide) (by decide), ck 13 (by decide) (by decide) (by decide)]; exact q.2.1)
      · rename_i y3
        show Km w BL nb rw (fCm M)
        unfold Km KmA
        rw [ck 3 (by decide) (by decide) (by decide), ck 4 (by decide) (by decide) (by decide), c6, if_pos rfl]
        refine ⟨⟨p3, fun _ => p5, fun e => absurd rfl e, fun e => absurd e n0, fun e => ⟨rfl, by rw [c5, if_pos (k4 e).1]; exact (k4 e).2⟩, fun e => absurd e y2, fun e => absurd e y3, ?_⟩, fun e => absurd e y1⟩
        rw [ck 3 (by decide) (by decide) (by decide)] at cc
        exact cc
/-! MEN, the class: begin, draw, ill -/
noncomputable def isM (h : Hp_) (x1 : Int32) : Prop := 0 ≤ x1.toInt ∧ x1.toInt < (h_i h 0 7).toInt
/-- the men's row -/
noncomputable def Mrw (h : Hp_) : Prop := ∀ k : Nat, (k : Int) < (h_i h 0 7).toInt → h_r h 15 k = some (401 + k)
theorem menX_in {h : Hp_} (I : Iv h) : 0 ≤ (h_i h 0 7).toInt ∧ (h_i h 0 7).toInt ≤ 12 := by
  have rg := I.2.1 0 7
  rw [show tf 0 7 = (0, 12) by decide +kernel] at rg
  exact ⟨rg.1, rg.2⟩
theorem Mrw.cn {h : Hp_} (I : Iv h) (m : Mrw h) {x1 : Int32} (y : isM h x1) : Cn h (401 + x1.toNatClampNeg) := by
  have b := menX_in I
  have y1 := y.1
  have y2 := y.2
  have n := n_nat y.1
  have r := m x1.toNatClampNeg (by omega)
  rcases I.2.2.1 x1.toNatClampNeg with q | ⟨c, q, hc⟩
  · rw [r] at q
    cases q
  · rw [r] at q
    rw [Option.some.inj q]
    exact hc
theorem c_mo (d : Nat) {h : Hp_} (I : Iv h) (m : Mrw h) (x1 : Int32) : Cr (m_X11_manOf (d + 1) 0 0) [.ref 0, .int x1] h (fun o h' => h' = h ∧ ((isM h x1 ∧ o = some (401 + x1.toNatClampNeg)) ∨ (¬ isM h x1 ∧ o = none))) := by
  have t0 : (0 : Int32).toInt = 0 := rfl
  have t1 : (1 : Int32).toInt = 1 := rfl
  have b := menX_in I
  have s1 : (h_i h 0 7 - 1).toInt = (h_i h 0 7).toInt - 1 := by rw [tx_sub (by rw [t1]; omega) (by rw [t1]; omega), t1]
  refine t_X11_manOf d h I.1 x1 _ ⟨fun n => ⟨rfl, Or.inr ⟨fun y => n ⟨q_le.mpr (by have := y.1; omega), q_le.mpr (by have := y.2; omega)⟩, rfl⟩⟩, fun y => ?_⟩
  have y1 := q_le.mp y.1
  have y2 := q_le.mp y.2
  have n1 := n_nat (x := x1) (by omega)
  have ym : isM h x1 := ⟨by omega, by omega⟩
  have r := m x1.toNatClampNeg (by omega)
  have hc := m.cn I ym
  refine ⟨dp_in (lo := 0) (hi := 11) ⟨by show (0 : Int) ≤ _; omega, by show _ ≤ (11 : Int); omega⟩ (by decide) (by decide), fun e => ?_, fun b5 e => ?_⟩
  · rw [r] at e
    cases e
  · rw [r] at e
    have e := Option.some.inj e
    subst e
    exact ⟨hc.2.2, by omega, rfl, Or.inl ⟨ym, rfl⟩⟩
noncomputable def fDw (n : Int32) (w : Int32 → Int32 → Int32) (x2 x3 : Int32) (M : Nat → Int32) : (Nat → Int32) × List Ev2 := ((if (fDp 3 M).1 6 = -1 then fDr n w (up1 (up1 (up1 (up1 (fDp 3 M).1 4 3) 13 x2) 14 x3) 7 (-1)) else up1 (up1 (up1 (fDp 3 M).1 4 3) 13 x2) 14 x3), (fDp 3 M).2)
noncomputable def okDw (h : Hp_) (M : Nat → Int32) (x2 x3 : Int32) : Prop := (0 ≤ x2 ∧ x2 < 16) ∧ ((h_i h 0 0) ≤ x3 ∧ x3 ≤ 30000) ∧ ¬ wI h (M 3) x2 = -1 ∧ ¬ M 4 = 3 ∧ ¬ M 4 = 4
noncomputable def fIl (M : Nat → Int32) : (Nat → Int32) × List Ev2 := (up1 (up1 (up1 (up1 (fDp 4 M).1 4 4) 6 (-1)) 7 (-1)) 5 (M 3), (fDp 4 M).2)
section MEN
variable {β : Type} {PB : β → Hp_ → Prop} {tB : Int32 → Int32 → β → β} {lB : Nat → Hp_ → β → β}
theorem c_dw (P : PBok PB tB lB) (d : Nat) {h : Hp_} (I : Iv h) (m : Mrw h) {b : β} (B : PB b h) (x1 x2 x3 : Int32) (R : isM h x1 → h_i h (401 + x1.toNatClampNeg) 4 = 1 → Rok h (h_i h (401 + x1.toNatClampNeg)) 0) : Ci (m_X11_draw (d + 5) 0 0) [.ref 0, .int x1, .int x2, .int x3] h (fun r h' => ((isM h x1 ∧ okDw h (h_i h (401 + x1.toNatClampNeg)) x2 x3) → r = 1 ∧ Sxm PB (401 + x1.toNatClampNeg) (h_i h 0 0) (fDw (h_i h 0 0) (wI h) x2 x3 (h_i h (401 + x1.toNatClampNeg))).1 (h_i h (401 + x1.toNatClampNeg) 11).toNatClampNeg (fDw (h_i h 0 0) (wI h) x2 x3 (h_i h (401 + x1.toNatClampNeg))).2 (fB tB (h_i h 0 0) (fDw (h_i h 0 0) (wI h) x2 x3 (h_i h (401 + x1.toNatClampNeg))).1 b) h h') ∧ (¬ (isM h x1 ∧ okDw h (h_i h (401 + x1.toNatClampNeg)) x2 x3) → r = 0 ∧ h' = h)) := by
  refine t_X11_draw d h I.1 x1 x2 x3 _ (Cr.mono (c_mo d I m x1) (fun o h1 q => ?_))
  obtain ⟨eh, q⟩ := q
  subst eh
  refine ⟨I.1, fun e => ?_, fun b4 e => ?_⟩
  · rcases q with q | q
    · rw [e] at q
      cases q.2
    · exact ⟨fun y => absurd y.1 q.1, fun _ => ⟨rfl, rfl⟩⟩
  · have ym : isM h1 x1 := by
      rcases q with q | q
      · exact q.1
      · rw [e] at q
        cases q.2
    have eb : b4 = 401 + x1.toNatClampNeg := by
      rcases q with q | q
      · exact Option.some.inj (e.symm.trans q.2)
      · exact absurd ym q.1
    subst eb
    have hc := m.cn I ym
    have R := R ym
    generalize 401 + x1.toNatClampNeg = c at *
    have c1 := hc.1
    refine ⟨hc.2.2, by omega, Ci.mono (s_X11_isPlace _ h1 x2) (fun r8 h8 k => ?_)⟩
    obtain ⟨er, eh⟩ := k
    subst er eh
    refine ⟨I.1, hc.2.2, fun z => ⟨fun y => absurd y.2.1 (bI_0.mp z), fun _ => ⟨rfl, rfl⟩⟩, fun z => ⟨fun yt => Ci.mono (c_mn d I (h_i h8 c 3) x2) (fun r16 h16 k => ?_), fun nt => ⟨fun y => absurd y.2.2.1 nt, fun _ => ⟨rfl, rfl⟩⟩⟩⟩
    obtain ⟨eh, er⟩ := k
    subst eh er
    have yp : 0 ≤ x2 ∧ x2 < 16 := Decidable.byContradiction (fun n => z (bI_0.mpr n))
    refine ⟨I.1, hc.2.2, fun e1 => ⟨fun y => absurd e1 y.2.2.2.1, fun _ => ⟨rfl, rfl⟩⟩, fun n1 => ⟨fun e3 => ⟨fun y => absurd e3 y.2.2.2.2.1, fun _ => ⟨rfl, rfl⟩⟩, fun n3 => ⟨fun n4 => ?_, fun e4 => ⟨fun y => absurd e4 y.2.2.2.2.2, fun _ => ⟨rfl, rfl⟩⟩⟩⟩⟩
    have ok : isM h16 x1 ∧ okDw h16 (h_i h16 c) x2 x3 := ⟨ym, yp, yt, n1, n3, n4⟩
    refine Cv.mono (c_dp P d I hc B 3 R) (fun h23 s => ?_)
    have kk := s.2.1.k c1
    have ew := wI_eq s.2.1 c1
    have e6 : h_i h23 c 6 = (fDp 3 (h_i h16 c)).1 6 := by rw [s.2.2.1]
    refine ⟨s.1.1, (s.cn hc).2.2, fun n6 => ⟨fun _ => ⟨rfl, ?_⟩, fun y => absurd ok y⟩, fun y6 => ?_⟩
    · rw [e6] at n6
      have f : fDw (h_i h16 0 0) (wI h16) x2 x3 (h_i h16 c) = (up1 (up1 (up1 (fDp 3 (h_i h16 c)).1 4 3) 13 x2) 14 x3, (fDp 3 (h_i h16 c)).2) := by
        unfold fDw
        rw [if_neg n6]
      rw [f]
      have fb : fB tB (h_i h16 0 0) (up1 (up1 (up1 (fDp 3 (h_i h16 c)).1 4 3) 13 x2) 14 x3) b = b := by
        unfold fB
        rw [up1_ne (by decide), up1_ne (by decide), up1_at, if_neg (by decide)]
      show Sxm PB c (h_i h16 0 0) (up1 (up1 (up1 (fDp 3 (h_i h16 c)).1 4 3) 13 x2) 14 x3) _ _ (fB tB (h_i h16 0 0) (up1 (up1 (up1 (fDp 3 (h_i h16 c)).1 4 3) 13 x2) 14 x3) b) h16 _
      rw [fb]
      exact ((s.im P hc (by decide) 3).im P hc (by decide) x2).im P hc (by decide) x3
    · rw [e6] at y6
      have f : fDw (h_i h16 0 0) (wI h16) x2 x3 (h_i h16 c) = (fDr (h_i h16 0 0) (wI h16) (up1 (up1 (up1 (up1 (fDp 3 (h_i h16 c)).1 4 3) 13 x2) 14 x3) 7 (-1)), (fDp 3 (h_i h16 c)).2) := by
        unfold fDw
        rw [if_pos y6]
      rw [f]
      have s4 := (((s.im P hc (k := 4) (by decide) 3).im P hc (k := 13) (by decide) x2).im P hc (k := 14) (by decide) x3).im P hc (k := 7) (by decide) (-1)
      have k4 := s4.2.1.k c1
      have ew4 := wI_eq s4.2.1 c1
      have z := c_sd P d s4.1 (s4.cn hc) s4.2.2.2.2 ((h_i h16 c 11).toNatClampNeg + (fDp 3 (h_i h16 c)).2.length) (by rw [s4.2.2.1, up1_ne (by decide), up1_ne (by decide), up1_ne (by decide), up1_at])
      rw [k4.2.1, ew4, s4.2.2.1] at z
      refine Cv.mono z (fun h28 k => ⟨k.1.1, fun _ => ⟨rfl, ?_⟩, fun y => absurd ok y⟩)
      have q := s4.tr k rfl
      rw [List.append_nil] at q
      exact q
theorem c_il (P : PBok PB tB lB) (d : Nat) {h : Hp_} (I : Iv h) (m : Mrw h) {b : β} (B : PB b h) (x1 x2 : Int32) (b2 : x2 = 0 ∨ x2 = 1) (R : isM h x1 → h_i h (401 + x1.toNatClampNeg) 4 = 1 → Rok h (h_i h (401 + x1.toNatClampNeg)) 0) : Ci (m_X11_ill (d + 3) 0 0) [.ref 0, .int x1, .int x2] h (fun r h' => ((isM h x1 ∧ ¬ h_i h (401 + x1.toNatClampNeg) 4 = 4 ∧ x2 = 1) → r = 1 ∧ Sxm PB (401 + x1.toNatClampNeg) (h_i h 0 0) (fIl (h_i h (401 + x1.toNatClampNeg))).1 (h_i h (401 + x1.toNatClampNeg) 11).toNatClampNeg (fIl (h_i h (401 + x1.toNatClampNeg))).2 b h h') ∧ ((isM h x1 ∧ h_i h (401 + x1.toNatClampNeg) 4 = 4 ∧ x2 = 0) → r = 1 ∧ Sxm PB (401 + x1.toNatClampNeg) (h_i h 0 0) (fFree (h_i h (401 + x1.toNatClampNeg))) (h_i h (401 + x1.toNatClampNeg) 11).toNatClampNeg [] (tB (h_i h (401 + x1.toNatClampNeg) 0) (h_i h 0 0) b) h h') ∧ (¬ (isM h x1 ∧ ((¬ h_i h (401 + x1.toNatClampNeg) 4 = 4 ∧ x2 = 1) ∨ (h_i h (401 + x1.toNatClampNeg) 4 = 4 ∧ x2 = 0))) → r = 0 ∧ h' = h)) := by
  refine t_X11_ill d h I.1 x1 x2 _ (Cr.mono (c_mo d I m x1) (fun o h1 q => ?_))
  obtain ⟨eh, q⟩ := q
  subst eh
  refine ⟨I.1, fun e => ?_, fun b4 e => ?_⟩
  · rcases q with q | q
    · rw [e] at q
      cases q.2
    · exact ⟨fun y => absurd y.1 q.1, fun y => absurd y.1 q.1, fun _ => ⟨rfl, rfl⟩⟩
  · have ym : isM h1 x1 := by
      rcases q with q | q
      · exact q.1
      · rw [e] at q
        cases q.2
    have eb : b4 = 401 + x1.toNatClampNeg := by
      rcases q with q | q
      · exact Option.some.inj (e.symm.trans q.2)
      · exact absurd ym q.1
    subst eb
    have hc := m.cn I ym
    have R := R ym
    generalize 401 + x1.toNatClampNeg = c at *
    have c1 := hc.1
    have z10 : ∀ {x : Int32}, x = 1 → ¬ x = 0 := fun e => by rw [e]; decide
    refine ⟨hc.2.2, by omega, fun n4 => ⟨fun nz => ⟨fun ez => absurd ez nz, fun _ => Cv.mono (c_dp P d I hc B 4 R) (fun h14 s => ?_)⟩, fun ez => ⟨fun y => absurd ez (z10 y.2.2), fun y => absurd y.2.1 n4, fun _ => ⟨rfl, rfl⟩⟩⟩, fun y4 => ⟨fun n1 => ⟨fun ez => Cv.mono (c_sf P d I hc B (h_i h1 c 11).toNatClampNeg) (fun h23 k => ⟨k.1.1, fun y => absurd y4 y.2.1, fun _ => ⟨rfl, k⟩, fun y => absurd ⟨ym, Or.inr ⟨y4, ez⟩⟩ y⟩), fun nz => ?_⟩, fun e1 => ⟨fun y => absurd y4 y.2.1, fun y => absurd y.2.2 (z10 e1), fun _ => ⟨rfl, rfl⟩⟩⟩⟩
    · have e1 : x2 = 1 := b2.elim (fun e => absurd e nz) id
      have s3 := ((s.im P hc (k := 4) (by decide) 4).im P hc (k := 6) (by decide) (-1)).im P hc (k := 7) (by decide) (-1)
      have e3 : h_i h14 c 3 = h_i h1 c 3 := by rw [s.2.2.1]; exact fDp_k (by decide) (by decide) (by decide)
      rw [e3]
      refine ⟨s.1.1, (s.cn hc).2.2, Cv.mono (c_put P d s3.1 (s3.cn hc) s3.2.2.2.2 (h_i h1 c 3)) (fun h18 k6 => ⟨k6.1.1, fun _ => ⟨rfl, ?_⟩, fun y => absurd y.2.1 n4, fun y => absurd ⟨ym, Or.inl ⟨n4, e1⟩⟩ y⟩)⟩
      exact ⟨k6.1, s3.2.1.tr k6.2.1, by rw [k6.2.2.1, s3.2.2.1]; rfl, ⟨by rw [k6.2.2.2.1 51 (by omega)]; exact s3.2.2.2.1.1, by rw [k6.2.2.2.1 52 (by omega)]; exact s3.2.2.2.1.2.1, by rw [k6.2.2.2.1 53 (by omega)]; exact s3.2.2.2.1.2.2⟩, k6.2.2.2.2⟩
    · exact absurd (b2.elim (fun e => absurd e nz) id) n1
/-- begin: the rows of the beat's points, then its steps -/
noncomputable def fBg (n : Int32) (w : Int32 → Int32 → Int32) (b0 : Int32) (r r' : Nat) (L : List Sp3) (M : Nat → Int32) : (Nat → Int32) × List Ev2 := fSt n w L (up1 (up1 (up1 (up1 (up1 (up1 M 4 1) 8 b0) 9 0) 10 n) 11 (Int32.ofNat r)) 12 (Int32.ofNat r'))
noncomputable def Bxm (PB : β → Hp_ → Prop) (c : Nat) (m n : Int32) (M' : Nat → Int32) (r : Nat) (Q E : List Ev2) (b' : β) (h h' : Hp_) : Prop := Iv h' ∧ Gw c (wwR ++ wgM) h h' ∧ h_i h' c = M' ∧ (h_i h' 47 = rz (fun _ => m) r Q (h_i h 47) ∧ h_i h' 48 = rz Prod.fst r Q (h_i h 48) ∧ h_i h' 49 = rz (fun e => n + e.2) r Q (h_i h 49) ∧ h_i h' 50 = rz (fun _ => n) r Q (h_i h 50)) ∧ h_i h' 16 7 = Int32.ofNat (r + Q.length) ∧ (h_i h' 51 = rz Prod.fst r E (h_i h 51) ∧ h_i h' 52 = rz (fun _ => n) r E (h_i h 52) ∧ h_i h' 53 = rz Prod.snd r E (h_i h 53)) ∧ PB b' h'
theorem Gw.mo {c : Nat} {a b : List Nat} {h h' : Hp_} (g : Gw c a h h') (s : wsub a b = true) : Gw c b h h' := ⟨g.1, fun x k o => g.2 x k (inw_sub s o)⟩
theorem c_bg (P : PBok PB tB lB) (d : Nat) {h : Hp_} (I : Iv h) (m : Mrw h) {b : β} (B : PB b h) (x1 x2 : Int32) (n0 : isM h x1 → h_i h (401 + x1.toNatClampNeg) 0 = x1) (L : List Sp3) (S : (0 ≤ x2.toInt ∧ x2.toInt < (h_i h 12 3).toInt) → Stb h x2 0 L ∧ h_i h 35 x2.toNatClampNeg = Int32.ofNat L.length ∧ (h_i h 36 x2.toNatClampNeg).toInt = (mts L : Int)) : Ci (m_X11_begin (d + 6) 0 0) [.ref 0, .int x1, .int x2] h (fun r h' => ((isM h x1 ∧ (0 ≤ x2.toInt ∧ x2.toInt < (h_i h 12 3).toInt) ∧ h_i h (401 + x1.toNatClampNeg) 4 = 0 ∧ (h_i h 16 7).toInt + (mts L : Int) ≤ 400) → r = 1 ∧ Bxm PB (401 + x1.toNatClampNeg) x1 (h_i h 0 0) (fBg (h_i h 0 0) (wI h) x2 (h_i h 16 7).toNatClampNeg ((h_i h 16 7).toNatClampNeg + mts L) L (h_i h (401 + x1.toNatClampNeg))).1 (h_i h 16 7).toNatClampNeg (ptL L) (fBg (h_i h 0 0) (wI h) x2 (h_i h 16 7).toNatClampNeg ((h_i h 16 7).toNatClampNeg + mts L) L (h_i h (401 + x1.toNatClampNeg))).2 (fB tB (h_i h 0 0) (fBg (h_i h 0 0) (wI h) x2 (h_i h 16 7).toNatClampNeg ((h_i h 16 7).toNatClampNeg + mts L) L (h_i h (401 + x1.toNatClampNeg))).1 b) h h') ∧ (¬ (isM h x1 ∧ (0 ≤ x2.toInt ∧ x2.toInt < (h_i h 12 3).toInt) ∧ h_i h (401 + x1.toNatClampNeg) 4 = 0 ∧ (h_i h 16 7).toInt + (mts L : Int) ≤ 400) → r = 0 ∧ h' = h)) := by
  have t0 : (0 : Int32).toInt = 0 := rfl
  have t400 : (400 : Int32).toInt = 400 := rfl
  have b3 := x12_in I
  have r4 := rowX_in I
  refine t_X11_begin d h I.1 x1 x2 _ (Cr.mono (c_mo d I m x1) (fun o h1 q => ?_))
  obtain ⟨eh, q⟩ := q
  subst eh
  refine ⟨I.1, fun e => ?_, fun b4 e => ?_⟩
  · rcases q with q | q
    · rw [e] at q
      cases q.2
    · exact ⟨fun y => absurd y.1 q.1, fun _ => ⟨rfl, rfl⟩⟩
  · have ym : isM h1 x1 := by
      rcases q with q | q
      · exact q.1
      · rw [e] at q
        cases q.2
    have eb : b4 = 401 + x1.toNatClampNeg := by
      rcases q with q | q
      · exact Option.some.inj (e.symm.trans q.2)
      · exact absurd ym q.1
    subst eb
    have hc := m.cn I ym
    have n0 := n0 ym
    generalize 401 + x1.toNatClampNeg = c at *
    have c1 := hc.1
    refine ⟨hc.2.2, by omega, Ci.mono (c_has d I x2) (fun r10 h8 k => ?_)⟩
    obtain ⟨eh, k⟩ := k
    subst eh
    have hb : (¬ x2 < 0 ∧ ¬ h_i h8 12 3 ≤ x2) ↔ (0 ≤ x2.toInt ∧ x2.toInt < (h_i h8 12 3).toInt) := ⟨fun y => ⟨by have := q_nlt y.1; omega, by have := q_nle y.2; omega⟩, fun y => ⟨fun z => by have := q_lt.mp z; omega, fun z => by have := q_le.mp z; omega⟩⟩
    rw [hb] at k
    refine ⟨I.1, hc.2.2, fun e0 => ⟨fun y => ?_, fun _ => ⟨rfl, rfl⟩⟩, fun ne => ⟨fun nf => ⟨fun y => absurd y.2.2.1 nf, fun _ => ⟨rfl, rfl⟩⟩, fun yf => ?_⟩⟩
    · rcases k with k | k
      · rw [e0] at k
        exact absurd k.1 (by decide)
      · exact absurd y.2.1 k.2
    · have yb : 0 ≤ x2.toInt ∧ x2.toInt < (h_i h8 12 3).toInt := by
        rcases k with k | k
        · exact k.2
        · exact absurd k.1 ne
      obtain ⟨S, e35, e36⟩ := S yb
      have n2 := n_nat yb.1
      have ll : 0 + L.length ≤ 150 := S.2.1
      have ml := mts_l L
      have v2 : vp_in x2 12 := dp_in (lo := 0) (hi := 11) ⟨yb.1, by show _ ≤ (11 : Int); omega⟩ (by decide) (by decide)
      refine t_X0_pointsOf d h8 I.1 x2 _ (Ci.mono (c_has d I x2) (fun r3 h3 k3 => ?_))
      obtain ⟨eh, k3⟩ := k3
      subst eh
      rw [hb] at k3
      refine ⟨I.1, fun z => ?_, fun _ => ⟨v2, I.1, hc.2.2, ?_⟩⟩
      · rcases k3 with k3 | k3
        · rw [z] at k3
          exact absurd k3.1 (by decide)
        · exact absurd yb k3.2
      · have sm : (h_i h3 16 7 + h_i h3 36 x2.toNatClampNeg).toInt = (h_i h3 16 7).toInt + (mts L : Int) := by rw [tx_add (by omega) (by omega), e36]
        refine t_X7_hasRoom d h3 I.1 _ _ ⟨fun l => ⟨I.1, hc.2.2, fun n => absurd rfl n, fun _ => ⟨fun y => ?_, fun _ => ⟨rfl, rfl⟩⟩⟩, fun l => ⟨I.1, hc.2.2, fun _ => ?_, fun e => absurd e (by decide)⟩⟩
        · have l := q_lt.mp l
          have := y.2.2.2
          omega
        · have l := q_nlt l
          have lr : (h_i h3 16 7).toInt + (mts L : Int) ≤ 400 := by omega
          have ok : isM h3 x1 ∧ (0 ≤ x2.toInt ∧ x2.toInt < (h_i h3 12 3).toInt) ∧ h_i h3 c 4 = 0 ∧ (h_i h3 16 7).toInt + (mts L : Int) ≤ 400 := ⟨ym, yb, yf, lr⟩
          have s5 := (((((Sxm.rf (PB := PB) (c := c) (n := h_i h3 0 0) (r := 0) I B).im P hc (k := 4) (by decide) 1).im P hc (k := 8) (by decide) x2).im P hc (k := 9) (by decide) 0).im P hc (k := 10) (by decide) (h_i h3 0 0)).im P hc (k := 11) (by decide) (h_i h3 16 7)
          have k5 := s5.2.1.k c1
          have hc5 := s5.cn hc
          have o5 : ∀ a, a ≠ c → h_i (h_im (h_im (h_im (h_im (h_im h3 c 4 1) c 8 x2) c 9 0) c 10 (h_i h3 0 0)) c 11 (h_i h3 16 7)) a = h_i h3 a := fun a n => by rw [im_oth n, im_oth n, im_oth n, im_oth n, im_oth n]
          generalize hg : h_im (h_im (h_im (h_im (h_im h3 c 4 1) c 8 x2) c 9 0) c 10 (h_i h3 0 0)) c 11 (h_i h3 16 7) = g at *
          have ec := s5.2.2.1
          have g8 : h_i g c 8 = x2 := by rw [ec, up1_ne (by decide), up1_ne (by decide), up1_ne (by decide), up1_at]
          have g0 : h_i g c 0 = x1 := by rw [ec, up1_ne (by decide), up1_ne (by decide), up1_ne (by decide), up1_ne (by decide), up1_ne (by decide)]; exact n0
          have Sg : Stb g (h_i g c 8) 0 L := by rw [g8]; exact S.cg (fun k => by rw [o5 34 (by omega)])
          have hbg : Ci (m_X0_has (d + 0) 0 0) [.ref 12, .int x2] g (fun r h' => h' = g ∧ ((r = 1 ∧ (¬ x2 < 0 ∧ ¬ h_i g 12 3 ≤ x2)) ∨ (r = 0 ∧ ¬ (¬ x2 < 0 ∧ ¬ h_i g 12 3 ≤ x2)))) := c_has d s5.1 x2
          have g12 : h_i g 12 3 = h_i h3 12 3 := by rw [o5 12 (by omega)]
          have g35 : h_i g 35 x2.toNatClampNeg = Int32.ofNat L.length := by rw [o5 35 (by omega)]; exact e35
          rw [g12] at hbg
          have Wr := wr_lp P d L (h := g) (b := b) 0 (Int32.ofNat L.length) s5.1 hc5 s5.2.2.2.2 Sg (by rw [Nat.zero_add]) (by rw [k5.2.2.2.1]; exact lr)
          rw [g0, k5.2.1, k5.2.2.2.1] at Wr
          have Cw1 : Cv (m_X11_writeRows (d + 2) 0 0) [.ref 0, .ref c] g (fun h' => Wx PB x1 (h_i h3 0 0) (h_i h3 16 7).toNatClampNeg (ptL L) b g h') := by
            refine t_X11_writeRows d g s5.1.1 c hc5.2.2 (by omega) _ ?_
            rw [g8]
            refine t_X0_stepsOf d g s5.1.1 _ _ (Ci.mono hbg (fun r3 h' q => ?_))
            obtain ⟨e, q⟩ := q
            subst e
            rw [hb] at q
            refine ⟨s5.1.1, fun z => ?_, fun _ => ⟨v2, s5.1.1, hc5.2.2, ?_⟩⟩
            · rcases q with q | q
              · rw [z] at q
                exact absurd q.1 (by decide)
              · exact absurd yb q.2
            · rw [g35]
              exact Wr
          refine Cv.mono Cw1 (fun h23 w => ?_)
          obtain ⟨Iw, Fw, w47, w48, w49, w50, w16, Bw⟩ := w
          have hcw : Cn h23 c := hc5.of Fw.1
          have oc : ∀ a, a ≠ 16 → a ≠ 47 → a ≠ 48 → a ≠ 49 → a ≠ 50 → (∀ k, inw wwR a k = false) → h_i h23 a = h_i g a := fun a _ _ _ _ _ o => funext (fun k => (Fw.2 a k (o k)).1)
          have icn : ∀ k, inw wwR c k = false := fun k => by
            have e : cn c = cn 401 := by
              have q := cn_man (j := c - 401) (by have := hc.2.1; omega)
              rw [show 401 + (c - 401) = c by omega] at q
              rw [q]
              decide
            rw [inw_ce e]
            exact off_inw (by decide +kernel) k
          have hcc : h_i h23 c = h_i g c := funext (fun k => (Fw.2 c k (icn k)).1)
          rw [w16]
          have s6 : Sxm PB c (h_i h3 0 0) (up1 (h_i h23 c) 12 (Int32.ofNat ((h_i h3 16 7).toNatClampNeg + (ptL L).length))) 0 [] b h23 (h_im h23 c 12 (Int32.ofNat ((h_i h3 16 7).toNatClampNeg + (ptL L).length))) := (Sxm.rf Iw Bw).im P hcw (by decide) _
          have k6 := s6.2.1.k c1
          have f34 : ∀ k, h_i h23 34 k = h_i h3 34 k := fun k => by rw [(Fw.2 34 k (off_inw (by decide +kernel) k)).1, o5 34 (by omega)]
          have f0 : h_i h23 0 0 = h_i h3 0 0 := by rw [(Fw.2 0 0 (by decide +kernel)).1, o5 0 (by omega)]
          have f12 : h_i h23 12 3 = h_i h3 12 3 := by rw [(Fw.2 12 3 (by decide +kernel)).1, o5 12 (by omega)]
          have f35 : ∀ k, h_i h23 35 k = h_i h3 35 k := fun k => by rw [(Fw.2 35 k (off_inw (by decide +kernel) k)).1, o5 35 (by omega)]
          have fw : wI h23 = wI h3 := by
            funext p q
            unfold wI
            rw [(Fw.2 30 _ (off_inw (by decide +kernel) _)).1, o5 30 (by omega)]
          have hM : up1 (h_i h23 c) 12 (Int32.ofNat ((h_i h3 16 7).toNatClampNeg + (ptL L).length)) = up1 (up1 (up1 (up1 (up1 (up1 (h_i h3 c) 4 1) 8 x2) 9 0) 10 (h_i h3 0 0)) 11 (Int32.ofNat (h_i h3 16 7).toNatClampNeg)) 12 (Int32.ofNat ((h_i h3 16 7).toNatClampNeg + mts L)) := by rw [hcc, ec, ptL_l, of_nat32 r4.1]
          have f16 : h_i h23 16 7 = Int32.ofNat ((h_i h3 16 7).toNatClampNeg + mts L) := by rw [w16, ptL_l]
          have nr := n_nat r4.1
          have gM : h_i (h_im h23 c 12 (Int32.ofNat ((h_i h3 16 7).toNatClampNeg + (ptL L).length))) c = up1 (up1 (up1 (up1 (up1 (up1 (h_i h3 c) 4 1) 8 x2) 9 0) 10 (h_i h3 0 0)) 11 (Int32.ofNat (h_i h3 16 7).toNatClampNeg)) 12 (Int32.ofNat ((h_i h3 16 7).toNatClampNeg + mts L)) := s6.2.2.1.trans hM
          have z := c_ds P d s6.1 (s6.cn hcw) s6.2.2.2.2 L 0 (by rw [gM]; exact S.cg (fun k => (k6.2.2.2.2.2.1 k).trans (f34 k))) (by rw [gM]; rfl) (by rw [gM, k6.2.2.2.2.1, f12]; exact yb.2) (by rw [gM, k6.2.2.2.2.2.2, f35, Nat.zero_add]; exact e35) (by
            rw [gM]
            refine ⟨?_, ?_, ?_⟩
            · show 0 ≤ (Int32.ofNat (h_i h3 16 7).toNatClampNeg).toInt
              rw [on_j (by omega)]
              omega
            · show (Int32.ofNat (h_i h3 16 7).toNatClampNeg).toInt + (mts L : Int) ≤ (Int32.ofNat ((h_i h3 16 7).toNatClampNeg + mts L)).toInt
              rw [on_j (by omega), on_j (by omega)]
              omega
            · show (Int32.ofNat ((h_i h3 16 7).toNatClampNeg + mts L)).toInt ≤ _
              rw [k6.2.2.2.1, f16]
              exact Int.le_refl _) (by rw [gM]; rfl)
          rw [k6.2.1, f0, wI_eq s6.2.1 c1, fw, gM] at z
          refine ⟨Iw.1, hcw.2.2, Cv.mono z (fun h27 k => ⟨k.1.1, fun _ => ⟨rfl, ?_⟩, fun y => absurd ok y⟩)⟩
          have e11 : (up1 (up1 (up1 (up1 (up1 (up1 (h_i h3 c) 4 1) 8 x2) 9 0) 10 (h_i h3 0 0)) 11 (Int32.ofNat (h_i h3 16 7).toNatClampNeg)) 12 (Int32.ofNat ((h_i h3 16 7).toNatClampNeg + mts L)) 11).toNatClampNeg = (h_i h3 16 7).toNatClampNeg := by
            rw [up1_ne (by decide), up1_at, of_nat32 r4.1]
          rw [e11] at k
          have G : Gw c (wwR ++ wgM) h3 h27 := (((s5.2.1.mo (by decide +kernel)).tr ((Gw.fr (c := c) Fw).mo (by decide +kernel))).tr (s6.2.1.mo (by decide +kernel))).tr (k.2.1.mo (by decide +kernel))
          have p : ∀ a, a ≠ c → inw wgM a 0 = false → (∀ k, inw wgM a k = false) → h_i h27 a = h_i h23 a := fun a n _ o => funext (fun i => by rw [k.2.1.i a i n (o i), im_ne n])
          refine ⟨k.1, G, k.2.2.1, ⟨?_, ?_, ?_, ?_⟩, ?_, ⟨?_, ?_, ?_⟩, k.2.2.2.2⟩
          · rw [p 47 (by omega) (by decide +kernel) (fun k => off_inw (by decide +kernel) k), w47, o5 47 (by omega)]
          · rw [p 48 (by omega) (by decide +kernel) (fun k => off_inw (by decide +kernel) k), w48, o5 48 (by omega)]
          · rw [p 49 (by omega) (by decide +kernel) (fun k => off_inw (by decide +kernel) k), w49, o5 49 (by omega)]
          · rw [p 50 (by omega) (by decide +kernel) (fun k => off_inw (by decide +kernel) k), w50, o5 50 (by omega)]
          · rw [k.2.1.i 16 7 (by omega) (by decide +kernel), im_ne (by omega), w16]
          · rw [k.2.2.2.1.1, im_oth (by omega), show h_i h23 51 = h_i g 51 from funext (fun i => (Fw.2 51 i (off_inw (by decide +kernel) i)).1), o5 51 (by omega)]
            rfl
          · rw [k.2.2.2.1.2.1, im_oth (by omega), show h_i h23 52 = h_i g 52 from funext (fun i => (Fw.2 52 i (off_inw (by decide +kernel) i)).1), o5 52 (by omega)]
            rfl
          · rw [k.2.2.2.1.2.2, im_oth (by omega), show h_i h23 53 = h_i g 53 from funext (fun i => (Fw.2 53 i (off_inw (by decide +kernel) i)).1), o5 53 (by omega)]
            rfl
end MEN
/-! MEN, the reference: drop, draw, ill -/
theorem rq_o (g : Ev2 → Option Int32) : ∀ (E : List Ev2) (r : Nat) (f : Nat → Int32) (k : Nat), (k < r ∨ r + E.length ≤ k) → rq g r E f k = f k
  | [], _, _, _, _ => rfl
  | e :: E, r, f, k, hk => by
    have hk : k < r ∨ r + (E.length + 1) ≤ k := hk
    show rq g (r + 1) E (match g e with | some v => up1 f r v | none => f) k = f k
    rw [rq_o g E (r + 1) _ k (by omega)]
    cases g e with
    | none => rfl
    | some v => exact up1_ne (by omega)
theorem fDr_7 {n x : Int32} {w : Int32 → Int32 → Int32} {M : Nat → Int32} : fDr n w (up1 M 7 x) = fDr n w M := by
  have u5 : up1 M 7 x 5 = M 5 := up1_ne (by decide)
  have u13 : up1 M 7 x 13 = M 13 := up1_ne (by decide)
  have u14 : up1 M 7 x 14 = M 14 := up1_ne (by decide)
  unfold fDr
  rw [u5, u13, u14, sOut_7, fHome_7]
  have e : up1 (up1 M 7 x) 7 (M 14) = up1 M 7 (M 14) := funext (fun k => by
    by_cases a7 : k = 7
    · rw [a7, up1_at, up1_at]
    · rw [up1_ne a7, up1_ne a7, up1_ne a7])
  rw [e]
section MEN
variable {β : Type} {PM : β → Hp_ → Prop} {tB : Int32 → Int32 → β → β} {lM : Nat → Hp_ → β → β}
/-- what is dropped: rows r, r + 1 .. r + k, all of them open -/
noncomputable def Dpm (PM : β → Hp_ → Prop) (j : Nat) (n cz : Int32) (r k : Nat) (b : β) (h h' : Hp_) : Prop := Iv h' ∧ Gmm j h h' ∧ (∀ a, a ∈ [206, 208, 209, 210, 211, 212, 214, 215, 217, 218, 219, 248] → h_i h' a j = h_i h a j) ∧ (h_i h' 241 = rq (gM n) r (List.replicate k (2, cz)) (h_i h 241) ∧ h_i h' 242 = rq (gS n) r (List.replicate k (2, cz)) (h_i h 242) ∧ h_i h' 243 = rq gC r (List.replicate k (2, cz)) (h_i h 243)) ∧ PM b h'
theorem md_lp (P : PMok PM tB lM) (d : Nat) {x1 : Int32} (hx : 0 ≤ x1.toInt ∧ x1.toInt ≤ 11) (cz : Int32) : ∀ (k : Nat) {h : Hp_} {b : β} (r : Nat), Iv h → PM b h → h_i h 216 x1.toNatClampNeg = Int32.ofNat r → h_i h 217 x1.toNatClampNeg = Int32.ofNat (r + k) → r + k ≤ 400 → (∀ i, r ≤ i → i < r + k → h_i h 241 i = -1 ∧ h_i h 242 i = -1) → AW (m_X12_drop (d + 1) 0 0) 0 0 0 [(0, .ref 1), (1, .int x1), (2, .int cz)] [] h (kV (fun h' => Dpm PM x1.toNatClampNeg (h_i h 1 0) cz r k b h h'))
  | 0, h, b, r, I, B, e16, e17, l, op => by
    have v := v12 hx
    have Tt := t_X12_drop_0 d h I.1 x1 cz
    rw [e16, e17] at Tt
    refine Tt _ ⟨v, v, fun _ => ⟨v, im213 I _ _ (by decide), (Gmm.rf _ _).imj (by decide +kernel), fun a ha => ?_, ⟨?_, ?_, ?_⟩, P.1 _ _ _ _ _ (Or.inl (by decide)) B⟩, fun n => absurd (q_le.mpr (Int.le_refl _)) n⟩
    · refine im_ne ?_
      simp only [List.mem_cons, List.not_mem_nil, or_false] at ha
      omega
    · rw [im_oth (by decide)]
      rfl
    · rw [im_oth (by decide)]
      rfl
    · rw [im_oth (by decide)]
      rfl
  | k + 1, h, b, r, I, B, e16, e17, l, op => by
    have v := v12 hx
    have Tt := t_X12_drop_0 d h I.1 x1 cz
    rw [e16, e17, on_k (by omega)] at Tt
    have o := op r (Nat.le_refl _) (by omega)
    rw [o.1, o.2] at Tt
    have vr : vp_in (Int32.ofNat r) 400 := on_in (by omega) (by decide)
    have I2 := i24 (i24 I 242 r (h_i h 1 0) (Or.inr (Or.inl rfl))) 243 r cz (Or.inr (Or.inr rfl))
    refine Tt _ ⟨v, v, fun y => ?_, fun _ => ⟨v, vr, fun n => absurd rfl n, fun _ => ⟨v, vr, fun n => absurd rfl n, fun _ => ⟨v, ?_⟩⟩⟩⟩
    · have y := q_le.mp y
      rw [on_j (by omega), on_j (by omega)] at y
      omega
    · have Tm := t_X12_miss d h I.1 (Int32.ofNat r) cz
      rw [on_k (by omega)] at Tm
      refine Tm _ ⟨vr, vr, I2.1, v, v, ?_⟩
      have g16 : h_i (h_im (h_im h 242 r (h_i h 1 0)) 243 r cz) 216 x1.toNatClampNeg = Int32.ofNat r := by rw [im_ne (by decide), im_ne (by decide)]; exact e16
      rw [g16, on_s (by omega)]
      have I3 : Iv (h_im (h_im (h_im h 242 r (h_i h 1 0)) 243 r cz) 216 x1.toNatClampNeg (Int32.ofNat (r + 1))) := im216 I2 _ _ (by rw [on_j (by omega)]; omega)
      have G3 : Gmm x1.toNatClampNeg h (h_im (h_im (h_im h 242 r (h_i h 1 0)) 243 r cz) 216 x1.toNatClampNeg (Int32.ofNat (r + 1))) := (((Gmm.rf _ _).imo (by decide +kernel) (by decide)).imo (by decide +kernel) (by decide)).imj (by decide +kernel)
      have B3 : PM b (h_im (h_im (h_im h 242 r (h_i h 1 0)) 243 r cz) 216 x1.toNatClampNeg (Int32.ofNat (r + 1))) := P.1 _ _ _ _ _ (Or.inl (by decide)) (P.1 _ _ _ _ _ (Or.inr (Or.inl (by decide))) (P.1 _ _ _ _ _ (Or.inr (Or.inl (by decide))) B))
      have q41 : h_i (h_im (h_im (h_im h 242 r (h_i h 1 0)) 243 r cz) 216 x1.toNatClampNeg (Int32.ofNat (r + 1))) 241 = h_i h 241 := by rw [im_oth (by decide), im_oth (by decide), im_oth (by decide)]
      have q42 : h_i (h_im (h_im (h_im h 242 r (h_i h 1 0)) 243 r cz) 216 x1.toNatClampNeg (Int32.ofNat (r + 1))) 242 = up1 (h_i h 242) r (h_i h 1 0) := by rw [im_oth (by decide), im_oth (by decide), im_row]
      have q43 : h_i (h_im (h_im (h_im h 242 r (h_i h 1 0)) 243 r cz) 216 x1.toNatClampNeg (Int32.ofNat (r + 1))) 243 = up1 (h_i h 243) r cz := by rw [im_oth (by decide), im_row, im_oth (by decide)]
      have q16 : h_i (h_im (h_im (h_im h 242 r (h_i h 1 0)) 243 r cz) 216 x1.toNatClampNeg (Int32.ofNat (r + 1))) 216 x1.toNatClampNeg = Int32.ofNat (r + 1) := im_at
      have qo : ∀ a, a ∈ [206, 208, 209, 210, 211, 212, 214, 215, 217, 218, 219, 248] → h_i (h_im (h_im (h_im h 242 r (h_i h 1 0)) 243 r cz) 216 x1.toNatClampNeg (Int32.ofNat (r + 1))) a x1.toNatClampNeg = h_i h a x1.toNatClampNeg := fun a ha => by
        simp only [List.mem_cons, List.not_mem_nil, or_false] at ha
        rw [im_ne (by omega), im_ne (by omega), im_ne (by omega)]
      have q0 : h_i (h_im (h_im (h_im h 242 r (h_i h 1 0)) 243 r cz) 216 x1.toNatClampNeg (Int32.ofNat (r + 1))) 1 0 = h_i h 1 0 := G3.k.2.1
      generalize h_im (h_im (h_im h 242 r (h_i h 1 0)) 243 r cz) 216 x1.toNatClampNeg (Int32.ofNat (r + 1)) = g at *
      have ih := md_lp P d hx cz k (h := g) (b := b) (r + 1) I3 B3 q16 (by rw [qo 217 (by decide), e17, show r + 1 + k = r + (k + 1) by omega]) (by omega) (fun i a c => by
        have z := op i (by omega) (by omega)
        rw [q41, q42, up1_ne (by omega)]
        exact z)
      rw [q0] at ih
      refine AW.mono ih (fun w h' z => ⟨z.1, z.2.1, G3.tr z.2.2.1, fun a ha => (z.2.2.2.1 a ha).trans (qo a ha), ⟨?_, ?_, ?_⟩, z.2.2.2.2.2⟩)
      · rw [z.2.2.2.2.1.1, q41]
        rfl
      · rw [z.2.2.2.2.1.2.1, q42]
        rfl
      · rw [z.2.2.2.2.1.2.2, q43]
        rfl
theorem cv_drop {d : Nat} {x1 x2 : Int32} {h : Hp_} {K : Hp_ → Prop} (k : AW (m_X12_drop (d + 1) 0 0) 0 0 0 [(0, .ref 1), (1, .int x1), (2, .int x2)] [] h (kV K)) : Cv (m_X12_drop (d + 1) 0 0) [.ref 1, .int x1, .int x2] h K := by
  refine Ct.of (fun _ _ _ => trivial) pn_X12 (Nat.le_of_ble_eq_true rfl) ?_
  exact k
/-- a man whose beat may have been dropped: his state but for what he is about -/
noncomputable def Dpx (PM : β → Hp_ → Prop) (j : Nat) (n cz : Int32) (M : Nat → Int32) (b : β) (h h' : Hp_) : Prop := Iv h' ∧ Gmm j h h' ∧ (h_i h' 209 j = M 5 ∧ h_i h' 210 j = M 6 ∧ h_i h' 211 j = M 7 ∧ h_i h' 206 j = M 3) ∧ (h_i h' 241 = rq (gM n) (M 11).toNatClampNeg (fDp cz M).2 (h_i h 241) ∧ h_i h' 242 = rq (gS n) (M 11).toNatClampNeg (fDp cz M).2 (h_i h 242) ∧ h_i h' 243 = rq gC (M 11).toNatClampNeg (fDp cz M).2 (h_i h 243)) ∧ PM b h'
/-- he is on a beat: his rows that are left are open -/
noncomputable def Opn (h : Hp_) (M : Nat → Int32) : Prop := M 4 = 1 → 0 ≤ (M 11).toInt ∧ (M 11).toInt ≤ (M 12).toInt ∧ (M 12).toInt ≤ 400 ∧ ∀ i : Nat, (M 11).toInt ≤ (i : Int) → (i : Int) < (M 12).toInt → h_i h 241 i = -1 ∧ h_i h 242 i = -1
theorem m_dp (P : PMok PM tB lM) (d : Nat) {h : Hp_} (I : Iv h) {x1 : Int32} (hx : 0 ≤ x1.toInt ∧ x1.toInt ≤ 11) {M : Nat → Int32} (R : RMp x1.toNatClampNeg M h) {b : β} (B : PM b h) (e4 : M 4 = 1) (cz : Int32) (O : Opn h M) : Cv (m_X12_drop (d + 1) 0 0) [.ref 1, .int x1, .int cz] h (fun h' => Dpx PM x1.toNatClampNeg (h_i h 1 0) cz M b h h') := by
  obtain ⟨r0, r1, r2, op⟩ := O e4
  have q := R.2.1 e4
  have n1 := n_nat r0
  have n2 := n_nat (x := M 12) (by omega)
  have es : (M 12 - M 11).toInt = (M 12).toInt - (M 11).toInt := tx_sub (by omega) (by omega)
  have ns := n_nat (x := M 12 - M 11) (by omega)
  have z := md_lp P d hx cz (M 12 - M 11).toNatClampNeg (h := h) (b := b) (M 11).toNatClampNeg I B (by rw [q.2.2.2.1, of_nat32 r0]) (by rw [q.2.2.2.2, show (M 11).toNatClampNeg + (M 12 - M 11).toNatClampNeg = (M 12).toNatClampNeg by omega, of_nat32 (by omega)]) (by omega) (fun i a c => op i (by omega) (by omega))
  have f : (fDp cz M).2 = List.replicate (M 12 - M 11).toNatClampNeg (2, cz) := by
    unfold fDp
    rw [if_pos e4]
  refine cv_drop (AW.mono z (fun w h' k => ⟨k.1, k.2.1, k.2.2.1, ⟨by rw [k.2.2.2.1 209 (by decide)]; exact R.1.2.1, by rw [k.2.2.2.1 210 (by decide)]; exact R.1.2.2.1, by rw [k.2.2.2.1 211 (by decide)]; exact R.1.2.2.2, by rw [k.2.2.2.1 206 (by decide)]; exact R.2.2.2⟩, ?_, k.2.2.2.2.2⟩))
  rw [f]
  exact k.2.2.2.2.1
theorem dpx_no {h : Hp_} (I : Iv h) {j : Nat} {n cz : Int32} {M : Nat → Int32} (R : RMp j M h) {b : β} (B : PM b h) (n4 : ¬ M 4 = 1) : Dpx PM j n cz M b h h := by
  have f : (fDp cz M).2 = [] := by
    unfold fDp
    rw [if_neg n4]
  refine ⟨I, Gmm.rf _ _, ⟨R.1.2.1, R.1.2.2.1, R.1.2.2.2, R.2.2.2⟩, ?_, B⟩
  rw [f]
  exact ⟨rfl, rfl, rfl⟩
theorem Dpx.fr {j : Nat} {n cz : Int32} {M : Nat → Int32} {b : β} {h h1 h2 : Hp_} (P : PMok PM tB lM) (f : Fr [203999] h h1) (e : h_i h1 1 0 = h_i h 1 0) (D : Dpx PM j n cz M b h1 h2) : Dpx PM j n cz M b h h2 := by
  have g : Gmm j h h1 := (Gmm.rf _ _).fr f (by decide +kernel) (by decide +kernel)
  refine ⟨D.1, g.tr D.2.1, D.2.2.1, ⟨?_, ?_, ?_⟩, D.2.2.2.2⟩
  · rw [D.2.2.2.1.1, show h_i h1 241 = h_i h 241 from funext (fun k => fr_i f (by decide +kernel) k)]
  · rw [D.2.2.2.1.2.1, show h_i h1 242 = h_i h 242 from funext (fun k => fr_i f (by decide +kernel) k)]
  · rw [D.2.2.2.1.2.2, show h_i h1 243 = h_i h 243 from funext (fun k => fr_i f (by decide +kernel) k)]
noncomputable def isN (h : Hp_) (x1 : Int32) : Prop := 0 ≤ x1.toInt ∧ x1.toInt < (h_i h 1 7).toInt
theorem menM_in {h : Hp_} (I : Iv h) : 0 ≤ (h_i h 1 7).toInt ∧ (h_i h 1 7).toInt ≤ 12 := by
  have rg := I.2.1 1 7
  rw [show tf 1 7 = (0, 12) by decide +kernel] at rg
  exact ⟨rg.1, rg.2⟩
theorem isN_q {h : Hp_} (I : Iv h) {x1 : Int32} : (0 ≤ x1 ∧ x1 ≤ h_i h 1 7 - 1) ↔ isN h x1 := by
  have t0 : (0 : Int32).toInt = 0 := rfl
  have t1 : (1 : Int32).toInt = 1 := rfl
  have b := menM_in I
  have s1 : (h_i h 1 7 - 1).toInt = (h_i h 1 7).toInt - 1 := by rw [tx_sub (by rw [t1]; omega) (by rw [t1]; omega), t1]
  exact ⟨fun y => ⟨by have := q_le.mp y.1; omega, by have := q_le.mp y.2; omega⟩, fun y => ⟨q_le.mpr (by have := y.1; omega), q_le.mpr (by have := y.2; omega)⟩⟩
/-- drawn: behind the dropping -/
theorem dw_end (P : PMok PM tB lM) {h g : Hp_} {x1 x2 x3 y8 : Int32} {M : Nat → Int32} {b : β} (hx : 0 ≤ x1.toInt ∧ x1.toInt ≤ 11) (p2 : 0 ≤ x2.toInt ∧ x2.toInt ≤ 15) (b8 : y8 = 0 ∨ y8 = 1) (D : Dpx PM x1.toNatClampNeg (h_i h 1 0) 3 M b h g) : Mx PM x1.toNatClampNeg (h_i h 1 0) (up1 (up1 (up1 (fDp 3 M).1 4 3) 13 x2) 14 x3) (M 11).toNatClampNeg (fDp 3 M).2 b h (h_im (h_im (h_im (h_im (h_im g 213 x1.toNatClampNeg (-1)) 208 x1.toNatClampNeg 3) 218 x1.toNatClampNeg x2) 219 x1.toNatClampNeg x3) 248 x1.toNatClampNeg (vp_nar .boolean y8)) := by
  obtain ⟨Ig, Gg, ⟨d9, d10, d11, d6⟩, rr, Bg⟩ := D
  have fk : ∀ k, k ≠ 11 → k ≠ 15 → k ≠ 16 → (fDp 3 M).1 k = M k := fun k a b c => fDp_k a b c
  have I5 := im248 ((tr_ 219 (by decide +kernel) ((im208 (im213 Ig x1.toNatClampNeg (-1) (by decide)) x1.toNatClampNeg 3).im (a := 218) (k := x1.toNatClampNeg) (x := x2) (by rw [tfa_tf (show tfa 218 = some (0, 15) by decide +kernel)]; exact ⟨p2.1, p2.2⟩) (jw_jr (by decide) (by decide) _)) x1.toNatClampNeg x3 (by decide) (by decide))) x1.toNatClampNeg y8 b8
  refine ⟨I5, ((((Gg.imj (by decide +kernel)).imj (by decide +kernel)).imj (by decide +kernel)).imj (by decide +kernel)).imj (by decide +kernel), ⟨⟨?_, ?_, ?_, ?_⟩, fun e => ?_, fun _ => ⟨?_, ?_⟩, ?_⟩, ⟨?_, ?_, ?_⟩, P.1 _ _ _ _ _ (Or.inr (Or.inr (Or.inl rfl))) (P.1 _ _ _ _ _ (Or.inl (by decide)) (P.1 _ _ _ _ _ (Or.inl (by decide)) (P.1 _ _ _ _ _ (Or.inl (by decide)) (P.1 _ _ _ _ _ (Or.inl (by decide)) Bg))))⟩
  · rw [im_ne (by decide), im_ne (by decide), im_ne (by decide), im_at, up1_ne (by decide), up1_ne (by decide), up1_at]
  · rw [im_ne (by decide), im_ne (by decide), im_ne (by decide), im_ne (by decide), im_ne (by decide), up1_ne (by decide), up1_ne (by decide), up1_ne (by decide), fk 5 (by decide) (by decide) (by decide)]
    exact d9
  · rw [im_ne (by decide), im_ne (by decide), im_ne (by decide), im_ne (by decide), im_ne (by decide), up1_ne (by decide), up1_ne (by decide), up1_ne (by decide), fk 6 (by decide) (by decide) (by decide)]
    exact d10
  · rw [im_ne (by decide), im_ne (by decide), im_ne (by decide), im_ne (by decide), im_ne (by decide), up1_ne (by decide), up1_ne (by decide), up1_ne (by decide), fk 7 (by decide) (by decide) (by decide)]
    exact d11
  · rw [up1_ne (by decide), up1_ne (by decide), up1_at] at e
    exact absurd e (by decide)
  · rw [im_ne (by decide), im_ne (by decide), im_at, up1_ne (by decide), up1_at]
  · rw [im_ne (by decide), im_at, up1_at]
  · rw [im_ne (by decide), im_ne (by decide), im_ne (by decide), im_ne (by decide), im_ne (by decide), up1_ne (by decide), up1_ne (by decide), up1_ne (by decide), fk 3 (by decide) (by decide) (by decide)]
    exact d6
  · rw [im_oth (by decide), im_oth (by decide), im_oth (by decide), im_oth (by decide), im_oth (by decide)]
    exact rr.1
  · rw [im_oth (by decide), im_oth (by decide), im_oth (by decide), im_oth (by decide), im_oth (by decide)]
    exact rr.2.1
  · rw [im_oth (by decide), im_oth (by decide), im_oth (by decide), im_oth (by decide), im_oth (by decide)]
    exact rr.2.2
/-- what draw does from there -/
theorem dw_go (P : PMok PM tB lM) (d : Nat) {h g : Hp_} {x1 x2 x3 : Int32} {M : Nat → Int32} {b : β} (X : ExP h) (hx : 0 ≤ x1.toInt ∧ x1.toInt ≤ 11) (n0 : M 0 = x1) (p2 : 0 ≤ x2.toInt ∧ x2.toInt ≤ 15) (p5 : M 6 = -1 → 0 ≤ (M 5).toInt) (nz : M 6 = -1 → ¬ wI h (M 5) x2 = -1) (z0 : wI h (M 5) x2 = 0 → M 5 = x2) (D : Dpx PM x1.toNatClampNeg (h_i h 1 0) 3 M b h g) (K : Hp_ → Prop) (hK : ∀ h', Mx PM x1.toNatClampNeg (h_i h 1 0) (fDw (h_i h 1 0) (wI h) x2 x3 M).1 (M 11).toNatClampNeg (fDw (h_i h 1 0) (wI h) x2 x3 M).2 (fB tB (h_i h 1 0) (fDw (h_i h 1 0) (wI h) x2 x3 M).1 b) h h' → K h') : (¬ (h_i g 210 x1.toNatClampNeg) = (-1) → K (h_im (h_im (h_im (h_im (h_im g 213 x1.toNatClampNeg (-1)) 208 x1.toNatClampNeg 3) 218 x1.toNatClampNeg x2) 219 x1.toNatClampNeg x3) 248 x1.toNatClampNeg (vp_nar .boolean 0))) ∧ ((h_i g 210 x1.toNatClampNeg) = (-1) → Cv (m_X12_goDrawn (d + 4) 0 0) [.ref 1, .int x1] (h_im (h_im (h_im (h_im (h_im g 213 x1.toNatClampNeg (-1)) 208 x1.toNatClampNeg 3) 218 x1.toNatClampNeg x2) 219 x1.toNatClampNeg x3) 248 x1.toNatClampNeg (vp_nar .boolean 1)) (fun h30 => Wf h30 ∧ (K h30))) := by
  have fk : ∀ k, k ≠ 11 → k ≠ 15 → k ≠ 16 → (fDp 3 M).1 k = M k := fun k a b c => fDp_k a b c
  have g10 : h_i g 210 x1.toNatClampNeg = M 6 := D.2.2.1.2.1
  rw [g10]
  refine ⟨fun n6 => hK _ ?_, fun y6 => ?_⟩
  · have f : fDw (h_i h 1 0) (wI h) x2 x3 M = (up1 (up1 (up1 (fDp 3 M).1 4 3) 13 x2) 14 x3, (fDp 3 M).2) := by
      unfold fDw
      rw [if_neg (by rw [fk 6 (by decide) (by decide) (by decide)]; exact n6)]
    have fb : fB tB (h_i h 1 0) (up1 (up1 (up1 (fDp 3 M).1 4 3) 13 x2) 14 x3) b = b := by
      unfold fB
      rw [up1_ne (by decide), up1_ne (by decide), up1_at, if_neg (by decide)]
    rw [f]
    show Mx PM x1.toNatClampNeg (h_i h 1 0) (up1 (up1 (up1 (fDp 3 M).1 4 3) 13 x2) 14 x3) (M 11).toNatClampNeg (fDp 3 M).2 (fB tB (h_i h 1 0) (up1 (up1 (up1 (fDp 3 M).1 4 3) 13 x2) 14 x3) b) h _
    rw [fb]
    exact dw_end P hx p2 (Or.inl rfl) D
  · have s := dw_end (y8 := 1) (x3 := x3) P hx p2 (Or.inr rfl) D
    have kk := s.2.1.k
    have f : fDw (h_i h 1 0) (wI h) x2 x3 M = (fDr (h_i h 1 0) (wI h) (up1 (up1 (up1 (up1 (fDp 3 M).1 4 3) 13 x2) 14 x3) 7 (-1)), (fDp 3 M).2) := by
      unfold fDw
      rw [if_pos (by rw [fk 6 (by decide) (by decide) (by decide)]; exact y6)]
    have fd7 : fDr (h_i h 1 0) (wI h) (up1 (up1 (up1 (up1 (fDp 3 M).1 4 3) 13 x2) 14 x3) 7 (-1)) = fDr (h_i h 1 0) (wI h) (up1 (up1 (up1 (fDp 3 M).1 4 3) 13 x2) 14 x3) := fDr_7
    rw [f, fd7] at hK
    generalize h_im (h_im (h_im (h_im (h_im g 213 x1.toNatClampNeg (-1)) 208 x1.toNatClampNeg 3) 218 x1.toNatClampNeg x2) 219 x1.toNatClampNeg x3) 248 x1.toNatClampNeg (vp_nar .boolean 1) = g5 at *
    have u5 : up1 (up1 (up1 (fDp 3 M).1 4 3) 13 x2) 14 x3 5 = M 5 := by rw [up1_ne (by decide), up1_ne (by decide), up1_ne (by decide)]; exact fk 5 (by decide) (by decide) (by decide)
    have u6 : up1 (up1 (up1 (fDp 3 M).1 4 3) 13 x2) 14 x3 6 = -1 := by rw [up1_ne (by decide), up1_ne (by decide), up1_ne (by decide), fk 6 (by decide) (by decide) (by decide)]; exact y6
    have u13 : up1 (up1 (up1 (fDp 3 M).1 4 3) 13 x2) 14 x3 13 = x2 := by rw [up1_ne (by decide), up1_at]
    have u0 : up1 (up1 (up1 (fDp 3 M).1 4 3) 13 x2) 14 x3 0 = x1 := by rw [up1_ne (by decide), up1_ne (by decide), up1_ne (by decide), fk 0 (by decide) (by decide) (by decide)]; exact n0
    have u4 : up1 (up1 (up1 (fDp 3 M).1 4 3) 13 x2) 14 x3 4 = 3 := by rw [up1_ne (by decide), up1_ne (by decide), up1_at]
    have z := m_gd P d s.1 (kk.2.2.2.2.2 X) hx s.2.2.1 s.2.2.2.2 (by rw [u5]; exact p5 y6) u6 u0 u4 (by rw [u5, u13, kk.1]; exact nz y6) (by rw [u5, u13, kk.1]; exact z0) ((M 11).toNatClampNeg + (fDp 3 M).2.length)
    rw [kk.2.1, kk.1] at z
    refine Cv.mono z (fun h' k => ⟨k.1.1, hK h' ?_⟩)
    have q := s.tr k rfl
    rw [List.append_nil] at q
    exact q
noncomputable def DwP (PM : β → Hp_ → Prop) (tB : Int32 → Int32 → β → β) (x1 x2 x3 : Int32) (M : Nat → Int32) (b : β) (h : Hp_) (r : Int32) (h' : Hp_) : Prop := ((isN h x1 ∧ (0 ≤ x2 ∧ x2 ≤ 15) ∧ (h_i h 1 0 ≤ x3 ∧ x3 ≤ 30000) ∧ ¬ wI h (M 3) x2 = -1 ∧ ¬ M 4 = 3 ∧ ¬ M 4 = 4) → r = 1 ∧ Mx PM x1.toNatClampNeg (h_i h 1 0) (fDw (h_i h 1 0) (wI h) x2 x3 M).1 (M 11).toNatClampNeg (fDw (h_i h 1 0) (wI h) x2 x3 M).2 (fB tB (h_i h 1 0) (fDw (h_i h 1 0) (wI h) x2 x3 M).1 b) h h') ∧ (¬ (isN h x1 ∧ (0 ≤ x2 ∧ x2 ≤ 15) ∧ (h_i h 1 0 ≤ x3 ∧ x3 ≤ 30000) ∧ ¬ wI h (M 3) x2 = -1 ∧ ¬ M 4 = 3 ∧ ¬ M 4 = 4) → r = 0 ∧ Iv h' ∧ Fr [203999] h h')
theorem m_dw (P : PMok PM tB lM) (d : Nat) {h : Hp_} (I : Iv h) (X : ExP h) (x1 x2 x3 : Int32) {b : β} (B : PM b h) (M : Nat → Int32) (H : isN h x1 → RMp x1.toNatClampNeg M h ∧ M 0 = x1 ∧ (M 6 = -1 → 0 ≤ (M 5).toInt) ∧ Opn h M ∧ (∀ q, M 6 = -1 → ¬ wI h (M 3) q = -1 → ¬ wI h (M 5) q = -1)) : Ci (m_X12_draw (d + 5) 0 0) [.ref 1, .int x1, .int x2, .int x3] h (DwP PM tB x1 x2 x3 M b h) := by
  have t0 : (0 : Int32).toInt = 0 := rfl
  have t15 : (15 : Int32).toInt = 15 := rfl
  have bm := menM_in I
  refine t_X12_draw d h I.1 x1 x2 x3 _ ⟨fun n => ⟨fun y => absurd ((isN_q I).mpr y.1) n, fun _ => ⟨rfl, I, Fr.rf _ _⟩⟩, fun y1 => ⟨fun n => ⟨fun y => absurd y.2.1 n, fun _ => ⟨rfl, I, Fr.rf _ _⟩⟩, fun y2 => ⟨fun n => ⟨fun y => absurd y.2.2.1 n, fun _ => ⟨rfl, I, Fr.rf _ _⟩⟩, fun y3 => ?_⟩⟩⟩
  have ym := (isN_q I).mp y1
  obtain ⟨R, n0, p5, O, wt⟩ := H ym
  have hx : 0 ≤ x1.toInt ∧ x1.toInt ≤ 11 := ⟨ym.1, by have := ym.2; omega⟩
  have v := v12 hx
  have b6 := m206 I x1.toNatClampNeg
  have u1 := q_le.mp y2.1
  have u2 := q_le.mp y2.2
  have p2 : 0 ≤ x2.toInt ∧ x2.toInt ≤ 15 := ⟨by omega, by omega⟩
  rw [R.2.2.2] at b6
  have W := c_woI d I X (M 3) x2 ⟨b6.1, by omega⟩ ⟨p2.1, by omega⟩
  rw [R.2.2.2]
  refine ⟨v, Ci.mono W (fun r13 h11 k => ?_)⟩
  obtain ⟨I2, F2, er⟩ := k
  subst er
  have B2 : PM b h11 := P.2.1 b h h11 F2 B
  have f : ∀ a, off [203999] a = true → ∀ k, h_i h11 a k = h_i h a k := fun a o k => fr_i F2 o k
  have n2 : h_i h11 1 0 = h_i h 1 0 := (F2.2 1 0 (by decide +kernel)).1
  have R2 : RMp x1.toNatClampNeg M h11 := R.cg (fun a ha => by
    refine f a ?_ _
    simp only [mrL, List.mem_cons, List.not_mem_nil, or_false] at ha
    rcases ha with e | e | e | e | e | e | e | e | e | e | e | e | e | e <;> subst e <;> decide +kernel)
  have X2 : ExP h11 := X.fr F2 (by decide +kernel)
  have O2 : Opn h11 M := fun e => ⟨(O e).1, (O e).2.1, (O e).2.2.1, fun i a c => by
    rw [f 241 (by decide +kernel), f 242 (by decide +kernel)]
    exact (O e).2.2.2 i a c⟩
  have no : ∀ r : Int32, r = 0 → ¬ (isN h x1 ∧ (0 ≤ x2 ∧ x2 ≤ 15) ∧ (h_i h 1 0 ≤ x3 ∧ x3 ≤ 30000) ∧ ¬ wI h (M 3) x2 = -1 ∧ ¬ M 4 = 3 ∧ ¬ M 4 = 4) → (((isN h x1 ∧ (0 ≤ x2 ∧ x2 ≤ 15) ∧ (h_i h 1 0 ≤ x3 ∧ x3 ≤ 30000) ∧ ¬ wI h (M 3) x2 = -1 ∧ ¬ M 4 = 3 ∧ ¬ M 4 = 4) → r = 1 ∧ Mx PM x1.toNatClampNeg (h_i h 1 0) (fDw (h_i h 1 0) (wI h) x2 x3 M).1 (M 11).toNatClampNeg (fDw (h_i h 1 0) (wI h) x2 x3 M).2 (fB tB (h_i h 1 0) (fDw (h_i h 1 0) (wI h) x2 x3 M).1 b) h h11) ∧ (¬ (isN h x1 ∧ (0 ≤ x2 ∧ x2 ≤ 15) ∧ (h_i h 1 0 ≤ x3 ∧ x3 ≤ 30000) ∧ ¬ wI h (M 3) x2 = -1 ∧ ¬ M 4 = 3 ∧ ¬ M 4 = 4) → r = 0 ∧ Iv h11 ∧ Fr [203999] h h11)) := fun r e n => ⟨fun y => absurd y n, fun _ => ⟨e, I2, F2⟩⟩
  rw [R2.1.1]
  refine ⟨I2.1, fun e => no 0 rfl (fun y => y.2.2.2.1 e), fun n1 => ⟨v, fun e => no 0 rfl (fun y => y.2.2.2.2.1 e), fun n3 => ⟨v, fun n4 => ⟨v, fun n41 => ?_, fun y41 => ?_⟩, fun e => no 0 rfl (fun y => y.2.2.2.2.2 e)⟩⟩⟩
  · have ok : isN h x1 ∧ (0 ≤ x2 ∧ x2 ≤ 15) ∧ (h_i h 1 0 ≤ x3 ∧ x3 ≤ 30000) ∧ ¬ wI h (M 3) x2 = -1 ∧ ¬ M 4 = 3 ∧ ¬ M 4 = 4 := ⟨ym, y2, y3, n1, n3, n4⟩
    have D : Dpx PM x1.toNatClampNeg (h_i h 1 0) 3 M b h h11 := Dpx.fr P F2 n2 (dpx_no I2 R2 B2 n41)
    have G := fun K hK => dw_go P d (x3 := x3) X hx n0 p2 p5 (fun e => wt x2 e n1) (fun e => wI_z I X e) D K hK
    refine ⟨v, v, v, v, v, fun n6 => ⟨v, v, fun _ => (G (DwP PM tB x1 x2 x3 M b h 1) (fun h' k => ⟨fun _ => ⟨rfl, k⟩, fun y => absurd ok y⟩)).1 n6, fun e => absurd e n6⟩, fun y6 => ⟨v, v, fun n => absurd y6 n, fun _ => (G (DwP PM tB x1 x2 x3 M b h 1) (fun h' k => ⟨fun _ => ⟨rfl, k⟩, fun y => absurd ok y⟩)).2 y6⟩⟩
  · have ok : isN h x1 ∧ (0 ≤ x2 ∧ x2 ≤ 15) ∧ (h_i h 1 0 ≤ x3 ∧ x3 ≤ 30000) ∧ ¬ wI h (M 3) x2 = -1 ∧ ¬ M 4 = 3 ∧ ¬ M 4 = 4 := ⟨ym, y2, y3, n1, n3, n4⟩
    have z := m_dp P d I2 hx R2 B2 y41 3 O2
    rw [n2] at z
    refine Cv.mono z (fun h39 k => ?_)
    have D : Dpx PM x1.toNatClampNeg (h_i h 1 0) 3 M b h h39 := Dpx.fr P F2 n2 k
    have G := fun K hK => dw_go P d (x3 := x3) X hx n0 p2 p5 (fun e => wt x2 e n1) (fun e => wI_z I X e) D K hK
    refine ⟨k.1.1, v, v, v, v, v, fun n6 => ⟨v, v, fun _ => (G (DwP PM tB x1 x2 x3 M b h 1) (fun h' k => ⟨fun _ => ⟨rfl, k⟩, fun y => absurd ok y⟩)).1 n6, fun e => absurd e n6⟩, fun y6 => ⟨v, v, fun n => absurd y6 n, fun _ => (G (DwP PM tB x1 x2 x3 M b h 1) (fun h' k => ⟨fun _ => ⟨rfl, k⟩, fun y => absurd ok y⟩)).2 y6⟩⟩
theorem il_end (P : PMok PM tB lM) {h g : Hp_} {x1 : Int32} {M : Nat → Int32} {b : β} (D : Dpx PM x1.toNatClampNeg (h_i h 1 0) 4 M b h g) : Mx PM x1.toNatClampNeg (h_i h 1 0) (fIl M).1 (M 11).toNatClampNeg (fIl M).2 b h (h_im (h_im (h_im (h_im (h_im g 208 x1.toNatClampNeg 4) 209 x1.toNatClampNeg (h_i g 206 x1.toNatClampNeg)) 210 x1.toNatClampNeg (-1)) 211 x1.toNatClampNeg (-1)) 213 x1.toNatClampNeg (-1)) := by
  obtain ⟨Ig, Gg, ⟨d9, d10, d11, d6⟩, rr, Bg⟩ := D
  have b6 := m206 Ig x1.toNatClampNeg
  have I5 := im213 (im211 (im210 (im209 (im208 Ig x1.toNatClampNeg 4) x1.toNatClampNeg (h_i g 206 x1.toNatClampNeg) ⟨by omega, b6.2⟩) x1.toNatClampNeg (-1) (by decide)) x1.toNatClampNeg (-1)) x1.toNatClampNeg (-1) (by decide)
  have fe : (fIl M).2 = (fDp 4 M).2 := rfl
  have f4 : (fIl M).1 4 = 4 := by
    show up1 (up1 (up1 (up1 (fDp 4 M).1 4 4) 6 (-1)) 7 (-1)) 5 (M 3) 4 = 4
    rw [up1_ne (by decide), up1_ne (by decide), up1_ne (by decide), up1_at]
  have f5 : (fIl M).1 5 = M 3 := by
    show up1 (up1 (up1 (up1 (fDp 4 M).1 4 4) 6 (-1)) 7 (-1)) 5 (M 3) 5 = M 3
    rw [up1_at]
  have f6 : (fIl M).1 6 = -1 := by
    show up1 (up1 (up1 (up1 (fDp 4 M).1 4 4) 6 (-1)) 7 (-1)) 5 (M 3) 6 = -1
    rw [up1_ne (by decide), up1_ne (by decide), up1_at]
  have f7 : (fIl M).1 7 = -1 := by
    show up1 (up1 (up1 (up1 (fDp 4 M).1 4 4) 6 (-1)) 7 (-1)) 5 (M 3) 7 = -1
    rw [up1_ne (by decide), up1_at]
  have f3 : (fIl M).1 3 = M 3 := by
    show up1 (up1 (up1 (up1 (fDp 4 M).1 4 4) 6 (-1)) 7 (-1)) 5 (M 3) 3 = M 3
    rw [up1_ne (by decide), up1_ne (by decide), up1_ne (by decide), up1_ne (by decide), fDp_k (by decide) (by decide) (by decide)]
  refine ⟨I5, ((((Gg.imj (by decide +kernel)).imj (by decide +kernel)).imj (by decide +kernel)).imj (by decide +kernel)).imj (by decide +kernel), ⟨⟨?_, ?_, ?_, ?_⟩, fun e => ?_, fun e => ?_, ?_⟩, ⟨?_, ?_, ?_⟩, P.1 _ _ _ _ _ (Or.inl (by decide)) (P.1 _ _ _ _ _ (Or.inl (by decide)) (P.1 _ _ _ _ _ (Or.inl (by decide)) (P.1 _ _ _ _ _ (Or.inl (by decide)) (P.1 _ _ _ _ _ (Or.inl (by decide)) Bg))))⟩
  · rw [im_ne (by decide), im_ne (by decide), im_ne (by decide), im_ne (by decide), im_at, f4]
  · rw [im_ne (by decide), im_ne (by decide), im_ne (by decide), im_at, f5]
    exact d6
  · rw [im_ne (by decide), im_ne (by decide), im_at, f6]
  · rw [im_ne (by decide), im_at, f7]
  · rw [f4] at e
    exact absurd e (by decide)
  · rw [f4] at e
    exact absurd e (by decide)
  · rw [im_ne (by decide), im_ne (by decide), im_ne (by decide), im_ne (by decide), im_ne (by decide), f3]
    exact d6
  · rw [im_oth (by decide), im_oth (by decide), im_oth (by decide), im_oth (by decide), im_oth (by decide), fe]
    exact rr.1
  · rw [im_oth (by decide), im_oth (by decide), im_oth (by decide), im_oth (by decide), im_oth (by decide), fe]
    exact rr.2.1
  · rw [im_oth (by decide), im_oth (by decide), im_oth (by decide), im_oth (by decide), im_oth (by decide), fe]
    exact rr.2.2
theorem m_il (P : PMok PM tB lM) (d : Nat) {h : Hp_} (I : Iv h) (x1 x2 : Int32) (b2 : x2 = 0 ∨ x2 = 1) {b : β} (B : PM b h) (M : Nat → Int32) (H : isN h x1 → RMp x1.toNatClampNeg M h ∧ M 0 = x1 ∧ (M 4 = 4 → M 6 = -1 ∧ M 5 = M 3) ∧ Opn h M) : Ci (m_X12_ill (d + 2) 0 0) [.ref 1, .int x1, .int x2] h (fun r h' => ((isN h x1 ∧ ¬ M 4 = 4 ∧ x2 = 1) → r = 1 ∧ Mx PM x1.toNatClampNeg (h_i h 1 0) (fIl M).1 (M 11).toNatClampNeg (fIl M).2 b h h') ∧ ((isN h x1 ∧ M 4 = 4 ∧ x2 = 0) → r = 1 ∧ Mx PM x1.toNatClampNeg (h_i h 1 0) (fFree M) (M 11).toNatClampNeg [] (tB x1 (h_i h 1 0) b) h h') ∧ (¬ (isN h x1 ∧ ((¬ M 4 = 4 ∧ x2 = 1) ∨ (M 4 = 4 ∧ x2 = 0))) → r = 0 ∧ h' = h)) := by
  have bm := menM_in I
  have z10 : ∀ {x : Int32}, x = 1 → ¬ x = 0 := fun e => by rw [e]; decide
  refine t_X12_ill d h I.1 x1 x2 _ ⟨fun n => ⟨fun y => absurd ((isN_q I).mpr y.1) n, fun y => absurd ((isN_q I).mpr y.1) n, fun _ => ⟨rfl, rfl⟩⟩, fun y1 => ?_⟩
  have ym := (isN_q I).mp y1
  obtain ⟨R, n0, k4, O⟩ := H ym
  have hx : 0 ≤ x1.toInt ∧ x1.toInt ≤ 11 := ⟨ym.1, by have := ym.2; omega⟩
  have v := v12 hx
  rw [R.1.1]
  refine ⟨v, fun n4 => ⟨fun nz => ⟨fun _ => ⟨v, fun n41 => ⟨v, v, v, v, v, v, ?_⟩, fun y41 => ?_⟩, fun ez => absurd ez.symm nz⟩, fun ez => ⟨fun y => absurd ez.symm (z10 y.2.2), fun y => absurd y.2.1 n4, fun _ => ⟨rfl, rfl⟩⟩⟩, fun y4 => ⟨fun n1 => ⟨fun nz => absurd (b2.elim (fun e => absurd e nz) (fun e => e.symm)) n1, fun ez => ?_⟩, fun e1 => ⟨fun y => absurd y4 y.2.1, fun y => absurd y.2.2 (z10 e1.symm), fun _ => ⟨rfl, rfl⟩⟩⟩⟩
  · have e1 : x2 = 1 := b2.elim (fun e => absurd e.symm nz) id
    exact ⟨fun _ => ⟨rfl, il_end P (dpx_no I R B n41)⟩, fun y => absurd y.2.1 n4, fun y => absurd ⟨ym, Or.inl ⟨n4, e1⟩⟩ y⟩
  · have e1 : x2 = 1 := b2.elim (fun e => absurd e.symm nz) id
    exact Cv.mono (m_dp P d I hx R B y41 4 O) (fun h16 k => ⟨k.1.1, v, v, v, v, v, v, fun _ => ⟨rfl, il_end P k⟩, fun y => absurd y.2.1 n4, fun y => absurd ⟨ym, Or.inl ⟨n4, e1⟩⟩ y⟩)
  · have q := k4 y4
    have e206 := R.2.2.2
    have z := m_fr P d I hx B (M 11).toNatClampNeg (fFree M) (by unfold fFree; rw [up1_ne (by decide), up1_at]) (by rw [fFree_k (by decide) (by decide), e206]; exact q.2) (by rw [fFree_k (by decide) (by decide)]; exact q.1) (by unfold fFree; rw [up1_at]) (by rw [fFree_k (by decide) (by decide), e206])
    exact Cv.mono z (fun h47 k => ⟨k.1.1, fun y => absurd y4 y.2.1, fun _ => ⟨rfl, k⟩, fun y => absurd ⟨ym, Or.inr ⟨y4, ez⟩⟩ y⟩)
/-! begin -/
noncomputable def wwM : List Nat := [1063, 238999, 239999, 240999, 241999, 242999, 244999]
noncomputable def Wmx (PM : β → Hp_ → Prop) (m n : Int32) (r : Nat) (Q : List Ev2) (b : β) (h h' : Hp_) : Prop := Iv h' ∧ Fr wwM h h' ∧ (h_i h' 238 = rz (fun _ => m) r Q (h_i h 238) ∧ h_i h' 239 = rz Prod.fst r Q (h_i h 239) ∧ h_i h' 240 = rz (fun e => n + e.2) r Q (h_i h 240) ∧ h_i h' 241 = rz (fun _ => -1) r Q (h_i h 241) ∧ h_i h' 242 = rz (fun _ => -1) r Q (h_i h 242) ∧ h_i h' 244 = rz (fun _ => n) r Q (h_i h 244)) ∧ h_i h' 1 63 = Int32.ofNat (r + Q.length) ∧ PM b h'
theorem mb_lp (P : PMok PM tB lM) (d : Nat) {x1 x2 : Int32} (b2 : 0 ≤ x2.toInt ∧ x2.toInt ≤ 11) (K : Int32 → Hp_ → Prop) (hx : 0 ≤ x1.toInt ∧ x1.toInt ≤ 11) : ∀ (L : List Sp3) {h : Hp_} {b : β} (i : Nat), Iv h → PM b h → Stm h x2 i L → h_i h 227 x2.toNatClampNeg = Int32.ofNat (i + L.length) → (h_i h 1 63).toInt + (mts L : Int) ≤ 400 → (∀ h', Wmx PM x1 (h_i h 1 0) (h_i h 1 63).toNatClampNeg (ptL L) b h h' → Cv (m_X12_goOn (d + 3) 0 0) [.ref 1, .int x1] (h_im h' 217 x1.toNatClampNeg (h_i h' 1 63)) (fun h22 => Wf h22 ∧ (K 1 h22))) → AW (m_X12_begin (d + 4) 0 0) 0 0 106 [(0, .ref 1), (1, .int x1), (2, .int x2), (3, .int (150 * x2 + Int32.ofNat i))] [] h (kI K)
  | [], h, b, i, I, B, S, e227, R, O => by
    have v := v12 hx
    have r4 := rows_in I
    have v2 : vp_in x2 12 := dp_in (lo := 0) (hi := 11) ⟨b2.1, b2.2⟩ (by decide) (by decide)
    have Tt := t_X12_begin_106 d h I.1 x1 x2 (150 * x2 + Int32.ofNat i)
    rw [e227] at Tt
    exact Tt _ ⟨v2, fun _ => ⟨v, O h ⟨I, Fr.rf _ _, ⟨rfl, rfl, rfl, rfl, rfl, rfl⟩, (of_nat32 r4.1).symm, B⟩⟩, fun n => absurd (q_le.mpr (Int.le_refl _)) n⟩
  | x :: L, h, b, i, I, B, S, e227, R, O => by
    have v := v12 hx
    have rg := rows_in I
    have r4 : (h_i h 1 63).toInt ≤ 400 := rg.2
    have r0 : 0 ≤ (h_i h 1 63).toInt := rg.1
    have t150 : (150 : Int32).toInt = 150 := rfl
    have v2 : vp_in x2 12 := dp_in (lo := 0) (hi := 11) ⟨b2.1, b2.2⟩ (by decide) (by decide)
    have ll : i + (L.length + 1) ≤ 150 := S.2.1
    have l2 : (i + (x :: L).length : Nat) = i + (L.length + 1) := rfl
    have oi := on_j (n := i) (by omega)
    have ol := on_j (n := i + (L.length + 1)) (by omega)
    have n2 := n_nat b2.1
    have m1 : (150 * x2).toInt = 150 * x2.toInt := by rw [tx_mul (by rw [t150]; omega) (by rw [t150]; omega), t150]
    have m2 : (150 * x2 + Int32.ofNat i).toInt = 150 * x2.toInt + (i : Int) := by rw [tx_add (by omega) (by omega), m1, oi]
    have m3 : (150 * x2 + Int32.ofNat (i + (L.length + 1))).toInt = 150 * x2.toInt + ((i + (L.length + 1) : Nat) : Int) := by rw [tx_add (by omega) (by omega), m1, ol]
    have nm := n_nat (x := 150 * x2 + Int32.ofNat i) (by omega)
    have km : (150 * x2 + Int32.ofNat i).toNatClampNeg = 150 * x2.toNatClampNeg + i := by omega
    have vi : vp_in (150 * x2 + Int32.ofNat i) 1800 := dp_in (lo := 0) (hi := 1799) ⟨by show (0 : Int) ≤ _; omega, by show _ ≤ (1799 : Int); omega⟩ (by decide) (by decide)
    have nx : 150 * x2 + Int32.ofNat i + 1 = 150 * x2 + Int32.ofNat (i + 1) := by rw [Int32.add_assoc, on_s (by omega)]
    have sb := S.hd.1
    have a8 : h_i h 228 (150 * x2.toNatClampNeg + i) = x.1 := congrArg (fun z => z.1) sb
    have a9 : h_i h 229 (150 * x2.toNatClampNeg + i) = x.2.1 := congrArg (fun z => z.2.1) sb
    have a10 : h_i h 230 (150 * x2.toNatClampNeg + i) = x.2.2 := congrArg (fun z => z.2.2) sb
    have m : mts (x :: L) = (if x.1 = 2 then 1 else 0) + mts L := rfl
    rw [m] at R
    have Tt := t_X12_begin_106 d h I.1 x1 x2 (150 * x2 + Int32.ofNat i)
    rw [e227, km, a8, a9, a10, nx, l2] at Tt
    refine Tt _ ⟨v2, fun y => ?_, fun _ => ⟨vi, fun ny => ?_, fun y2 => ?_⟩⟩
    · have y := q_le.mp y
      omega
    · have f : ptL (x :: L) = ptL L := if_neg ny
      rw [f] at O
      rw [if_neg ny] at R
      exact mb_lp P d b2 K hx L (i + 1) I B S.tl (by rw [e227, l2, show i + 1 + L.length = i + (L.length + 1) by omega]) (by omega) O
    · have f : ptL (x :: L) = x.2 :: ptL L := if_pos y2
      rw [if_pos y2] at R
      have vr : vp_in (h_i h 1 63) 400 := dp_in (lo := 0) (hi := 399) ⟨r0, by show _ ≤ (399 : Int); omega⟩ (by decide) (by decide)
      have rn := row_n (x := h_i h 1 63) r0 (by omega)
      have I7 := (tr_ 244 (by decide +kernel) (tr_ 242 (by decide +kernel) (tr_ 241 (by decide +kernel) (tr_ 240 (by decide +kernel) (tr_ 239 (by decide +kernel) (tr_ 238 (by decide +kernel) I (h_i h 1 63).toNatClampNeg x1 (by decide) (by decide)) (h_i h 1 63).toNatClampNeg x.2.1 (by decide) (by decide)) (h_i h 1 63).toNatClampNeg (h_i h 1 0 + x.2.2) (by decide) (by decide)) (h_i h 1 63).toNatClampNeg (-1) (by decide) (by decide)) (h_i h 1 63).toNatClampNeg (-1) (by decide) (by decide)) (h_i h 1 63).toNatClampNeg (h_i h 1 0) (by decide) (by decide)).im (a := 1) (k := 63) (x := h_i h 1 63 + 1) (by rw [show tf 1 63 = (0, 400) by decide +kernel]; exact ⟨by show (0 : Int) ≤ _; omega, by show _ ≤ (400 : Int); omega⟩) (by decide)
      have F7 : Fr wwM h (h_im (h_im (h_im (h_im (h_im (h_im (h_im h 238 (h_i h 1 63).toNatClampNeg x1) 239 (h_i h 1 63).toNatClampNeg x.2.1) 240 (h_i h 1 63).toNatClampNeg (h_i h 1 0 + x.2.2)) 241 (h_i h 1 63).toNatClampNeg (-1)) 242 (h_i h 1 63).toNatClampNeg (-1)) 244 (h_i h 1 63).toNatClampNeg (h_i h 1 0)) 1 63 (h_i h 1 63 + 1)) := (((((((Fr.rf _ _).im (inw_row (by decide +kernel) _)).im (inw_row (by decide +kernel) _)).im (inw_row (by decide +kernel) _)).im (inw_row (by decide +kernel) _)).im (inw_row (by decide +kernel) _)).im (inw_row (by decide +kernel) _)).im (by decide +kernel)
      have B7 : PM b (h_im (h_im (h_im (h_im (h_im (h_im (h_im h 238 (h_i h 1 63).toNatClampNeg x1) 239 (h_i h 1 63).toNatClampNeg x.2.1) 240 (h_i h 1 63).toNatClampNeg (h_i h 1 0 + x.2.2)) 241 (h_i h 1 63).toNatClampNeg (-1)) 242 (h_i h 1 63).toNatClampNeg (-1)) 244 (h_i h 1 63).toNatClampNeg (h_i h 1 0)) 1 63 (h_i h 1 63 + 1)) := P.1 _ _ _ _ _ (Or.inr (Or.inr (Or.inr ⟨rfl, rfl⟩))) (P.1 _ _ _ _ _ (Or.inr (Or.inl (by decide))) (P.1 _ _ _ _ _ (Or.inr (Or.inl (by decide))) (P.1 _ _ _ _ _ (Or.inr (Or.inl (by decide))) (P.1 _ _ _ _ _ (Or.inr (Or.inl (by decide))) (P.1 _ _ _ _ _ (Or.inr (Or.inl (by decide))) (P.1 _ _ _ _ _ (Or.inr (Or.inl (by decide))) B))))))
      refine ⟨vr, vi, vr, vi, vr, vr, vr, vr, ?_⟩
      generalize hg : h_im (h_im (h_im (h_im (h_im (h_im (h_im h 238 (h_i h 1 63).toNatClampNeg x1) 239 (h_i h 1 63).toNatClampNeg x.2.1) 240 (h_i h 1 63).toNatClampNeg (h_i h 1 0 + x.2.2)) 241 (h_i h 1 63).toNatClampNeg (-1)) 242 (h_i h 1 63).toNatClampNeg (-1)) 244 (h_i h 1 63).toNatClampNeg (h_i h 1 0)) 1 63 (h_i h 1 63 + 1) = g at *
      have g8 : h_i g 238 = up1 (h_i h 238) (h_i h 1 63).toNatClampNeg x1 := by rw [← hg, im_oth (by decide), im_oth (by decide), im_oth (by decide), im_oth (by decide), im_oth (by decide), im_oth (by decide), im_row]
      have g9 : h_i g 239 = up1 (h_i h 239) (h_i h 1 63).toNatClampNeg x.2.1 := by rw [← hg, im_oth (by decide), im_oth (by decide), im_oth (by decide), im_oth (by decide), im_oth (by decide), im_row, im_oth (by decide)]
      have g10 : h_i g 240 = up1 (h_i h 240) (h_i h 1 63).toNatClampNeg (h_i h 1 0 + x.2.2) := by rw [← hg, im_oth (by decide), im_oth (by decide), im_oth (by decide), im_oth (by decide), im_row, im_oth (by decide), im_oth (by decide)]
      have g11 : h_i g 241 = up1 (h_i h 241) (h_i h 1 63).toNatClampNeg (-1) := by rw [← hg, im_oth (by decide), im_oth (by decide), im_oth (by decide), im_row, im_oth (by decide), im_oth (by decide), im_oth (by decide)]
      have g12 : h_i g 242 = up1 (h_i h 242) (h_i h 1 63).toNatClampNeg (-1) := by rw [← hg, im_oth (by decide), im_oth (by decide), im_row, im_oth (by decide), im_oth (by decide), im_oth (by decide), im_oth (by decide)]
      have g14 : h_i g 244 = up1 (h_i h 244) (h_i h 1 63).toNatClampNeg (h_i h 1 0) := by rw [← hg, im_oth (by decide), im_row, im_oth (by decide), im_oth (by decide), im_oth (by decide), im_oth (by decide), im_oth (by decide)]
      have g63 : h_i g 1 63 = h_i h 1 63 + 1 := by rw [← hg, im_at]
      have g0 : h_i g 1 0 = h_i h 1 0 := (F7.2 1 0 (by decide +kernel)).1
      have gs : ∀ k, sB g k = sB h k := fun k => by
        funext i
        unfold sB
        rw [fr_i F7 (by decide +kernel), fr_i F7 (by decide +kernel), fr_i F7 (by decide +kernel)]
      have g227 : ∀ k, h_i g 227 k = h_i h 227 k := fun k => fr_i F7 (by decide +kernel) k
      refine mb_lp P d b2 K hx L (h := g) (b := b) (i + 1) I7 B7 (S.tl.cg gs) (by rw [g227, e227, l2, show i + 1 + L.length = i + (L.length + 1) by omega]) (by rw [g63]; omega) (fun h' w => O h' ?_)
      obtain ⟨Iw, Fw, ⟨w8, w9, w10, w11, w12, w14⟩, w63, Bw⟩ := w
      rw [g63, rn.1] at w8 w9 w10 w11 w12 w14 w63
      rw [g0] at w10 w14
      rw [f]
      refine ⟨Iw, F7.tr Fw, ⟨?_, ?_, ?_, ?_, ?_, ?_⟩, ?_, Bw⟩
      · rw [w8, g8]
        rfl
      · rw [w9, g9]
        rfl
      · rw [w10, g10]
        rfl
      · rw [w11, g11]
        rfl
      · rw [w12, g12]
        rfl
      · rw [w14, g14]
        rfl
      · rw [w63]
        show Int32.ofNat ((h_i h 1 63).toNatClampNeg + 1 + (ptL L).length) = Int32.ofNat ((h_i h 1 63).toNatClampNeg + ((ptL L).length + 1))
        rw [show (h_i h 1 63).toNatClampNeg + 1 + (ptL L).length = (h_i h 1 63).toNatClampNeg + ((ptL L).length + 1) by omega]
end MEN
end
section
/-! MEN, the reference: begin -/
section MEN
variable {β : Type} {PM : β → Hp_ → Prop} {tB : Int32 → Int32 → β → β} {lM : Nat → Hp_ → β → β}
noncomputable def mwB : List Nat := 1063 :: 212999 :: 214999 :: 215999 :: 217999 :: 238999 :: 239999 :: 240999 :: 244999 :: mwR
noncomputable def Bym (PM : β → Hp_ → Prop) (j : Nat) (m n : Int32) (M' : Nat → Int32) (r : Nat) (Q E : List Ev2) (b' : β) (h h' : Hp_) : Prop := Iv h' ∧ (Fr mwB h h' ∧ ∀ a, a ∈ mrL → ∀ k, k ≠ j → h_i h' a k = h_i h a k) ∧ RMp j M' h' ∧ (h_i h' 238 = rz (fun _ => m) r Q (h_i h 238) ∧ h_i h' 239 = rz Prod.fst r Q (h_i h 239) ∧ h_i h' 240 = rz (fun e => n + e.2) r Q (h_i h 240) ∧ h_i h' 244 = rz (fun _ => n) r Q (h_i h 244)) ∧ (h_i h' 1 63 = Int32.ofNat (r + Q.length) ∧ h_i h' 215 j = Int32.ofNat r) ∧ (h_i h' 241 = rq (gM n) r E (rz (fun _ => -1) r Q (h_i h 241)) ∧ h_i h' 242 = rq (gS n) r E (rz (fun _ => -1) r Q (h_i h 242)) ∧ h_i h' 243 = rq gC r E (h_i h 243)) ∧ PM b' h'
theorem m_bg (P : PMok PM tB lM) (d : Nat) {h : Hp_} (I : Iv h) (X : ExP h) (x1 x2 : Int32) {b : β} (B : PM b h) (M : Nat → Int32) (H : isN h x1 → RMp x1.toNatClampNeg M h ∧ M 0 = x1 ∧ (M 4 = 0 → M 6 = -1 ∧ M 7 = -1) ∧ (M 6 = -1 → 0 ≤ (M 5).toInt)) (L : List Sp3) (S : (0 ≤ x2.toInt ∧ x2.toInt < (h_i h 1 42).toInt) → Stm h x2 0 L ∧ h_i h 227 x2.toNatClampNeg = Int32.ofNat L.length ∧ mP (h_i h 228) x2.toNatClampNeg (h_i h 227 x2.toNatClampNeg).toNatClampNeg 0 = mts L) : Ci (m_X12_begin (d + 4) 0 0) [.ref 1, .int x1, .int x2] h (fun r h' => ((isN h x1 ∧ (0 ≤ x2.toInt ∧ x2.toInt < (h_i h 1 42).toInt) ∧ M 4 = 0 ∧ (h_i h 1 63).toInt + (mts L : Int) ≤ 400) → r = 1 ∧ Bym PM x1.toNatClampNeg x1 (h_i h 1 0) (fBg (h_i h 1 0) (wI h) x2 (h_i h 1 63).toNatClampNeg ((h_i h 1 63).toNatClampNeg + mts L) L M).1 (h_i h 1 63).toNatClampNeg (ptL L) (fBg (h_i h 1 0) (wI h) x2 (h_i h 1 63).toNatClampNeg ((h_i h 1 63).toNatClampNeg + mts L) L M).2 (fB tB (h_i h 1 0) (fBg (h_i h 1 0) (wI h) x2 (h_i h 1 63).toNatClampNeg ((h_i h 1 63).toNatClampNeg + mts L) L M).1 b) h h') ∧ (¬ (isN h x1 ∧ (0 ≤ x2.toInt ∧ x2.toInt < (h_i h 1 42).toInt) ∧ M 4 = 0 ∧ (h_i h 1 63).toInt + (mts L : Int) ≤ 400) → r = 0 ∧ h' = h)) := by
  have t0 : (0 : Int32).toInt = 0 := rfl
  have t1 : (1 : Int32).toInt = 1 := rfl
  have t400 : (400 : Int32).toInt = 400 := rfl
  have bm := menM_in I
  have r42 := I.2.1 1 42
  rw [show tf 1 42 = (0, 12) by decide +kernel] at r42
  have b0 : 0 ≤ (h_i h 1 42).toInt := r42.1
  have b1 : (h_i h 1 42).toInt ≤ 12 := r42.2
  have rg := rows_in I
  have r4 : (h_i h 1 63).toInt ≤ 400 := rg.2
  have r0 : 0 ≤ (h_i h 1 63).toInt := rg.1
  have s42 : (h_i h 1 42 - 1).toInt = (h_i h 1 42).toInt - 1 := by rw [tx_sub (by rw [t1]; omega) (by rw [t1]; omega), t1]
  refine t_X12_begin d h I.1 x1 x2 _ ⟨fun n => ⟨fun y => absurd ((isN_q I).mpr y.1) n, fun _ => ⟨rfl, rfl⟩⟩, fun y1 => ⟨fun n => ⟨fun y => absurd ⟨q_le.mpr (by have := y.2.1.1; omega), q_le.mpr (by have := y.2.1.2; omega)⟩ n, fun _ => ⟨rfl, rfl⟩⟩, fun y2 => ?_⟩⟩
  have ym := (isN_q I).mp y1
  obtain ⟨R, n0, k0, p5⟩ := H ym
  have hx : 0 ≤ x1.toInt ∧ x1.toInt ≤ 11 := ⟨ym.1, by have := ym.2; omega⟩
  have v := v12 hx
  have u1 := q_le.mp y2.1
  have u2 := q_le.mp y2.2
  have yb : 0 ≤ x2.toInt ∧ x2.toInt < (h_i h 1 42).toInt := ⟨by omega, by omega⟩
  obtain ⟨S, e227, em⟩ := S yb
  have ll : 0 + L.length ≤ 150 := S.2.1
  have ml := mts_l L
  have b2 : 0 ≤ x2.toInt ∧ x2.toInt ≤ 11 := ⟨yb.1, by omega⟩
  rw [R.1.1]
  refine ⟨v, fun nf => ⟨fun y => absurd y.2.2.1 nf, fun _ => ⟨rfl, rfl⟩⟩, fun yf => Ci.mono (c_pointsOf d I x2 ⟨by show (0 : Int) ≤ _; omega, by show _ ≤ (11 : Int); omega⟩) (fun r11 h9 k => ?_)⟩
  obtain ⟨eh, k⟩ := k
  subst eh
  rw [em] at k
  have sm : (h_i h9 1 63 + r11).toInt = (h_i h9 1 63).toInt + (mts L : Int) := by rw [tx_add (by omega) (by omega), k]
  refine ⟨I.1, fun l => ⟨v, v, v, v, v, v, ?_⟩, fun l => ⟨fun y => ?_, fun _ => ⟨rfl, rfl⟩⟩⟩
  · have l := q_le.mp l
    have lr : (h_i h9 1 63).toInt + (mts L : Int) ≤ 400 := by omega
    have ok : isN h9 x1 ∧ (0 ≤ x2.toInt ∧ x2.toInt < (h_i h9 1 42).toInt) ∧ M 4 = 0 ∧ (h_i h9 1 63).toInt + (mts L : Int) ≤ 400 := ⟨ym, yb, yf, lr⟩
    have I6 := im216 ((((im213 ((im208 I x1.toNatClampNeg 1).im (a := 212) (k := x1.toNatClampNeg) (x := x2) (by rw [tfa_tf (show tfa 212 = some (0, 11) by decide +kernel)]; exact ⟨b2.1, b2.2⟩) (jw_jr (by decide) (by decide) _)) x1.toNatClampNeg 0 (by decide)) |> fun z => tr_ 214 (by decide +kernel) z x1.toNatClampNeg (h_i h9 1 0) (by decide) (by decide)).im (a := 215) (k := x1.toNatClampNeg) (x := h_i h9 1 63) (by rw [tfa_tf (show tfa 215 = some (0, 400) by decide +kernel)]; exact rg) (jw_jr (by decide) (by decide) _))) x1.toNatClampNeg (h_i h9 1 63) ⟨r0, r4⟩
    have F6 : Fr mwB h9 (h_im (h_im (h_im (h_im (h_im (h_im h9 208 x1.toNatClampNeg 1) 212 x1.toNatClampNeg x2) 213 x1.toNatClampNeg 0) 214 x1.toNatClampNeg (h_i h9 1 0)) 215 x1.toNatClampNeg (h_i h9 1 63)) 216 x1.toNatClampNeg (h_i h9 1 63)) := ((((((Fr.rf _ _).im (inw_row (by decide +kernel) _)).im (inw_row (by decide +kernel) _)).im (inw_row (by decide +kernel) _)).im (inw_row (by decide +kernel) _)).im (inw_row (by decide +kernel) _)).im (inw_row (by decide +kernel) _)
    have B6 : PM b (h_im (h_im (h_im (h_im (h_im (h_im h9 208 x1.toNatClampNeg 1) 212 x1.toNatClampNeg x2) 213 x1.toNatClampNeg 0) 214 x1.toNatClampNeg (h_i h9 1 0)) 215 x1.toNatClampNeg (h_i h9 1 63)) 216 x1.toNatClampNeg (h_i h9 1 63)) := P.1 _ _ _ _ _ (Or.inl (by decide)) (P.1 _ _ _ _ _ (Or.inl (by decide)) (P.1 _ _ _ _ _ (Or.inl (by decide)) (P.1 _ _ _ _ _ (Or.inl (by decide)) (P.1 _ _ _ _ _ (Or.inl (by decide)) (P.1 _ _ _ _ _ (Or.inl (by decide)) B)))))
    have q8 : h_i (h_im (h_im (h_im (h_im (h_im (h_im h9 208 x1.toNatClampNeg 1) 212 x1.toNatClampNeg x2) 213 x1.toNatClampNeg 0) 214 x1.toNatClampNeg (h_i h9 1 0)) 215 x1.toNatClampNeg (h_i h9 1 63)) 216 x1.toNatClampNeg (h_i h9 1 63)) 208 x1.toNatClampNeg = 1 := by rw [im_ne (by decide), im_ne (by decide), im_ne (by decide), im_ne (by decide), im_ne (by decide), im_at]
    have q12 : h_i (h_im (h_im (h_im (h_im (h_im (h_im h9 208 x1.toNatClampNeg 1) 212 x1.toNatClampNeg x2) 213 x1.toNatClampNeg 0) 214 x1.toNatClampNeg (h_i h9 1 0)) 215 x1.toNatClampNeg (h_i h9 1 63)) 216 x1.toNatClampNeg (h_i h9 1 63)) 212 x1.toNatClampNeg = x2 := by rw [im_ne (by decide), im_ne (by decide), im_ne (by decide), im_ne (by decide), im_at]
    have q13 : h_i (h_im (h_im (h_im (h_im (h_im (h_im h9 208 x1.toNatClampNeg 1) 212 x1.toNatClampNeg x2) 213 x1.toNatClampNeg 0) 214 x1.toNatClampNeg (h_i h9 1 0)) 215 x1.toNatClampNeg (h_i h9 1 63)) 216 x1.toNatClampNeg (h_i h9 1 63)) 213 x1.toNatClampNeg = 0 := by rw [im_ne (by decide), im_ne (by decide), im_ne (by decide), im_at]
    have q14 : h_i (h_im (h_im (h_im (h_im (h_im (h_im h9 208 x1.toNatClampNeg 1) 212 x1.toNatClampNeg x2) 213 x1.toNatClampNeg 0) 214 x1.toNatClampNeg (h_i h9 1 0)) 215 x1.toNatClampNeg (h_i h9 1 63)) 216 x1.toNatClampNeg (h_i h9 1 63)) 214 x1.toNatClampNeg = h_i h9 1 0 := by rw [im_ne (by decide), im_ne (by decide), im_at]
    have q15 : h_i (h_im (h_im (h_im (h_im (h_im (h_im h9 208 x1.toNatClampNeg 1) 212 x1.toNatClampNeg x2) 213 x1.toNatClampNeg 0) 214 x1.toNatClampNeg (h_i h9 1 0)) 215 x1.toNatClampNeg (h_i h9 1 63)) 216 x1.toNatClampNeg (h_i h9 1 63)) 215 x1.toNatClampNeg = h_i h9 1 63 := by rw [im_ne (by decide), im_at]
    have q16 : h_i (h_im (h_im (h_im (h_im (h_im (h_im h9 208 x1.toNatClampNeg 1) 212 x1.toNatClampNeg x2) 213 x1.toNatClampNeg 0) 214 x1.toNatClampNeg (h_i h9 1 0)) 215 x1.toNatClampNeg (h_i h9 1 63)) 216 x1.toNatClampNeg (h_i h9 1 63)) 216 x1.toNatClampNeg = h_i h9 1 63 := im_at
    have qo : ∀ a, a ≠ 208 → a ≠ 212 → a ≠ 213 → a ≠ 214 → a ≠ 215 → a ≠ 216 → h_i (h_im (h_im (h_im (h_im (h_im (h_im h9 208 x1.toNatClampNeg 1) 212 x1.toNatClampNeg x2) 213 x1.toNatClampNeg 0) 214 x1.toNatClampNeg (h_i h9 1 0)) 215 x1.toNatClampNeg (h_i h9 1 63)) 216 x1.toNatClampNeg (h_i h9 1 63)) a = h_i h9 a := fun a n1 n2 n3 n4 n5 n6 => by rw [im_oth n6, im_oth n5, im_oth n4, im_oth n3, im_oth n2, im_oth n1]
    have ql : ∀ a, a ∈ mrL → ∀ k, k ≠ x1.toNatClampNeg → h_i (h_im (h_im (h_im (h_im (h_im (h_im h9 208 x1.toNatClampNeg 1) 212 x1.toNatClampNeg x2) 213 x1.toNatClampNeg 0) 214 x1.toNatClampNeg (h_i h9 1 0)) 215 x1.toNatClampNeg (h_i h9 1 63)) 216 x1.toNatClampNeg (h_i h9 1 63)) a k = h_i h9 a k := fun a _ k n => by
      rw [h_i_im, if_neg (fun e => n e.2), h_i_im, if_neg (fun e => n e.2), h_i_im, if_neg (fun e => n e.2), h_i_im, if_neg (fun e => n e.2), h_i_im, if_neg (fun e => n e.2), h_i_im, if_neg (fun e => n e.2)]
    generalize h_im (h_im (h_im (h_im (h_im (h_im h9 208 x1.toNatClampNeg 1) 212 x1.toNatClampNeg x2) 213 x1.toNatClampNeg 0) 214 x1.toNatClampNeg (h_i h9 1 0)) 215 x1.toNatClampNeg (h_i h9 1 63)) 216 x1.toNatClampNeg (h_i h9 1 63) = g at *
    have g0 : h_i g 1 = h_i h9 1 := qo 1 (by decide) (by decide) (by decide) (by decide) (by decide) (by decide)
    have gs : ∀ k, sB g k = sB h9 k := fun k => by
      funext i
      unfold sB
      rw [qo 228 (by decide) (by decide) (by decide) (by decide) (by decide) (by decide), qo 229 (by decide) (by decide) (by decide) (by decide) (by decide) (by decide), qo 230 (by decide) (by decide) (by decide) (by decide) (by decide) (by decide)]
    have g227 : h_i g 227 = h_i h9 227 := qo 227 (by decide) (by decide) (by decide) (by decide) (by decide) (by decide)
    have e3 : 150 * x2 = 150 * x2 + Int32.ofNat 0 := (i_0 _).symm
    rw [e3]
    refine mb_lp P d b2 _ hx L (h := g) (b := b) 0 I6 B6 (S.cg gs) (by rw [g227, Nat.zero_add]; exact e227) (by rw [g0]; exact lr) (fun h' w => ?_)
    obtain ⟨Iw, Fw, ⟨w8, w9, w10, w11, w12, w14⟩, w63, Bw⟩ := w
    rw [g0] at w8 w9 w10 w11 w12 w14 w63
    have oo : ∀ a, off wwM a = true → ∀ k, h_i h' a k = h_i g a k := fun a o k => fr_i Fw o k
    have nr := n_nat r0
    have I7 : Iv (h_im h' 217 x1.toNatClampNeg (h_i h' 1 63)) := Iw.im (by rw [tfa_tf (show tfa 217 = some (0, 400) by decide +kernel), w63, ptL_l]; exact ⟨by show (0 : Int) ≤ _; rw [on_j (by omega)]; omega, by show _ ≤ (400 : Int); rw [on_j (by omega)]; omega⟩) (jw_jr (by decide) (by decide) _)
    have B7 : PM b (h_im h' 217 x1.toNatClampNeg (h_i h' 1 63)) := P.1 _ _ _ _ _ (Or.inl (by decide)) Bw
    have F7 : Fr mwB h9 (h_im h' 217 x1.toNatClampNeg (h_i h' 1 63)) := (F6.tr (Fw.more (by decide +kernel))).im (inw_row (by decide +kernel) _)
    have R7 : RMp x1.toNatClampNeg (up1 (up1 (up1 (up1 (up1 (up1 M 4 1) 8 x2) 9 0) 10 (h_i h9 1 0)) 11 (Int32.ofNat (h_i h9 1 63).toNatClampNeg)) 12 (Int32.ofNat ((h_i h9 1 63).toNatClampNeg + mts L))) (h_im h' 217 x1.toNatClampNeg (h_i h' 1 63)) := by
      refine ⟨⟨?_, ?_, ?_, ?_⟩, fun _ => ⟨?_, ?_, ?_, ?_, ?_⟩, fun e => absurd (show (1 : Int32) = 3 from e) (by decide), ?_⟩
      · rw [im_ne (by decide), oo 208 (by decide +kernel), q8]
        rfl
      · rw [im_ne (by decide), oo 209 (by decide +kernel), qo 209 (by decide) (by decide) (by decide) (by decide) (by decide) (by decide)]
        exact R.1.2.1
      · rw [im_ne (by decide), oo 210 (by decide +kernel), qo 210 (by decide) (by decide) (by decide) (by decide) (by decide) (by decide)]
        exact R.1.2.2.1
      · rw [im_ne (by decide), oo 211 (by decide +kernel), qo 211 (by decide) (by decide) (by decide) (by decide) (by decide) (by decide)]
        exact R.1.2.2.2
      · rw [im_ne (by decide), oo 212 (by decide +kernel), q12]
        rfl
      · rw [im_ne (by decide), oo 213 (by decide +kernel), q13]
        rfl
      · rw [im_ne (by decide), oo 214 (by decide +kernel), q14]
        rfl
      · rw [im_ne (by decide), oo 216 (by decide +kernel), q16]
        show h_i h9 1 63 = Int32.ofNat (h_i h9 1 63).toNatClampNeg
        exact (of_nat32 r0).symm
      · rw [im_at, w63, ptL_l]
        rfl
      · rw [im_ne (by decide), oo 206 (by decide +kernel), qo 206 (by decide) (by decide) (by decide) (by decide) (by decide) (by decide)]
        exact R.2.2.2
    have X7 : ExP (h_im h' 217 x1.toNatClampNeg (h_i h' 1 63)) := X.fr F7 (by decide +kernel)
    have w7 : wI (h_im h' 217 x1.toNatClampNeg (h_i h' 1 63)) = wI h9 := by
      funext p q
      unfold wI
      rw [fr_i F7 (by decide +kernel)]
    have n7 : h_i (h_im h' 217 x1.toNatClampNeg (h_i h' 1 63)) 1 0 = h_i h9 1 0 := (F7.2 1 0 (by decide +kernel)).1
    have s7 : ∀ k, sB (h_im h' 217 x1.toNatClampNeg (h_i h' 1 63)) k = sB h9 k := fun k => by
      funext i
      unfold sB
      rw [fr_i F7 (by decide +kernel), fr_i F7 (by decide +kernel), fr_i F7 (by decide +kernel)]
    have z27 : h_i (h_im h' 217 x1.toNatClampNeg (h_i h' 1 63)) 227 x2.toNatClampNeg = Int32.ofNat L.length := by
      rw [fr_i F7 (by decide +kernel)]
      exact e227
    have l7 : ∀ a, a ∈ mrL → ∀ k, k ≠ x1.toNatClampNeg → h_i (h_im h' 217 x1.toNatClampNeg (h_i h' 1 63)) a k = h_i h9 a k := fun a ha k n => by
      rw [h_i_im, if_neg (fun e => n e.2)]
      have o : off wwM a = true := by
        simp only [mrL, List.mem_cons, List.not_mem_nil, or_false] at ha
        rcases ha with e | e | e | e | e | e | e | e | e | e | e | e | e <;> subst e <;> decide +kernel
      rw [oo a o]
      exact ql a ha k n
    have q41 : h_i (h_im h' 217 x1.toNatClampNeg (h_i h' 1 63)) 241 = rz (fun _ => -1) (h_i h9 1 63).toNatClampNeg (ptL L) (h_i h9 241) := by rw [im_oth (by decide), w11, qo 241 (by decide) (by decide) (by decide) (by decide) (by decide) (by decide)]
    have q42 : h_i (h_im h' 217 x1.toNatClampNeg (h_i h' 1 63)) 242 = rz (fun _ => -1) (h_i h9 1 63).toNatClampNeg (ptL L) (h_i h9 242) := by rw [im_oth (by decide), w12, qo 242 (by decide) (by decide) (by decide) (by decide) (by decide) (by decide)]
    have q43 : h_i (h_im h' 217 x1.toNatClampNeg (h_i h' 1 63)) 243 = h_i h9 243 := by
      rw [im_oth (by decide), show h_i h' 243 = h_i g 243 from funext (fun k => oo 243 (by decide +kernel) k), qo 243 (by decide) (by decide) (by decide) (by decide) (by decide) (by decide)]
    have q38 : h_i (h_im h' 217 x1.toNatClampNeg (h_i h' 1 63)) 238 = rz (fun _ => x1) (h_i h9 1 63).toNatClampNeg (ptL L) (h_i h9 238) := by rw [im_oth (by decide), w8, qo 238 (by decide) (by decide) (by decide) (by decide) (by decide) (by decide)]
    have q39 : h_i (h_im h' 217 x1.toNatClampNeg (h_i h' 1 63)) 239 = rz Prod.fst (h_i h9 1 63).toNatClampNeg (ptL L) (h_i h9 239) := by rw [im_oth (by decide), w9, qo 239 (by decide) (by decide) (by decide) (by decide) (by decide) (by decide)]
    have q40 : h_i (h_im h' 217 x1.toNatClampNeg (h_i h' 1 63)) 240 = rz (fun e => h_i h9 1 0 + e.2) (h_i h9 1 63).toNatClampNeg (ptL L) (h_i h9 240) := by rw [im_oth (by decide), w10, qo 240 (by decide) (by decide) (by decide) (by decide) (by decide) (by decide)]
    have q44 : h_i (h_im h' 217 x1.toNatClampNeg (h_i h' 1 63)) 244 = rz (fun _ => h_i h9 1 0) (h_i h9 1 63).toNatClampNeg (ptL L) (h_i h9 244) := by rw [im_oth (by decide), w14, qo 244 (by decide) (by decide) (by decide) (by decide) (by decide) (by decide)]
    have q63 : h_i (h_im h' 217 x1.toNatClampNeg (h_i h' 1 63)) 1 63 = Int32.ofNat ((h_i h9 1 63).toNatClampNeg + (ptL L).length) := by rw [im_ne (by decide)]; exact w63
    have q215 : h_i (h_im h' 217 x1.toNatClampNeg (h_i h' 1 63)) 215 x1.toNatClampNeg = Int32.ofNat (h_i h9 1 63).toNatClampNeg := by
      rw [im_ne (by decide), oo 215 (by decide +kernel), q15]
      exact (of_nat32 r0).symm
    generalize h_im h' 217 x1.toNatClampNeg (h_i h' 1 63) = g7 at *
    have k00 := k0 yf
    have z := mgo_lp P d hx L (h := g7) (b := b) (M := up1 (up1 (up1 (up1 (up1 (up1 M 4 1) 8 x2) 9 0) 10 (h_i h9 1 0)) 11 (Int32.ofNat (h_i h9 1 63).toNatClampNeg)) 12 (Int32.ofNat ((h_i h9 1 63).toNatClampNeg + mts L))) 0 I7 X7 R7 B7 rfl k00.1 (p5 k00.1) k00.2 n0 (S.cg s7) rfl (by rw [Nat.zero_add]; exact z27) (by show 0 ≤ (Int32.ofNat (h_i h9 1 63).toNatClampNeg).toInt; rw [on_j (by omega)]; omega) (by show (Int32.ofNat (h_i h9 1 63).toNatClampNeg).toInt + (mts L : Int) ≤ 400; rw [on_j (by omega)]; omega)
    rw [n7, w7] at z
    have e11 : (up1 (up1 (up1 (up1 (up1 (up1 M 4 1) 8 x2) 9 0) 10 (h_i h9 1 0)) 11 (Int32.ofNat (h_i h9 1 63).toNatClampNeg)) 12 (Int32.ofNat ((h_i h9 1 63).toNatClampNeg + mts L)) 11).toNatClampNeg = (h_i h9 1 63).toNatClampNeg := by
      rw [up1_ne (by decide), up1_at, of_nat32 r0]
    rw [e11] at z
    refine cv_goOn (AW.mono z (fun u h22 k => ⟨k.1, k.2.1.1, fun _ => ⟨rfl, k.2.1, ⟨F7.tr (k.2.2.1.1.more (by decide +kernel)), fun a ha i n => (k.2.2.1.2 a ha i n).trans (l7 a ha i n)⟩, k.2.2.2.1, ⟨?_, ?_, ?_, ?_⟩, ⟨?_, ?_⟩, ⟨?_, ?_, ?_⟩, k.2.2.2.2.2⟩, fun y => absurd ok y⟩))
    · rw [show h_i h22 238 = h_i g7 238 from funext (fun i => fr_i k.2.2.1.1 (by decide +kernel) i)]
      exact q38
    · rw [show h_i h22 239 = h_i g7 239 from funext (fun i => fr_i k.2.2.1.1 (by decide +kernel) i)]
      exact q39
    · rw [show h_i h22 240 = h_i g7 240 from funext (fun i => fr_i k.2.2.1.1 (by decide +kernel) i)]
      exact q40
    · rw [show h_i h22 244 = h_i g7 244 from funext (fun i => fr_i k.2.2.1.1 (by decide +kernel) i)]
      exact q44
    · rw [(k.2.2.1.1.2 1 63 (by decide +kernel)).1]
      exact q63
    · rw [fr_i k.2.2.1.1 (by decide +kernel)]
      exact q215
    · rw [k.2.2.2.2.1.1, q41]
      rfl
    · rw [k.2.2.2.2.1.2.1, q42]
      rfl
    · rw [k.2.2.2.2.1.2.2, q43]
      rfl
  · have := y.2.2.2
    exact absurd (q_le.mpr (by omega)) l
end MEN
/-! MEN: the minutes -/
noncomputable abbrev Pst (β : Type) : Type := (Nat → Nat → Int32) × (Nat → Int32) × (Nat → Int32) × (Nat → Int32) × β
noncomputable def pX (BL : Nat → List Sp3) (M : Nat → Int32) : Sp3 × List Sp3 := match (BL (M 8).toNatClampNeg).drop (M 9).toNatClampNeg with
  | [] => ((0, 0, 0), [])
  | x :: L => (x, L)
noncomputable def pGo (n : Int32) (w : Int32 → Int32 → Int32) (BL : Nat → List Sp3) (M : Nat → Int32) : (Nat → Int32) × List Ev2 := fGo n w (pX BL M).1 (pX BL M).2 M
section MEN
variable {β : Type}
/-- man j at minute n -/
noncomputable def pMan (lP : Nat → Int32 → (Nat → Int32) → β → β) (tB : Int32 → Int32 → β → β) (n : Int32) (w : Int32 → Int32 → Int32) (BL : Nat → List Sp3) (j : Nat) (s : Pst β) : Pst β := if s.1 j 7 = n then (fun k => if k = j then (pGo n w BL (s.1 j)).1 else s.1 k, rz Prod.fst (s.1 j 11).toNatClampNeg (pGo n w BL (s.1 j)).2 s.2.1, rz (fun _ => n) (s.1 j 11).toNatClampNeg (pGo n w BL (s.1 j)).2 s.2.2.1, rz Prod.snd (s.1 j 11).toNatClampNeg (pGo n w BL (s.1 j)).2 s.2.2.2.1, fB tB n (pGo n w BL (s.1 j)).1 (if s.1 j 4 = 1 ∧ (pX BL (s.1 j)).1.1 = 3 then lP j n (fun k => s.1 k 5) s.2.2.2.2 else s.2.2.2.2)) else s
noncomputable def pMen (lP : Nat → Int32 → (Nat → Int32) → β → β) (tB : Int32 → Int32 → β → β) (n : Int32) (w : Int32 → Int32 → Int32) (BL : Nat → List Sp3) : Nat → Pst β → Pst β
  | 0, s => s
  | j + 1, s => pMan lP tB n w BL j (pMen lP tB n w BL j s)
/-- a minute is over -/
noncomputable def pOv (nB : Int32 → (Nat → Int32) → β → β) (n : Int32) (s : Pst β) : Pst β := (s.1, s.2.1, s.2.2.1, s.2.2.2.1, nB n (fun k => s.1 k 5) s.2.2.2.2)
/-- i minutes behind n -/
noncomputable def pTk (lP : Nat → Int32 → (Nat → Int32) → β → β) (tB : Int32 → Int32 → β → β) (nB : Int32 → (Nat → Int32) → β → β) (w : Int32 → Int32 → Int32) (BL : Nat → List Sp3) (m : Nat) (n : Int32) : Nat → Pst β → Pst β
  | 0, s => s
  | i + 1, s => pMen lP tB (n + Int32.ofNat (i + 1)) w BL m (pOv nB (n + Int32.ofNat i) (pTk lP tB nB w BL m n i s))
/-- what holds of all men, and of the rows that are theirs -/
noncomputable def pI (w : Int32 → Int32 → Int32) (BL : Nat → List Sp3) (nb rw : Nat) (own : Nat → Int32) (m : Nat) (s : Pst β) : Prop := ∀ j, j < m → Km w BL nb rw (s.1 j) ∧ s.1 j 0 = Int32.ofNat j ∧ (s.1 j 4 = 1 → ∀ k : Nat, (s.1 j 11).toInt ≤ (k : Int) → (k : Int) < (s.1 j 12).toInt → s.2.1 k = 0 ∧ own k = Int32.ofNat j)
theorem pX_of {BL : Nat → List Sp3} {M : Nat → Int32} {i : Nat} {x : Sp3} {L : List Sp3} (l : i ≤ 1000) (e9 : M 9 = Int32.ofNat i) (hd : (BL (M 8).toNatClampNeg).drop i = x :: L) : pX BL M = (x, L) := by
  unfold pX
  rw [e9, on_k (by omega), hd]
theorem fGo_e {n : Int32} {w : Int32 → Int32 → Int32} {x : Sp3} {L : List Sp3} {M : Nat → Int32} (n1 : ¬ M 4 = 1) : (fGo n w x L M).2 = [] := by
  unfold fGo
  rw [if_neg n1]
  split
  · rfl
  · split <;> rfl
/-- the parts of KmB, with the step and those behind it as they are found -/
theorem kmb_x {BL : Nat → List Sp3} {nb rw : Nat} {M : Nat → Int32} (hl : ∀ k, k < nb → (BL k).length ≤ 150) (B : KmB BL nb rw M) : ∃ i, i + ((pX BL M).2.length + 1) = (BL (M 8).toNatClampNeg).length ∧ i ≤ 150 ∧ (0 ≤ (M 8).toInt ∧ (M 8).toNatClampNeg < nb) ∧ (BL (M 8).toNatClampNeg).drop i = (pX BL M).1 :: (pX BL M).2 ∧ M 9 = Int32.ofNat i ∧ (((pX BL M).1.1 = 1 ∨ (pX BL M).1.1 = 3) → M 6 = -1) ∧ 0 ≤ (M 11).toInt ∧ (M 11).toInt + (((if (pX BL M).1.1 = 2 ∧ decide (¬ M 6 = -1) = true then 1 else 0) + mts (pX BL M).2 : Nat) : Int) = (M 12).toInt ∧ (M 12).toInt ≤ (rw : Int) := by
  obtain ⟨i, x, L, b8, hd, e9, h6, r0, r1, r2⟩ := B
  have ln := congrArg List.length hd
  rw [List.length_drop] at ln
  have ln : (BL (M 8).toNatClampNeg).length - i = L.length + 1 := ln
  have hb := hl _ b8.2
  have e := pX_of (BL := BL) (M := M) (i := i) (by omega) e9 hd
  rw [e]
  exact ⟨i, by show i + (L.length + 1) = _; omega, by omega, b8, hd, e9, h6, r0, r1, r2⟩
theorem pI_man {lP : Nat → Int32 → (Nat → Int32) → β → β} {tB : Int32 → Int32 → β → β} {n : Int32} {w : Int32 → Int32 → Int32} {BL : Nat → List Sp3} {nb rw m : Nat} {own : Nat → Int32} {s : Pst β} (W : WOk w) (hb : ∀ k x, k < nb → x ∈ BL k → stR x) (hl : ∀ k, k < nb → (BL k).length ≤ 150) (r4 : rw ≤ 400) (p0 : 0 ≤ n.toInt) (H : pI w BL nb rw own m s) {j : Nat} (hj : j < m) (m12 : m ≤ 12) : pI w BL nb rw own m (pMan lP tB n w BL j s) := by
  unfold pMan
  by_cases y : s.1 j 7 = n
  · rw [if_pos y]
    obtain ⟨K, e0, O⟩ := H j hj
    have n0 : ¬ s.1 j 4 = 0 := fun e => by
      have z := (K.1.2.2.2.1 e).2
      rw [z] at y
      rw [← y] at p0
      exact absurd p0 (by decide)
    have Rg := Rk.go (n := n) (w := w) (x := (pX BL (s.1 j)).1) (L := (pX BL (s.1 j)).2) (M := s.1 j)
    have KG : Km w BL nb rw (pGo n w BL (s.1 j)).1 := by
      by_cases y1 : s.1 j 4 = 1
      · obtain ⟨i, _, _, b8, hd, e9, _, r0, r1, r2⟩ := kmb_x hl (K.2 y1)
        exact km_go W hb hl r4 n0 K (i := i) (fun _ => ⟨hd, e9, b8, r0, r1, r2⟩)
      · exact km_go W hb hl r4 n0 K (i := 0) (fun e => absurd e y1)
    have e11 : (pGo n w BL (s.1 j)).1 11 = s.1 j 11 + Int32.ofNat (pGo n w BL (s.1 j)).2.length := Rg.2.2.2.1
    have e12 : (pGo n w BL (s.1 j)).1 12 = s.1 j 12 := Rg.1 12 (by decide)
    have own' : ∀ k : Nat, (s.1 j 11).toNatClampNeg ≤ k → k < (s.1 j 11).toNatClampNeg + (pGo n w BL (s.1 j)).2.length → own k = Int32.ofNat j ∧ 0 ≤ (s.1 j 11).toInt := fun k a b => by
      by_cases y1 : s.1 j 4 = 1
      · obtain ⟨i, _, _, b8, hd, e9, _, r0, r1, r2⟩ := kmb_x hl (K.2 y1)
        have n11 := n_nat r0
        have ll : (pGo n w BL (s.1 j)).2.length ≤ _ := Rg.2.2.1
        exact ⟨(O y1 k (by omega) (by omega)).2, r0⟩
      · have e : (pGo n w BL (s.1 j)).2 = [] := fGo_e y1
        rw [e] at b
        exact absurd b (by show ¬ k < _ + 0; omega)
    intro i hi
    by_cases c : i = j
    · subst c
      refine ⟨?_, ?_, ?_⟩
      · show Km w BL nb rw (if i = i then _ else _)
        rw [if_pos rfl]
        exact KG
      · show (if i = i then (pGo n w BL (s.1 i)).1 else s.1 i) 0 = _
        rw [if_pos rfl]
        exact (Rg.1 0 (by decide)).trans e0
      · show (if i = i then (pGo n w BL (s.1 i)).1 else s.1 i) 4 = 1 → ∀ k : Nat, ((if i = i then (pGo n w BL (s.1 i)).1 else s.1 i) 11).toInt ≤ (k : Int) → (k : Int) < ((if i = i then (pGo n w BL (s.1 i)).1 else s.1 i) 12).toInt → rz Prod.fst (s.1 i 11).toNatClampNeg (pGo n w BL (s.1 i)).2 s.2.1 k = 0 ∧ own k = Int32.ofNat i
        rw [if_pos rfl]
        intro z4 k ka kb
        rw [e12] at kb
        by_cases y1 : s.1 i 4 = 1
        · obtain ⟨i', _, _, b8, hd, e9, _, r0, r1, r2⟩ := kmb_x hl (K.2 y1)
          have ll : (pGo n w BL (s.1 i)).2.length ≤ _ := Rg.2.2.1
          have n11 := n_nat r0
          have z : (s.1 i 11 + Int32.ofNat (pGo n w BL (s.1 i)).2.length).toInt = (s.1 i 11).toInt + ((pGo n w BL (s.1 i)).2.length : Int) := by rw [tx_add (by rw [on_j (by omega)]; omega) (by rw [on_j (by omega)]; omega), on_j (by omega)]
          rw [e11, z] at ka
          rw [rz_o Prod.fst _ _ _ k (Or.inr (by omega))]
          exact O y1 k (by omega) kb
        · exfalso
          have q := (KG.2 z4)
          have f : (pGo n w BL (s.1 i)).1 4 ≠ 1 := by
            unfold pGo fGo
            rw [if_neg y1]
            split
            · show fFree (fCm (s.1 i)) 4 ≠ 1
              unfold fFree
              rw [up1_ne (by decide), up1_at]
              decide
            · split
              · rename_i y2 y3
                show fDr n w (fCm (s.1 i)) 4 ≠ 1
                have c4 : fCm (s.1 i) 4 = 3 := by
                  unfold fCm
                  split
                  · rw [up1_ne (by decide)]; exact y3
                  · rw [up1_ne (by decide), up1_ne (by decide), up1_ne (by decide)]; exact y3
                unfold fDr
                split
                · rw [sOut_k (by decide) (by decide) (by decide), c4]; decide
                · split
                  · rw [up1_ne (by decide), c4]; decide
                  · unfold fHome
                    split
                    · rw [sOut_k (by decide) (by decide) (by decide), up1_at]; decide
                    · unfold fFree
                      rw [up1_ne (by decide), up1_at]; decide
              · show fCm (s.1 i) 4 ≠ 1
                have c4 : fCm (s.1 i) 4 = s.1 i 4 := by
                  unfold fCm
                  split
                  · rw [up1_ne (by decide)]
                  · rw [up1_ne (by decide), up1_ne (by decide), up1_ne (by decide)]
                rw [c4]
                exact y1
          exact f z4
    · obtain ⟨Ki, ei, Oi⟩ := H i hi
      refine ⟨?_, ?_, ?_⟩
      · show Km w BL nb rw (if i = j then _ else _)
        rw [if_neg c]
        exact Ki
      · show (if i = j then (pGo n w BL (s.1 j)).1 else s.1 i) 0 = _
        rw [if_neg c]
        exact ei
      · show (if i = j then (pGo n w BL (s.1 j)).1 else s.1 i) 4 = 1 → ∀ k : Nat, ((if i = j then (pGo n w BL (s.1 j)).1 else s.1 i) 11).toInt ≤ (k : Int) → (k : Int) < ((if i = j then (pGo n w BL (s.1 j)).1 else s.1 i) 12).toInt → rz Prod.fst (s.1 j 11).toNatClampNeg (pGo n w BL (s.1 j)).2 s.2.1 k = 0 ∧ own k = Int32.ofNat i
        rw [if_neg c]
        intro z4 k ka kb
        have q := Oi z4 k ka kb
        refine ⟨?_, q.2⟩
        by_cases cr : (s.1 j 11).toNatClampNeg ≤ k ∧ k < (s.1 j 11).toNatClampNeg + (pGo n w BL (s.1 j)).2.length
        · have o := (own' k cr.1 cr.2).1
          rw [q.2] at o
          have z := congrArg Int32.toInt o
          rw [on_j (by omega), on_j (by omega)] at z
          exact absurd (by omega) c
        · rw [rz_o Prod.fst _ _ _ k (by omega)]
          exact q.1
  · rw [if_neg y]
    exact H
theorem pI_men {lP : Nat → Int32 → (Nat → Int32) → β → β} {tB : Int32 → Int32 → β → β} {n : Int32} {w : Int32 → Int32 → Int32} {BL : Nat → List Sp3} {nb rw m : Nat} {own : Nat → Int32} (W : WOk w) (hb : ∀ k x, k < nb → x ∈ BL k → stR x) (hl : ∀ k, k < nb → (BL k).length ≤ 150) (r4 : rw ≤ 400) (p0 : 0 ≤ n.toInt) (m12 : m ≤ 12) : ∀ (j : Nat) {s : Pst β}, j ≤ m → pI w BL nb rw own m s → pI w BL nb rw own m (pMen lP tB n w BL j s)
  | 0, _, _, H => H
  | j + 1, _, hj, H => pI_man W hb hl r4 p0 (pI_men W hb hl r4 p0 m12 j (by omega) H) (by omega) m12
theorem pI_tk {lP : Nat → Int32 → (Nat → Int32) → β → β} {tB : Int32 → Int32 → β → β} {nB : Int32 → (Nat → Int32) → β → β} {n : Int32} {w : Int32 → Int32 → Int32} {BL : Nat → List Sp3} {nb rw m : Nat} {own : Nat → Int32} (W : WOk w) (hb : ∀ k x, k < nb → x ∈ BL k → stR x) (hl : ∀ k, k < nb → (BL k).length ≤ 150) (r4 : rw ≤ 400) (p0 : 0 ≤ n.toInt ∧ n.toInt ≤ 20000) (m12 : m ≤ 12) : ∀ (i : Nat) {s : Pst β}, i ≤ 20000 → pI w BL nb rw own m s → pI w BL nb rw own m (pTk lP tB nB w BL m n i s)
  | 0, _, _, H => H
  | i + 1, _, hi, H => pI_men W hb hl r4 (by rw [tx_add (by rw [on_j (by omega)]; omega) (by rw [on_j (by omega)]; omega), on_j (by omega)]; omega) m12 m (Nat.le_refl _) (pI_tk W hb hl r4 p0 m12 i (by omega) H)
end MEN
theorem c_mkH1 (d : Nat) {h : Hp_} (I : Iv h) {c N n : Nat} (hc : h_r h 0 15 = some c) (hs : h_sh h c = some (3, N)) (hN : N ≤ 20000) (hn : N < n) (hn2 : n ≤ 20000) : Cv (m_X11_makeHistory (d + 2) 1 (hwant n N)) [.ref 0, .int (Int32.ofNat n)] h (fun h' => Iv h' ∧ Mf [15] h h' ∧ h_i h' 0 = h_i h 0 ∧ ∃ c', h_r h' 0 15 = some c' ∧ h_sh h' c' = some (3, hwant n N)) := by
  have w := I.1
  have e1 := on_i hN
  have e2 := on_i (n := n) (by omega)
  have t2 : (2 : Int32).toInt = 2 := rfl
  have t20 : (20000 : Int32).toInt = 20000 := rfl
  have lW : hwant n N ≤ 20000 := by unfold hwant; omega
  have gW : N < hwant n N := by unfold hwant; omega
  have eW := on_i lW
  obtain ⟨g, g1, g2, g3⟩ := I.2.2.2.2.2.2.2.1 c N hc hs
  have k15 : g ≤ 15 := by
    rcases Nat.lt_or_ge 15 g with y | y
    · exfalso
      have p : 2 ^ 15 ≤ 2 ^ (g - 1) := Nat.pow_le_pow_right (by omega) (by omega)
      rw [pw15] at p
      rcases g2 with q | q | q
      · omega
      · omega
      · omega
    · exact y
  have hgW : 2 ^ g ≤ hwant n N ∨ hwant n N = 20000 := by
    rcases g2 with q | q | q
    · left; rw [q]; show 1 ≤ _; omega
    · rcases Nat.lt_or_ge 20000 (2 * N) with y | y
      · right; unfold hwant; omega
      · left
        rcases Nat.eq_zero_or_pos g with u | u
        · rw [u]; show 1 ≤ _; omega
        · have : 2 ^ g = 2 * 2 ^ (g - 1) := by rw [← Nat.pow_succ']; congr 1; omega
          rw [this]
          unfold hwant
          omega
    · omega
  have fb := g3 (420 + g) (Nat.le_refl _) (by omega)
  refine Ct.of (fun _ _ _ => trivial) pn_X11 (Nat.le_of_ble_eq_true rfl) ?_
  show AW (m_X11_makeHistory (d + 2) 1 (hwant n N)) 0 0 0 [(0, .ref 0), (1, .int (Int32.ofNat n))] [] h (kV _)
  refine aw_iload_n (i := 1) rfl d_X11_makeHistory_0 1 rfl ?_
  refine aw_aload_n (i := 0) rfl d_X11_makeHistory_1 0 rfl ?_
  refine aw_getr (k0 := 15) kc_11 (ws_0 w) (Nat.le_of_ble_eq_true rfl) tw_502 d_X11_makeHistory_2 rfl hc ?_
  refine aw_alen (t := 3) (n := N) (v := Int32.ofNat N) hs (by decide) rfl d_X11_makeHistory_5 ?_
  refine aw_icmp_le (tgt := 39) d_X11_makeHistory_6 rfl (fun y => by have := q_le.mp y; omega) (fun _ => ?_)
  refine aw_iload_n (i := 1) rfl d_X11_makeHistory_9 1 rfl ?_
  refine aw_iconst (v := 2) d_X11_makeHistory_10 ic_2 ?_
  refine aw_aload_n (i := 0) rfl d_X11_makeHistory_11 0 rfl ?_
  refine aw_getr (k0 := 15) kc_11 (ws_0 w) (Nat.le_of_ble_eq_true rfl) tw_502 d_X11_makeHistory_12 rfl hc ?_
  refine aw_alen (t := 3) (n := N) (v := Int32.ofNat N) hs (by decide) rfl d_X11_makeHistory_15 ?_
  refine aw_imul d_X11_makeHistory_16 ?_
  have em : (2 * Int32.ofNat N).toInt = 2 * (N : Int) := by rw [tx_mul (by rw [t2]; omega) (by rw [t2]; omega), t2, e1]
  refine aw_sipush (v := 20000) d_X11_makeHistory_17 is_20000 ?_
  refine aw_mmin d_X11_makeHistory_20 tw_999 (show 1 ≤ d + 2 by omega) (Nat.le_trans (Nat.le_of_ble_eq_true rfl) (show 100 ≤ 100 * (d + 2) by omega)) ⟨Nat.zero_le _, Nat.zero_le _⟩ ?_
  refine aw_mmax d_X11_makeHistory_23 tw_1000 (show 1 ≤ d + 2 by omega) (Nat.le_trans (Nat.le_of_ble_eq_true rfl) (show 100 ≤ 100 * (d + 2) by omega)) ⟨Nat.zero_le _, Nat.zero_le _⟩ ?_
  refine aw_vi (v2 := Int32.ofNat (hwant n N)) (by
    refine Int32.toInt_inj.mp ?_
    rw [eW]
    unfold hwant
    split
    · rename_i y
      have y := q_lt.mp y
      split
      · rename_i z
        have z := q_lt.mp z
        omega
      · rename_i z
        have z := q_nlt z
        omega
    · rename_i y
      have y := q_nlt y
      split
      · rename_i z
        have z := q_lt.mp z
        omega
      · rename_i z
        have z := q_nlt z
        omega) ?_
  refine aw_istore_n (i := 2) rfl [(0, .ref 0), (1, .int (Int32.ofNat n)), (2, .int (Int32.ofNat (hwant n N)))] d_X11_makeHistory_26 (Nat.le_of_ble_eq_true rfl) rfl rfl ?_
  refine aw_aload_n (i := 0) rfl d_X11_makeHistory_27 0 rfl ?_
  refine aw_aload_n (i := 0) rfl d_X11_makeHistory_28 0 rfl ?_
  refine aw_getr (k0 := 15) kc_11 (ws_0 w) (Nat.le_of_ble_eq_true rfl) tw_502 d_X11_makeHistory_29 rfl hc ?_
  refine aw_iload_n (i := 2) rfl d_X11_makeHistory_32 2 rfl ?_
  refine aw_callS (vs := [.ref c, .int (Int32.ofNat (hwant n N))]) (rest := [.ref 0]) d_X11_makeHistory_33 (cS_J7_copyOf_c38d5 (d + 1) 1 (hwant n N)).1 (cS_J7_copyOf_c38d5 (d + 1) 1 (hwant n N)).2 tw_1001 rfl ⟨show d + 1 + 1 ≤ d + 2 by omega, show 8 + (3 + 11) + 100 * (d + 1) ≤ 100 * (d + 2) by omega⟩ (by decide) ⟨show 0 + 1 ≤ 1 by omega, show 0 + hwant n N ≤ hwant n N by omega⟩ xs0 (c_copyOf d hs fb (by omega) gW lW) (fun v h' kk => ?_)
  obtain ⟨ev, f, eh⟩ := kk
  rw [ev, eh]
  have s0 : h_sh (h_lw (h_nw h (420 + g) 3 (hwant n N)) (420 + g) f) 0 = some (21, 16) := by rw [h_sh_lw, y_sh, if_neg (by omega)]; exact ws_0 w
  refine aw_putr (k0 := 15) kc_11 s0 (Nat.le_of_ble_eq_true rfl) tw_502 d_X11_makeHistory_36 rfl rfl ?_
  have sh : ∀ a, h_sh (h_rm (h_lw (h_nw h (420 + g) 3 (hwant n N)) (420 + g) f) 0 15 (some (420 + g))) a = if a = 420 + g then some (3, hwant n N) else h_sh h a := fun a => by rw [h_sh_rm, h_sh_lw, y_sh]
  have hi : ∀ a k, a ≠ 420 + g → h_i (h_rm (h_lw (h_nw h (420 + g) 3 (hwant n N)) (420 + g) f) 0 15 (some (420 + g))) a k = h_i h a k := fun a k z => by
    rw [h_i_rm]
    show h_i (h_nw h (420 + g) 3 (hwant n N)) a k = _
    rw [y_i, if_neg z]
  have hr : ∀ a k, a ≠ 420 + g → ¬ (a = 0 ∧ k = 15) → h_r (h_rm (h_lw (h_nw h (420 + g) 3 (hwant n N)) (420 + g) f) 0 15 (some (420 + g))) a k = h_r h a k := fun a k z z2 => by
    rw [h_r_rm, if_neg z2]
    show h_r (h_nw h (420 + g) 3 (hwant n N)) a k = _
    rw [y_r, if_neg z]
  have h15 : h_r (h_rm (h_lw (h_nw h (420 + g) 3 (hwant n N)) (420 + g) f) 0 15 (some (420 + g))) 0 15 = some (420 + g) := by rw [h_r_rm, if_pos ⟨rfl, rfl⟩]
  exact aw_vret rfl d_X11_makeHistory_39 ⟨show 0 + 1 ≤ 1 by omega, show 0 + hwant n N ≤ hwant n N by omega⟩ ⟨rfl, Iv_hist I hc hs k15 hgW g3 lW (by omega) sh hi hr h15, ⟨fun k => hi 1 k (by omega), fun a h1 h2 k => hi a k (by omega), by rw [sh, if_neg (by omega)], fun a k ha hw => ⟨hi a k (by omega), hr a k (by omega) (fun z => by rw [z.1, z.2] at hw; exact absurd hw (by decide +kernel))⟩⟩, funext (fun k => hi 0 k (by omega)), 420 + g, h15, by rw [sh, if_pos rfl]⟩
/-! MEN, the class: the minutes of a tick -/
theorem tg_in (d mc ms kc ks : Nat) (hk : kc ≤ mc ∧ ks ≤ ms) (x1 x2 : Int32) (K : Option Value → Hp_ → Prop) (V : Nat → Hp_ → Prop) (m : Nat) (m12 : m ≤ 12) (hI : ∀ j h, V j h → Iv h ∧ h_i h 0 7 = Int32.ofNat m) (hr : ∀ j h, V j h → j < m → h_r h 15 j = some (401 + j) ∧ Cn h (401 + j)) (s0 : ∀ j h, V j h → j < m → ¬ h_i h (401 + j) 7 = h_i h 0 0 → V (j + 1) h) (s1 : ∀ j h, V j h → j < m → h_i h (401 + j) 7 = h_i h 0 0 → Cv (m_X11_goOn (d + 7) 0 0) [.ref 0, .ref (401 + j)] h (fun h' => V (j + 1) h')) (O : ∀ h, V m h → AW (m_X11_tick (d + 8) mc ms) kc ks 112 [(0, .ref 0), (1, .int x1), (2, .int x2)] [] h K) : ∀ (r j : Nat) (h : Hp_), j + r = m → V j h → AW (m_X11_tick (d + 8) mc ms) kc ks 67 [(0, .ref 0), (1, .int x1), (2, .int x2), (3, .int (Int32.ofNat j))] [] h K := by
  intro r
  induction r with
  | zero =>
    intro j h ej t
    have I := (hI j h t).1
    have e7 := (hI j h t).2
    have w := I.1
    have ej : j = m := by omega
    subst ej
    refine aw_iload_n (i := 3) rfl d_X11_tick_67 3 rfl ?_
    refine aw_aload_n (i := 0) rfl d_X11_tick_68 0 rfl ?_
    refine aw_geti (k0 := 7) kc_11 (ws_0 w) (Nat.le_of_ble_eq_true rfl) tw_494 d_X11_tick_69 rfl ?_
    refine aw_icmp_ge (tgt := 112) d_X11_tick_72 rfl (fun _ => aw_lvp [0, 1, 2] _ rfl (O h t)) (fun z => ?_)
    have z := q_nle z
    rw [e7] at z
    omega
  | succ r ih =>
    intro j h ej t
    have I := (hI j h t).1
    have e7 := (hI j h t).2
    have w := I.1
    have hj : j < m := by omega
    obtain ⟨q, hb⟩ := hr j h t hj
    have kj : (Int32.ofNat j).toNatClampNeg = j := on_k (by omega)
    refine aw_iload_n (i := 3) rfl d_X11_tick_67 3 rfl ?_
    refine aw_aload_n (i := 0) rfl d_X11_tick_68 0 rfl ?_
    refine aw_geti (k0 := 7) kc_11 (ws_0 w) (Nat.le_of_ble_eq_true rfl) tw_494 d_X11_tick_69 rfl ?_
    refine aw_icmp_ge (tgt := 112) d_X11_tick_72 rfl (fun z => ?_) (fun _ => ?_)
    · have z := q_le.mp z
      rw [e7, on_j (by omega), on_j (by omega)] at z
      omega
    · have on : ∀ (v : Value) (h' : Hp_), V (j + 1) h' → AW (m_X11_tick (d + 8) mc ms) kc ks 106 [(0, .ref 0), (1, .int x1), (2, .int x2), (3, .int (Int32.ofNat j)), (4, v)] [] h' K := by
        intro v h' t'
        refine aw_lvp [0, 1, 2, 3] [(0, .ref 0), (1, .int x1), (2, .int x2), (3, .int (Int32.ofNat j))] rfl ?_
        refine aw_iinc (v := (Int32.ofNat j + 1)) [(0, .ref 0), (1, .int x1), (2, .int x2), (3, .int (Int32.ofNat j + 1))] d_X11_tick_106 3 rfl rfl (Nat.le_of_ble_eq_true rfl) rfl rfl ?_
        refine aw_goto (tgt := 67) d_X11_tick_109 rfl ?_
        rw [on_s (by omega)]
        exact ih (j + 1) h' (by omega) t'
      refine aw_aload_n (i := 0) rfl d_X11_tick_75 0 rfl ?_
      refine aw_getr (k0 := 6) kc_11 (ws_0 w) (Nat.le_of_ble_eq_true rfl) tw_493 d_X11_tick_76 rfl (wr_0_6 w) ?_
      refine aw_iload_n (i := 3) rfl d_X11_tick_79 3 rfl ?_
      have hv : vp_in (Int32.ofNat j) 12 := on_in (by omega) (by decide)
      refine aw_aaldr (ws_15 w) hv (by rw [kj]; exact q) d_X11_tick_80 ?_
      refine aw_astore (i := 4) [(0, .ref 0), (1, .int x1), (2, .int x2), (3, .int (Int32.ofNat j)), (4, .ref (401 + j))] d_X11_tick_81 (Nat.le_of_ble_eq_true rfl) rfl rfl ?_
      refine aw_aload d_X11_tick_83 4 rfl ?_
      refine aw_ifnull d_X11_tick_85 ?_
      refine aw_aload d_X11_tick_88 4 rfl ?_
      refine aw_geti (k0 := 7) kc_2 hb.2.2 (Nat.le_of_ble_eq_true rfl) tw_587 d_X11_tick_90 rfl ?_
      refine aw_aload_n (i := 0) rfl d_X11_tick_93 0 rfl ?_
      refine aw_geti (k0 := 0) kc_11 (ws_0 w) (Nat.le_of_ble_eq_true rfl) tw_487 d_X11_tick_94 rfl ?_
      refine aw_icmp_ne (tgt := 106) d_X11_tick_97 rfl (fun z => on _ h (s0 j h t hj z)) (fun z => ?_)
      refine aw_aload_n (i := 0) rfl d_X11_tick_100 0 rfl ?_
      refine aw_aload d_X11_tick_101 4 rfl ?_
      refine aw_Vv 0 [.ref (401 + j)] [] d_X11_tick_103 (cV_X11_goOn (d + 7) 0 0) kc_11 (ws_0 w) tw_1015 rfl ⟨⟨show d + 7 + 1 ≤ d + 8 by omega, show 8 + (_ + 11) + 100 * (d + 7) ≤ 100 * (d + 8) from Nat.le_trans (Nat.add_le_add_right (Nat.le_of_ble_eq_true rfl : 8 + (_ + 11) ≤ 100) _) (by omega)⟩, hk.1, hk.2⟩ (Nat.le_of_ble_eq_true rfl) xs0 (s1 j h t hj z) (fun h' t' => on _ h' t')
theorem tg_out (d mc ms kc ks : Nat) (hk : kc ≤ mc ∧ ks ≤ ms) (x1 n0 : Int32) (c N k1 : Nat) (ex : x1 = Int32.ofNat k1) (k15 : k1 ≤ 1500) (p0 : 0 ≤ n0.toInt) (pN : n0.toInt + (k1 : Int) ≤ (N : Int)) (lN : N ≤ 20000) (U : Nat → Hp_ → Prop) (V : Nat → Nat → Hp_ → Prop) (m : Nat) (m12 : m ≤ 12)
    (hU : ∀ i h, U i h → Iv h ∧ h_r h 0 15 = some c ∧ h_sh h c = some (3, N) ∧ h_i h 0 0 = n0 + Int32.ofNat i)
    (mk : ∀ i h, U i h → i < k1 → Iv (h_im (h_lm h c (h_i h 0 0).toNatClampNeg (h_l h 0 14)) 0 0 (n0 + Int32.ofNat (i + 1))) → V i 0 (h_im (h_lm h c (h_i h 0 0).toNatClampNeg (h_l h 0 14)) 0 0 (n0 + Int32.ofNat (i + 1))))
    (fin : ∀ i h, V i m h → U (i + 1) h)
    (hI : ∀ i j h, V i j h → Iv h ∧ h_i h 0 7 = Int32.ofNat m) (hr : ∀ i j h, V i j h → j < m → h_r h 15 j = some (401 + j) ∧ Cn h (401 + j)) (s0 : ∀ i j h, V i j h → j < m → ¬ h_i h (401 + j) 7 = h_i h 0 0 → V i (j + 1) h) (s1 : ∀ i j h, i < k1 → V i j h → j < m → h_i h (401 + j) 7 = h_i h 0 0 → Cv (m_X11_goOn (d + 7) 0 0) [.ref 0, .ref (401 + j)] h (fun h' => V i (j + 1) h')) :
    ∀ (r i : Nat) (h : Hp_), i + r = k1 → U i h → AW (m_X11_tick (d + 8) mc ms) kc ks 37 [(0, .ref 0), (1, .int x1), (2, .int (Int32.ofNat i))] [] h (kI (fun q h' => U k1 h' ∧ q = h_i h' 0 0)) := by
  intro r
  induction r with
  | zero =>
    intro i h ei t
    have w := (hU i h t).1.1
    have ei : i = k1 := by omega
    subst ei
    refine aw_iload_n (i := 2) rfl d_X11_tick_37 2 rfl ?_
    refine aw_iload_n (i := 1) rfl d_X11_tick_38 1 rfl ?_
    refine aw_icmp_ge (tgt := 118) d_X11_tick_39 rfl (fun _ => ?_) (fun z => by have z := q_nle z; rw [ex] at z; omega)
    refine aw_aload_n (i := 0) rfl d_X11_tick_118 0 rfl ?_
    refine aw_geti (k0 := 0) kc_11 (ws_0 w) (Nat.le_of_ble_eq_true rfl) tw_487 d_X11_tick_119 rfl ?_
    exact aw_iret rfl d_X11_tick_122 hk ⟨_, rfl, t, rfl⟩
  | succ r ih =>
    intro i h ei t
    obtain ⟨I, hc, hs, ey⟩ := hU i h t
    have w := I.1
    have hi : i < k1 := by omega
    have oi := on_j (n := i) (by omega)
    have oi1 := on_j (n := i + 1) (by omega)
    have ok := on_j (n := k1) (by omega)
    have y0 : (n0 + Int32.ofNat i).toInt = n0.toInt + (i : Int) := by rw [tx_add (by omega) (by omega), oi]
    have y1 : (n0 + Int32.ofNat (i + 1)).toInt = n0.toInt + ((i + 1 : Nat) : Int) := by rw [tx_add (by omega) (by omega), oi1]
    have ys : n0 + Int32.ofNat i + 1 = n0 + Int32.ofNat (i + 1) := by rw [Int32.add_assoc, on_s (by omega)]
    refine aw_iload_n (i := 2) rfl d_X11_tick_37 2 rfl ?_
    refine aw_iload_n (i := 1) rfl d_X11_tick_38 1 rfl ?_
    refine aw_icmp_ge (tgt := 118) d_X11_tick_39 rfl (fun z => by have z := q_le.mp z; rw [ex] at z; omega) (fun _ => ?_)
    refine aw_aload_n (i := 0) rfl d_X11_tick_42 0 rfl ?_
    refine aw_getr (k0 := 15) kc_11 (ws_0 w) (Nat.le_of_ble_eq_true rfl) tw_502 d_X11_tick_43 rfl hc ?_
    refine aw_aload_n (i := 0) rfl d_X11_tick_46 0 rfl ?_
    refine aw_geti (k0 := 0) kc_11 (ws_0 w) (Nat.le_of_ble_eq_true rfl) tw_487 d_X11_tick_47 rfl ?_
    refine aw_aload_n (i := 0) rfl d_X11_tick_50 0 rfl ?_
    refine aw_getl (k0 := 14) kc_11 (ws_0 w) (Nat.le_of_ble_eq_true rfl) tw_501 d_X11_tick_51 rfl ?_
    refine aw_last hs (dp_in (lo := 0) (hi := (N : Int) - 1) ⟨by rw [ey]; show (0 : Int) ≤ _; omega, by rw [ey]; show _ ≤ (N : Int) - 1; omega⟩ (by omega) (by omega)) d_X11_tick_54 ?_
    have mk' := mk i h t hi
    have I1 : Iv (h_lm h c (h_i h 0 0).toNatClampNeg (h_l h 0 14)) := I.lm
    generalize hg : h_lm h c (h_i h 0 0).toNatClampNeg (h_l h 0 14) = h1 at I1 mk' ⊢
    have s1' : h_sh h1 = h_sh h := by rw [← hg]; rfl
    have i1 : h_i h1 = h_i h := by rw [← hg]; rfl
    have r1 : h_r h1 = h_r h := by rw [← hg]; rfl
    refine aw_aload_n (i := 0) rfl d_X11_tick_55 0 rfl ?_
    refine aw_dup d_X11_tick_56 rfl ?_
    refine aw_geti (k0 := 0) kc_11 (ws_0 I1.1) (Nat.le_of_ble_eq_true rfl) tw_487 d_X11_tick_57 rfl ?_
    refine aw_iconst (v := 1) d_X11_tick_60 ic_1 ?_
    refine aw_iadd d_X11_tick_61 ?_
    refine aw_vi (v2 := n0 + Int32.ofNat (i + 1)) (by rw [i1, ey, ys]) ?_
    refine aw_puti (k0 := 0) kc_11 (ws_0 I1.1) (Nat.le_of_ble_eq_true rfl) tw_487 d_X11_tick_62 rfl rfl nf_i ?_
    have I2 : Iv (h_im h1 0 0 (n0 + Int32.ofNat (i + 1))) := Iv_now I1 ⟨by show (0 : Int) ≤ _; omega, by show _ ≤ (20000 : Int); omega⟩ (fun c' N' a1 a2 => by
      rw [r1, hc] at a1
      cases a1
      rw [s1', hs] at a2
      cases a2
      omega)
    refine aw_iconst (v := 0) d_X11_tick_65 ic_0 ?_
    refine aw_istore_n (i := 3) rfl [(0, .ref 0), (1, .int x1), (2, .int (Int32.ofNat i)), (3, .int 0)] d_X11_tick_66 (Nat.le_of_ble_eq_true rfl) rfl rfl ?_
    refine tg_in d mc ms kc ks hk x1 (Int32.ofNat i) _ (V i) m m12 (hI i) (hr i) (s0 i) (fun j h t => s1 i j h hi t) (fun h' t' => ?_) m 0 _ (by omega) (mk' I2)
    refine aw_iinc (v := (Int32.ofNat i + 1)) [(0, .ref 0), (1, .int x1), (2, .int (Int32.ofNat i + 1))] d_X11_tick_112 2 rfl rfl (Nat.le_of_ble_eq_true rfl) rfl rfl ?_
    refine aw_goto (tgt := 37) d_X11_tick_115 rfl ?_
    rw [on_s (by omega)]
    exact ih (i + 1) h' (by omega) (fin i h' t')
/-! MEN, the class: tick -/
section MEN
variable {β : Type} {PB : β → Hp_ → Prop} {tB : Int32 → Int32 → β → β} {nB : Int32 → (Nat → Int32) → β → β} {lP : Nat → Int32 → (Nat → Int32) → β → β}
/-- a look, by what the class has -/
noncomputable def lXm (lP : Nat → Int32 → (Nat → Int32) → β → β) : Nat → Hp_ → β → β := fun c h b => lP (c - 401) (h_i h 0 0) (fun k => h_i h (401 + k) 5) b
/-- what else is kept as minutes pass, and as the row of history grows -/
noncomputable def PBtk {β : Type} (PB : β → Hp_ → Prop) (nB : Int32 → (Nat → Int32) → β → β) : Prop :=
  (∀ b h c N x, Iv h → h_r h 0 15 = some c → h_sh h c = some (3, N) → (h_i h 0 0).toInt < (N : Int) → PB b h → PB (nB (h_i h 0 0) (fun k => h_i h (401 + k) 5) b) (h_im (h_lm h c (h_i h 0 0).toNatClampNeg (h_l h 0 14)) 0 0 x)) ∧
  (∀ b h h', Iv h → Mf [15] h h' → h_i h' 0 = h_i h 0 → PB b h → PB b h')
/-- the class's men and rows are those of s -/
noncomputable def PcX (PB : β → Hp_ → Prop) (m : Nat) (s : Pst β) (h : Hp_) : Prop := (∀ j, j < m → h_i h (401 + j) = s.1 j) ∧ (h_i h 51 = s.2.1 ∧ h_i h 52 = s.2.2.1 ∧ h_i h 53 = s.2.2.2.1) ∧ PB s.2.2.2.2 h
/-- what a tick leaves as it is -/
noncomputable def Tw (m : Nat) (h0 h : Hp_) : Prop := h_sh h = h_sh h0 ∧ (∀ b k, inw (0 :: wgM) b k = false → h_r h b k = h_r h0 b k) ∧ ∀ b k, inw (0 :: wgM) b k = false → ¬ (401 ≤ b ∧ b < 401 + m) → h_i h b k = h_i h0 b k
theorem Tw.gw {m : Nat} {h0 h h' : Hp_} {c : Nat} (t : Tw m h0 h) (hc : 401 ≤ c ∧ c < 401 + m) (g : Gw c wgM h h') : Tw m h0 h' := ⟨g.1.trans t.1, fun b k o => by
  have o' : inw wgM b k = false := inw_sub (a := wgM) (b := 0 :: wgM) (by decide +kernel) o
  exact ((g.2 b k o').1).trans (t.2.1 b k o), fun b k o n => by
  have o' : inw wgM b k = false := inw_sub (a := wgM) (b := 0 :: wgM) (by decide +kernel) o
  rw [g.i b k (fun e => n (e ▸ hc)) o']
  exact t.2.2 b k o n⟩
/-- the steps of a man on a beat, as the class keeps them -/
theorem btk_of {h : Hp_} (I : Iv h) (S : ExS h) (B : ∀ k, k < (h_i h 12 3).toNatClampNeg → h_i h 35 k = h_i h 227 k) {rw : Nat} {M : Nat → Int32} (K : KmB (bL h) (h_i h 12 3).toNatClampNeg rw M) (er : (rw : Int) = (h_i h 16 7).toInt) : ∃ i, Btk h M i (pX (bL h) M).1 (pX (bL h) M).2 (decide (¬ M 6 = -1)) ∧ ((pX (bL h) M).1.1 = 3 → M 6 = -1) := by
  have b3 := x12_in I
  have n3 := n_nat b3.1
  obtain ⟨i, il, i150, b8, hd, e9, h6, r0, r1, r2⟩ := kmb_x (fun k hk => by rw [bL_l]; exact (z227 I k).1) K
  have n8 := n_nat b8.1
  have z := z227 I (M 8).toNatClampNeg
  rw [bL_l] at il
  refine ⟨i, ⟨⟨⟨b8.1, by omega⟩, ?_, fun k x e => ?_⟩, e9, by omega, ?_, r0, by omega, by omega⟩, fun e => h6 (Or.inr e)⟩
  · show i + ((pX (bL h) M).2.length + 1) ≤ 150
    omega
  · have g : (bL h (M 8).toNatClampNeg)[i + k]? = some x := by
      rw [← hd, List.getElem?_drop] at e
      exact e
    have lk : i + k < (bL h (M 8).toNatClampNeg).length := (List.getElem?_eq_some_iff.mp g).1
    rw [bL_l] at lk
    rw [bL_g lk] at g
    rw [← Option.some.inj g]
    exact S _ b8.2 _ lk
  · rw [B _ b8.2, il]
    exact (of_nat32 (by omega)).symm
/-- the minutes -/
noncomputable def Um (PB : β → Hp_ → Prop) (lP : Nat → Int32 → (Nat → Int32) → β → β) (tB : Int32 → Int32 → β → β) (nB : Int32 → (Nat → Int32) → β → β) (h1 : Hp_) (m : Nat) (n0 : Int32) (s : Pst β) (i : Nat) (h : Hp_) : Prop := Iv h ∧ Tw m h1 h ∧ h_i h 0 0 = n0 + Int32.ofNat i ∧ PcX PB m (pTk lP tB nB (wI h1) (bL h1) m n0 i s) h
noncomputable def Vm (PB : β → Hp_ → Prop) (lP : Nat → Int32 → (Nat → Int32) → β → β) (tB : Int32 → Int32 → β → β) (nB : Int32 → (Nat → Int32) → β → β) (h1 : Hp_) (m : Nat) (n0 : Int32) (s : Pst β) (i j : Nat) (h : Hp_) : Prop := Iv h ∧ Tw m h1 h ∧ h_i h 0 0 = n0 + Int32.ofNat (i + 1) ∧ PcX PB m (pMen lP tB (n0 + Int32.ofNat (i + 1)) (wI h1) (bL h1) j (pOv nB (n0 + Int32.ofNat i) (pTk lP tB nB (wI h1) (bL h1) m n0 i s))) h
/-- what a tick wants to know at its beginning -/
noncomputable def Tko (h : Hp_) (m : Nat) (s : Pst β) : Prop := ExP h ∧ ExS h ∧ (∀ k, k < (h_i h 12 3).toNatClampNeg → h_i h 35 k = h_i h 227 k) ∧ Mrw h ∧ h_i h 0 7 = Int32.ofNat m ∧ m ≤ 12 ∧ pI (wI h) (bL h) (h_i h 12 3).toNatClampNeg (h_i h 16 7).toNatClampNeg (h_i h 47) m s
theorem bL_hb {h : Hp_} (S : ExS h) : ∀ k x, k < (h_i h 12 3).toNatClampNeg → x ∈ bL h k → stR x := fun k x hk hx => by
  obtain ⟨i, hi, e⟩ := bL_m hx
  rw [e]
  exact (S k hk i hi).2
theorem bL_hl {h : Hp_} (I : Iv h) (nb : Nat) : ∀ k, k < nb → (bL h k).length ≤ 150 := fun k _ => by rw [bL_l]; exact (z227 I k).1
/-- one man wakes, the class -/
theorem vm_go (P : PBok PB tB (lXm lP)) (d : Nat) {h1 : Hp_} (I1 : Iv h1) {m : Nat} {s : Pst β} (T : Tko h1 m s) {n0 : Int32} (p0 : 0 ≤ n0.toInt ∧ n0.toInt ≤ 20000) {i j : Nat} (i2 : i < 20000) {h : Hp_} (V : Vm PB lP tB nB h1 m n0 s i j h) (hj : j < m) (yt : h_i h (401 + j) 7 = h_i h 0 0) (lc : ∀ b n f g, (∀ k, k < m → f k = g k) → lP j n f b = lP j n g b) : Cv (m_X11_goOn (d + 7) 0 0) [.ref 0, .ref (401 + j)] h (fun h' => Vm PB lP tB nB h1 m n0 s i (j + 1) h') := by
  obtain ⟨I, tw, en, pc⟩ := V
  obtain ⟨X, S, B, mr, em, m12, pi⟩ := T
  have t0 : (0 : Int32).toInt = 0 := rfl
  have r4 := rowX_in I1
  have nr := n_nat r4.1
  have W := wok I1 X
  have pj := pI_men (lP := lP) (tB := tB) (n := n0 + Int32.ofNat (i + 1)) (m := m) W (bL_hb S) (bL_hl I1 _) (show (h_i h1 16 7).toNatClampNeg ≤ 400 by omega) (by rw [tx_add (by rw [on_j (by omega)]; omega) (by rw [on_j (by omega)]; omega), on_j (by omega)]; omega) m12 j (s := pOv nB (n0 + Int32.ofNat i) (pTk lP tB nB (wI h1) (bL h1) m n0 i s)) (by omega) (pI_tk (nB := nB) W (bL_hb S) (bL_hl I1 _) (show (h_i h1 16 7).toNatClampNeg ≤ 400 by omega) p0 m12 i (by omega) pi)
  generalize hσ : pMen lP tB (n0 + Int32.ofNat (i + 1)) (wI h1) (bL h1) j (pOv nB (n0 + Int32.ofNat i) (pTk lP tB nB (wI h1) (bL h1) m n0 i s)) = σ at pc pj
  obtain ⟨pm, ⟨p51, p52, p53⟩, PBh⟩ := pc
  have hM := pm j hj
  obtain ⟨K, e0, O⟩ := pj j hj
  have b7 := menX_in I1
  rw [em, on_j (by omega)] at b7
  have ym : isM h1 (Int32.ofNat j) := ⟨by rw [on_j (by omega)]; omega, by rw [em, on_j (by omega), on_j (by omega)]; omega⟩
  have hc1 := mr.cn I1 ym
  rw [on_k (by omega)] at hc1
  have hc : Cn h (401 + j) := hc1.of tw.1
  have n00 : ¬ h_i h (401 + j) 4 = 0 := fun e => by
    rw [hM] at e yt
    have z := (K.1.2.2.2.1 e).2
    rw [z, en] at yt
    have z := congrArg Int32.toInt yt
    rw [tx_add (by rw [on_j (by omega)]; omega) (by rw [on_j (by omega)]; omega), on_j (by omega)] at z
    have tm : (-1 : Int32).toInt = -1 := rfl
    omega
  have f : ∀ b k, inw (0 :: wgM) b k = false → ¬ (401 ≤ b ∧ b < 401 + m) → h_i h b k = h_i h1 b k := tw.2.2
  have ew : wI h = wI h1 := by
    funext p q
    unfold wI
    rw [f 30 _ (off_inw (by decide +kernel) _) (by omega)]
  have z := c_go P d I hc PBh n00 (i := if h_i h (401 + j) 4 = 1 then (h_i h (401 + j) 9).toNatClampNeg else 0) (x := (pX (bL h1) (σ.1 j)).1) (L := (pX (bL h1) (σ.1 j)).2) (fun y1 => by
    rw [hM] at y1
    rw [hM, if_pos y1]
    obtain ⟨i', q, q3⟩ := btk_of I1 S B (rw := (h_i h1 16 7).toNatClampNeg) (K.2 y1) nr
    obtain ⟨Sb, e9, b8, e35, R⟩ := q
    have ll : i' + ((pX (bL h1) (σ.1 j)).2.length + 1) ≤ 150 := Sb.2.1
    have e9' : (σ.1 j 9).toNatClampNeg = i' := by rw [e9, on_k (by omega)]
    rw [e9']
    refine ⟨⟨Sb.cg (fun k => f 34 k (off_inw (by decide +kernel) k) (by omega)), e9, ?_, ?_, R.1, R.2.1, ?_⟩, q3⟩
    · rw [f 12 3 (by decide +kernel) (by omega)]
      exact b8
    · rw [f 35 _ (off_inw (by decide +kernel) _) (by omega)]
      exact e35
    · rw [f 16 7 (by decide +kernel) (by omega)]
      exact R.2.2)
  rw [en, ew, hM] at z
  rw [hM, en] at yt
  refine Cv.mono z (fun h' k => ?_)
  have kk := k.2.1.k (by omega)
  refine ⟨k.1, tw.gw ⟨by omega, by omega⟩ k.2.1, kk.2.1.trans en, ?_⟩
  show PcX PB m (pMan lP tB (n0 + Int32.ofNat (i + 1)) (wI h1) (bL h1) j (pMen lP tB (n0 + Int32.ofNat (i + 1)) (wI h1) (bL h1) j (pOv nB (n0 + Int32.ofNat i) (pTk lP tB nB (wI h1) (bL h1) m n0 i s)))) h'
  rw [hσ]
  unfold pMan
  rw [if_pos yt]
  refine ⟨fun l hl => ?_, ⟨?_, ?_, ?_⟩, ?_⟩
  · show h_i h' (401 + l) = if l = j then _ else _
    by_cases c : l = j
    · rw [if_pos c, c]
      exact k.2.2.1
    · rw [if_neg c, ← pm l hl]
      exact funext (fun i => k.2.1.i (401 + l) i (by omega) (inw_man (by omega) (by omega) i))
  · rw [k.2.2.2.1.1, p51]
    rfl
  · rw [k.2.2.2.1.2.1, p52]
    rfl
  · rw [k.2.2.2.1.2.2, p53]
    rfl
  · have q := k.2.2.2.2
    have eb : bL3 (lXm lP) (401 + j) (h_im h (401 + j) 7 (-1)) (pX (bL h1) (σ.1 j)).1 σ.2.2.2.2 = (if σ.1 j 4 = 1 ∧ (pX (bL h1) (σ.1 j)).1.1 = 3 then lP j (n0 + Int32.ofNat (i + 1)) (fun k => σ.1 k 5) σ.2.2.2.2 else σ.2.2.2.2) := by
      unfold bL3 lXm
      have e4 : h_i (h_im h (401 + j) 7 (-1)) (401 + j) 4 = σ.1 j 4 := by rw [im_row, up1_ne (by decide), hM]
      rw [e4, show 401 + j - 401 = j by omega, im_ne (show (0 : Nat) ≠ 401 + j by omega), en]
      by_cases c : σ.1 j 4 = 1 ∧ (pX (bL h1) (σ.1 j)).1.1 = 3
      · rw [if_pos c, if_pos c]
        refine lc _ _ _ _ (fun k hk => ?_)
        show h_i (h_im h (401 + j) 7 (-1)) (401 + k) 5 = σ.1 k 5
        by_cases ck : k = j
        · rw [ck, im_row, up1_ne (by decide), hM]
        · rw [im_ne (by omega), pm k hk]
      · rw [if_neg c, if_neg c]
    rw [eb] at q
    exact q
end MEN
/-! MEN, the class: tick, from its call -/
theorem inw_fx {c k : Nat} (h1 : 401 ≤ c) (h2 : c ≤ 412) (o : inw wsX c k = false) : fx k := by
  have e : cn c = cn 401 := by
    have q := cn_man (j := c - 401) (by omega)
    rw [show 401 + (c - 401) = c by omega] at q
    rw [q]
    decide
  rw [inw_ce e] at o
  refine ⟨?_, ?_, ?_, ?_, ?_, ?_, ?_, ?_⟩ <;> intro z <;> subst z <;> exact absurd o (by decide +kernel)
section MEN
variable {β : Type} {PB : β → Hp_ → Prop} {tB : Int32 → Int32 → β → β} {nB : Int32 → (Nat → Int32) → β → β} {lP : Nat → Int32 → (Nat → Int32) → β → β}
theorem fx_man {n : Int32} {w : Int32 → Int32 → Int32} {BL : Nat → List Sp3} {j l k : Nat} {s : Pst β} (hk : fx k) : (pMan lP tB n w BL j s).1 l k = s.1 l k := by
  unfold pMan
  by_cases y : s.1 j 7 = n
  · rw [if_pos y]
    show (if l = j then (pGo n w BL (s.1 j)).1 else s.1 l) k = s.1 l k
    by_cases c : l = j
    · rw [if_pos c, c]
      exact (Rk.go (n := n) (w := w)).1 k hk
    · rw [if_neg c]
  · rw [if_neg y]
theorem fx_men {n : Int32} {w : Int32 → Int32 → Int32} {BL : Nat → List Sp3} {l k : Nat} (hk : fx k) : ∀ (j : Nat) (s : Pst β), (pMen lP tB n w BL j s).1 l k = s.1 l k
  | 0, _ => rfl
  | j + 1, s => (fx_man hk).trans (fx_men hk j s)
theorem fx_tk {n : Int32} {w : Int32 → Int32 → Int32} {BL : Nat → List Sp3} {m l k : Nat} (hk : fx k) : ∀ (i : Nat) (s : Pst β), (pTk lP tB nB w BL m n i s).1 l k = s.1 l k
  | 0, _ => rfl
  | i + 1, s => (fx_men hk m _).trans (fx_tk hk i s)
theorem Tko.mf {h h1 : Hp_} {m : Nat} {s : Pst β} (M1 : Mf [15] h h1) (T : Tko h m s) : Tko h1 m s ∧ wI h1 = wI h ∧ bL h1 = bL h := by
  obtain ⟨X, S, B, mr, em, m12, pi⟩ := T
  have f : ∀ a k, a < 200 → inw [15] a k = false → h_i h1 a k = h_i h a k := fun a k ha o => (M1.2.2.2 a k (Or.inl ha) o).1
  have fr : ∀ a k, a < 200 → inw [15] a k = false → h_r h1 a k = h_r h a k := fun a k ha o => (M1.2.2.2 a k (Or.inl ha) o).2
  have ew : wI h1 = wI h := by
    funext p q
    unfold wI
    rw [f 30 _ (by omega) (off_inw (by decide +kernel) _)]
  have eb : bL h1 = bL h := by
    funext k
    unfold bL
    have es : sB h1 k = sB h k := by
      funext i
      unfold sB
      rw [M1.2.1 228 (by decide) (by decide), M1.2.1 229 (by decide) (by decide), M1.2.1 230 (by decide) (by decide)]
    rw [es, M1.2.1 227 (by decide) (by decide)]
  have e12 : h_i h1 12 3 = h_i h 12 3 := f 12 3 (by omega) (by decide +kernel)
  have e7 : h_i h1 0 7 = h_i h 0 7 := f 0 7 (by omega) (by decide +kernel)
  refine ⟨⟨X.mf M1 (by decide +kernel), S.mf M1 (by decide +kernel), fun k hk => ?_, fun k hk => ?_, e7.trans em, m12, ?_⟩, ew, eb⟩
  · rw [e12] at hk
    rw [f 35 k (by omega) (off_inw (by decide +kernel) k), M1.2.1 227 (by decide) (by decide)]
    exact B k hk
  · rw [e7] at hk
    rw [fr 15 k (by omega) (off_inw (by decide +kernel) k)]
    exact mr k hk
  · rw [ew, eb, e12, f 16 7 (by omega) (by decide +kernel), show h_i h1 47 = h_i h 47 from funext (fun k => f 47 k (by omega) (off_inw (by decide +kernel) k))]
    exact pi
/-- from the minutes to the frame that the law's loop wants -/
theorem um_mf {h h1 h' : Hp_} {m : Nat} {n0 : Int32} {s : Pst β} {i : Nat} (m12 : m ≤ 12) (M1 : Mf [15] h h1) (i1 : h_i h1 0 = h_i h 0) (mm : ∀ j, j < m → h_i h (401 + j) = s.1 j) (U : Um PB lP tB nB h1 m n0 s i h') : Mf wsX h h' := by
  obtain ⟨_, tw, _, pm, _⟩ := U
  refine ⟨fun k => ?_, fun a l1 l2 k => ?_, ?_, fun a k ha o => ⟨?_, ?_⟩⟩
  · rw [tw.2.2 1 k (off_inw (by decide +kernel) k) (by omega)]
    exact M1.1 k
  · rw [tw.2.2 a k ?_ (by omega)]
    · exact M1.2.1 a l1 l2 k
    · exact off_inw (by
        have z : ∀ a, 200 ≤ a → a < 300 → off (0 :: wgM) a = true := fun a x y => by
          have q : (List.range 100).all (fun i => off (0 :: wgM) (200 + i)) = true := by decide +kernel
          have r := List.all_eq_true.mp q (a - 200) (List.mem_range.mpr (by omega))
          rw [show 200 + (a - 200) = a by omega] at r
          exact r
        exact z a l1 l2) k
  · rw [tw.1]
    exact M1.2.2.1
  · rcases ha with ha | ha
    · have o1 : inw (0 :: wgM) a k = false := inw_sub (a := 0 :: wgM) (b := wsX) (by decide +kernel) o
      have o2 : inw [15] a k = false := inw_sub (a := [15]) (b := wsX) (by decide +kernel) o
      rw [tw.2.2 a k o1 (by omega)]
      exact (M1.2.2.2 a k (Or.inl ha) o2).1
    · have hk := inw_fx ha.1 ha.2 o
      have o2 : inw [15] a k = false := inw_sub (a := [15]) (b := wsX) (by decide +kernel) o
      have ea : a = 401 + (a - 401) := by omega
      rcases Nat.lt_or_ge (a - 401) m with u | u
      · have p := congrFun (pm (a - 401) u) k
        have q := congrFun (mm (a - 401) u) k
        rw [fx_tk hk] at p
        rw [← ea] at p q
        rw [p, q]
      · have o1 : inw (0 :: wgM) a k = false := by
          have e : cn a = cn 401 := by
            have q := cn_man (j := a - 401) (by omega)
            rw [show 401 + (a - 401) = a by omega] at q
            rw [q]
            decide
          rw [inw_ce e]
          exact off_inw (by decide +kernel) k
        rw [tw.2.2 a k o1 (by omega)]
        exact (M1.2.2.2 a k (Or.inr ha) o2).1
  · rcases ha with ha | ha
    · have o1 : inw (0 :: wgM) a k = false := inw_sub (a := 0 :: wgM) (b := wsX) (by decide +kernel) o
      have o2 : inw [15] a k = false := inw_sub (a := [15]) (b := wsX) (by decide +kernel) o
      rw [tw.2.1 a k o1]
      exact (M1.2.2.2 a k (Or.inl ha) o2).2
    · have o2 : inw [15] a k = false := inw_sub (a := [15]) (b := wsX) (by decide +kernel) o
      have o1 : inw (0 :: wgM) a k = false := by
        have e : cn a = cn 401 := by
          have q := cn_man (j := a - 401) (by omega)
          rw [show 401 + (a - 401) = a by omega] at q
          rw [q]
          decide
        rw [inw_ce e]
        exact off_inw (by decide +kernel) k
      rw [tw.2.1 a k o1]
      exact (M1.2.2.2 a k (Or.inr ha) o2).2
/-- tick: refused, or so many minutes -/
noncomputable def Tkx (PB : β → Hp_ → Prop) (lP : Nat → Int32 → (Nat → Int32) → β → β) (tB : Int32 → Int32 → β → β) (nB : Int32 → (Nat → Int32) → β → β) (m N' : Nat) (s : Pst β) (x : Int32) (h : Hp_) (r : Int32) (h' : Hp_) : Prop := (Iv h' ∧ Mf wsX h h' ∧ (∃ c', h_r h' 0 15 = some c' ∧ h_sh h' c' = some (3, N')) ∧ otk (h_i h 0 0) x r (h_i h' 0 0)) ∧ (okt (h_i h 0 0) x → h_i h' 0 0 = h_i h 0 0 + x ∧ PcX PB m (pTk lP tB nB (wI h) (bL h) m (h_i h 0 0) x.toNatClampNeg s) h' ∧ ∀ b k, b < 200 → inw (0 :: 15 :: wgM) b k = false → h_i h' b k = h_i h b k) ∧ (¬ okt (h_i h 0 0) x → h' = h)
theorem c_tkX (P : PBok PB tB (lXm lP)) (P2 : PBtk PB nB) (d : Nat) {h : Hp_} (I : Iv h) {m : Nat} {s : Pst β} (T : Tko h m s) (pc : PcX PB m s h) (lc : ∀ j, j < m → ∀ b n f g, (∀ k, k < m → f k = g k) → lP j n f b = lP j n g b) (nc : ∀ b n f g, (∀ k, k < m → f k = g k) → nB n f b = nB n g b) (x : Int32) {c N : Nat} (hc : h_r h 0 15 = some c) (hs : h_sh h c = some (3, N)) (hN : N ≤ 20000) : ∃ mc ms N', N' ≤ 20000 ∧ hcost mc ms N N' ∧ Ci (m_X11_tick (d + 8) mc ms) [.ref 0, .int x] h (Tkx PB lP tB nB m N' s x h) := by
  have w := I.1
  have t20 : (20000 : Int32).toInt = 20000 := rfl
  have t15 : (1500 : Int32).toInt = 1500 := rfl
  have t0 : (0 : Int32).toInt = 0 := rfl
  have nr := now_in I
  have n0 : 0 ≤ (h_i h 0 0).toInt := nr.1
  have n1 : (h_i h 0 0).toInt ≤ 20000 := nr.2
  by_cases ok : (0 ≤ x ∧ x ≤ 1500) ∧ (h_i h 0 0).toInt + x.toInt ≤ 20000
  · have x0 : 0 ≤ x.toInt := by have := q_le.mp ok.1.1; omega
    have x1 : x.toInt ≤ 1500 := by have := q_le.mp ok.1.2; omega
    have nx := n_nat x0
    have es : (h_i h 0 0 + x).toInt = (h_i h 0 0).toInt + x.toInt := tx_add (by omega) (by omega)
    have en : h_i h 0 0 + x = Int32.ofNat ((h_i h 0 0).toInt + x.toInt).toNat := by
      refine Int32.toInt_inj.mp ?_
      rw [on_i (by omega), es]
      omega
    have go : ∀ mc ms N' : Nat, N' ≤ 20000 → (h_i h 0 0).toInt + x.toInt ≤ (N' : Int) → Cv (m_X11_makeHistory (d + 7) mc ms) [.ref 0, .int (Int32.ofNat ((h_i h 0 0).toInt + x.toInt).toNat)] h (fun h' => Iv h' ∧ Mf [15] h h' ∧ h_i h' 0 = h_i h 0 ∧ ∃ c', h_r h' 0 15 = some c' ∧ h_sh h' c' = some (3, N')) →
        Ci (m_X11_tick (d + 8) mc ms) [.ref 0, .int x] h (Tkx PB lP tB nB m N' s x h) := by
      intro mc ms N' lN' gN' hm
      refine Ct.of (fun _ _ _ => trivial) rfl (Nat.le_of_ble_eq_true rfl) ?_
      show AW (m_X11_tick (d + 8) mc ms) 0 0 0 [(0, .ref 0), (1, .int x)] [] h (kI _)
      refine aw_iload_n (i := 1) rfl d_X11_tick_0 1 rfl ?_
      refine aw_iconst (v := 0) d_X11_tick_1 ic_0 ?_
      refine aw_sipush (v := 1500) d_X11_tick_2 is_1500 ?_
      refine aw_Si [.int x, .int 0, .int 1500] [] d_X11_tick_5 (cS_X11_within (d + 7) 0 0) tw_543 rfl ⟨⟨show d + 7 + 1 ≤ d + 8 by omega, show 8 + (3 + 11) + 100 * (d + 7) ≤ 100 * (d + 8) by omega⟩, Nat.zero_le _, Nat.zero_le _⟩ (by decide) xs0 (s_X11_within (d + 7) h x 0 1500) (fun _ _ kk => ?_)
      obtain ⟨e1, e2⟩ := kk
      rw [e1, e2]
      refine aw_ifb_eq (tgt := 23) d_X11_tick_8 rfl (fun z => absurd ok.1 z) (fun _ => ?_)
      refine aw_aload_n (i := 0) rfl d_X11_tick_11 0 rfl ?_
      refine aw_geti (k0 := 0) kc_11 (ws_0 w) (Nat.le_of_ble_eq_true rfl) tw_487 d_X11_tick_12 rfl ?_
      refine aw_iload_n (i := 1) rfl d_X11_tick_15 1 rfl ?_
      refine aw_iadd d_X11_tick_16 ?_
      refine aw_sipush (v := 20000) d_X11_tick_17 is_20000 ?_
      refine aw_icmp_le (tgt := 25) d_X11_tick_20 rfl (fun _ => ?_) (fun z => by have := q_nle z; omega)
      refine aw_aload_n (i := 0) rfl d_X11_tick_25 0 rfl ?_
      refine aw_aload_n (i := 0) rfl d_X11_tick_26 0 rfl ?_
      refine aw_geti (k0 := 0) kc_11 (ws_0 w) (Nat.le_of_ble_eq_true rfl) tw_487 d_X11_tick_27 rfl ?_
      refine aw_iload_n (i := 1) rfl d_X11_tick_30 1 rfl ?_
      refine aw_iadd d_X11_tick_31 ?_
      refine aw_vi (v2 := Int32.ofNat ((h_i h 0 0).toInt + x.toInt).toNat) en ?_
      refine aw_Vv 0 [.int (Int32.ofNat ((h_i h 0 0).toInt + x.toInt).toNat)] [] d_X11_tick_32 (cV_X11_makeHistory (d + 7) mc ms) kc_11 (ws_0 w) tw_995 rfl ⟨⟨show d + 7 + 1 ≤ d + 8 by omega, show 8 + (3 + 11) + 100 * (d + 7) ≤ 100 * (d + 8) by omega⟩, show 0 + 0 + mc ≤ mc by omega, show 0 + 0 + ms ≤ ms by omega⟩ (by decide) xs0 hm (fun h1 kk => ?_)
      obtain ⟨I1, M1, i1, c', r1, s1⟩ := kk
      refine aw_iconst (v := 0) d_X11_tick_35 ic_0 ?_
      refine aw_istore_n (i := 2) rfl [(0, .ref 0), (1, .int x), (2, .int 0)] d_X11_tick_36 (Nat.le_of_ble_eq_true rfl) rfl rfl ?_
      obtain ⟨T1, ew, eb⟩ := T.mf M1
      have m12 := T.2.2.2.2.2.1
      have fm : ∀ j, j < m → h_i h1 (401 + j) = h_i h (401 + j) := fun j hj => funext (fun k => (M1.2.2.2 (401 + j) k (Or.inr ⟨by omega, by omega⟩) (by
        have e : cn (401 + j) = cn 401 := (cn_man (by omega)).trans (by decide)
        rw [inw_ce e]
        exact off_inw (by decide +kernel) k)).1)
      have f5 : ∀ a, a = 51 ∨ a = 52 ∨ a = 53 → h_i h1 a = h_i h a := fun a ha => funext (fun k => (M1.2.2.2 a k (Or.inl (by omega)) (by rcases ha with e | e | e <;> subst e <;> exact off_inw (by decide +kernel) k)).1)
      have U0 : Um PB lP tB nB h1 m (h_i h 0 0) s 0 h1 := ⟨I1, ⟨rfl, fun _ _ _ => rfl, fun _ _ _ _ => rfl⟩, by rw [i1, i_0], fun j hj => (fm j hj).trans (pc.1 j hj), ⟨(f5 51 (Or.inl rfl)).trans pc.2.1.1, (f5 52 (Or.inr (Or.inl rfl))).trans pc.2.1.2.1, (f5 53 (Or.inr (Or.inr rfl))).trans pc.2.1.2.2⟩, P2.2 _ h h1 I M1 i1 pc.2.2⟩
      have bn : (0 : Int) ≤ (h_i h 0 0).toInt ∧ (h_i h 0 0).toInt ≤ 20000 := nr
      have mrw : ∀ (h2 : Hp_), Tw m h1 h2 → ∀ j, j < m → h_r h2 15 j = some (401 + j) ∧ Cn h2 (401 + j) := fun h2 tw j hj => by
        have em := T1.2.2.2.2.1
        have mr := T1.2.2.2.1
        have ym : isM h1 (Int32.ofNat j) := ⟨by rw [on_j (by omega)]; omega, by rw [em, on_j (by omega), on_j (by omega)]; omega⟩
        have hc1 := mr.cn I1 ym
        rw [on_k (by omega)] at hc1
        refine ⟨?_, hc1.of tw.1⟩
        rw [tw.2.1 15 j (off_inw (by decide +kernel) j)]
        exact mr j (by rw [em, on_j (by omega)]; omega)
      refine AW.mono (tg_out d mc ms _ _ ⟨show 0 + 0 + mc ≤ mc by omega, show 0 + 0 + ms ≤ ms by omega⟩ x (h_i h 0 0) c' N' x.toNatClampNeg (of_nat32 x0).symm (by omega) n0 (by omega) lN' (Um PB lP tB nB h1 m (h_i h 0 0) s) (Vm PB lP tB nB h1 m (h_i h 0 0) s) m m12 ?_ ?_ ?_ ?_ ?_ ?_ ?_ x.toNatClampNeg 0 h1 (by omega) U0) (fun v h' q => ?_)
      · intro i h2 U
        refine ⟨U.1, ?_, ?_, U.2.2.1⟩
        · rw [U.2.1.2.1 0 15 (by decide +kernel)]
          exact r1
        · rw [U.2.1.1]
          exact s1
      · intro i h2 U hi I2
        obtain ⟨Iu, tw, eu, pu, ⟨p51, p52, p53⟩, PBu⟩ := U
        have r2 : h_r h2 0 15 = some c' := by
          rw [tw.2.1 0 15 (by decide +kernel)]
          exact r1
        have s2 : h_sh h2 c' = some (3, N') := by
          rw [tw.1]
          exact s1
        have lt : (h_i h2 0 0).toInt < (N' : Int) := by
          rw [eu, tx_add (by rw [on_j (by omega)]; omega) (by rw [on_j (by omega)]; omega), on_j (by omega)]
          omega
        refine ⟨I2, ⟨tw.1, fun b k o => tw.2.1 b k o, fun b k o n => ?_⟩, im_at, fun j hj => ?_, ⟨?_, ?_, ?_⟩, ?_⟩
        · have nb : ¬ (b = 0 ∧ k = 0) := fun e => by
            rw [e.1, e.2] at o
            exact absurd o (by decide +kernel)
          rw [h_i_im, if_neg nb, h_i_lm]
          exact tw.2.2 b k o n
        · rw [im_oth (by omega), h_i_lm]
          exact pu j hj
        · rw [im_oth (by decide), h_i_lm]
          exact p51
        · rw [im_oth (by decide), h_i_lm]
          exact p52
        · rw [im_oth (by decide), h_i_lm]
          exact p53
        · have q := P2.1 _ h2 c' N' (h_i h 0 0 + Int32.ofNat (i + 1)) Iu r2 s2 lt PBu
          rw [nc _ _ _ (fun k => (pTk lP tB nB (wI h1) (bL h1) m (h_i h 0 0) i s).1 k 5) (fun k hk => by rw [pu k hk]), eu] at q
          rw [eu]
          exact q
      · intro i h2 V
        exact ⟨V.1, V.2.1, V.2.2.1, V.2.2.2⟩
      · intro i j h2 V
        refine ⟨V.1, ?_⟩
        rw [V.2.1.2.2 0 7 (by decide +kernel) (by omega)]
        exact T1.2.2.2.2.1
      · intro i j h2 V hj
        exact mrw h2 V.2.1 j hj
      · intro i j h2 V hj ny
        refine ⟨V.1, V.2.1, V.2.2.1, ?_⟩
        show PcX PB m (pMan lP tB (h_i h 0 0 + Int32.ofNat (i + 1)) (wI h1) (bL h1) j (pMen lP tB (h_i h 0 0 + Int32.ofNat (i + 1)) (wI h1) (bL h1) j (pOv nB (h_i h 0 0 + Int32.ofNat i) (pTk lP tB nB (wI h1) (bL h1) m (h_i h 0 0) i s)))) h2
        have q := V.2.2.2
        have e : (pMen lP tB (h_i h 0 0 + Int32.ofNat (i + 1)) (wI h1) (bL h1) j (pOv nB (h_i h 0 0 + Int32.ofNat i) (pTk lP tB nB (wI h1) (bL h1) m (h_i h 0 0) i s))).1 j 7 = h_i h2 (401 + j) 7 := by rw [q.1 j hj]
        unfold pMan
        rw [e, if_neg (by rw [← V.2.2.1]; exact ny)]
        exact q
      · intro i j h2 hi V hj yt
        exact vm_go P d I1 T1 bn (by omega) V hj yt (lc j hj)
      · obtain ⟨r, ev, U, er⟩ := q
        have okk : okt (h_i h 0 0) x := ok
        have ef : h_i h' 0 0 = h_i h 0 0 + x := by rw [U.2.2.1, of_nat32 x0]
        refine ⟨r, ev, ⟨U.1, um_mf m12 M1 i1 pc.1 U, ⟨c', by rw [U.2.1.2.1 0 15 (by decide +kernel)]; exact r1, by rw [U.2.1.1]; exact s1⟩, Or.inl ⟨ok, er, by rw [ef, es]⟩⟩, fun _ => ⟨ef, ?_, fun b k hb o => ?_⟩, fun n => absurd okk n⟩
        · have q := U.2.2.2
          rw [ew, eb] at q
          exact q
        · have o1 : inw (0 :: wgM) b k = false := inw_sub (a := 0 :: wgM) (b := 0 :: 15 :: wgM) (by decide +kernel) o
          have o2 : inw [15] b k = false := inw_sub (a := [15]) (b := 0 :: 15 :: wgM) (by decide +kernel) o
          rw [U.2.1.2.2 b k o1 (by omega)]
          exact (M1.2.2.2 b k (Or.inl hb) o2).1
    rcases Nat.lt_or_ge N ((h_i h 0 0).toInt + x.toInt).toNat with g | g
    · refine ⟨1, hwant ((h_i h 0 0).toInt + x.toInt).toNat N, hwant ((h_i h 0 0).toInt + x.toInt).toNat N, by unfold hwant; omega, Or.inr ⟨rfl, rfl, by unfold hwant; omega, by unfold hwant; omega⟩, go 1 _ _ (by unfold hwant; omega) (by unfold hwant; omega) ?_⟩
      exact c_mkH1 (d + 5) I hc hs hN g (by omega)
    · refine ⟨0, 0, N, hN, Or.inl ⟨rfl, rfl, rfl⟩, go 0 0 N hN (by omega) ?_⟩
      exact Cv.mono (c_makeHistory0 (d + 5) 0 0 I hc hs hN g) (fun h' e => by rw [e]; exact ⟨I, Mf.rf h, rfl, c, hc, hs⟩)
  · refine ⟨0, 0, N, hN, Or.inl ⟨rfl, rfl, rfl⟩, ?_⟩
    have nok : ¬ okt (h_i h 0 0) x := ok
    have bad : ∀ lv, AW (m_X11_tick (d + 8) 0 0) 0 0 23 lv [] h (kI (Tkx PB lP tB nB m N s x h)) := fun lv => by
      refine aw_iconst (v := -1) d_X11_tick_23 ic_m1 ?_
      exact aw_iret rfl d_X11_tick_24 ⟨Nat.le_refl _, Nat.le_refl _⟩ ⟨_, rfl, ⟨I, Mf.rf h, ⟨c, hc, hs⟩, Or.inr ⟨nok, rfl, rfl⟩⟩, fun o => absurd o nok, fun _ => rfl⟩
    refine Ct.of (fun _ _ _ => trivial) rfl (Nat.le_of_ble_eq_true rfl) ?_
    show AW (m_X11_tick (d + 8) 0 0) 0 0 0 [(0, .ref 0), (1, .int x)] [] h (kI _)
    refine aw_iload_n (i := 1) rfl d_X11_tick_0 1 rfl ?_
    refine aw_iconst (v := 0) d_X11_tick_1 ic_0 ?_
    refine aw_sipush (v := 1500) d_X11_tick_2 is_1500 ?_
    refine aw_Si [.int x, .int 0, .int 1500] [] d_X11_tick_5 (cS_X11_within (d + 7) 0 0) tw_543 rfl ⟨⟨show d + 7 + 1 ≤ d + 8 by omega, show 8 + (3 + 11) + 100 * (d + 7) ≤ 100 * (d + 8) by omega⟩, Nat.zero_le _, Nat.zero_le _⟩ (by decide) xs0 (s_X11_within (d + 7) h x 0 1500) (fun _ _ kk => ?_)
    obtain ⟨e1, e2⟩ := kk
    rw [e1, e2]
    refine aw_ifb_eq (tgt := 23) d_X11_tick_8 rfl (fun _ => bad _) (fun z => ?_)
    have x0 : 0 ≤ x.toInt := by have := q_le.mp z.1; omega
    have x1 : x.toInt ≤ 1500 := by have := q_le.mp z.2; omega
    have es : (h_i h 0 0 + x).toInt = (h_i h 0 0).toInt + x.toInt := tx_add (by omega) (by omega)
    refine aw_aload_n (i := 0) rfl d_X11_tick_11 0 rfl ?_
    refine aw_geti (k0 := 0) kc_11 (ws_0 w) (Nat.le_of_ble_eq_true rfl) tw_487 d_X11_tick_12 rfl ?_
    refine aw_iload_n (i := 1) rfl d_X11_tick_15 1 rfl ?_
    refine aw_iadd d_X11_tick_16 ?_
    refine aw_sipush (v := 20000) d_X11_tick_17 is_20000 ?_
    refine aw_icmp_le (tgt := 25) d_X11_tick_20 rfl (fun y => ?_) (fun _ => bad _)
    have y := q_le.mp y
    exact absurd ⟨z, by omega⟩ ok
end MEN
end
section
/-! MEN, the reference: tick -/
theorem rq_i (g : Ev2 → Option Int32) : ∀ (E : List Ev2) (r : Nat) (f : Nat → Int32) (j : Nat) (e : Ev2), E[j]? = some e → rq g r E f (r + j) = (g e).getD (f (r + j))
  | [], _, _, _, _, h => by cases h
  | x :: E, r, f, 0, e, h => by
    have h : some x = some e := h
    show rq g (r + 1) E (match g x with | some v => up1 f r v | none => f) (r + 0) = _
    rw [rq_o g E (r + 1) _ (r + 0) (by omega), Option.some.inj h]
    cases g e with
    | none => rfl
    | some v => exact up1_at
  | x :: E, r, f, j + 1, e, h => by
    have h : E[j]? = some e := h
    show rq g (r + 1) E (match g x with | some v => up1 f r v | none => f) (r + (j + 1)) = _
    rw [show r + (j + 1) = r + 1 + j by omega, rq_i g E (r + 1) _ j e h]
    congr 1
    cases g x with
    | none => rfl
    | some v => exact up1_ne (by omega)
/-- a row's standing: class (o, t, c), reference (a, b, e) -/
noncomputable def stt (o t c a b e : Int32) : Prop := (o = 0 ∧ a = -1 ∧ b = -1) ∨ (o = 1 ∧ a = t ∧ b = -1 ∧ 0 ≤ t.toInt) ∨ (o = 2 ∧ a = -1 ∧ b = t ∧ e = c ∧ 0 ≤ t.toInt)
/-- events on open rows keep the standing -/
theorem stt_ev {n : Int32} (p0 : 0 ≤ n.toInt) {E : List Ev2} (he : ∀ e ∈ E, e.1 = 1 ∨ e.1 = 2) {r : Nat} {fo ft fc fa fb fe : Nat → Int32} {k : Nat} (h : stt (fo k) (ft k) (fc k) (fa k) (fb k) (fe k)) (op : r ≤ k → k < r + E.length → fo k = 0) : stt (rz Prod.fst r E fo k) (rz (fun _ => n) r E ft k) (rz Prod.snd r E fc k) (rq (gM n) r E fa k) (rq (gS n) r E fb k) (rq gC r E fe k) := by
  by_cases c : r ≤ k ∧ k < r + E.length
  · have o := op c.1 c.2
    have ab : fa k = -1 ∧ fb k = -1 := by
      rcases h with z | z | z
      · exact ⟨z.2.1, z.2.2⟩
      · rw [o] at z
        exact absurd z.1 (by decide)
      · rw [o] at z
        exact absurd z.1 (by decide)
    have l : k - r < E.length := by omega
    have g : E[k - r]? = some (E[k - r]'l) := List.getElem?_eq_getElem l
    have m := he _ (List.getElem_mem l)
    generalize E[k - r]'l = e at g m
    have q1 := rz_i Prod.fst E r fo (k - r) e g
    have q2 := rz_i (fun _ => n) E r ft (k - r) e g
    have q3 := rz_i Prod.snd E r fc (k - r) e g
    have q4 := rq_i (gM n) E r fa (k - r) e g
    have q5 := rq_i (gS n) E r fb (k - r) e g
    have q6 := rq_i gC E r fe (k - r) e g
    rw [show r + (k - r) = k by omega] at q1 q2 q3 q4 q5 q6
    rw [q1, q2, q3, q4, q5, q6]
    unfold gM gS gC
    rcases m with m | m
    · rw [if_pos m, if_pos m, if_pos m]
      exact Or.inr (Or.inl ⟨m, rfl, ab.2, p0⟩)
    · rw [if_neg (by rw [m]; decide), if_neg (by rw [m]; decide), if_neg (by rw [m]; decide)]
      exact Or.inr (Or.inr ⟨m, ab.1, rfl, rfl, p0⟩)
  · rw [rz_o _ E r fo k (by omega), rz_o _ E r ft k (by omega), rz_o _ E r fc k (by omega), rq_o _ E r fa k (by omega), rq_o _ E r fb k (by omega), rq_o _ E r fe k (by omega)]
    exact h
noncomputable def wtM : List Nat := 1000 :: 220999 :: mwR
/-- the places of a minute as the reference keeps them -/
noncomputable def Hst (m : Nat) (h h' : Hp_) : Prop := (∀ j, j < m → h_i h' 220 (20001 * j + (h_i h 1 0).toNatClampNeg) = vp_nar .byte ((h_i h 209 j).toInt8.toInt32)) ∧ ∀ k, (∀ j, j < m → k ≠ 20001 * j + (h_i h 1 0).toNatClampNeg) → h_i h' 220 k = h_i h 220 k
section MEN
variable {β : Type} {PM : β → Hp_ → Prop} {tB : Int32 → Int32 → β → β} {nB : Int32 → (Nat → Int32) → β → β} {lP : Nat → Int32 → (Nat → Int32) → β → β}
noncomputable def lR (lP : Nat → Int32 → (Nat → Int32) → β → β) : Nat → Hp_ → β → β := fun j h b => lP j (h_i h 1 0) (fun k => h_i h 209 k) b
/-- what else is kept as minutes pass -/
noncomputable def PMtk {β : Type} (PM : β → Hp_ → Prop) (nB : Int32 → (Nat → Int32) → β → β) (m : Nat) : Prop := ∀ b h h' x, Iv h → Fr [220999] h h' → Hst m h h' → PM b h → PM (nB (h_i h 1 0) (fun k => h_i h 209 k) b) (h_im h' 1 0 x)
/-- the reference's men and rows are those of s -/
noncomputable def PcM (PM : β → Hp_ → Prop) (m rw : Nat) (s : Pst β) (h : Hp_) : Prop := (∀ j, j < m → RMp j (s.1 j) h) ∧ (∀ k, k < rw → stt (s.2.1 k) (s.2.2.1 k) (s.2.2.2.1 k) (h_i h 241 k) (h_i h 242 k) (h_i h 243 k)) ∧ PM s.2.2.2.2 h
theorem m_wk0 (d : Nat) {h : Hp_} (I : Iv h) {x1 : Int32} (hx : 0 ≤ x1.toInt ∧ x1.toInt ≤ 11) (n7 : ¬ h_i h 211 x1.toNatClampNeg = h_i h 1 0) : Cv (m_X12_wake (d + 9) 0 0) [.ref 1, .int x1] h (fun h' => h' = h) := t_X12_wake d h I.1 x1 _ ⟨v12 hx, fun y => absurd y n7, fun _ => rfl⟩
/-- what a tick of the reference wants to know at its beginning -/
noncomputable def Tkn (h : Hp_) (m rw : Nat) (s : Pst β) : Prop := ExP h ∧ (∀ k, k < (h_i h 1 42).toNatClampNeg → ∀ i, i < (h_i h 227 k).toNatClampNeg → stR (sB h k i)) ∧ h_i h 1 7 = Int32.ofNat m ∧ m ≤ 12 ∧ rw ≤ 400 ∧ (∃ own, pI (wI h) (bL h) (h_i h 1 42).toNatClampNeg rw own m s)
theorem stm_of {h : Hp_} (I : Iv h) (S : ∀ k, k < (h_i h 1 42).toNatClampNeg → ∀ i, i < (h_i h 227 k).toNatClampNeg → stR (sB h k i)) {rw : Nat} (r4 : rw ≤ 400) {M : Nat → Int32} (K : KmB (bL h) (h_i h 1 42).toNatClampNeg rw M) : ∃ i, (Stm h (M 8) i ((pX (bL h) M).1 :: (pX (bL h) M).2) ∧ M 9 = Int32.ofNat i ∧ h_i h 227 (M 8).toNatClampNeg = Int32.ofNat (i + ((pX (bL h) M).2.length + 1)) ∧ 0 ≤ (M 11).toInt ∧ (M 11).toInt + (((if (pX (bL h) M).1.1 = 2 ∧ decide (¬ M 6 = -1) = true then 1 else 0) + mts (pX (bL h) M).2 : Nat) : Int) ≤ 400) ∧ ((pX (bL h) M).1.1 = 3 → M 6 = -1) := by
  have r42 := I.2.1 1 42
  rw [show tf 1 42 = (0, 12) by decide +kernel] at r42
  have b0 : 0 ≤ (h_i h 1 42).toInt := r42.1
  have b1 : (h_i h 1 42).toInt ≤ 12 := r42.2
  have n42 := n_nat b0
  obtain ⟨i, il, i150, b8, hd, e9, h6, r0, r1, r2⟩ := kmb_x (fun k hk => by rw [bL_l]; exact (z227 I k).1) K
  have n8 := n_nat b8.1
  have z := z227 I (M 8).toNatClampNeg
  rw [bL_l] at il
  refine ⟨i, ⟨⟨⟨b8.1, by omega⟩, ?_, fun k x e => ?_⟩, e9, ?_, r0, by omega⟩, fun e => h6 (Or.inr e)⟩
  · show i + ((pX (bL h) M).2.length + 1) ≤ 150
    omega
  · have g : (bL h (M 8).toNatClampNeg)[i + k]? = some x := by
      rw [← hd, List.getElem?_drop] at e
      exact e
    have lk : i + k < (bL h (M 8).toNatClampNeg).length := (List.getElem?_eq_some_iff.mp g).1
    rw [bL_l] at lk
    rw [bL_g lk] at g
    have e := Option.some.inj g
    exact ⟨e, by rw [← e]; exact S _ b8.2 _ lk⟩
  · rw [il]
    exact (of_nat32 (by omega)).symm
noncomputable def Vn (PM : β → Hp_ → Prop) (lP : Nat → Int32 → (Nat → Int32) → β → β) (tB : Int32 → Int32 → β → β) (nB : Int32 → (Nat → Int32) → β → β) (h1 : Hp_) (m rw : Nat) (n0 : Int32) (s : Pst β) (i j : Nat) (h : Hp_) : Prop := Iv h ∧ Fr wtM h1 h ∧ h_i h 1 0 = n0 + Int32.ofNat (i + 1) ∧ PcM PM m rw (pMen lP tB (n0 + Int32.ofNat (i + 1)) (wI h1) (bL h1) j (pOv nB (n0 + Int32.ofNat i) (pTk lP tB nB (wI h1) (bL h1) m n0 i s))) h
noncomputable def Un (PM : β → Hp_ → Prop) (lP : Nat → Int32 → (Nat → Int32) → β → β) (tB : Int32 → Int32 → β → β) (nB : Int32 → (Nat → Int32) → β → β) (h1 : Hp_) (m rw : Nat) (n0 : Int32) (s : Pst β) (i : Nat) (h : Hp_) : Prop := Iv h ∧ Fr wtM h1 h ∧ h_i h 1 0 = n0 + Int32.ofNat i ∧ PcM PM m rw (pTk lP tB nB (wI h1) (bL h1) m n0 i s) h
theorem fr_wb {h1 h : Hp_} (f : Fr wtM h1 h) : wI h = wI h1 ∧ bL h = bL h1 ∧ (∀ k, sB h k = sB h1 k) := by
  have es : ∀ k, sB h k = sB h1 k := fun k => by
    funext i
    unfold sB
    rw [fr_i f (by decide +kernel), fr_i f (by decide +kernel), fr_i f (by decide +kernel)]
  refine ⟨?_, ?_, es⟩
  · funext p q
    unfold wI
    rw [fr_i f (by decide +kernel)]
  · funext k
    unfold bL
    rw [es, fr_i f (by decide +kernel)]
/-- one man wakes, the reference -/
theorem vn_wk (P : PMok PM tB (lR lP)) (d : Nat) {h1 : Hp_} (I1 : Iv h1) {m rw : Nat} {s : Pst β} (T : Tkn h1 m rw s) {n0 : Int32} (p0 : 0 ≤ n0.toInt ∧ n0.toInt ≤ 20000) {i j : Nat} (i2 : i < 20000) {h : Hp_} (V : Vn PM lP tB nB h1 m rw n0 s i j h) (hj : j < m) (lc : ∀ b n f g, (∀ k, k < m → f k = g k) → lP j n f b = lP j n g b) : Cv (m_X12_wake (d + 9) 0 0) [.ref 1, .int (Int32.ofNat j)] h (fun h' => Vn PM lP tB nB h1 m rw n0 s i (j + 1) h') := by
  obtain ⟨I, fw, en, pc⟩ := V
  obtain ⟨X, S, em, m12, r4, own, pi⟩ := T
  have W := wok I1 X
  have hb : ∀ k x, k < (h_i h1 1 42).toNatClampNeg → x ∈ bL h1 k → stR x := fun k x hk hx => by
    obtain ⟨q, hq, e⟩ := bL_m hx
    rw [e]
    exact S k hk q hq
  have pn : 0 ≤ (n0 + Int32.ofNat (i + 1)).toInt := by rw [tx_add (by rw [on_j (by omega)]; omega) (by rw [on_j (by omega)]; omega), on_j (by omega)]; omega
  have pj := pI_men (lP := lP) (tB := tB) (n := n0 + Int32.ofNat (i + 1)) (m := m) W hb (bL_hl I1 _) r4 pn m12 j (s := pOv nB (n0 + Int32.ofNat i) (pTk lP tB nB (wI h1) (bL h1) m n0 i s)) (by omega) (pI_tk (nB := nB) W hb (bL_hl I1 _) r4 p0 m12 i (by omega) pi)
  generalize hσ : pMen lP tB (n0 + Int32.ofNat (i + 1)) (wI h1) (bL h1) j (pOv nB (n0 + Int32.ofNat i) (pTk lP tB nB (wI h1) (bL h1) m n0 i s)) = σ at pc pj
  obtain ⟨pm, pr, PMh⟩ := pc
  obtain ⟨K, e0, O⟩ := pj j hj
  have kj : (Int32.ofNat j).toNatClampNeg = j := on_k (by omega)
  have hx : 0 ≤ (Int32.ofNat j).toInt ∧ (Int32.ofNat j).toInt ≤ 11 := by rw [on_j (by omega)]; omega
  have R := pm j hj
  obtain ⟨ew, eb, es⟩ := fr_wb fw
  have step : ∀ h', Vn PM lP tB nB h1 m rw n0 s i (j + 1) h' ↔ (Iv h' ∧ Fr wtM h1 h' ∧ h_i h' 1 0 = n0 + Int32.ofNat (i + 1) ∧ PcM PM m rw (pMan lP tB (n0 + Int32.ofNat (i + 1)) (wI h1) (bL h1) j σ) h') := fun h' => by
    unfold Vn
    show (Iv h' ∧ Fr wtM h1 h' ∧ h_i h' 1 0 = n0 + Int32.ofNat (i + 1) ∧ PcM PM m rw (pMan lP tB (n0 + Int32.ofNat (i + 1)) (wI h1) (bL h1) j (pMen lP tB (n0 + Int32.ofNat (i + 1)) (wI h1) (bL h1) j (pOv nB (n0 + Int32.ofNat i) (pTk lP tB nB (wI h1) (bL h1) m n0 i s)))) h') ↔ _
    rw [hσ]
  by_cases yt : σ.1 j 7 = n0 + Int32.ofNat (i + 1)
  · have X2 : ExP h := X.fr fw (by decide +kernel)
    have wk := m_wk P d (x1 := Int32.ofNat j) (M := σ.1 j) I X2 hx (by rw [kj]; exact R) PMh e0 (by rw [ew]; exact K.1) (fun p q a b => (wok I X2).2.2.2.1 _ _ _ a b) (fun p q a => (wok I X2).2.2.2.2 _ _ a) (i := if σ.1 j 4 = 1 then (σ.1 j 9).toNatClampNeg else 0) (x := (pX (bL h1) (σ.1 j)).1) (L := (pX (bL h1) (σ.1 j)).2) (fun y1 => by
      obtain ⟨i', q, q3⟩ := stm_of I1 S r4 (K.2 y1)
      have ll : i' + ((pX (bL h1) (σ.1 j)).2.length + 1) ≤ 150 := q.1.2.1
      have e9' : (σ.1 j 9).toNatClampNeg = i' := by rw [q.2.1, on_k (by omega)]
      rw [if_pos y1, e9']
      refine ⟨⟨q.1.cg es, q.2.1, ?_, q.2.2.2⟩, q3⟩
      rw [fr_i fw (by decide +kernel)]
      exact q.2.2.1) (by rw [en]; exact yt)
    rw [kj, en, ew] at wk
    refine Cv.mono wk (fun h' k => (step h').mpr ⟨k.1, fw.tr (k.2.1.1.more (by decide +kernel)), ?_, ?_⟩)
    · rw [k.2.1.k.2.1]
      exact en
    · unfold pMan
      rw [if_pos yt]
      refine ⟨fun l hl => ?_, fun q hq => ?_, ?_⟩
      · show RMp l (if l = j then _ else _) h'
        by_cases c : l = j
        · rw [if_pos c, c]
          exact k.2.2.1
        · rw [if_neg c]
          refine (pm l hl).cg (fun a ha => ?_)
          rcases List.mem_cons.mp ha with e | e
          · rw [e]
            exact k.2.1.k.2.2.1 l
          · exact k.2.1.2 a e l c
      · have Rg := Rk.go (n := n0 + Int32.ofNat (i + 1)) (w := wI h1) (x := (pX (bL h1) (σ.1 j)).1) (L := (pX (bL h1) (σ.1 j)).2) (M := σ.1 j)
        have z := stt_ev (n := n0 + Int32.ofNat (i + 1)) pn (E := (pGo (n0 + Int32.ofNat (i + 1)) (wI h1) (bL h1) (σ.1 j)).2) Rg.2.1 (r := (σ.1 j 11).toNatClampNeg) (pr q hq) (fun a b => by
          by_cases y1 : σ.1 j 4 = 1
          · obtain ⟨i', _, _, b8, hd, e9, _, r0, r1, r2⟩ := kmb_x (bL_hl I1 _) (K.2 y1)
            have n11 := n_nat r0
            have ll : (pGo (n0 + Int32.ofNat (i + 1)) (wI h1) (bL h1) (σ.1 j)).2.length ≤ _ := Rg.2.2.1
            exact (O y1 q (by omega) (by omega)).1
          · have e : (pGo (n0 + Int32.ofNat (i + 1)) (wI h1) (bL h1) (σ.1 j)).2 = [] := fGo_e y1
            rw [e] at b
            exact absurd b (by show ¬ q < _ + 0; omega))
        rw [k.2.2.2.1.1, k.2.2.2.1.2.1, k.2.2.2.1.2.2]
        exact z
      · have q := k.2.2.2.2
        have eb : (if σ.1 j 4 = 1 ∧ (pX (bL h1) (σ.1 j)).1.1 = 3 then lR lP j (h_im h 211 j (-1)) σ.2.2.2.2 else σ.2.2.2.2) = (if σ.1 j 4 = 1 ∧ (pX (bL h1) (σ.1 j)).1.1 = 3 then lP j (n0 + Int32.ofNat (i + 1)) (fun k => σ.1 k 5) σ.2.2.2.2 else σ.2.2.2.2) := by
          by_cases c : σ.1 j 4 = 1 ∧ (pX (bL h1) (σ.1 j)).1.1 = 3
          · rw [if_pos c, if_pos c]
            unfold lR
            rw [im_ne (by decide), en]
            refine lc _ _ _ _ (fun k hk => ?_)
            rw [im_ne (by decide)]
            exact (pm k hk).1.2.1
          · rw [if_neg c, if_neg c]
        rw [eb] at q
        exact q
  · have e7 : h_i h 211 (Int32.ofNat j).toNatClampNeg = σ.1 j 7 := by rw [kj]; exact R.1.2.2.2
    refine Cv.mono (m_wk0 d I hx (by rw [e7, en]; exact yt)) (fun h' e => (step h').mpr ?_)
    subst e
    refine ⟨I, fw, en, ?_⟩
    unfold pMan
    rw [if_neg yt]
    exact ⟨pm, pr, PMh⟩
end MEN
/-! MEN, the reference: the loops of a tick -/
/-- the base's account of the reference's men -/
theorem j2_of {β : Type} {h : Hp_} (I : Iv h) {m rw : Nat} {s : Pst β} {w : Int32 → Int32 → Int32} (em : h_i h 1 7 = Int32.ofNat m) (m12 : m ≤ 12) (r4 : rw ≤ 400) {own : Nat → Int32} (p : pI w (bL h) (h_i h 1 42).toNatClampNeg rw own m s) (R : ∀ j, j < m → RMp j (s.1 j) h) : J2 h := by
  intro c hc hm
  rw [em, on_j (by omega)] at hm
  have hj : c < m := by omega
  obtain ⟨K, _, _⟩ := p c hj
  have r := R c hj
  have r42 := I.2.1 1 42
  rw [show tf 1 42 = (0, 12) by decide +kernel] at r42
  have b0 : 0 ≤ (h_i h 1 42).toInt := r42.1
  have n42 := n_nat b0
  refine ⟨fun e => ?_, fun e => ?_⟩
  · rw [r.1.2.2.1]
    rw [r.1.1] at e
    exact (K.1.2.2.2.1 e).1
  · rw [r.1.1] at e
    obtain ⟨i, il, i150, b8, hd, e9, h6, r0, r1, r2⟩ := kmb_x (fun k hk => by rw [bL_l]; exact (z227 I k).1) (K.2 e)
    have q := r.2.1 e
    have n8 := n_nat b8.1
    have z := z227 I (s.1 c 8).toNatClampNeg
    rw [bL_l] at il
    have hS : nS h c = i := by
      show (h_i h 213 c).toNatClampNeg = i
      rw [q.2.1, e9, on_k (by omega)]
    have hB : nB h c = (s.1 c 8).toNatClampNeg := by
      show (h_i h 212 c).toNatClampNeg = _
      rw [q.1]
    have hZ : nZ h c = (h_i h 227 (s.1 c 8).toNatClampNeg).toNatClampNeg := by
      show (h_i h 227 (h_i h 212 c).toNatClampNeg).toNatClampNeg = _
      rw [q.1]
    have mp : ∀ (L : List Sp3) (t : Nat), (bL h (s.1 c 8).toNatClampNeg).drop t = L → mP (h_i h 228) (s.1 c 8).toNatClampNeg L.length t = mts L := fun L t e => mP_mts L t (fun k x g => by
      rw [← e, List.getElem?_drop] at g
      have lk : t + k < (bL h (s.1 c 8).toNatClampNeg).length := (List.getElem?_eq_some_iff.mp g).1
      rw [bL_l] at lk
      rw [bL_g lk] at g
      rw [← Option.some.inj g]
      rfl)
    have d1 : (bL h (s.1 c 8).toNatClampNeg).drop (i + 1) = (pX (bL h) (s.1 c)).2 := by
      rw [← List.drop_drop, hd]
      rfl
    have m1 := mp _ _ d1
    have m0 := mp _ _ hd
    rw [hS, hB, hZ, q.2.1, q.1, q.2.2.2.1, e9, r.1.2.2.1]
    refine ⟨by rw [on_j (by omega)]; omega, by omega, by omega, ?_, fun n6 => ?_⟩
    · rw [show (h_i h 227 (s.1 c 8).toNatClampNeg).toNatClampNeg - (i + 1) = (pX (bL h) (s.1 c)).2.length by omega, m1]
      omega
    · rw [show (h_i h 227 (s.1 c 8).toNatClampNeg).toNatClampNeg - i = ((pX (bL h) (s.1 c)).1 :: (pX (bL h) (s.1 c)).2).length by show _ = _ + 1; omega, m0]
      have mm : mts ((pX (bL h) (s.1 c)).1 :: (pX (bL h) (s.1 c)).2) = (if (pX (bL h) (s.1 c)).1.1 = 2 then 1 else 0) + mts (pX (bL h) (s.1 c)).2 := rfl
      rw [mm]
      by_cases y2 : (pX (bL h) (s.1 c)).1.1 = 2
      · rw [if_pos ⟨y2, decide_eq_true n6⟩] at r1
        rw [if_pos y2]
        omega
      · rw [if_neg (fun u => y2 u.1)] at r1
        rw [if_neg y2]
        omega
section MEN
variable {β : Type} {PM : β → Hp_ → Prop} {tB : Int32 → Int32 → β → β} {nB : Int32 → (Nat → Int32) → β → β} {lP : Nat → Int32 → (Nat → Int32) → β → β}
theorem mh_lp (d : Nat) {x1 x2 : Int32} (K : Int32 → Hp_ → Prop) {m : Nat} (m12 : m ≤ 12) {h0 : Hp_} (I0 : Iv h0) (em : h_i h0 1 7 = Int32.ofNat m) (O : ∀ h', Iv h' → Fr [220999] h0 h' → Hst m h0 h' → AW (m_X12_tick (d + 10) 0 0) 0 0 82 [(0, .ref 1), (1, .int x1), (2, .int x2), (3, .int 0)] [] (h_im h' 1 0 ((h_i h' 1 0) + 1)) (kI K)) : ∀ (r j : Nat) (h : Hp_), j + r = m → Iv h → Fr [220999] h0 h → ((∀ l, l < j → h_i h 220 (20001 * l + (h_i h0 1 0).toNatClampNeg) = vp_nar .byte ((h_i h0 209 l).toInt8.toInt32)) ∧ ∀ k, (∀ l, l < j → k ≠ 20001 * l + (h_i h0 1 0).toNatClampNeg) → h_i h 220 k = h_i h0 220 k) → AW (m_X12_tick (d + 10) 0 0) 0 0 34 [(0, .ref 1), (1, .int x1), (2, .int x2), (3, .int (Int32.ofNat j))] [] h (kI K) := by
  have nr := I0.2.1 1 0
  rw [show tf 1 0 = (0, 20000) by decide +kernel] at nr
  have n0 : 0 ≤ (h_i h0 1 0).toInt := nr.1
  have n1 : (h_i h0 1 0).toInt ≤ 20000 := nr.2
  have nn := n_nat n0
  have t2 : (20001 : Int32).toInt = 20001 := rfl
  intro r
  induction r with
  | zero =>
    intro j h ej I F H
    have e7 : h_i h 1 7 = Int32.ofNat m := ((F.2 1 7 (by decide +kernel)).1).trans em
    have ej : j = m := by omega
    subst ej
    exact t_X12_tick_34 d h I.1 x1 x2 _ K ⟨fun _ => O h I F H, fun n => absurd (q_le.mpr (by rw [e7]; exact Int.le_refl _)) n⟩
  | succ r ih =>
    intro j h ej I F H
    have e7 : h_i h 1 7 = Int32.ofNat m := ((F.2 1 7 (by decide +kernel)).1).trans em
    have en : h_i h 1 0 = h_i h0 1 0 := (F.2 1 0 (by decide +kernel)).1
    have kj : (Int32.ofNat j).toNatClampNeg = j := on_k (by omega)
    have oj := on_j (n := j) (by omega)
    have m1 : (20001 * Int32.ofNat j).toInt = 20001 * (j : Int) := by rw [tx_mul (by rw [t2]; omega) (by rw [t2]; omega), t2, oj]
    have m2 : (20001 * Int32.ofNat j + h_i h0 1 0).toInt = 20001 * (j : Int) + (h_i h0 1 0).toInt := by rw [tx_add (by omega) (by omega), m1]
    have nm := n_nat (x := 20001 * Int32.ofNat j + h_i h0 1 0) (by omega)
    have km : (20001 * Int32.ofNat j + h_i h0 1 0).toNatClampNeg = 20001 * j + (h_i h0 1 0).toNatClampNeg := by omega
    have Tt := t_X12_tick_34 d h I.1 x1 x2 (Int32.ofNat j) K
    rw [kj, en, km, on_s (by omega)] at Tt
    refine Tt ⟨fun z => ?_, fun _ => ⟨on_in (by omega) (by decide), dp_in (lo := 0) (hi := 240011) ⟨by show (0 : Int) ≤ _; omega, by show _ ≤ (240011 : Int); omega⟩ (by decide) (by decide), ?_⟩⟩
    · have z := q_le.mp z
      rw [e7, on_j (by omega), on_j (by omega)] at z
      omega
    · refine ih (j + 1) _ (by omega) (i220 I _ _) (F.im (inw_row (by decide +kernel) _)) ⟨fun l hl => ?_, fun k hk => ?_⟩
      · by_cases c : l = j
        · rw [c, im_at, fr_i F (by decide +kernel)]
        · rw [h_i_im, if_neg (fun e => c (by have := e.2; omega))]
          exact H.1 l (by omega)
      · rw [h_i_im, if_neg (fun e => hk j (by omega) e.2)]
        exact H.2 k (fun l hl => hk l (by omega))
/-- the men of a minute -/
theorem mn_lp (P : PMok PM tB (lR lP)) (d : Nat) {x1 x2 : Int32} (K : Int32 → Hp_ → Prop) {h1 : Hp_} (I1 : Iv h1) {m rw : Nat} {s : Pst β} (T : Tkn h1 m rw s) {n0 : Int32} (p0 : 0 ≤ n0.toInt ∧ n0.toInt ≤ 20000) {i : Nat} (i2 : i < 20000) (lc : ∀ j, j < m → ∀ b n f g, (∀ k, k < m → f k = g k) → lP j n f b = lP j n g b) (O : ∀ h', Vn PM lP tB nB h1 m rw n0 s i m h' → AW (m_X12_tick (d + 10) 0 0) 0 0 27 [(0, .ref 1), (1, .int x1), (2, .int (x2 + 1))] [] h' (kI K)) : ∀ (r j : Nat) (h : Hp_), j + r = m → Vn PM lP tB nB h1 m rw n0 s i j h → AW (m_X12_tick (d + 10) 0 0) 0 0 82 [(0, .ref 1), (1, .int x1), (2, .int x2), (3, .int (Int32.ofNat j))] [] h (kI K) := by
  have em := T.2.2.1
  have m12 := T.2.2.2.1
  intro r
  induction r with
  | zero =>
    intro j h ej V
    have e7 : h_i h 1 7 = Int32.ofNat m := ((V.2.1.2 1 7 (by decide +kernel)).1).trans em
    have ej : j = m := by omega
    subst ej
    exact t_X12_tick_82 d h V.1.1 x1 x2 _ K ⟨fun _ => O h V, fun n => absurd (q_le.mpr (by rw [e7]; exact Int.le_refl _)) n⟩
  | succ r ih =>
    intro j h ej V
    have e7 : h_i h 1 7 = Int32.ofNat m := ((V.2.1.2 1 7 (by decide +kernel)).1).trans em
    refine t_X12_tick_82 d h V.1.1 x1 x2 _ K ⟨fun z => ?_, fun _ => Cv.mono (vn_wk P d I1 T p0 i2 V (by omega) (lc j (by omega))) (fun h' V' => ⟨V'.1.1, ?_⟩)⟩
    · have z := q_le.mp z
      rw [e7, on_j (by omega), on_j (by omega)] at z
      omega
    · rw [on_s (by omega)]
      exact ih (j + 1) h' (by omega) V'
theorem mt_lp (P : PMok PM tB (lR lP)) (d : Nat) {x1 : Int32} {h1 : Hp_} (I1 : Iv h1) {m rw : Nat} {s : Pst β} (P2 : PMtk PM nB m) (T : Tkn h1 m rw s) {n0 : Int32} {k1 : Nat} (ex : x1 = Int32.ofNat k1) (k15 : k1 ≤ 1500) (p0 : 0 ≤ n0.toInt ∧ n0.toInt + (k1 : Int) ≤ 20000) (lc : ∀ j, j < m → ∀ b n f g, (∀ k, k < m → f k = g k) → lP j n f b = lP j n g b) (nc : ∀ b n f g, (∀ k, k < m → f k = g k) → nB n f b = nB n g b) : ∀ (r i : Nat) (h : Hp_), i + r = k1 → Un PM lP tB nB h1 m rw n0 s i h → AW (m_X12_tick (d + 10) 0 0) 0 0 27 [(0, .ref 1), (1, .int x1), (2, .int (Int32.ofNat i))] [] h (kI (fun q h' => Un PM lP tB nB h1 m rw n0 s k1 h' ∧ q = h_i h' 1 0)) := by
  have em := T.2.2.1
  have m12 := T.2.2.2.1
  intro r
  induction r with
  | zero =>
    intro i h ei U
    have ei : i = k1 := by omega
    subst ei
    exact t_X12_tick_27 d h U.1.1 x1 _ _ ⟨fun _ => ⟨U, rfl⟩, fun n => absurd (q_le.mpr (by rw [ex]; exact Int.le_refl _)) n⟩
  | succ r ih =>
    intro i h ei U
    obtain ⟨Iu, fu, eu, pm, pr, PMu⟩ := U
    have y1 : (n0 + Int32.ofNat (i + 1)).toInt = n0.toInt + ((i + 1 : Nat) : Int) := by rw [tx_add (by rw [on_j (by omega)]; omega) (by rw [on_j (by omega)]; omega), on_j (by omega)]
    have ys : n0 + Int32.ofNat i + 1 = n0 + Int32.ofNat (i + 1) := by rw [Int32.add_assoc, on_s (by omega)]
    have e7 : h_i h 1 7 = Int32.ofNat m := ((fu.2 1 7 (by decide +kernel)).1).trans em
    refine t_X12_tick_27 d h Iu.1 x1 _ _ ⟨fun z => ?_, fun _ => ?_⟩
    · have z := q_le.mp z
      rw [ex, on_j (by omega), on_j (by omega)] at z
      omega
    · refine mh_lp d _ m12 Iu e7 (fun h' I' F' H' => ?_) m 0 h (by omega) Iu (Fr.rf _ _) ⟨fun l hl => absurd hl (by omega), fun k _ => rfl⟩
      have e0 : h_i h' 1 0 = n0 + Int32.ofNat i := ((F'.2 1 0 (by decide +kernel)).1).trans eu
      rw [e0, ys]
      have I2 : Iv (h_im h' 1 0 (n0 + Int32.ofNat (i + 1))) := I'.im (by rw [show tf 1 0 = (0, 20000) by decide +kernel]; exact ⟨by show (0 : Int) ≤ _; omega, by show _ ≤ (20000 : Int); omega⟩) (by decide)
      refine mn_lp (nB := nB) P d (K := fun q h' => Un PM lP tB nB h1 m rw n0 s k1 h' ∧ q = h_i h' 1 0) I1 T ⟨p0.1, by omega⟩ (i := i) (by omega) lc (fun h2 V => ?_) m 0 (h_im h' 1 0 (n0 + Int32.ofNat (i + 1))) (by omega) ⟨I2, ?_, im_at, fun j hj => ?_, fun k hk => ?_, ?_⟩
      · rw [on_s (by omega)]
        exact ih (i + 1) h2 (by omega) ⟨V.1, V.2.1, V.2.2.1, V.2.2.2⟩
      · exact (fu.tr (F'.more (by decide +kernel))).im (by decide +kernel)
      · refine (pm j hj).cg (fun a ha => ?_)
        have o : off [220999] a = true ∧ a ≠ 1 := by
          simp only [mrL, List.mem_cons, List.not_mem_nil, or_false] at ha
          rcases ha with e | e | e | e | e | e | e | e | e | e | e | e | e | e <;> subst e <;> decide +kernel
        rw [im_ne o.2]
        exact fr_i F' o.1 j
      · rw [im_ne (by decide), im_ne (by decide), im_ne (by decide), fr_i F' (by decide +kernel), fr_i F' (by decide +kernel), fr_i F' (by decide +kernel)]
        exact pr k hk
      · have q := P2 _ h h' (n0 + Int32.ofNat (i + 1)) Iu F' H' PMu
        rw [nc _ _ _ (fun k => (pTk lP tB nB (wI h1) (bL h1) m n0 i s).1 k 5) (fun k hk => (pm k hk).1.2.1), eu] at q
        exact q
/-- tick of the reference -/
noncomputable def Tkm (PM : β → Hp_ → Prop) (lP : Nat → Int32 → (Nat → Int32) → β → β) (tB : Int32 → Int32 → β → β) (nB : Int32 → (Nat → Int32) → β → β) (m rw : Nat) (s : Pst β) (x : Int32) (h : Hp_) (r : Int32) (h' : Hp_) : Prop := (Iv h' ∧ J2 h' ∧ Fr wsT h h' ∧ otk (h_i h 1 0) x r (h_i h' 1 0)) ∧ (okt (h_i h 1 0) x → h_i h' 1 0 = h_i h 1 0 + x ∧ Fr wtM h h' ∧ PcM PM m rw (pTk lP tB nB (wI h) (bL h) m (h_i h 1 0) x.toNatClampNeg s) h') ∧ (¬ okt (h_i h 1 0) x → h' = h)
theorem c_tkM (P : PMok PM tB (lR lP)) (d : Nat) {h : Hp_} (I : Iv h) (J : J2 h) {m rw : Nat} {s : Pst β} (P2 : PMtk PM nB m) (T : Tkn h m rw s) (pc : PcM PM m rw s h) (lc : ∀ j, j < m → ∀ b n f g, (∀ k, k < m → f k = g k) → lP j n f b = lP j n g b) (nc : ∀ b n f g, (∀ k, k < m → f k = g k) → nB n f b = nB n g b) (x : Int32) : Ci (m_X12_tick (d + 10) 0 0) [.ref 1, .int x] h (Tkm PM lP tB nB m rw s x h) := by
  have nr := I.2.1 1 0
  rw [show tf 1 0 = (0, 20000) by decide +kernel] at nr
  have n0 : 0 ≤ (h_i h 1 0).toInt := nr.1
  have n1 : (h_i h 1 0).toInt ≤ 20000 := nr.2
  have t0 : (0 : Int32).toInt = 0 := rfl
  have t15 : (1500 : Int32).toInt = 1500 := rfl
  have t20 : (20000 : Int32).toInt = 20000 := rfl
  have no : ¬ okt (h_i h 1 0) x → Tkm PM lP tB nB m rw s x h (-1) h := fun n => ⟨⟨I, J, Fr.rf _ _, Or.inr ⟨n, rfl, rfl⟩⟩, fun o => absurd o n, fun _ => rfl⟩
  refine t_X12_tick d h I.1 x _ ⟨fun n => no (fun o => n o.1), fun z => ⟨fun y => ?_, fun n => no (fun o => n (q_le.mpr (by have z1 := q_le.mp z.1; have z2 := q_le.mp z.2; have := o.2; rw [tx_add (by omega) (by omega)]; omega)))⟩⟩
  have z1 := q_le.mp z.1
  have z2 := q_le.mp z.2
  have y := q_le.mp y
  have x0 : 0 ≤ x.toInt := by omega
  have nx := n_nat x0
  have es : (h_i h 1 0 + x).toInt = (h_i h 1 0).toInt + x.toInt := tx_add (by omega) (by omega)
  have ok : okt (h_i h 1 0) x := ⟨z, by omega⟩
  have U0 : Un PM lP tB nB h m rw (h_i h 1 0) s 0 h := ⟨I, Fr.rf _ _, (i_0 _).symm, pc⟩
  refine AW.mono (mt_lp P d I P2 T (of_nat32 x0).symm (by omega) ⟨n0, by omega⟩ lc nc x.toNatClampNeg 0 h (by omega) U0) (fun v h' q => ?_)
  obtain ⟨r, ev, U, er⟩ := q
  have ef : h_i h' 1 0 = h_i h 1 0 + x := by rw [U.2.2.1, of_nat32 x0]
  obtain ⟨X, S, em, m12, r4, own, pi⟩ := T
  have hb : ∀ k x, k < (h_i h 1 42).toNatClampNeg → x ∈ bL h k → stR x := fun k x hk hx => by
    obtain ⟨q, hq, e⟩ := bL_m hx
    rw [e]
    exact S k hk q hq
  have pE := pI_tk (lP := lP) (tB := tB) (nB := nB) (wok I X) hb (bL_hl I _) r4 ⟨n0, n1⟩ m12 x.toNatClampNeg (by omega) pi
  have fw := fr_wb U.2.1
  have J' : J2 h' := j2_of U.1 (((U.2.1.2 1 7 (by decide +kernel)).1).trans em) m12 r4 (w := wI h) (own := own) (by rw [fw.2.1, (U.2.1.2 1 42 (by decide +kernel)).1]; exact pE) U.2.2.2.1
  exact ⟨r, ev, ⟨U.1, J', U.2.1.more (by decide +kernel), Or.inl ⟨ok, er, by rw [ef, es]⟩⟩, fun _ => ⟨ef, U.2.1, U.2.2.2⟩, fun n => absurd ok n⟩
end MEN
/-! MEN: constables come -/
/-- a man who has just come -/
noncomputable def nMn (m x1 x2 x3 : Int32) : Nat → Int32 := up1 (up1 (up1 (up1 (up1 (up1 (up1 (up1 (up1 (fun _ => 0) 4 0) 5 (-1)) 6 (-1)) 7 (-1)) 0 m) 1 x1) 2 x2) 3 x3) 5 x3
theorem c_mi2 (d : Nat) (h : Hp_) (a : Nat) (x1 x2 x3 x4 : Int32) (hs : h_sh h a = some (12, 17)) : Cv (m_X2_init (d + 1) 0 0) [.ref a, .int x1, .int x2, .int x3, .int x4] h (fun h' => h_sh h' = h_sh h ∧ h_r h' = h_r h ∧ (∀ b k, b ≠ a → h_i h' b k = h_i h b k) ∧ h_i h' a 0 = x1 ∧ h_i h' a 1 = x2 ∧ h_i h' a = up1 (up1 (up1 (up1 (up1 (up1 (up1 (up1 (h_i h a) 4 0) 5 (-1)) 6 (-1)) 7 (-1)) 0 x1) 1 x2) 2 x3) 3 x4) := by
  refine Ct.of (fun _ _ _ => trivial) pn_X2 (Nat.le_of_ble_eq_true rfl) ?_
  show AW (m_X2_init (d + 1) 0 0) 0 0 0 [(0, .ref a), (1, .int x1), (2, .int x2), (3, .int x3), (4, .int x4)] [] h (kV _)
  refine aw_aload_n (i := 0) rfl d_X2_init_0 0 rfl ?_
  refine aw_objInit (rest := []) d_X2_init_1 tw_570 tw_33 tw_34 (show 1 ≤ d + 1 by omega) (show 0 + 12 ≤ 100 * (d + 1) by omega) ?_
  refine aw_aload_n (i := 0) rfl d_X2_init_4 0 rfl ?_
  refine aw_iconst (v := 0) d_X2_init_5 ic_0 ?_
  refine aw_puti (k0 := 4) kc_2 hs (Nat.le_of_ble_eq_true rfl) tw_580 d_X2_init_6 rfl rfl nf_i ?_
  refine aw_aload_n (i := 0) rfl d_X2_init_9 0 rfl ?_
  refine aw_iconst (v := (-1)) d_X2_init_10 ic_m1 ?_
  refine aw_puti (k0 := 5) kc_2 hs (Nat.le_of_ble_eq_true rfl) tw_582 d_X2_init_11 rfl rfl nf_i ?_
  refine aw_aload_n (i := 0) rfl d_X2_init_14 0 rfl ?_
  refine aw_iconst (v := (-1)) d_X2_init_15 ic_m1 ?_
  refine aw_puti (k0 := 6) kc_2 hs (Nat.le_of_ble_eq_true rfl) tw_584 d_X2_init_16 rfl rfl nf_i ?_
  refine aw_aload_n (i := 0) rfl d_X2_init_19 0 rfl ?_
  refine aw_iconst (v := (-1)) d_X2_init_20 ic_m1 ?_
  refine aw_puti (k0 := 7) kc_2 hs (Nat.le_of_ble_eq_true rfl) tw_586 d_X2_init_21 rfl rfl nf_i ?_
  refine aw_aload_n (i := 0) rfl d_X2_init_24 0 rfl ?_
  refine aw_iload_n (i := 1) rfl d_X2_init_25 1 rfl ?_
  refine aw_putiF (k0 := 0) kc_2 hs (Nat.le_of_ble_eq_true rfl) tw_571 d_X2_init_26 rfl rfl rfl rfl nf_i ?_
  refine aw_aload_n (i := 0) rfl d_X2_init_29 0 rfl ?_
  refine aw_iload_n (i := 2) rfl d_X2_init_30 2 rfl ?_
  refine aw_putiF (k0 := 1) kc_2 hs (Nat.le_of_ble_eq_true rfl) tw_574 d_X2_init_31 rfl rfl rfl rfl nf_i ?_
  refine aw_aload_n (i := 0) rfl d_X2_init_34 0 rfl ?_
  refine aw_iload_n (i := 3) rfl d_X2_init_35 3 rfl ?_
  refine aw_putiF (k0 := 2) kc_2 hs (Nat.le_of_ble_eq_true rfl) tw_576 d_X2_init_36 rfl rfl rfl rfl nf_i ?_
  refine aw_aload_n (i := 0) rfl d_X2_init_39 0 rfl ?_
  refine aw_iload d_X2_init_40 4 rfl ?_
  refine aw_putiF (k0 := 3) kc_2 hs (Nat.le_of_ble_eq_true rfl) tw_578 d_X2_init_42 rfl rfl rfl rfl nf_i ?_
  refine aw_vret rfl d_X2_init_45 ⟨Nat.le_refl _, Nat.le_refl _⟩ ⟨rfl, rfl, rfl, fun b k hb => ?_, ?_, ?_, by rw [im_row, im_row, im_row, im_row, im_row, im_row, im_row, im_row]⟩
  · rw [hi_n _ _ _ _ _ _ hb, hi_n _ _ _ _ _ _ hb, hi_n _ _ _ _ _ _ hb, hi_n _ _ _ _ _ _ hb, hi_n _ _ _ _ _ _ hb, hi_n _ _ _ _ _ _ hb, hi_n _ _ _ _ _ _ hb, hi_n _ _ _ _ _ _ hb]
  · rw [h_i_im, if_neg (fun y => absurd y.2 (by decide)), h_i_im, if_neg (fun y => absurd y.2 (by decide)), h_i_im, if_neg (fun y => absurd y.2 (by decide)), h_i_im, if_pos ⟨rfl, rfl⟩]
  · rw [h_i_im, if_neg (fun y => absurd y.2 (by decide)), h_i_im, if_neg (fun y => absurd y.2 (by decide)), h_i_im, if_pos ⟨rfl, rfl⟩]
/-- what constable leaves, in all -/
noncomputable def CyA (x1 x2 x3 : Int32) (h h' : Hp_) : Prop := (okc (h_i h 0 7) x1 x2 x3 → h_i h' (401 + (h_i h 0 7).toNatClampNeg) = nMn (h_i h 0 7) x1 x2 x3 ∧ (∀ a, a ≠ 401 + (h_i h 0 7).toNatClampNeg → a ≠ 0 → h_i h' a = h_i h a) ∧ ∀ k, k ≠ 7 → h_i h' 0 k = h_i h 0 k) ∧ (¬ okc (h_i h 0 7) x1 x2 x3 → h' = h)
theorem c_put2 (d : Nat) {h : Hp_} (I : Iv h) {c : Nat} (hc : Cn h c) (x2 : Int32) : Cv (m_X11_putAt (d + 0) 0 0) [.ref 0, .ref c, .int x2] h (fun h' => Iv h' ∧ Fr wz_X11_putAt h h' ∧ h_i h' c = up1 (h_i h c) 5 x2 ∧ (∀ a, a ≠ c → h_i h' a = h_i h a)) := by
  have c1 := hc.1
  have c2 := hc.2.1
  have w5 : inw wz_X11_putAt c 5 = true := by
    have e : cn c = cn 401 := by
      rw [show c = 401 + (c - 401) by omega]
      exact (cn_man (by omega)).trans (by decide)
    rw [inw_ce e]
    decide +kernel
  refine t_X11_putAt d h I.1 c hc.2.2 (by omega) x2 _ ⟨fun n => ?_, fun e => ?_⟩
  · exact ⟨(mIv I hc.1 hc.2.1 5 x2).lm, ((Fr.rf _ _).im w5).lm (by decide +kernel), im_row h c 5 x2, fun a n => im_oth n⟩
  · exact ⟨(mIv I hc.1 hc.2.1 5 x2).lm, ((Fr.rf _ _).im w5).lm (by decide +kernel), im_row h c 5 x2, fun a n => im_oth n⟩
theorem c_con2 (d : Nat) {h : Hp_} (I : Iv h) (x1 x2 x3 : Int32) : Ci (m_X11_constable (d + 2) 1 17) [.ref 0, .int x1, .int x2, .int x3] h (fun r h' => Cy x1 x2 x3 h r h' ∧ CyA x1 x2 x3 h h') := by
  have w := I.1
  have t12 : (12 : Int32).toInt = 12 := rfl
  have er : rin (h_i h 0 7).toInt (0, 12) := by
    have := I.2.1 0 7
    rwa [show tf 0 7 = (0, 12) by decide +kernel] at this
  have er0 : 0 ≤ (h_i h 0 7).toInt := er.1
  have bad : ¬ okc (h_i h 0 7) x1 x2 x3 → ∀ lv, AW (m_X11_constable (d + 2) 1 17) 0 0 47 lv [] h (kI (fun r h' => Cy x1 x2 x3 h r h' ∧ CyA x1 x2 x3 h h')) := fun no lv => by
    refine aw_iconst (v := (-1)) d_X11_constable_47 ic_m1 ?_
    exact aw_iret rfl d_X11_constable_48 ⟨Nat.le_of_ble_eq_true rfl, Nat.le_of_ble_eq_true rfl⟩ ⟨_, rfl, ⟨Cx.rf I, Or.inr ⟨no, rfl, rfl⟩, id, fun o => absurd o no, fun _ _ => ⟨rfl, fun _ _ _ => rfl⟩⟩, fun o => absurd o no, fun _ => rfl⟩
  have no : ¬ okc (h_i h 0 7) x1 x2 x3 → AW (m_X11_constable (d + 2) 1 17) 0 0 30 [(0, .ref 0), (1, .int x1), (2, .int x2), (3, .int x3)] [] h (kI (fun r h' => Cy x1 x2 x3 h r h' ∧ CyA x1 x2 x3 h h')) := fun no => by
    refine aw_iconst (v := 0) d_X11_constable_30 ic_0 ?_
    refine aw_istore [(0, .ref 0), (1, .int x1), (2, .int x2), (3, .int x3), (4, .int 0)] d_X11_constable_31 (Nat.le_of_ble_eq_true rfl) rfl rfl ?_
    refine aw_iload d_X11_constable_33 4 rfl ?_
    refine aw_if_eq (tgt := 47) d_X11_constable_35 rfl (fun _ => bad no _) (fun z => absurd rfl z)
  have rr2 : ∀ {y : MethodName} {cc : ByteArray} {nL : Nat} {ret : Option FieldType}, nL ≤ 81 → rr_ (fun _ _ _ => True, y, cc, nL, ret, { frames := d + 0, cells := 0, slots := 0, locals := 100 * (d + 0) }) (m_X11_constable (d + 2) 1 17) 0 0 := fun {y cc nL ret} hn => ⟨⟨show d + 0 + 1 ≤ d + 2 by omega, show 8 + (nL + 11) + 100 * (d + 0) ≤ 100 * (d + 2) by omega⟩, Nat.zero_le _, Nat.zero_le _⟩
  refine Ct.of (fun _ _ _ => trivial) pn_X11 (Nat.le_of_ble_eq_true rfl) ?_
  show AW (m_X11_constable (d + 2) 1 17) 0 0 0 [(0, .ref 0), (1, .int x1), (2, .int x2), (3, .int x3)] [] h (kI (fun r h' => Cy x1 x2 x3 h r h' ∧ CyA x1 x2 x3 h h'))
  refine aw_iload_n (i := 1) rfl d_X11_constable_0 1 rfl ?_
  refine aw_iconst (v := 1) d_X11_constable_1 ic_1 ?_
  refine aw_iconst (v := 4) d_X11_constable_2 ic_4 ?_
  refine aw_Si [.int x1, .int 1, .int 4] [] d_X11_constable_3 (cS_X11_within (d + 0) 0 0) tw_543 rfl (rr2 (Nat.le_of_ble_eq_true rfl)) (by decide) xs0 (s_X11_within _ _ x1 1 4) (fun _ _ kk => ?_)
  obtain ⟨e1, e2⟩ := kk
  rw [e1, e2]
  refine aw_ifb_eq (tgt := 30) d_X11_constable_6 rfl (fun z => no (fun o => z o.1)) (fun c1 => ?_)
  refine aw_iload_n (i := 2) rfl d_X11_constable_9 2 rfl ?_
  refine aw_iconst (v := 0) d_X11_constable_10 ic_0 ?_
  refine aw_bipush (v := 40) d_X11_constable_11 ib_40 ?_
  refine aw_Si [.int x2, .int 0, .int 40] [] d_X11_constable_13 (cS_X11_within (d + 0) 0 0) tw_543 rfl (rr2 (Nat.le_of_ble_eq_true rfl)) (by decide) xs0 (s_X11_within _ _ x2 0 40) (fun _ _ kk => ?_)
  obtain ⟨e1, e2⟩ := kk
  rw [e1, e2]
  refine aw_ifb_eq (tgt := 30) d_X11_constable_16 rfl (fun z => no (fun o => z o.2.1)) (fun c2 => ?_)
  refine aw_iload_n (i := 3) rfl d_X11_constable_19 3 rfl ?_
  refine aw_Si [.int x3] [] d_X11_constable_20 (cS_X11_isPlace (d + 0) 0 0) tw_540 rfl (rr2 (Nat.le_of_ble_eq_true rfl)) (by decide) xs0 (s_X11_isPlace _ _ x3) (fun _ _ kk => ?_)
  obtain ⟨e1, e2⟩ := kk
  rw [e1, e2]
  refine aw_ifb_eq (tgt := 30) d_X11_constable_23 rfl (fun z => no (fun o => z o.2.2.1)) (fun c3 => ?_)
  refine aw_iconst (v := 1) d_X11_constable_26 ic_1 ?_
  refine aw_goto (tgt := 31) d_X11_constable_27 rfl ?_
  refine aw_istore [(0, .ref 0), (1, .int x1), (2, .int x2), (3, .int x3), (4, .int 1)] d_X11_constable_31 (Nat.le_of_ble_eq_true rfl) rfl rfl ?_
  refine aw_iload d_X11_constable_33 4 rfl ?_
  refine aw_if_eq (tgt := 47) d_X11_constable_35 rfl (fun z => absurd z (by decide)) (fun _ => ?_)
  refine aw_aload_n (i := 0) rfl d_X11_constable_38 0 rfl ?_
  refine aw_geti (k0 := 7) kc_11 (ws_0 w) (Nat.le_of_ble_eq_true rfl) tw_494 d_X11_constable_39 rfl ?_
  refine aw_bipush (v := 12) d_X11_constable_42 ib_12 ?_
  refine aw_icmp_lt (tgt := 49) d_X11_constable_44 rfl (fun z => ?_) (fun z => bad (fun o => z o.2.2.2) _)
  have ok : okc (h_i h 0 7) x1 x2 x3 := ⟨c1, c2, c3, z⟩
  have z := q_lt.mp z
  obtain ⟨j, ej, hj⟩ : ∃ j : Nat, h_i h 0 7 = Int32.ofNat j ∧ j < 12 := ⟨(h_i h 0 7).toInt.toNat, by
    refine Int32.toInt_inj.mp ?_
    rw [on_i (by omega)]
    omega, by omega⟩
  have oj := on_i (n := j) (by omega)
  have cj := on_c (n := j) (by omega)
  have fr : h_sh h (401 + j) = none := I.2.2.2.2.2.2.1 j hj (by rw [ej, oj]; exact Int.le_refl _)
  refine aw_new (ci := 2) (401 + j) kc_2 tw_144 tw_566 tw_15 fr (by omega) xs0 (Nat.le_of_ble_eq_true rfl) (Nat.le_of_ble_eq_true rfl) d_X11_constable_49 ?_
  have s1 : h_sh (h_nw h (401 + j) (2 + 10) 17) (401 + j) = some (12, 17) := by rw [y_sh, if_pos rfl]
  have s0 : h_sh (h_nw h (401 + j) (2 + 10) 17) 0 = some (21, 16) := by rw [y_sh, if_neg (by omega)]; exact ws_0 w
  refine aw_dup d_X11_constable_52 rfl ?_
  refine aw_aload_n (i := 0) rfl d_X11_constable_53 0 rfl ?_
  refine aw_geti (k0 := 7) kc_11 s0 (Nat.le_of_ble_eq_true rfl) tw_494 d_X11_constable_54 rfl ?_
  refine aw_iload_n (i := 1) rfl d_X11_constable_57 1 rfl ?_
  refine aw_iload_n (i := 2) rfl d_X11_constable_58 2 rfl ?_
  refine aw_iload_n (i := 3) rfl d_X11_constable_59 3 rfl ?_
  refine aw_callI (vs := [.int (h_i (h_nw h (401 + j) (2 + 10) 17) 0 7), .int x1, .int x2, .int x3]) (a := 401 + j) (rest := [.ref (401 + j)]) d_X11_constable_60 (cI_X2_init (d + 1) 0 0) ⟨rfl, rfl⟩ tw_568 tw_567 rfl ⟨show d + 1 + 1 ≤ d + 2 by omega, show 8 + (5 + 11) + 100 * (d + 1) ≤ 100 * (d + 2) by omega⟩ (Nat.le_of_ble_eq_true rfl) ⟨Nat.le_of_ble_eq_true rfl, Nat.le_of_ble_eq_true rfl⟩ xs0 (c_mi2 d _ (401 + j) _ x1 x2 x3 s1) (fun v h2 kk => ?_)
  obtain ⟨ev, s2, r2, i2, n2, q2, a2⟩ := kk
  rw [ev]
  have sA : ∀ a, h_sh h2 a = if a = 401 + j then some (12, 17) else h_sh h a := fun a => by rw [s2, y_sh]
  have iA : ∀ a k, a ≠ 401 + j → h_i h2 a k = h_i h a k := fun a k ha => by rw [i2 a k ha, y_i, if_neg ha]
  have rA : ∀ a k, a ≠ 401 + j → h_r h2 a k = h_r h a k := fun a k ha => by rw [r2, y_r, if_neg ha]
  have w20 : h_sh h2 0 = some (21, 16) := by rw [sA, if_neg (by omega)]; exact ws_0 w
  have w215 : h_sh h2 15 = some (4, 12) := by rw [sA, if_neg (by omega)]; exact ws_15 w
  have w2r : h_r h2 0 6 = some 15 := by rw [rA 0 6 (by omega)]; exact wr_0_6 w
  have w2s : h_sh h2 (401 + j) = some (12, 17) := by rw [sA, if_pos rfl]
  have e7 : h_i h2 0 7 = Int32.ofNat j := by rw [iA 0 7 (by omega)]; exact ej
  refine aw_astore [(0, .ref 0), (1, .int x1), (2, .int x2), (3, .int x3), (4, .int 1), (5, .ref (401 + j))] d_X11_constable_63 (Nat.le_of_ble_eq_true rfl) rfl rfl ?_
  refine aw_aload_n (i := 0) rfl d_X11_constable_65 0 rfl ?_
  refine aw_getr (k0 := 6) kc_11 w20 (Nat.le_of_ble_eq_true rfl) tw_493 d_X11_constable_66 rfl w2r ?_
  refine aw_aload_n (i := 0) rfl d_X11_constable_69 0 rfl ?_
  refine aw_geti (k0 := 7) kc_11 w20 (Nat.le_of_ble_eq_true rfl) tw_494 d_X11_constable_70 rfl ?_
  refine aw_vi (v2 := Int32.ofNat j) e7 ?_
  refine aw_aload d_X11_constable_73 5 rfl ?_
  refine aw_aast w215 (dp_in (lo := 0) (hi := 11) ⟨by show (0 : Int) ≤ _; omega, by show _ ≤ (11 : Int); omega⟩ (by decide) (by decide)) w2s d_X11_constable_75 ?_
  rw [cj]
  refine aw_aload_n (i := 0) rfl d_X11_constable_76 0 rfl ?_
  refine aw_dup d_X11_constable_77 rfl ?_
  refine aw_geti (k0 := 7) kc_11 (h := h_rm h2 15 j (some (401 + j))) w20 (Nat.le_of_ble_eq_true rfl) tw_494 d_X11_constable_78 rfl ?_
  refine aw_iconst (v := 1) d_X11_constable_81 ic_1 ?_
  refine aw_iadd d_X11_constable_82 ?_
  have t1 : (1 : Int32).toInt = 1 := rfl
  refine aw_vi (v2 := Int32.ofNat (j + 1)) (by
    show h_i h2 0 7 + 1 = _
    rw [e7]
    refine Int32.toInt_inj.mp ?_
    rw [tx_add (by rw [t1]; omega) (by rw [t1]; omega), oj, t1, on_i (by omega)]
    omega) ?_
  refine aw_puti (k0 := 7) kc_11 (h := h_rm h2 15 j (some (401 + j))) w20 (Nat.le_of_ble_eq_true rfl) tw_494 d_X11_constable_83 rfl rfl nf_i ?_
  have I4 : Iv (h_im (h_rm h2 15 j (some (401 + j))) 0 7 (Int32.ofNat (j + 1))) := by
    refine Iv_man I hj ej (fun a => sA a) (fun a k ha hk => ?_) (by rw [h_i_im, if_pos ⟨rfl, rfl⟩]) (fun a k ha hk => ?_) ?_
    · rw [h_i_im, if_neg hk]; exact iA a k ha
    · show h_r (h_rm h2 15 j (some (401 + j))) a k = _
      rw [h_r_rm, if_neg hk]; exact rA a k ha
    · show h_r (h_rm h2 15 j (some (401 + j))) 15 j = _
      rw [h_r_rm, if_pos ⟨rfl, rfl⟩]
  have x4 : Cx h (h_im (h_rm h2 15 j (some (401 + j))) 0 7 (Int32.ofNat (j + 1))) := by
    refine ⟨I4, ⟨fun k => ?_, fun a h1 h2' k => ?_, ?_, fun a k ha hw => ?_⟩, ?_, fun c N hc hN => ?_⟩
    · rw [h_i_im, if_neg (fun y => absurd y.1 (by decide))]; exact iA 1 k (by omega)
    · rw [h_i_im, if_neg (fun y => by omega)]; exact iA a k (by omega)
    · show h_sh h2 2 = _
      rw [sA, if_neg (by omega)]
    · have na : a ≠ 401 + j := fun y => by rw [y, inw_ce (b := 401) ((cn_man hj).trans (by decide)), inw_row (a := 401) (by decide +kernel) k] at hw; cases hw
      refine ⟨by rw [h_i_im, if_neg (fun y => by rw [y.1, y.2] at hw; exact absurd hw (by decide +kernel))]; exact iA a k na, ?_⟩
      show h_r (h_rm h2 15 j (some (401 + j))) a k = _
      rw [h_r_rm, if_neg (fun y => by rw [y.1, inw_row (a := 15) (by decide +kernel) k] at hw; cases hw)]
      exact rA a k na
    · show h_r (h_rm h2 15 j (some (401 + j))) 0 15 = _
      rw [h_r_rm, if_neg (fun y => absurd y.1 (by decide))]; exact rA 0 15 (by omega)
    · show h_sh h2 c = _
      rw [sA, if_neg (fun y => by rw [y, fr] at hN; cases hN)]; exact hN
  have cn4 : Cn (h_im (h_rm h2 15 j (some (401 + j))) 0 7 (Int32.ofNat (j + 1))) (401 + j) := ⟨by omega, by omega, w2s⟩
  have m4 : h_i (h_im (h_rm h2 15 j (some (401 + j))) 0 7 (Int32.ofNat (j + 1))) 0 7 = h_i h 0 7 + 1 := by
    rw [h_i_im, if_pos ⟨rfl, rfl⟩, ej]
    refine Int32.toInt_inj.mp ?_
    rw [tx_add (by rw [t1]; omega) (by rw [t1]; omega), oj, t1, on_i (by omega)]
    omega
  have n4 : h_i (h_im (h_rm h2 15 j (some (401 + j))) 0 7 (Int32.ofNat (j + 1))) (401 + j) 0 = h_i h 0 7 := by
    rw [h_i_im, if_neg (fun y => by omega)]
    show h_i h2 (401 + j) 0 = _
    rw [n2, y_i, if_neg (by omega)]
  have q4 : h_i (h_im (h_rm h2 15 j (some (401 + j))) 0 7 (Int32.ofNat (j + 1))) (401 + j) 1 = x1 := by
    rw [h_i_im, if_neg (fun y => by omega)]
    exact q2
  have i4 : ∀ k f, k ≠ j → h_i (h_im (h_rm h2 15 j (some (401 + j))) 0 7 (Int32.ofNat (j + 1))) (401 + k) f = h_i h (401 + k) f := fun k f ne => by
    rw [h_i_im, if_neg (fun y => by omega)]
    exact iA (401 + k) f (by omega)
  have r4 : ∀ k, h_r (h_im (h_rm h2 15 j (some (401 + j))) 0 7 (Int32.ofNat (j + 1))) 15 k = if k = j then some (401 + j) else h_r h 15 k := fun k => by
    show h_r (h_rm h2 15 j (some (401 + j))) 15 k = _
    rw [h_r_rm]
    by_cases e : k = j
    · rw [if_pos ⟨rfl, e⟩, if_pos e]
    · rw [if_neg (fun y => e y.2), if_neg e]; exact rA 15 k (by omega)
  have a4 : h_i (h_im (h_rm h2 15 j (some (401 + j))) 0 7 (Int32.ofNat (j + 1))) (401 + j) = up1 (up1 (up1 (up1 (up1 (up1 (up1 (up1 (fun _ => 0) 4 0) 5 (-1)) 6 (-1)) 7 (-1)) 0 (h_i h 0 7)) 1 x1) 2 x2) 3 x3 := by
    rw [im_oth (by omega)]
    show h_i h2 (401 + j) = _
    rw [a2, y_i, if_pos rfl, y_i, if_neg (by omega)]
  have b4 : ∀ a, a ≠ 401 + j → a ≠ 0 → h_i (h_im (h_rm h2 15 j (some (401 + j))) 0 7 (Int32.ofNat (j + 1))) a = h_i h a := fun a n1 n2 => by
    rw [im_oth n2]
    exact funext (fun k => iA a k n1)
  have d4 : ∀ k, k ≠ 7 → h_i (h_im (h_rm h2 15 j (some (401 + j))) 0 7 (Int32.ofNat (j + 1))) 0 k = h_i h 0 k := fun k n => by
    rw [h_i_im, if_neg (fun y => n y.2)]
    exact iA 0 k (by omega)
  generalize h_im (h_rm h2 15 j (some (401 + j))) 0 7 (Int32.ofNat (j + 1)) = h4 at I4 x4 cn4 m4 n4 r4 q4 i4 a4 b4 d4 ⊢
  refine aw_aload_n (i := 0) rfl d_X11_constable_86 0 rfl ?_
  refine aw_aload d_X11_constable_87 5 rfl ?_
  refine aw_iload_n (i := 3) rfl d_X11_constable_89 3 rfl ?_
  refine aw_Vv 0 [.ref (401 + j), .int x3] [] d_X11_constable_90 (cV_X11_putAt (d + 0) 0 0) kc_11 (ws_0 I4.1) tw_634 rfl ⟨⟨show d + 0 + 1 ≤ d + 2 by omega, show 8 + (_ + 11) + 100 * (d + 0) ≤ 100 * (d + 2) from Nat.le_trans (Nat.add_le_add_right (Nat.le_of_ble_eq_true rfl : 8 + (_ + 11) ≤ 200) _) (by omega)⟩, Nat.le_of_ble_eq_true rfl, Nat.le_of_ble_eq_true rfl⟩ (Nat.le_of_ble_eq_true rfl) xs0 (c_put2 d I4 cn4 x3) (fun h5 kv => ?_)
  refine aw_aload d_X11_constable_93 5 rfl ?_
  refine aw_geti (k0 := 0) kc_2 (Cn_fr kv.2.1 cn4).2.2 (Nat.le_of_ble_eq_true rfl) tw_573 d_X11_constable_95 rfl ?_
  refine aw_iret rfl d_X11_constable_98 ⟨Nat.le_of_ble_eq_true rfl, Nat.le_of_ble_eq_true rfl⟩ ⟨_, rfl, ⟨x4.fr kv.1 kv.2.1 (by decide +kernel), Or.inl ⟨ok, by rw [(kv.2.1.2 (401 + j) 0 (by rw [inw_ce (b := 401) ((cn_man hj).trans (by decide))]; decide +kernel)).1]; exact n4, by rw [(kv.2.1.2 0 7 (by decide +kernel)).1]; exact m4⟩, fun mn k hk hm => ?_, fun _ => ?_, fun k hk => ⟨?_, fun l f lf => ?_⟩⟩, fun _ => ?_, fun y => absurd ok y⟩
  · rw [(kv.2.1.2 0 7 (by decide +kernel)).1, m4, ej, tx_add (by rw [t1, oj]; omega) (by rw [t1, oj]; omega), oj, t1] at hm
    rw [(kv.2.1.2 15 k (off_inw (by decide +kernel) k)).2.2, r4]
    by_cases e : k = j
    · rw [if_pos e]; exact fun y => by cases y
    · rw [if_neg e]; exact mn k hk (by rw [ej, oj]; omega)
  · rw [ej, cj, (kv.2.1.2 15 j (off_inw (by decide +kernel) j)).2.2, r4, if_pos rfl, (kv.2.1.2 (401 + j) 0 (by rw [inw_ce (b := 401) ((cn_man hj).trans (by decide))]; decide +kernel)).1, (kv.2.1.2 (401 + j) 1 (by rw [inw_ce (b := 401) ((cn_man hj).trans (by decide))]; decide +kernel)).1, n4, q4]
    exact ⟨rfl, ej, rfl⟩
  · have nk : k ≠ j := fun e => hk.elim (fun y => y (by rw [ej, cj]; exact e)) (fun y => y ok)
    rw [(kv.2.1.2 15 k (off_inw (by decide +kernel) k)).2.2, r4, if_neg nk]
  · have nk : k ≠ j := fun e => hk.elim (fun y => y (by rw [ej, cj]; exact e)) (fun y => y ok)
    have z : inw wz_X11_putAt (401 + k) f = false := by
      rw [inw_ce (b := 401) ((cn_man l).trans (by decide))]
      have zz : (List.range 4).all (fun f => !inw wz_X11_putAt 401 f) = true := by decide +kernel
      have y := List.all_eq_true.mp zz f (List.mem_range.mpr (by omega))
      rw [Bool.not_eq_true'] at y
      exact y
    rw [(kv.2.1.2 (401 + k) f z).1]
    exact i4 k f nk
  · rw [ej, cj]
    refine ⟨?_, fun a n1 n2 => ?_, fun k n => ?_⟩
    · rw [kv.2.2.1, a4, ej]
      rfl
    · rw [kv.2.2.2 a n1, b4 a n1 n2]
    · rw [kv.2.2.2 0 (by omega), d4 k n]
noncomputable def wcM : List Nat := [1007, 204999, 205999, 206999, 207999, 208999, 209999, 210999, 211999, 213999, 215999, 216999, 217999]
/-- what the reference's constable leaves, in all -/
noncomputable def CwA (x1 x2 x3 : Int32) (h h' : Hp_) : Prop := (okm (h_i h 1 7) x1 x2 x3 → RMp (h_i h 1 7).toNatClampNeg (nMn (h_i h 1 7) x1 x2 x3) h' ∧ (h_i h' 205 (h_i h 1 7).toNatClampNeg = x2 ∧ h_i h' 207 (h_i h 1 7).toNatClampNeg = h_i h 1 0) ∧ Fr wcM h h' ∧ ∀ a k, a ≠ 1 → k ≠ (h_i h 1 7).toNatClampNeg → h_i h' a k = h_i h a k) ∧ (¬ okm (h_i h 1 7) x1 x2 x3 → h' = h)
theorem m_con2 (d : Nat) {h : Hp_} (I : Iv h) (J : J2 h) (x1 x2 x3 : Int32) : Ci (m_X12_constable (d + 2) 0 0) [.ref 1, .int x1, .int x2, .int x3] h (fun r h' => Iv h' ∧ J2 h' ∧ Sn h h' ∧ ocm (h_i h 1 7) x1 x2 x3 r (h_i h' 1 7) ∧ Cw (okm (h_i h 1 7) x1 x2 x3) (h_i h 1 7) x1 h h' ∧ CwA x1 x2 x3 h h') := by
  have t0 : (0 : Int32).toInt = 0 := rfl
  have t1 : (1 : Int32).toInt = 1 := rfl
  have t12 : (12 : Int32).toInt = 12 := rfl
  have m0 : 0 ≤ (h_i h 1 7).toInt := (men_in I).1
  have m1 : (h_i h 1 7).toInt ≤ 12 := (men_in I).2
  refine t_X12_constable d h I.1 x1 x2 x3 _ ⟨fun n => ⟨I, J, Fr.rf _ _, Or.inr ⟨fun o => n o.1, rfl, rfl⟩, ⟨fun o => absurd o.1 n, fun _ _ => rfl⟩, fun o => absurd o.1 n, fun _ => rfl⟩, fun a1 => ⟨fun n => ⟨I, J, Fr.rf _ _, Or.inr ⟨fun o => n o.2.1, rfl, rfl⟩, ⟨fun o => absurd o.2.1 n, fun _ _ => rfl⟩, fun o => absurd o.2.1 n, fun _ => rfl⟩, fun a2 => ⟨fun n => ⟨I, J, Fr.rf _ _, Or.inr ⟨fun o => n o.2.2.1, rfl, rfl⟩, ⟨fun o => absurd o.2.2.1 n, fun _ _ => rfl⟩, fun o => absurd o.2.2.1 n, fun _ => rfl⟩, fun y => ⟨fun z => ?_, fun n => ⟨I, J, Fr.rf _ _, Or.inr ⟨fun o => o.2.2.2 n, rfl, rfl⟩, ⟨fun o => absurd n o.2.2.2, fun _ _ => rfl⟩, fun o => absurd n o.2.2.2, fun _ => rfl⟩⟩⟩⟩⟩
  have ok : okm (h_i h 1 7) x1 x2 x3 := ⟨a1, a2, y, z⟩
  have y1 := q_le.mp y.1
  have y2 := q_le.mp y.2
  have b3 : rin x3.toInt (0, 15) := ⟨y1, y2⟩
  have lt : (h_i h 1 7).toInt ≤ 11 := by
    rcases Int.lt_or_le (h_i h 1 7).toInt 12 with u | u
    · omega
    · exact absurd (Int32.toInt_inj.mp (by rw [t12]; omega)) z
  have v : vp_in (h_i h 1 7) 12 := dp_in (lo := 0) (hi := 11) ⟨m0, lt⟩ (by decide) (by decide)
  have e7 : (h_i h 1 7 + 1).toInt = (h_i h 1 7).toInt + 1 := tx_add (by rw [t1]; omega) (by rw [t1]; omega)
  refine ⟨v, v, v, v, v, v, v, v, v, v, v, v, ?_⟩
  have nr := I.2.1 1 0
  rw [show tf 1 0 = (0, 20000) by decide +kernel] at nr
  have nc := n_nat m0
  generalize ecc : (h_i h 1 7).toNatClampNeg = c at nc ⊢
  have z4 : rin (0 : Int32).toInt (0, 400) := ⟨by decide, by decide⟩
  have IA := i2xx 205 (by decide +kernel) (by decide) (by decide) (i2xx 204 (by decide +kernel) (by decide) (by decide) I c x1) c x2
  have FB : Fr wsN h (h_im (h_im (h_im (h_im h 204 c x1) 205 c x2) 206 c x3) 207 c (h_i h 1 0)) := ((((Fr.rf _ _).im (inw_row (by decide +kernel) _)).im (inw_row (by decide +kernel) _)).im (inw_row (by decide +kernel) _)).im (inw_row (by decide +kernel) _)
  have JB : J2 (h_im (h_im (h_im (h_im h 204 c x1) 205 c x2) 206 c x3) 207 c (h_i h 1 0)) := J2_s (Js.im (by decide) (fun z => absurd z.1 (by decide))) (J2_s (Js.im (by decide) (fun z => absurd z.1 (by decide))) (J2_s (Js.im (by decide) (fun z => absurd z.1 (by decide))) (J2_s (Js.im (by decide) (fun z => absurd z.1 (by decide))) J)))
  have IB : Iv (h_im (h_im (h_im (h_im h 204 c x1) 205 c x2) 206 c x3) 207 c (h_i h 1 0)) := (IA.im (by rw [tfa_tf (show tfa 206 = some (0, 15) by decide +kernel)]; exact b3) (jw_jr (by decide) (by decide) _)).im (by rw [tfa_tf (show tfa 207 = some (0, 20000) by decide +kernel)]; exact nr) (jw_jr (by decide) (by decide) _)
  have MB : Mo c (h_im (h_im (h_im (h_im h 204 c x1) 205 c x2) 206 c x3) 207 c (h_i h 1 0)) (h_im (h_im (h_im (h_im h 204 c x1) 205 c x2) 206 c x3) 207 c (h_i h 1 0)) := Mo.rf _ _
  have IC := i213 (i211 (i210 (i209 (i208 IB c 0) c (b15 b3)) c m1_in) c (-1)) c m1_st
  have MC := ((((MB.im (b := 208) (k := c) (x := 0) (by decide) (fun _ => rfl)).im (b := 209) (k := c) (x := x3) (by decide) (fun y => absurd y (by decide))).im (b := 210) (k := c) (x := -1) (by decide) (fun _ => rfl)).im (b := 211) (k := c) (x := -1) (by decide) (fun y => absurd y (by decide))).im (b := 213) (k := c) (x := -1) (by decide) (fun _ => rfl)
  have ID : Iv (h_im (h_im (h_im (h_im (h_im (h_im (h_im (h_im (h_im (h_im (h_im (h_im h 204 c x1) 205 c x2) 206 c x3) 207 c (h_i h 1 0)) 208 c 0) 209 c x3) 210 c (-1)) 211 c (-1)) 213 c (-1)) 215 c 0) 216 c 0) 217 c 0) := (i216 (i215 IC c z4) c z4).im (by rw [tfa_tf (show tfa 217 = some (0, 400) by decide +kernel)]; exact z4) (jw_jr (by decide) (by decide) _)
  have MD := ((MC.im (b := 215) (k := c) (x := 0) (by decide) (fun y => absurd y (by decide))).im (b := 216) (k := c) (x := 0) (by decide) (fun _ => rfl)).im (b := 217) (k := c) (x := 0) (by decide) (fun y => absurd y (by decide))
  have e8 : h_i (h_im (h_im (h_im (h_im (h_im (h_im (h_im (h_im (h_im (h_im (h_im (h_im h 204 c x1) 205 c x2) 206 c x3) 207 c (h_i h 1 0)) 208 c 0) 209 c x3) 210 c (-1)) 211 c (-1)) 213 c (-1)) 215 c 0) 216 c 0) 217 c 0) 208 c = 0 := by rw [im_ne (by decide), im_ne (by decide), im_ne (by decide), im_ne (by decide), im_ne (by decide), im_ne (by decide), im_ne (by decide), im_at]
  have e10 : h_i (h_im (h_im (h_im (h_im (h_im (h_im (h_im (h_im (h_im (h_im (h_im (h_im h 204 c x1) 205 c x2) 206 c x3) 207 c (h_i h 1 0)) 208 c 0) 209 c x3) 210 c (-1)) 211 c (-1)) 213 c (-1)) 215 c 0) 216 c 0) 217 c 0) 210 c = -1 := by rw [im_ne (by decide), im_ne (by decide), im_ne (by decide), im_ne (by decide), im_ne (by decide), im_at]
  have JC := Jd.jm ⟨by rw [e8]; decide, fun _ => e10⟩
  have JD := J2_o MD JB JC
  have eM := (MD.2.2.2.1 7 (Or.inr (Or.inl rfl))).trans (show h_i (h_im (h_im (h_im (h_im h 204 c x1) 205 c x2) 206 c x3) 207 c (h_i h 1 0)) 1 7 = h_i h 1 7 by rw [im_ne (by decide), im_ne (by decide), im_ne (by decide), im_ne (by decide)])
  refine ⟨ID.im (by rw [show tf 1 7 = (0, 12) by decide +kernel]; exact ⟨by show (0 : Int) ≤ _; omega, by show _ ≤ (12 : Int); omega⟩) (by decide), fun k hk hm => Jm_z (Jz.im (by decide) (fun y => absurd y.2 (by decide))) ?_, Fr.im (FB.tr MD.sr.sn) (by decide +kernel), Or.inl ⟨ok, tx_back _, im_at⟩, ⟨fun _ => ?_, fun k hk => ?_⟩, fun _ => ?_, fun y => absurd ok y⟩
  · rw [im_at, e7] at hm
    by_cases ek : k = c
    · rw [ek]; exact JC
    · exact JD k hk (by rw [eM]; omega)
  · rw [ecc, im_ne (by decide), im_ne (by decide), im_ne (by decide), im_ne (by decide), im_ne (by decide), im_ne (by decide), im_ne (by decide), im_ne (by decide), im_ne (by decide), im_ne (by decide), im_ne (by decide), im_ne (by decide), im_at]
  · have nk : k ≠ c := fun e => hk.elim (fun y => y (by rw [ecc]; exact e)) (fun y => y ok)
    rw [im_ne (by decide), im_ne (by decide), im_ne (by decide), im_ne (by decide), im_ne (by decide), im_ne (by decide), im_ne (by decide), im_ne (by decide), im_ne (by decide), im_ne (by decide), im_ne (by decide), im_ne (by decide), h_i_im, if_neg (fun e => nk e.2)]
  · rw [ecc]
    refine ⟨⟨⟨(by show _ = (0 : Int32); rw [im_ne (by decide), im_ne (by decide), im_ne (by decide), im_ne (by decide), im_ne (by decide), im_ne (by decide), im_ne (by decide), im_ne (by decide), im_at]), (by show _ = (x3 : Int32); rw [im_ne (by decide), im_ne (by decide), im_ne (by decide), im_ne (by decide), im_ne (by decide), im_ne (by decide), im_ne (by decide), im_at]), (by show _ = (-1 : Int32); rw [im_ne (by decide), im_ne (by decide), im_ne (by decide), im_ne (by decide), im_ne (by decide), im_ne (by decide), im_at]), (by show _ = (-1 : Int32); rw [im_ne (by decide), im_ne (by decide), im_ne (by decide), im_ne (by decide), im_ne (by decide), im_at])⟩, fun y => absurd (show (0 : Int32) = 1 from y) (by decide), fun y => absurd (show (0 : Int32) = 3 from y) (by decide), (by show _ = (x3 : Int32); rw [im_ne (by decide), im_ne (by decide), im_ne (by decide), im_ne (by decide), im_ne (by decide), im_ne (by decide), im_ne (by decide), im_ne (by decide), im_ne (by decide), im_ne (by decide), im_at])⟩, ⟨(by rw [im_ne (by decide), im_ne (by decide), im_ne (by decide), im_ne (by decide), im_ne (by decide), im_ne (by decide), im_ne (by decide), im_ne (by decide), im_ne (by decide), im_ne (by decide), im_ne (by decide), im_at]), (by rw [im_ne (by decide), im_ne (by decide), im_ne (by decide), im_ne (by decide), im_ne (by decide), im_ne (by decide), im_ne (by decide), im_ne (by decide), im_ne (by decide), im_at])⟩, ?_, fun a k n1 nk => ?_⟩
    · exact (((((((((((((Fr.rf _ _).im (inw_row (by decide +kernel) _)).im (inw_row (by decide +kernel) _)).im (inw_row (by decide +kernel) _)).im (inw_row (by decide +kernel) _)).im (inw_row (by decide +kernel) _)).im (inw_row (by decide +kernel) _)).im (inw_row (by decide +kernel) _)).im (inw_row (by decide +kernel) _)).im (inw_row (by decide +kernel) _)).im (inw_row (by decide +kernel) _)).im (inw_row (by decide +kernel) _)).im (inw_row (by decide +kernel) _)).im (by decide +kernel)
    · rw [h_i_im, if_neg (fun e => n1 e.1), h_i_im, if_neg (fun e => nk e.2), h_i_im, if_neg (fun e => nk e.2), h_i_im, if_neg (fun e => nk e.2), h_i_im, if_neg (fun e => nk e.2), h_i_im, if_neg (fun e => nk e.2), h_i_im, if_neg (fun e => nk e.2), h_i_im, if_neg (fun e => nk e.2), h_i_im, if_neg (fun e => nk e.2), h_i_im, if_neg (fun e => nk e.2), h_i_im, if_neg (fun e => nk e.2), h_i_im, if_neg (fun e => nk e.2), h_i_im, if_neg (fun e => nk e.2)]
/-! MEN: what class and reference keep alike -/
theorem wI_cg {h h' : Hp_} (e : h_i h' 30 = h_i h 30) : wI h' = wI h := by
  funext a b
  unfold wI
  rw [e]
theorem bL_cg {h h' : Hp_} (a : h_i h' 227 = h_i h 227) (b : h_i h' 228 = h_i h 228) (c : h_i h' 229 = h_i h 229) (d : h_i h' 230 = h_i h 230) : bL h' = bL h := by
  funext k
  unfold bL sB
  rw [a, b, c, d]
theorem gw_fr {c : Nat} {ws W : List Nat} {h h' : Hp_} (g : Gw c ws h h') (h1 : 401 ≤ c) (h2 : c ≤ 412) (s : wsub ws W = true) (r : ∀ k, inw W 401 k = true) (l : inw W 0 14 = true) : Fr W h h' := ⟨g.1, fun b k o => by
  have z := g.2 b k (inw_sub s o)
  refine ⟨z.2.2 (fun e => ?_), z.2.1 (fun e => ?_), z.1⟩
  · have e' : cn b = cn 401 := by
      rw [e, show c = 401 + (c - 401) by omega]
      exact (cn_man (by omega)).trans (by decide)
    rw [inw_ce e', r] at o
    cases o
  · rw [e.1, e.2, l] at o
    cases o⟩
theorem pI.mo {β : Type} {w w' : Int32 → Int32 → Int32} {BL BL' : Nat → List Sp3} {nb nb' rw rw' : Nat} {own own' : Nat → Int32} {m : Nat} {s : Pst β} (p : pI w BL nb rw own m s) (hw : ∀ a b, ¬ w a b = -1 → ¬ w' a b = -1) (hb : nb ≤ nb') (hB : ∀ k, k < nb → BL' k = BL k) (hr : rw ≤ rw') (ho : ∀ k, k < rw → own' k = own k) : pI w' BL' nb' rw' own' m s := fun j hj => by
  obtain ⟨⟨a, b⟩, c, d⟩ := p j hj
  refine ⟨⟨⟨a.1, a.2.1, a.2.2.1, a.2.2.2.1, a.2.2.2.2.1, a.2.2.2.2.2.1, fun e => ⟨(a.2.2.2.2.2.2.1 e).1, hw _ _ (a.2.2.2.2.2.2.1 e).2.1, (a.2.2.2.2.2.2.1 e).2.2⟩, hw _ _ a.2.2.2.2.2.2.2⟩, fun e => ?_⟩, c, fun e k k1 k2 => ?_⟩
  · obtain ⟨i, x, L, q1, q2, q3⟩ := b e
    exact ⟨i, x, L, ⟨q1.1, Nat.lt_of_lt_of_le q1.2 hb⟩, by rw [hB _ q1.2]; exact q2, q3.1, q3.2.1, q3.2.2.1, q3.2.2.2.1, by have := q3.2.2.2.2; omega⟩
  · obtain ⟨i, x, L, q1, q2, q3⟩ := b e
    have z := q3.2.2.2.2
    rw [ho k (by omega)]
    exact d e k k1 k2
theorem pI.cs {β : Type} {w : Int32 → Int32 → Int32} {BL : Nat → List Sp3} {nb rw : Nat} {own : Nat → Int32} {m : Nat} {s s' : Pst β} (p : pI w BL nb rw own m s) (e1 : ∀ j, j < m → s'.1 j = s.1 j) (e2 : s'.2.1 = s.2.1) : pI w BL nb rw own m s' := fun j hj => by
  rw [e1 j hj, e2]
  exact p j hj
theorem on_ne {l j : Nat} (hl : l < 1000) (hj : j < 1000) (e : Int32.ofNat l = Int32.ofNat j) : l = j := by
  have z := congrArg Int32.toInt e
  rw [on_j (by omega), on_j (by omega)] at z
  omega
theorem pI_ev {β : Type} {w : Int32 → Int32 → Int32} {BL : Nat → List Sp3} {nb rw : Nat} {own : Nat → Int32} {m : Nat} {s s' : Pst β} (p : pI w BL nb rw own m s) (m12 : m ≤ 12) {j : Nat} (hj : j < m) {M' : Nat → Int32} {E : List Ev2} (K : Km w BL nb rw M') (e0 : M' 0 = s.1 j 0) (er : E = [] ∨ (s.1 j 4 = 1 ∧ (s.1 j 11).toInt + (E.length : Int) ≤ (s.1 j 12).toInt)) (n1 : ¬ M' 4 = 1) (hs : s'.1 j = M') (ho : ∀ l, l < m → l ≠ j → s'.1 l = s.1 l) (hr : s'.2.1 = rz Prod.fst (s.1 j 11).toNatClampNeg E s.2.1) : pI w BL nb rw own m s' := fun l hl => by
  by_cases el : l = j
  · subst el
    rw [hs]
    exact ⟨K, e0.trans (p l hl).2.1, fun e => absurd e n1⟩
  · obtain ⟨a, b, c⟩ := p l hl
    rw [ho l hl el]
    refine ⟨a, b, fun e k k1 k2 => ?_⟩
    have cc := c e k k1 k2
    refine ⟨?_, cc.2⟩
    rw [hr, rz_o _ _ _ _ _ ?_]
    · exact cc.1
    · rcases er with er | er
      · rw [er]
        show k < _ ∨ _ + 0 ≤ k
        omega
      · refine Decidable.byContradiction (fun n => ?_)
        obtain ⟨i, x, L, q1, q2, q3⟩ := (p j hj).1.2 er.1
        have n11 := n_nat q3.2.2.1
        have q := (p j hj).2.2 er.1 k (by omega) (by omega)
        have z := q.2
        rw [cc.2] at z
        exact el (on_ne (by omega) (by omega) z)
noncomputable def sX (h : Hp_) : Pst Unit := (fun j => h_i h (401 + j), h_i h 51, h_i h 52, h_i h 53, ())
noncomputable def ExM (h : Hp_) : Prop := (h_i h 0 7 = h_i h 1 7 ∧ h_i h 0 0 = h_i h 1 0 ∧ h_i h 16 7 = h_i h 1 63 ∧ (h_i h 0 7).toNatClampNeg ≤ 12) ∧ Mrw h ∧ pI (wI h) (bL h) (h_i h 12 3).toNatClampNeg (h_i h 16 7).toNatClampNeg (h_i h 47) (h_i h 0 7).toNatClampNeg (sX h) ∧ (∀ j, j < (h_i h 0 7).toNatClampNeg → RMp j (h_i h (401 + j)) h) ∧ (∀ k, k < (h_i h 16 7).toNatClampNeg → stt (h_i h 51 k) (h_i h 52 k) (h_i h 53 k) (h_i h 241 k) (h_i h 242 k) (h_i h 243 k) ∧ (h_i h 47 k = h_i h 238 k ∧ h_i h 48 k = h_i h 239 k ∧ h_i h 49 k = h_i h 240 k ∧ h_i h 50 k = h_i h 244 k) ∧ (¬ h_i h 51 k = 0 → (h_i h 52 k).toInt ≤ (h_i h 0 0).toInt)) ∧ ∀ k, (h_i h 16 7).toNatClampNeg ≤ k → k < 400 → h_i h 51 k = 0
noncomputable def mqL : List (Nat × Nat) := [(0, 7), (1, 7), (0, 0), (1, 0), (16, 7), (1, 63), (12, 3)]
noncomputable def mqR : List Nat := [30, 47, 48, 49, 50, 51, 52, 53, 206, 208, 209, 210, 211, 212, 213, 214, 215, 216, 217, 218, 219, 227, 228, 229, 230, 238, 239, 240, 241, 242, 243, 244, 248]
theorem mqR_m : ∀ a ∈ 206 :: mrL, a ∈ mqR := by decide
theorem ExM.cg {h h' : Hp_} (x : ExM h) (n : ∀ q ∈ mqL, h_i h' q.1 q.2 = h_i h q.1 q.2) (r : ∀ a ∈ mqR, h_i h' a = h_i h a) (f : ∀ k, h_r h' 15 k = h_r h 15 k) (c : ∀ j, j < 12 → h_i h' (401 + j) = h_i h (401 + j)) : ExM h' := by
  have n07 : h_i h' 0 7 = h_i h 0 7 := n (0, 7) (by decide)
  have n17 : h_i h' 1 7 = h_i h 1 7 := n (1, 7) (by decide)
  have n00 : h_i h' 0 0 = h_i h 0 0 := n (0, 0) (by decide)
  have n10 : h_i h' 1 0 = h_i h 1 0 := n (1, 0) (by decide)
  have nr : h_i h' 16 7 = h_i h 16 7 := n (16, 7) (by decide)
  have n63 : h_i h' 1 63 = h_i h 1 63 := n (1, 63) (by decide)
  have n3 : h_i h' 12 3 = h_i h 12 3 := n (12, 3) (by decide)
  have m12 := x.1.2.2.2
  have r51 := r 51 (by decide)
  refine ⟨⟨by rw [n07, n17]; exact x.1.1, by rw [n00, n10]; exact x.1.2.1, by rw [nr, n63]; exact x.1.2.2.1, by rw [n07]; exact m12⟩, fun k hk => by rw [f k]; exact x.2.1 k (by rw [n07] at hk; exact hk), ?_, fun j hj => ?_, fun k hk => ?_, fun k hk h4 => ?_⟩
  · rw [wI_cg (r 30 (by decide)), bL_cg (r 227 (by decide)) (r 228 (by decide)) (r 229 (by decide)) (r 230 (by decide)), n3, nr, r 47 (by decide), n07]
    exact x.2.2.1.cs (fun j hj => c j (by omega)) r51
  · rw [n07] at hj
    rw [c j (by omega)]
    exact (x.2.2.2.1 j hj).cg (fun a ha => congrFun (r a (mqR_m a ha)) j)
  · rw [nr] at hk
    rw [r51, r 52 (by decide), r 53 (by decide), r 241 (by decide), r 242 (by decide), r 243 (by decide), r 47 (by decide), r 48 (by decide), r 49 (by decide), r 50 (by decide), r 238 (by decide), r 239 (by decide), r 240 (by decide), r 244 (by decide), n00]
    exact x.2.2.2.2.1 k hk
  · rw [nr] at hk
    rw [r51]
    exact x.2.2.2.2.2 k hk h4
noncomputable def exoM (ws : List Nat) : Bool := mqL.all (fun q => !inw ws q.1 q.2) && mqR.all (fun a => off ws a) && off ws 15 && off ws 401
theorem ExM.fr {ws : List Nat} {h h' : Hp_} (x : ExM h) (f : Fr ws h h') (o : exoM ws = true) : ExM h' := by
  unfold exoM at o
  simp only [Bool.and_eq_true] at o
  refine x.cg (fun q hq => ?_) (fun a ha => funext (fun k => fr_i f (List.all_eq_true.mp o.1.1.2 a ha) k)) (fun k => (f.2 15 k (off_inw o.1.2 k)).2.2) (fun j hj => funext (fun k => (f.2 (401 + j) k ?_).1))
  · have z := List.all_eq_true.mp o.1.1.1 q hq
    rw [Bool.not_eq_true'] at z
    exact (f.2 q.1 q.2 z).1
  · rw [inw_ce (b := 401) ((cn_man hj).trans (by decide))]
    exact off_inw o.2 k
theorem rz_at (g : Ev2 → Int32) (E : List Ev2) (r : Nat) (f : Nat → Int32) {k : Nat} (a : r ≤ k) (b : k < r + E.length) : ∃ e, rz g r E f k = g e ∧ ∀ f', rz g r E f' k = g e := by
  have he : E[k - r]? = some (E[k - r]'(by omega)) := List.getElem?_eq_getElem (by omega)
  have z := fun f => rz_i g E r f (k - r) _ he
  rw [show r + (k - r) = k by omega] at z
  exact ⟨_, z f, z⟩
/-- what is settled was settled by now -/
theorem tm_rz {E : List Ev2} {r k : Nat} {n : Int32} {fo ft : Nat → Int32} {N : Int} (h : ¬ fo k = 0 → (ft k).toInt ≤ N) (l : N ≤ n.toInt) : ¬ rz Prod.fst r E fo k = 0 → (rz (fun _ => n) r E ft k).toInt ≤ n.toInt := fun ne => by
  by_cases c : r ≤ k ∧ k < r + E.length
  · obtain ⟨e, he, _⟩ := rz_at (fun _ => n) E r ft c.1 c.2
    rw [he]
    exact Int.le_refl _
  · have o : k < r ∨ r + E.length ≤ k := by omega
    rw [rz_o _ _ _ _ _ o] at ne ⊢
    exact Int.le_trans (h ne) l
noncomputable abbrev PU : Unit → Hp_ → Prop := fun _ _ => True
noncomputable def wMx : List Nat := 14 :: 401999 :: wgM
/-- one man, and his rows -/
theorem ExM.ev {h h1 h2 : Hp_} {j : Nat} {n : Int32} {M' : Nat → Int32} {E : List Ev2} {b1 b2 : Unit} (x : ExM h) (hj : j < (h_i h 0 7).toNatClampNeg) (k1 : Sxm PU (401 + j) n M' (h_i h (401 + j) 11).toNatClampNeg E b1 h h1) (k2 : Mx PU j n M' (h_i h (401 + j) 11).toNatClampNeg E b2 h1 h2) (K : Km (wI h) (bL h) (h_i h 12 3).toNatClampNeg (h_i h 16 7).toNatClampNeg M') (e0 : M' 0 = h_i h (401 + j) 0) (er : E = [] ∨ (h_i h (401 + j) 4 = 1 ∧ (h_i h (401 + j) 11).toInt + (E.length : Int) ≤ (h_i h (401 + j) 12).toInt)) (n1 : ¬ M' 4 = 1) (he : ∀ e ∈ E, e.1 = 1 ∨ e.1 = 2) (pn : 0 ≤ n.toInt) (en : n = h_i h 0 0) : Fr wMx h h1 ∧ Fr mwR h1 h2 ∧ ExM h2 := by
  have m12 := x.1.2.2.2
  have f1 : Fr wMx h h1 := gw_fr k1.2.1 (by omega) (by omega) (by decide +kernel) (fun k => inw_row (by decide +kernel) k) (by decide +kernel)
  have f2 : Fr mwR h1 h2 := k2.2.1.1
  refine ⟨f1, f2, ?_⟩
  have i1 : ∀ a k, inw wMx a k = false → inw mwR a k = false → h_i h2 a k = h_i h a k := fun a k o1 o2 => ((f2.2 a k o2).1).trans (f1.2 a k o1).1
  have r1 : ∀ a, off wMx a = true → off mwR a = true → h_i h2 a = h_i h a := fun a o1 o2 => funext (fun k => i1 a k (off_inw o1 k) (off_inw o2 k))
  have n07 : h_i h2 0 7 = h_i h 0 7 := i1 0 7 (by decide +kernel) (by decide +kernel)
  have n17 : h_i h2 1 7 = h_i h 1 7 := i1 1 7 (by decide +kernel) (by decide +kernel)
  have n00 : h_i h2 0 0 = h_i h 0 0 := i1 0 0 (by decide +kernel) (by decide +kernel)
  have n10 : h_i h2 1 0 = h_i h 1 0 := i1 1 0 (by decide +kernel) (by decide +kernel)
  have nr : h_i h2 16 7 = h_i h 16 7 := i1 16 7 (by decide +kernel) (by decide +kernel)
  have n63 : h_i h2 1 63 = h_i h 1 63 := i1 1 63 (by decide +kernel) (by decide +kernel)
  have n3 : h_i h2 12 3 = h_i h 12 3 := i1 12 3 (by decide +kernel) (by decide +kernel)
  have c2 : ∀ l, l < 12 → h_i h2 (401 + l) = h_i h1 (401 + l) := fun l hl => funext (fun k => (f2.2 (401 + l) k (by
    rw [inw_ce (b := 401) ((cn_man hl).trans (by decide))]
    exact off_inw (by decide +kernel) k)).1)
  have cj : h_i h2 (401 + j) = M' := (c2 j (by omega)).trans k1.2.2.1
  have co : ∀ l, l < 12 → l ≠ j → h_i h2 (401 + l) = h_i h (401 + l) := fun l hl ne => (c2 l hl).trans (funext (fun k => k1.2.1.i (401 + l) k (by omega) (by
    rw [inw_ce (b := 401) ((cn_man hl).trans (by decide))]
    exact off_inw (by decide +kernel) k)))
  have g51 : h_i h2 51 = rz Prod.fst (h_i h (401 + j) 11).toNatClampNeg E (h_i h 51) := (funext (fun k => fr_i f2 (by decide +kernel) k)).trans k1.2.2.2.1.1
  have g52 : h_i h2 52 = rz (fun _ => n) (h_i h (401 + j) 11).toNatClampNeg E (h_i h 52) := (funext (fun k => fr_i f2 (by decide +kernel) k)).trans k1.2.2.2.1.2.1
  have g53 : h_i h2 53 = rz Prod.snd (h_i h (401 + j) 11).toNatClampNeg E (h_i h 53) := (funext (fun k => fr_i f2 (by decide +kernel) k)).trans k1.2.2.2.1.2.2
  have e241 : h_i h1 241 = h_i h 241 := funext (fun k => fr_i f1 (by decide +kernel) k)
  have e242 : h_i h1 242 = h_i h 242 := funext (fun k => fr_i f1 (by decide +kernel) k)
  have e243 : h_i h1 243 = h_i h 243 := funext (fun k => fr_i f1 (by decide +kernel) k)
  have opn : ∀ k, (h_i h (401 + j) 11).toNatClampNeg ≤ k → k < (h_i h (401 + j) 11).toNatClampNeg + E.length → h_i h 51 k = 0 ∧ k < (h_i h 16 7).toNatClampNeg := fun k a b => by
    rcases er with er | er
    · rw [er] at b
      exact absurd b (by show ¬ k < _ + 0; omega)
    · obtain ⟨i, y, L, q1, q2, q3⟩ := (x.2.2.1 j hj).1.2 er.1
      have q11 : 0 ≤ (h_i h (401 + j) 11).toInt := q3.2.2.1
      have q12 : (h_i h (401 + j) 12).toInt ≤ ((h_i h 16 7).toNatClampNeg : Int) := q3.2.2.2.2
      have n11 := n_nat q11
      exact ⟨((x.2.2.1 j hj).2.2 er.1 k (by show (h_i h (401 + j) 11).toInt ≤ _; omega) (by show _ < (h_i h (401 + j) 12).toInt; omega)).1, by omega⟩
  refine ⟨⟨by rw [n07, n17]; exact x.1.1, by rw [n00, n10]; exact x.1.2.1, by rw [nr, n63]; exact x.1.2.2.1, by rw [n07]; exact m12⟩, fun k hk => ?_, ?_, fun l hl => ?_, fun k hk => ?_, fun k hk h4 => ?_⟩
  · rw [(f2.2 15 k (off_inw (by decide +kernel) k)).2.2, (f1.2 15 k (off_inw (by decide +kernel) k)).2.2]
    exact x.2.1 k (by rw [n07] at hk; exact hk)
  · rw [wI_cg (r1 30 (by decide +kernel) (by decide +kernel)), bL_cg (r1 227 (by decide +kernel) (by decide +kernel)) (r1 228 (by decide +kernel) (by decide +kernel)) (r1 229 (by decide +kernel) (by decide +kernel)) (r1 230 (by decide +kernel) (by decide +kernel)), n3, nr, r1 47 (by decide +kernel) (by decide +kernel), n07]
    exact pI_ev x.2.2.1 m12 hj K e0 er n1 cj (fun l hl ne => co l (by omega) ne) g51
  · rw [n07] at hl
    by_cases c : l = j
    · subst c
      rw [cj]
      exact k2.2.2.1
    · rw [co l (by omega) c]
      refine ((x.2.2.2.1 l hl).cg (h' := h1) (fun a ha => ?_)).cg (fun a ha => ?_)
      · exact fr_i f1 (List.all_eq_true.mp (show (206 :: mrL).all (fun a => off wMx a) = true by decide +kernel) a ha) l
      · rcases List.mem_cons.mp ha with e | e
        · rw [e]
          exact k2.2.1.k.2.2.1 l
        · exact k2.2.1.2 a e l c
  · rw [nr] at hk
    have q := x.2.2.2.2.1 k hk
    rw [g51, g52, g53, k2.2.2.2.1.1, k2.2.2.2.1.2.1, k2.2.2.2.1.2.2, e241, e242, e243, r1 47 (by decide +kernel) (by decide +kernel), r1 48 (by decide +kernel) (by decide +kernel), r1 49 (by decide +kernel) (by decide +kernel), r1 50 (by decide +kernel) (by decide +kernel), r1 238 (by decide +kernel) (by decide +kernel), r1 239 (by decide +kernel) (by decide +kernel), r1 240 (by decide +kernel) (by decide +kernel), r1 244 (by decide +kernel) (by decide +kernel)]
    exact ⟨stt_ev pn he q.1 (fun a b => (opn k a b).1), q.2.1, by rw [n00, ← en]; exact tm_rz (N := (h_i h 0 0).toInt) q.2.2 (by rw [en]; exact Int.le_refl _)⟩
  · rw [nr] at hk
    rw [g51, rz_o]
    · exact x.2.2.2.2.2 k hk h4
    · refine Decidable.byContradiction (fun y => ?_)
      have z := (opn k (by omega) (by omega)).2
      omega
end
