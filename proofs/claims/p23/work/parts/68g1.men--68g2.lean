section
/-- the minutes of a walk as both answer them -/
def wI (h : Hp_) (a b : Int32) : Int32 := if (0 ≤ a ∧ a < 16) ∧ (0 ≤ b ∧ b < 16) then (if h_i h 30 (16 * a.toNatClampNeg + b.toNatClampNeg) < 1000000 then h_i h 30 (16 * a.toNatClampNeg + b.toNatClampNeg) else -1) else -1
/-! MEN: one man as a function of the slot (the class's slots); what befalls him -/
def up1 (M : Nat → Int32) (k : Nat) (x : Int32) : Nat → Int32 := fun j => if j = k then x else M j
theorem up1_at {M : Nat → Int32} {k : Nat} {x : Int32} : up1 M k x k = x := if_pos rfl
theorem up1_ne {M : Nat → Int32} {k j : Nat} {x : Int32} (n : j ≠ k) : up1 M k x j = M j := if_neg n
theorem im_row (h : Hp_) (a k : Nat) (x : Int32) : h_i (h_im h a k x) a = up1 (h_i h a) k x := funext (fun j => by
  rw [h_i_im]
  unfold up1
  by_cases c : j = k
  · rw [if_pos ⟨rfl, c⟩, if_pos c]
  · rw [if_neg (fun z => c z.2), if_neg c])
theorem im_oth {h : Hp_} {a k b : Nat} {x : Int32} (n : b ≠ a) : h_i (h_im h a k x) b = h_i h b := funext (fun _ => im_ne n)
abbrev Ev2 : Type := Int32 × Int32
/-- rows r, r + 1 .. take what the events say -/
def rz (g : Ev2 → Int32) : Nat → List Ev2 → (Nat → Int32) → Nat → Int32
  | _, [], f => f
  | r, e :: E, f => rz g (r + 1) E (up1 f r (g e))
theorem rz_a (g : Ev2 → Int32) : ∀ (E1 E2 : List Ev2) (r : Nat) (f : Nat → Int32), rz g r (E1 ++ E2) f = rz g (r + E1.length) E2 (rz g r E1 f)
  | [], _, _, _ => rfl
  | e :: E1, E2, r, f => by
    show rz g (r + 1) (E1 ++ E2) (up1 f r (g e)) = rz g (r + (E1.length + 1)) E2 (rz g (r + 1) E1 (up1 f r (g e)))
    rw [rz_a g E1 E2 (r + 1), show r + 1 + E1.length = r + (E1.length + 1) by omega]
/-- what stands outside of them stays -/
theorem rz_o (g : Ev2 → Int32) : ∀ (E : List Ev2) (r : Nat) (f : Nat → Int32) (k : Nat), (k < r ∨ r + E.length ≤ k) → rz g r E f k = f k
  | [], _, _, _, _ => rfl
  | e :: E, r, f, k, hk => by
    have hk : k < r ∨ r + (E.length + 1) ≤ k := hk
    show rz g (r + 1) E (up1 f r (g e)) k = f k
    rw [rz_o g E (r + 1) _ k (by omega), up1_ne (by omega)]
theorem rz_i (g : Ev2 → Int32) : ∀ (E : List Ev2) (r : Nat) (f : Nat → Int32) (j : Nat) (e : Ev2), E[j]? = some e → rz g r E f (r + j) = g e
  | [], _, _, _, _, h => by cases h
  | x :: E, r, f, 0, e, h => by
    have h : some x = some e := h
    show rz g (r + 1) E (up1 f r (g x)) (r + 0) = g e
    rw [rz_o g E (r + 1) _ (r + 0) (by omega), Nat.add_zero, up1_at, Option.some.inj h]
  | x :: E, r, f, j + 1, e, h => by
    have h : E[j]? = some e := h
    show rz g (r + 1) E (up1 f r (g x)) (r + (j + 1)) = g e
    rw [show r + (j + 1) = r + 1 + j by omega]
    exact rz_i g E (r + 1) _ j e h
/-- he sets out: now n, m minutes, to p -/
def sOut (n m p : Int32) (M : Nat → Int32) : Nat → Int32 := up1 (up1 (up1 M 6 p) 7 (n + m)) 5 (-1)
/-- the next of his rows is settled -/
def sRow (e : Ev2) (M : Nat → Int32) : Nat → Int32 := up1 (up1 M 11 (M 11 + 1)) (if e.1 = 1 then 15 else 16) (M (if e.1 = 1 then 15 else 16) + 1)
def fFree (M : Nat → Int32) : Nat → Int32 := up1 (up1 M 4 0) 7 (-1)
def fHome (n : Int32) (w : Int32 → Int32 → Int32) (M : Nat → Int32) : Nat → Int32 := if 0 < w (M 5) (M 3) then sOut n (w (M 5) (M 3)) (M 3) (up1 M 4 2) else fFree (up1 (up1 M 4 2) 5 (M 3))
/-- he came to a point, due at u: does he wait, how is he then, what is the point -/
def fPt (n u : Int32) (M : Nat → Int32) : Bool × (Nat → Int32) × Ev2 := if n ≤ u then (if u ≤ n then (false, sRow (1, -1) M, (1, -1)) else (true, up1 (sRow (1, -1) M) 7 u, (1, -1))) else (false, sRow (2, 1) M, (2, 1))
/-- one step: does it take time, how is he then, which points were settled -/
def fOne (n : Int32) (w : Int32 → Int32 → Int32) (x : Sp3) (M : Nat → Int32) : Bool × (Nat → Int32) × List Ev2 := if x.1 = 1 then (true, up1 M 7 (n + x.2.1), []) else if x.1 = 3 then (true, up1 M 7 (n + 1), []) else if 0 < w (M 5) x.2.1 then (true, sOut n (w (M 5) x.2.1) x.2.1 M, []) else if x.1 = 2 then (if w (M 5) x.2.1 = -1 then (false, sRow (2, 2) M, [(2, 2)]) else ((fPt n (M 10 + x.2.2) M).1, (fPt n (M 10 + x.2.2) M).2.1, [(fPt n (M 10 + x.2.2) M).2.2])) else (false, M, [])
/-- steps one behind the other, up to one that takes time -/
def fSt (n : Int32) (w : Int32 → Int32 → Int32) : List Sp3 → (Nat → Int32) → (Nat → Int32) × List Ev2
  | [], M => (fHome n w M, [])
  | x :: L, M => if (fOne n w x M).1 = true then ((fOne n w x M).2.1, (fOne n w x M).2.2) else ((fSt n w L (up1 (fOne n w x M).2.1 9 ((fOne n w x M).2.1 9 + 1))).1, (fOne n w x M).2.2 ++ (fSt n w L (up1 (fOne n w x M).2.1 9 ((fOne n w x M).2.1 9 + 1))).2)
/-- one who is drawn is at a place -/
def fDr (n : Int32) (w : Int32 → Int32 → Int32) (M : Nat → Int32) : Nat → Int32 := if 0 < w (M 5) (M 13) then sOut n (w (M 5) (M 13)) (M 13) M else if M 5 = M 13 ∧ n < M 14 then up1 M 7 (M 14) else fHome n w M
/-- as he comes, or wakes -/
def fCm (M : Nat → Int32) : Nat → Int32 := if M 6 = -1 then up1 M 7 (-1) else up1 (up1 (up1 M 6 (-1)) 5 (M 6)) 7 (-1)
/-- the step x of one who came (or not) is over, or he waits at a point -/
def fEn (n : Int32) (x : Sp3) (came : Bool) (M : Nat → Int32) : Bool × (Nat → Int32) × List Ev2 := if x.1 = 2 ∧ came = true then ((fPt n (M 10 + x.2.2) M).1, (fPt n (M 10 + x.2.2) M).2.1, [(fPt n (M 10 + x.2.2) M).2.2]) else (false, M, [])
def fNx (n : Int32) (w : Int32 → Int32 → Int32) (L : List Sp3) (o : Bool × (Nat → Int32) × List Ev2) : (Nat → Int32) × List Ev2 := if o.1 = true then (o.2.1, o.2.2) else ((fSt n w L (up1 o.2.1 9 (o.2.1 9 + 1))).1, o.2.2 ++ (fSt n w L (up1 o.2.1 9 (o.2.1 9 + 1))).2)
/-- what he went, waited or looked for is over: x the step, L the steps behind it -/
def fGo (n : Int32) (w : Int32 → Int32 → Int32) (x : Sp3) (L : List Sp3) (M : Nat → Int32) : (Nat → Int32) × List Ev2 := if M 4 = 1 then fNx n w L (fEn n x (decide (¬ M 6 = -1)) (fCm M)) else if M 4 = 2 then (fFree (fCm M), []) else if M 4 = 3 then (fDr n w (fCm M), []) else (fCm M, [])
/-! slots that none of these touches -/
theorem sOut_k {n m p : Int32} {M : Nat → Int32} {k : Nat} (a : k ≠ 5) (b : k ≠ 6) (c : k ≠ 7) : sOut n m p M k = M k := by
  unfold sOut
  rw [up1_ne a, up1_ne c, up1_ne b]
theorem sRow_k {e : Ev2} {M : Nat → Int32} {k : Nat} (a : k ≠ 11) (b : k ≠ 15) (c : k ≠ 16) : sRow e M k = M k := by
  unfold sRow
  rw [up1_ne (by split <;> assumption), up1_ne a]
theorem sRow_11 {e : Ev2} {M : Nat → Int32} : sRow e M 11 = M 11 + 1 := by
  unfold sRow
  rw [up1_ne (by split <;> decide), up1_at]
theorem fFree_k {M : Nat → Int32} {k : Nat} (a : k ≠ 4) (b : k ≠ 7) : fFree M k = M k := by
  unfold fFree
  rw [up1_ne b, up1_ne a]
theorem fHome_k {n : Int32} {w : Int32 → Int32 → Int32} {M : Nat → Int32} {k : Nat} (a : k ≠ 4) (b : k ≠ 5) (c : k ≠ 6) (e : k ≠ 7) : fHome n w M k = M k := by
  unfold fHome
  split
  · rw [sOut_k b c e, up1_ne a]
  · rw [fFree_k a e, up1_ne b, up1_ne a]
theorem fPt_k {n u : Int32} {M : Nat → Int32} {k : Nat} (a : k ≠ 7) (b : k ≠ 11) (c : k ≠ 15) (e : k ≠ 16) : (fPt n u M).2.1 k = M k := by
  unfold fPt
  split
  · split
    · exact sRow_k b c e
    · show up1 (sRow (1, -1) M) 7 u k = M k
      rw [up1_ne a]
      exact sRow_k b c e
  · exact sRow_k b c e
theorem fPt_11 {n u : Int32} {M : Nat → Int32} : (fPt n u M).2.1 11 = M 11 + 1 := by
  unfold fPt
  split
  · split
    · show sRow (1, -1) M 11 = M 11 + 1
      exact sRow_11
    · show up1 (sRow (1, -1) M) 7 u 11 = M 11 + 1
      rw [up1_ne (by decide)]
      exact sRow_11
  · show sRow (2, 1) M 11 = M 11 + 1
    exact sRow_11
theorem fOne_k {n : Int32} {w : Int32 → Int32 → Int32} {x : Sp3} {M : Nat → Int32} {k : Nat} (a : k ≠ 5) (b : k ≠ 6) (c : k ≠ 7) (d : k ≠ 11) (e : k ≠ 15) (f : k ≠ 16) : (fOne n w x M).2.1 k = M k := by
  unfold fOne
  split
  · exact up1_ne c
  · split
    · exact up1_ne c
    · split
      · exact sOut_k a b c
      · split
        · split
          · exact sRow_k d e f
          · exact fPt_k c d e f
        · rfl
/-- how many rows a step settles -/
theorem fOne_11 {n : Int32} {w : Int32 → Int32 → Int32} {x : Sp3} {M : Nat → Int32} : ((fOne n w x M).2.2 = [] ∧ (fOne n w x M).2.1 11 = M 11 ∧ ((fOne n w x M).1 = false → ¬ x.1 = 2)) ∨ (x.1 = 2 ∧ (fOne n w x M).2.2.length = 1 ∧ (fOne n w x M).2.1 11 = M 11 + 1) := by
  unfold fOne
  split
  · refine Or.inl ⟨rfl, ?_, fun y => by cases y⟩
    show up1 M 7 (n + x.2.1) 11 = M 11
    exact up1_ne (by decide)
  · split
    · refine Or.inl ⟨rfl, ?_, fun y => by cases y⟩
      show up1 M 7 (n + 1) 11 = M 11
      exact up1_ne (by decide)
    · split
      · refine Or.inl ⟨rfl, ?_, fun y => by cases y⟩
        show sOut n (w (M 5) x.2.1) x.2.1 M 11 = M 11
        exact sOut_k (by decide) (by decide) (by decide)
      · split
        · rename_i e
          split
          · refine Or.inr ⟨e, rfl, ?_⟩
            show sRow (2, 2) M 11 = M 11 + 1
            exact sRow_11
          · refine Or.inr ⟨e, rfl, ?_⟩
            show (fPt n (M 10 + x.2.2) M).2.1 11 = M 11 + 1
            exact fPt_11
        · rename_i e
          exact Or.inl ⟨rfl, rfl, fun _ => e⟩
/-! MEN, the class: frames, and what its methods do to one man (cell c) -/
def wgM : List Nat := 51999 :: 52999 :: 53999 :: wz_X11_look
def Gw (c : Nat) (ws : List Nat) (h h' : Hp_) : Prop := h_sh h' = h_sh h ∧ ∀ b k, inw ws b k = false → h_r h' b k = h_r h b k ∧ (¬ (b = 0 ∧ k = 14) → h_l h' b k = h_l h b k) ∧ (b ≠ c → h_i h' b k = h_i h b k)
theorem Gw.rf (c : Nat) (ws : List Nat) (h : Hp_) : Gw c ws h h := ⟨rfl, fun _ _ _ => ⟨rfl, fun _ => rfl, fun _ => rfl⟩⟩
theorem Gw.tr {c : Nat} {ws : List Nat} {h h1 h2 : Hp_} (a : Gw c ws h h1) (b : Gw c ws h1 h2) : Gw c ws h h2 := ⟨b.1.trans a.1, fun x k o => ⟨(b.2 x k o).1.trans (a.2 x k o).1, fun n => ((b.2 x k o).2.1 n).trans ((a.2 x k o).2.1 n), fun n => ((b.2 x k o).2.2 n).trans ((a.2 x k o).2.2 n)⟩⟩
theorem Gw.i {c : Nat} {ws : List Nat} {h h' : Hp_} (g : Gw c ws h h') (b k : Nat) (n : b ≠ c) (o : inw ws b k = false) : h_i h' b k = h_i h b k := (g.2 b k o).2.2 n
theorem Gw.imc {c k : Nat} {ws : List Nat} {h0 h : Hp_} {x : Int32} (g : Gw c ws h0 h) : Gw c ws h0 (h_im h c k x) := ⟨g.1, fun b j o => ⟨(g.2 b j o).1, (g.2 b j o).2.1, fun n => by rw [im_ne n]; exact (g.2 b j o).2.2 n⟩⟩
theorem Gw.im {c a k : Nat} {ws : List Nat} {h0 h : Hp_} {x : Int32} (g : Gw c ws h0 h) (w : ∀ k, inw ws a k = true) : Gw c ws h0 (h_im h a k x) := ⟨g.1, fun b j o => ⟨(g.2 b j o).1, (g.2 b j o).2.1, fun n => by
  rw [h_i_im, if_neg (fun e => by rw [e.1, w] at o; cases o)]
  exact (g.2 b j o).2.2 n⟩⟩
theorem Gw.lm {c : Nat} {ws : List Nat} {h0 h : Hp_} {x : Int64} (g : Gw c ws h0 h) : Gw c ws h0 (h_lm h 0 14 x) := ⟨g.1, fun b j o => ⟨(g.2 b j o).1, fun n => by rw [h_l_lm, if_neg n]; exact (g.2 b j o).2.1 n, (g.2 b j o).2.2⟩⟩
theorem Gw.fr {c : Nat} {ws : List Nat} {h h' : Hp_} (f : Fr ws h h') : Gw c ws h h' := ⟨f.1, fun b k o => ⟨(f.2 b k o).2.2, fun _ => (f.2 b k o).2.1, fun _ => (f.2 b k o).1⟩⟩
theorem mIv {h : Hp_} (I : Iv h) {c : Nat} (h1 : 401 ≤ c) (h2 : c ≤ 412) (k : Nat) (x : Int32) : Iv (h_im h c k x) := I.im (by rw [tf_cn h1 h2, tfa_tf (show tfa 401 = some rtop by decide +kernel)]; exact rtop_in _) (jw_jr (by omega) (by
  unfold jr
  have n : ∀ {y : Nat}, y < 401 → Nat.beq c y = false := fun {y} z => by
    cases e : Nat.beq c y with
    | true => exact absurd (Nat.eq_of_beq_eq_true e) (by omega)
    | false => rfl
  rw [n (by omega), n (by omega), n (by omega), n (by omega)]
  rfl) _)
/-- where all are now, packed, when a man is put at x -/
def hereN (h : Hp_) (c : Nat) (x : Int32) : Int64 := if x = -1 then (((h_l h 0 14) &&& (((31 : Int64) <<< (((5 * (h_i h c 0)) : Int32).toInt64 &&& 63)) ^^^ (-1 : Int64))) ||| ((17 : Int64) <<< (((5 * (h_i h c 0)) : Int32).toInt64 &&& 63))) else (((h_l h 0 14) &&& (((31 : Int64) <<< (((5 * (h_i h c 0)) : Int32).toInt64 &&& 63)) ^^^ (-1 : Int64))) ||| ((((x + 1) : Int32).toInt64) <<< (((5 * (h_i h c 0)) : Int32).toInt64 &&& 63)))
section MEN
variable {β : Type} {PB : β → Hp_ → Prop} {tB : Int32 → Int32 → β → β} {lB : Nat → Hp_ → β → β}
/-- what else is kept: by stores into a man and the points' rows, when a man is put, by tellNoted and look -/
def PBok {β : Type} (PB : β → Hp_ → Prop) (tB : Int32 → Int32 → β → β) (lB : Nat → Hp_ → β → β) : Prop :=
  (∀ b h a k x, ((401 ≤ a ∧ a ≤ 412 ∧ 4 ≤ k ∧ k ≠ 5) ∨ (47 ≤ a ∧ a ≤ 53) ∨ (a = 16 ∧ k = 7)) → PB b h → PB b (h_im h a k x)) ∧
  (∀ b h c x, Cn h c → PB b h → PB b (h_lm (h_im h c 5 x) 0 14 (hereN h c x))) ∧
  (∀ d b h x1 x2, Iv h → (0 ≤ x2.toInt ∧ x2.toInt ≤ 20000) → PB b h → Cv (m_X4_tellNoted (d + 0) 0 0) [.ref 17, .int x1, .int x2] h (fun h' => Iv h' ∧ Fr wz_X11_look h h' ∧ PB (tB x1 x2 b) h')) ∧
  (∀ d b h c, Iv h → Cn h c → PB b h → Cv (m_X11_look (d + 5) 0 0) [.ref 0, .ref c] h (fun h' => Iv h' ∧ Fr wz_X11_look h h' ∧ PB (lB c h b) h'))
theorem c_mn (d : Nat) {h : Hp_} (I : Iv h) (a b : Int32) : Ci (m_X9_minutes (d + 1) 0 0) [.ref 10, .int a, .int b] h (fun r h' => h' = h ∧ r = wI h a b) := by
  refine t_X9_minutes d h a b _ (Ci.mono (s_X11_isPlace _ h a) (fun r h3 q => ?_))
  obtain ⟨er, eh⟩ := q
  subst er eh
  unfold wI
  refine ⟨I.1, fun z => ⟨rfl, ?_⟩, fun z => Ci.mono (s_X11_isPlace _ _ b) (fun r h4 q => ?_)⟩
  · rw [if_neg (fun y => bI_0.mp z y.1)]
  · obtain ⟨er, eh⟩ := q
    subst er eh
    have b1 : 0 ≤ a ∧ a < 16 := Decidable.byContradiction (fun n => z (bI_0.mpr n))
    refine ⟨I.1, fun z2 => ?_, fun z2 => ⟨rfl, ?_⟩⟩
    · have b2 : 0 ≤ b ∧ b < 16 := Decidable.byContradiction (fun n => z2 (bI_0.mpr n))
      have t16 : (16 : Int32).toInt = 16 := rfl
      have t0 : (0 : Int32).toInt = 0 := rfl
      have u1 := q_le.mp b1.1
      have u2 := q_lt.mp b1.2
      have u3 := q_le.mp b2.1
      have u4 := q_lt.mp b2.2
      have na := n_nat (x := a) (by omega)
      have nb := n_nat (x := b) (by omega)
      have k := i256 (i := a.toNatClampNeg) (j := b.toNatClampNeg) (by omega) (by omega)
      rw [of_nat32 (by omega), of_nat32 (by omega)] at k
      refine ⟨k.2, ?_⟩
      rw [k.1]
      exact ⟨fun c => ⟨rfl, by rw [if_pos ⟨b1, b2⟩, if_pos c]⟩, fun c => ⟨rfl, by rw [if_pos ⟨b1, b2⟩, if_neg c]⟩⟩
    · rw [if_neg (fun y => bI_0.mp z2 y.2)]
theorem c_put (P : PBok PB tB lB) (d : Nat) {h : Hp_} (I : Iv h) {c : Nat} (hc : Cn h c) {b : β} (B : PB b h) (x2 : Int32) : Cv (m_X11_putAt (d + 0) 0 0) [.ref 0, .ref c, .int x2] h (fun h' => Iv h' ∧ Gw c wgM h h' ∧ h_i h' c = up1 (h_i h c) 5 x2 ∧ (∀ a, a ≠ c → h_i h' a = h_i h a) ∧ PB b h') := by
  have c1 := hc.1
  have Q := P.2.1 b h c x2 hc B
  unfold hereN at Q
  refine t_X11_putAt d h I.1 c hc.2.2 (by omega) x2 _ ⟨fun n => ?_, fun e => ?_⟩
  · rw [if_neg n] at Q
    exact ⟨(mIv I hc.1 hc.2.1 5 x2).lm, ((Gw.rf c wgM h).imc).lm, im_row h c 5 x2, fun a n => im_oth n, Q⟩
  · rw [if_pos e] at Q
    exact ⟨(mIv I hc.1 hc.2.1 5 x2).lm, ((Gw.rf c wgM h).imc).lm, im_row h c 5 x2, fun a n => im_oth n, Q⟩
/-- from h to h': the man is M', the rows from r on take E -/
def Sxm (PB : β → Hp_ → Prop) (c : Nat) (n : Int32) (M' : Nat → Int32) (r : Nat) (E : List Ev2) (b' : β) (h h' : Hp_) : Prop := Iv h' ∧ Gw c wgM h h' ∧ h_i h' c = M' ∧ (h_i h' 51 = rz Prod.fst r E (h_i h 51) ∧ h_i h' 52 = rz (fun _ => n) r E (h_i h 52) ∧ h_i h' 53 = rz Prod.snd r E (h_i h 53)) ∧ PB b' h'
theorem Sxm.tr {c : Nat} {n : Int32} {M1 M2 : Nat → Int32} {r r' : Nat} {E1 E2 : List Ev2} {b1 b2 : β} {h h1 h2 : Hp_} (a : Sxm PB c n M1 r E1 b1 h h1) (b : Sxm PB c n M2 r' E2 b2 h1 h2) (e : r' = r + E1.length) : Sxm PB c n M2 r (E1 ++ E2) b2 h h2 := ⟨b.1, a.2.1.tr b.2.1, b.2.2.1, ⟨by rw [b.2.2.2.1.1, a.2.2.2.1.1, e, rz_a], by rw [b.2.2.2.1.2.1, a.2.2.2.1.2.1, e, rz_a], by rw [b.2.2.2.1.2.2, a.2.2.2.1.2.2, e, rz_a]⟩, b.2.2.2.2⟩
theorem Cn.of {h h' : Hp_} {c : Nat} (hc : Cn h c) (e : h_sh h' = h_sh h) : Cn h' c := ⟨hc.1, hc.2.1, by rw [e]; exact hc.2.2⟩
theorem Sxm.cn {c : Nat} {n : Int32} {M' : Nat → Int32} {r : Nat} {E : List Ev2} {b' : β} {h h' : Hp_} (s : Sxm PB c n M' r E b' h h') (hc : Cn h c) : Cn h' c := hc.of s.2.1.1
/-- what the walks and the hour hang on stays -/
theorem Gw.k {c : Nat} {h h' : Hp_} (g : Gw c wgM h h') (hc : 401 ≤ c) : (∀ a b, wI h' a b = wI h a b) ∧ h_i h' 0 0 = h_i h 0 0 ∧ h_i h' 0 7 = h_i h 0 7 ∧ h_i h' 16 7 = h_i h 16 7 ∧ h_i h' 12 3 = h_i h 12 3 ∧ (∀ k, h_i h' 34 k = h_i h 34 k) ∧ (∀ k, h_i h' 35 k = h_i h 35 k) := by
  have e30 : ∀ k, h_i h' 30 k = h_i h 30 k := fun k => g.i 30 k (by omega) (off_inw (by decide +kernel) k)
  refine ⟨fun a b => ?_, g.i 0 0 (by omega) (by decide +kernel), g.i 0 7 (by omega) (by decide +kernel), g.i 16 7 (by omega) (by decide +kernel), g.i 12 3 (by omega) (by decide +kernel), fun k => g.i 34 k (by omega) (off_inw (by decide +kernel) k), fun k => g.i 35 k (by omega) (off_inw (by decide +kernel) k)⟩
  unfold wI
  rw [e30]
theorem c_so (P : PBok PB tB lB) (d : Nat) {h : Hp_} (I : Iv h) {c : Nat} (hc : Cn h c) {b : β} (B : PB b h) (x2 : Int32) (r : Nat) : Ci (m_X11_setsOut (d + 2) 0 0) [.ref 0, .ref c, .int x2] h (fun q h' => (0 < wI h (h_i h c 5) x2 → q = 1 ∧ Sxm PB c (h_i h 0 0) (sOut (h_i h 0 0) (wI h (h_i h c 5) x2) x2 (h_i h c)) r [] b h h') ∧ (¬ 0 < wI h (h_i h c 5) x2 → q = 0 ∧ h' = h)) := by
  have c1 := hc.1
  have c2 := hc.2.1
  refine t_X11_setsOut d h I.1 c hc.2.2 (by omega) x2 _ (Ci.mono (c_mn d I (h_i h c 5) x2) (fun q h1 k => ?_))
  obtain ⟨eh, eq⟩ := k
  subst eh eq
  refine ⟨I.1, hc.2.2, fun y => ?_, fun n => ⟨fun y => absurd y n, fun _ => ⟨rfl, rfl⟩⟩⟩
  have I2 : Iv (h_im (h_im h1 c 6 x2) c 7 (h_i h1 0 0 + wI h1 (h_i h1 c 5) x2)) := mIv (mIv I c1 c2 6 x2) c1 c2 7 _
  have B2 : PB b (h_im (h_im h1 c 6 x2) c 7 (h_i h1 0 0 + wI h1 (h_i h1 c 5) x2)) := P.1 _ _ _ _ _ (Or.inl ⟨c1, c2, by decide⟩) (P.1 _ _ _ _ _ (Or.inl ⟨c1, c2, by decide⟩) B)
  refine Cv.mono (c_put P d I2 (hc.of rfl) B2 (-1)) (fun h' k => ⟨k.1.1, fun _ => ⟨rfl, k.1, (((Gw.rf c wgM h1).imc).imc).tr k.2.1, ?_, ⟨?_, ?_, ?_⟩, k.2.2.2.2⟩, fun n => absurd y n⟩)
  · rw [k.2.2.1, im_row, im_row]
    rfl
  · rw [k.2.2.2.1 51 (by omega), im_oth (by omega), im_oth (by omega)]
    rfl
  · rw [k.2.2.2.1 52 (by omega), im_oth (by omega), im_oth (by omega)]
    rfl
  · rw [k.2.2.2.1 53 (by omega), im_oth (by omega), im_oth (by omega)]
    rfl
theorem c_sr (P : PBok PB tB lB) (d : Nat) {h : Hp_} (I : Iv h) {c : Nat} (hc : Cn h c) {b : β} (B : PB b h) (x2 x3 : Int32) (lo : 0 ≤ (h_i h c 11).toInt) (l1 : (h_i h c 11).toInt < (h_i h c 12).toInt) (l2 : (h_i h c 12).toInt ≤ (h_i h 16 7).toInt) : Cv (m_X11_settleRow (d + 1) 0 0) [.ref 0, .ref c, .int x2, .int x3] h (fun h' => Sxm PB c (h_i h 0 0) (sRow (x2, x3) (h_i h c)) (h_i h c 11).toNatClampNeg [(x2, x3)] b h h') := by
  have c1 := hc.1
  have c2 := hc.2.1
  have t0 : (0 : Int32).toInt = 0 := rfl
  have rg := I.2.1 16 7
  rw [show tf 16 7 = (0, 400) by decide +kernel] at rg
  have r4 : (h_i h 16 7).toInt ≤ 400 := rg.2
  have v : vp_in (h_i h c 11) 400 := dp_in (lo := 0) (hi := 399) ⟨lo, by show _ ≤ (399 : Int); omega⟩ (by decide) (by decide)
  have n51 : c ≠ 51 := by omega
  have n52 : c ≠ 52 := by omega
  have n53 : c ≠ 53 := by omega
  refine t_X11_settleRow d h I.1 c hc.2.2 (by omega) x2 x3 _ ⟨fun y => ?_, fun _ => t_X7_settle d h I.1 _ x2 x3 _ _ ⟨fun y => ?_, fun _ => ⟨fun y => ?_, fun _ => ⟨v, v, v, ?_⟩⟩⟩⟩
  · have y := q_le.mp y
    omega
  · have y := q_lt.mp y
    omega
  · have y := q_le.mp y
    omega
  · have I3 : Iv (h_im (h_im (h_im h 51 (h_i h c 11).toNatClampNeg x2) 53 (h_i h c 11).toNatClampNeg x3) 52 (h_i h c 11).toNatClampNeg (h_i h 0 0)) := tr_ 52 (by decide +kernel) (tr_ 53 (by decide +kernel) (tr_ 51 (by decide +kernel) I _ _ (by decide) (by decide)) _ _ (by decide) (by decide)) _ _ (by decide) (by decide)
    have B3 : PB b (h_im (h_im (h_im h 51 (h_i h c 11).toNatClampNeg x2) 53 (h_i h c 11).toNatClampNeg x3) 52 (h_i h c 11).toNatClampNeg (h_i h 0 0)) := P.1 _ _ _ _ _ (Or.inr (Or.inl ⟨by decide, by decide⟩)) (P.1 _ _ _ _ _ (Or.inr (Or.inl ⟨by decide, by decide⟩)) (P.1 _ _ _ _ _ (Or.inr (Or.inl ⟨by decide, by decide⟩)) B))
    have ec : h_i (h_im (h_im (h_im h 51 (h_i h c 11).toNatClampNeg x2) 53 (h_i h c 11).toNatClampNeg x3) 52 (h_i h c 11).toNatClampNeg (h_i h 0 0)) c = h_i h c := by rw [im_oth n52, im_oth n53, im_oth n51]
    have G3 : Gw c wgM h (h_im (h_im (h_im h 51 (h_i h c 11).toNatClampNeg x2) 53 (h_i h c 11).toNatClampNeg x3) 52 (h_i h c 11).toNatClampNeg (h_i h 0 0)) := (((Gw.rf c wgM h).im (fun k => inw_row (by decide +kernel) k)).im (fun k => inw_row (by decide +kernel) k)).im (fun k => inw_row (by decide +kernel) k)
    rw [ec]
    generalize hg : h_im (h_im (h_im h 51 (h_i h c 11).toNatClampNeg x2) 53 (h_i h c 11).toNatClampNeg x3) 52 (h_i h c 11).toNatClampNeg (h_i h 0 0) = g at *
    have g51 : h_i g 51 = up1 (h_i h 51) (h_i h c 11).toNatClampNeg x2 := by rw [← hg, im_oth (by decide), im_oth (by decide), im_row]
    have g53 : h_i g 53 = up1 (h_i h 53) (h_i h c 11).toNatClampNeg x3 := by rw [← hg, im_oth (by decide), im_row, im_oth (by decide)]
    have g52 : h_i g 52 = up1 (h_i h 52) (h_i h c 11).toNatClampNeg (h_i h 0 0) := by rw [← hg, im_row, im_oth (by decide), im_oth (by decide)]
    refine ⟨I3.1, by rw [G3.1]; exact hc.2.2, fun n1 => ?_, fun y1 => ?_⟩
    · refine ⟨mIv (mIv I3 c1 c2 11 _) c1 c2 16 _, (G3.imc).imc, ?_, ⟨?_, ?_, ?_⟩, P.1 _ _ _ _ _ (Or.inl ⟨c1, c2, by decide⟩) (P.1 _ _ _ _ _ (Or.inl ⟨c1, c2, by decide⟩) B3)⟩
      · rw [im_row, im_row, ec]
        unfold sRow
        rw [if_neg n1]
      · rw [im_oth (by omega), im_oth (by omega)]
        exact g51
      · rw [im_oth (by omega), im_oth (by omega)]
        exact g52
      · rw [im_oth (by omega), im_oth (by omega)]
        exact g53
    · refine ⟨mIv (mIv I3 c1 c2 11 _) c1 c2 15 _, (G3.imc).imc, ?_, ⟨?_, ?_, ?_⟩, P.1 _ _ _ _ _ (Or.inl ⟨c1, c2, by decide⟩) (P.1 _ _ _ _ _ (Or.inl ⟨c1, c2, by decide⟩) B3)⟩
      · rw [im_row, im_row, ec]
        unfold sRow
        rw [if_pos y1]
      · rw [im_oth (by omega), im_oth (by omega)]
        exact g51
      · rw [im_oth (by omega), im_oth (by omega)]
        exact g52
      · rw [im_oth (by omega), im_oth (by omega)]
        exact g53
theorem inw_man {c : Nat} (h1 : 401 ≤ c) (h2 : c ≤ 412) (k : Nat) : inw wgM c k = false := by
  have e : cn c = cn 401 := by
    have q := cn_man (j := c - 401) (by omega)
    rw [show 401 + (c - 401) = c by omega] at q
    rw [q]
    decide
  rw [inw_ce e]
  exact off_inw (by decide +kernel) k
/-- tellNoted and look: the man and the points' rows stay -/
theorem Sxm.fr {c : Nat} {n : Int32} {M : Nat → Int32} {r : Nat} {E : List Ev2} {b b' : β} {h h1 h2 : Hp_} (hc : Cn h c) (s : Sxm PB c n M r E b h h1) (I : Iv h2) (f : Fr wz_X11_look h1 h2) (B : PB b' h2) : Sxm PB c n M r E b' h h2 := by
  have c1 := hc.1
  have c2 := hc.2.1
  have g : Fr wgM h1 h2 := f.more (by decide +kernel)
  refine ⟨I, s.2.1.tr (Gw.fr g), ?_, ⟨?_, ?_, ?_⟩, B⟩
  · rw [← s.2.2.1]
    exact funext (fun k => (g.2 c k (inw_man c1 c2 k)).1)
  · rw [← s.2.2.2.1.1]
    exact funext (fun k => fr_i f (by decide +kernel) k)
  · rw [← s.2.2.2.1.2.1]
    exact funext (fun k => fr_i f (by decide +kernel) k)
  · rw [← s.2.2.2.1.2.2]
    exact funext (fun k => fr_i f (by decide +kernel) k)
theorem Sxm.rf {c : Nat} {n : Int32} {r : Nat} {b : β} {h : Hp_} (I : Iv h) (B : PB b h) : Sxm PB c n (h_i h c) r [] b h h := ⟨I, Gw.rf _ _ _, rfl, ⟨rfl, rfl, rfl⟩, B⟩
theorem Sxm.im (P : PBok PB tB lB) {c k : Nat} {n : Int32} {M : Nat → Int32} {r : Nat} {E : List Ev2} {b : β} {h h1 : Hp_} (hc : Cn h c) (s : Sxm PB c n M r E b h h1) (nk : 4 ≤ k ∧ k ≠ 5) (v : Int32) : Sxm PB c n (up1 M k v) r E b h (h_im h1 c k v) := by
  have c1 := hc.1
  have c2 := hc.2.1
  exact ⟨mIv s.1 c1 c2 k v, s.2.1.imc, by rw [im_row, s.2.2.1], ⟨by rw [im_oth (by omega)]; exact s.2.2.2.1.1, by rw [im_oth (by omega)]; exact s.2.2.2.1.2.1, by rw [im_oth (by omega)]; exact s.2.2.2.1.2.2⟩, P.1 _ _ _ _ _ (Or.inl ⟨c1, c2, nk⟩) s.2.2.2.2⟩
theorem wI_im {h : Hp_} {c k : Nat} {x : Int32} (n : c ≠ 30) : wI (h_im h c k x) = wI h := by
  funext a b
  unfold wI
  rw [im_ne (Ne.symm n)]
theorem wI_eq {c : Nat} {h h' : Hp_} (g : Gw c wgM h h') (hc : 401 ≤ c) : wI h' = wI h := by
  funext a b
  exact (g.k hc).1 a b
theorem now_in {h : Hp_} (I : Iv h) : 0 ≤ (h_i h 0 0).toInt ∧ (h_i h 0 0).toInt ≤ 20000 := by
  have rg := I.2.1 0 0
  rw [show tf 0 0 = (0, 20000) by decide +kernel] at rg
  exact ⟨rg.1, rg.2⟩
theorem c_wp (P : PBok PB tB lB) (d : Nat) {h : Hp_} (I : Iv h) {c : Nat} (hc : Cn h c) {b : β} (B : PB b h) (x2 u : Int32) (eu : h_i h c 10 + (x2 >>> ((6 : Int32) &&& 31)) = u) (lo : 0 ≤ (h_i h c 11).toInt) (l1 : (h_i h c 11).toInt < (h_i h c 12).toInt) (l2 : (h_i h c 12).toInt ≤ (h_i h 16 7).toInt) : Ci (m_X11_waitsAtPoint (d + 2) 0 0) [.ref 0, .ref c, .int x2] h (fun q h' => q = (if (fPt (h_i h 0 0) u (h_i h c)).1 = true then 1 else 0) ∧ Sxm PB c (h_i h 0 0) (fPt (h_i h 0 0) u (h_i h c)).2.1 (h_i h c 11).toNatClampNeg [(fPt (h_i h 0 0) u (h_i h c)).2.2] b h h') := by
  have c1 := hc.1
  refine t_X11_waitsAtPoint d h c hc.2.2 (by omega) x2 _ (t_X0_amountOf d h x2 _ ⟨I.1, hc.2.2, ?_⟩)
  rw [eu]
  refine ⟨fun y => Cv.mono (c_sr P d I hc B 1 (-1) lo l1 l2) (fun h' k => ?_), fun y => Cv.mono (c_sr P d I hc B 2 1 lo l1 l2) (fun h' k => ⟨k.1.1, ?_⟩)⟩
  · have e0 := (k.2.1.k c1).2.1
    rw [e0]
    refine ⟨k.1.1, (k.cn hc).2.2, fun z => ?_, fun z => ?_⟩
    · unfold fPt
      rw [if_pos y, if_pos z]
      exact ⟨rfl, k⟩
    · unfold fPt
      rw [if_pos y, if_neg z]
      exact ⟨rfl, k.im P hc (by decide) u⟩
  · unfold fPt
    rw [if_neg y]
    exact ⟨rfl, k⟩
def fB (tB : Int32 → Int32 → β → β) (n : Int32) (M : Nat → Int32) (b : β) : β := if M 4 = 0 then tB (M 0) n b else b
theorem c_sf (P : PBok PB tB lB) (d : Nat) {h : Hp_} (I : Iv h) {c : Nat} (hc : Cn h c) {b : β} (B : PB b h) (r : Nat) : Cv (m_X11_setFree (d + 1) 0 0) [.ref 0, .ref c] h (fun h' => Sxm PB c (h_i h 0 0) (fFree (h_i h c)) r [] (tB (h_i h c 0) (h_i h 0 0) b) h h') := by
  have c1 := hc.1
  have s : Sxm PB c (h_i h 0 0) (fFree (h_i h c)) r [] b h (h_im (h_im h c 4 0) c 7 (-1)) := ((Sxm.rf I B).im P hc (by decide) 0).im P hc (by decide) (-1)
  refine t_X11_setFree d h I.1 c hc.2.2 (by omega) _ (Cv.mono (P.2.2.1 d b _ (h_i h c 0) (h_i h 0 0) s.1 (now_in I) s.2.2.2.2) (fun h' k => ⟨k.1.1, s.fr hc k.1 k.2.1 k.2.2⟩))
theorem c_gh (P : PBok PB tB lB) (d : Nat) {h : Hp_} (I : Iv h) {c : Nat} (hc : Cn h c) {b : β} (B : PB b h) (r : Nat) : Cv (m_X11_goHome (d + 3) 0 0) [.ref 0, .ref c] h (fun h' => Sxm PB c (h_i h 0 0) (fHome (h_i h 0 0) (wI h) (h_i h c)) r [] (fB tB (h_i h 0 0) (fHome (h_i h 0 0) (wI h) (h_i h c)) b) h h') := by
  have c1 := hc.1
  have c2 := hc.2.1
  have s : Sxm PB c (h_i h 0 0) (up1 (h_i h c) 4 2) r [] b h (h_im h c 4 2) := (Sxm.rf I B).im P hc (by decide) 2
  have ew : wI (h_im h c 4 2) = wI h := wI_im (by omega)
  have e0 : h_i (h_im h c 4 2) 0 0 = h_i h 0 0 := im_ne (by omega)
  have e5 : up1 (h_i h c) 4 2 5 = h_i h c 5 := up1_ne (by decide)
  have k := c_so P d s.1 (s.cn hc) s.2.2.2.2 (h_i h c 3) r
  rw [ew, e0, s.2.2.1, e5] at k
  refine t_X11_goHome d h I.1 c hc.2.2 (by omega) _ (Ci.mono k (fun q h1 k => ?_))
  by_cases y : 0 < wI h (h_i h c 5) (h_i h c 3)
  · replace k := k.1 y
    obtain ⟨eq, k⟩ := k
    subst eq
    refine ⟨k.1.1, (k.cn (s.cn hc)).2.2, fun _ => ?_, fun e => absurd e (by decide)⟩
    have f : fHome (h_i h 0 0) (wI h) (h_i h c) = sOut (h_i h 0 0) (wI h (h_i h c 5) (h_i h c 3)) (h_i h c 3) (up1 (h_i h c) 4 2) := by
      unfold fHome
      rw [if_pos y]
    have f4 : fB tB (h_i h 0 0) (sOut (h_i h 0 0) (wI h (h_i h c 5) (h_i h c 3)) (h_i h c 3) (up1 (h_i h c) 4 2)) b = b := by
      unfold fB
      rw [sOut_k (by decide) (by decide) (by decide), up1_at, if_neg (by decide)]
    rw [f, f4]
    exact s.tr k rfl
  · obtain ⟨eq, eh⟩ := k.2 y
    subst eq eh
    have e3 : h_i (h_im h c 4 2) c 3 = h_i h c 3 := by rw [im_row, up1_ne (by decide)]
    refine ⟨s.1.1, (s.cn hc).2.2, fun n => absurd rfl n, fun _ => Cv.mono (c_put P d s.1 (s.cn hc) s.2.2.2.2 _) (fun h6 k6 => ?_)⟩
    rw [e3] at k6
    have s6 : Sxm PB c (h_i h 0 0) (up1 (up1 (h_i h c) 4 2) 5 (h_i h c 3)) r [] b h h6 := ⟨k6.1, s.2.1.tr k6.2.1, by rw [k6.2.2.1, s.2.2.1], ⟨by rw [k6.2.2.2.1 51 (by omega)]; exact s.2.2.2.1.1, by rw [k6.2.2.2.1 52 (by omega)]; exact s.2.2.2.1.2.1, by rw [k6.2.2.2.1 53 (by omega)]; exact s.2.2.2.1.2.2⟩, k6.2.2.2.2⟩
    have f : fHome (h_i h 0 0) (wI h) (h_i h c) = fFree (up1 (up1 (h_i h c) 4 2) 5 (h_i h c 3)) := by
      unfold fHome
      rw [if_neg y]
    have z0 : fFree (up1 (up1 (h_i h c) 4 2) 5 (h_i h c 3)) 4 = 0 := by
      unfold fFree
      rw [up1_ne (by decide), up1_at]
    have z1 : fFree (up1 (up1 (h_i h c) 4 2) 5 (h_i h c 3)) 0 = h_i h c 0 := by
      rw [fFree_k (by decide) (by decide), up1_ne (by decide), up1_ne (by decide)]
    have f4 : fB tB (h_i h 0 0) (fFree (up1 (up1 (h_i h c) 4 2) 5 (h_i h c 3))) b = tB (h_i h c 0) (h_i h 0 0) b := by
      unfold fB
      rw [if_pos z0, z1]
    have k9 := c_sf P d s6.1 (s6.cn hc) s6.2.2.2.2 r
    rw [(s6.2.1.k c1).2.1, s6.2.2.1, show up1 (up1 (h_i h c) 4 2) 5 (h_i h c 3) 0 = h_i h c 0 by rw [up1_ne (by decide), up1_ne (by decide)]] at k9
    refine ⟨s6.1.1, (s6.cn hc).2.2, Cv.mono k9 (fun h9 k9 => ⟨k9.1.1, ?_⟩)⟩
    rw [f, f4]
    exact s6.tr k9 rfl
/-- the steps of a beat from the i-th on -/
def Stb (h : Hp_) (b0 : Int32) (i : Nat) (L : List Sp3) : Prop := (0 ≤ b0.toInt ∧ b0.toInt ≤ 11) ∧ i + L.length ≤ 150 ∧ ∀ k x, L[k]? = some x → h_i h 34 (150 * b0.toNatClampNeg + (i + k)) = pkS x ∧ stR x
theorem Stb.hd {h : Hp_} {b0 : Int32} {i : Nat} {x : Sp3} {L : List Sp3} (s : Stb h b0 i (x :: L)) : h_i h 34 (150 * b0.toNatClampNeg + i) = pkS x ∧ stR x := s.2.2 0 x rfl
theorem Stb.tl {h : Hp_} {b0 : Int32} {i : Nat} {x : Sp3} {L : List Sp3} (s : Stb h b0 i (x :: L)) : Stb h b0 (i + 1) L := ⟨s.1, by
  have q : i + (L.length + 1) ≤ 150 := s.2.1
  omega, fun k y e => by
  have q := s.2.2 (k + 1) y e
  rw [show i + 1 + k = i + (k + 1) by omega]
  exact q⟩
theorem Stb.cg {h h' : Hp_} {b0 : Int32} {i : Nat} {L : List Sp3} (s : Stb h b0 i L) (e : ∀ k, h_i h' 34 k = h_i h 34 k) : Stb h' b0 i L := ⟨s.1, s.2.1, fun k x q => by rw [e]; exact s.2.2 k x q⟩
theorem stR_k {x : Sp3} (sr : stR x) : x.1 = 0 ∨ x.1 = 1 ∨ x.1 = 2 ∨ x.1 = 3 := by
  rcases sr with q | q | q | q
  · exact Or.inl q.1
  · exact Or.inr (Or.inl q.1)
  · exact Or.inr (Or.inr (Or.inl q.1))
  · exact Or.inr (Or.inr (Or.inr q.1))
theorem c_sa (d : Nat) {h : Hp_} (I : Iv h) {b0 : Int32} {i : Nat} {x : Sp3} {L : List Sp3} (s : Stb h b0 i (x :: L)) : Ci (m_X0_stepAt (d + 0) 0 0) [.ref 12, .int b0, .int (Int32.ofNat i)] h (fun r h' => h' = h ∧ r = pkS x) := by
  have t0 : (0 : Int32).toInt = 0 := rfl
  have t150 : (150 : Int32).toInt = 150 := rfl
  have t1800 : (1800 : Int32).toInt = 1800 := rfl
  have b1 := s.1
  have l : i + (L.length + 1) ≤ 150 := s.2.1
  have oi := on_j (n := i) (by omega)
  have n1 := n_nat b1.1
  have m1 : (b0 * 150).toInt = b0.toInt * 150 := by rw [tx_mul (by rw [t150]; omega) (by rw [t150]; omega), t150]
  have m2 : (b0 * 150 + Int32.ofNat i).toInt = b0.toInt * 150 + (i : Int) := by rw [tx_add (by omega) (by omega), m1, oi]
  have nm := n_nat (x := b0 * 150 + Int32.ofNat i) (by omega)
  have km : (b0 * 150 + Int32.ofNat i).toNatClampNeg = 150 * b0.toNatClampNeg + i := by omega
  refine t_X0_stepAt d h I.1 b0 _ _ ⟨fun z => ?_, fun _ => ⟨fun z => ?_, fun _ => ⟨dp_in (lo := 0) (hi := 1799) ⟨by show (0 : Int) ≤ _; omega, by show _ ≤ (1799 : Int); omega⟩ (by decide) (by decide), rfl, ?_⟩⟩⟩
  · have z := q_lt.mp z
    omega
  · have z := q_le.mp z
    omega
  · rw [km]
    exact s.hd.1
/-- room for m rows more among his own -/
def Rok (h : Hp_) (M : Nat → Int32) (m : Nat) : Prop := 0 ≤ (M 11).toInt ∧ (M 11).toInt + (m : Int) ≤ (M 12).toInt ∧ (M 12).toInt ≤ (h_i h 16 7).toInt
theorem c_tt (P : PBok PB tB lB) (d : Nat) {h : Hp_} (I : Iv h) {c : Nat} (hc : Cn h c) {b : β} (B : PB b h) {i : Nat} {x : Sp3} {L : List Sp3} (S : Stb h (h_i h c 8) i (x :: L)) (e9 : h_i h c 9 = Int32.ofNat i) (R : Rok h (h_i h c) (if x.1 = 2 then 1 else 0)) : Ci (m_X11_takesTime (d + 4) 0 0) [.ref 0, .ref c] h (fun q h' => q = (if (fOne (h_i h 0 0) (wI h) x (h_i h c)).1 = true then 1 else 0) ∧ Sxm PB c (h_i h 0 0) (fOne (h_i h 0 0) (wI h) x (h_i h c)).2.1 (h_i h c 11).toNatClampNeg (fOne (h_i h 0 0) (wI h) x (h_i h c)).2.2 b h h') := by
  have c1 := hc.1
  have sr := S.hd.2
  have kd := stR_k sr
  have k := c_sa d I S
  rw [← e9] at k
  refine t_X11_takesTime d h I.1 c hc.2.2 (by omega) _ (Ci.mono k (fun r h1 k => ?_))
  obtain ⟨eh, er⟩ := k
  subst eh er
  refine ⟨I.1, hc.2.2, t_X0_kindOf d h1 _ _ ⟨I.1, hc.2.2, ?_⟩⟩
  rw [pkS_3 kd]
  refine ⟨fun y1 => t_X0_amountOf d h1 _ _ ⟨I.1, hc.2.2, ?_⟩, fun y2 => ?_, fun y3 => ?_, fun yn => ?_⟩
  · rw [pkS_am sr, if_pos y1]
    unfold fOne
    rw [if_pos y1]
    exact ⟨rfl, (Sxm.rf I B).im P hc (by decide) _⟩
  · have ny : ¬ x.1 = 1 := by rw [y2]; decide
    have n3 : ¬ x.1 = 3 := by rw [y2]; decide
    rw [if_pos y2] at R
    refine t_X11_goesToMeet d h1 c hc.2.2 (by omega) _ _ (t_X0_placeOf d h1 _ _ ⟨I.1, hc.2.2, ?_⟩)
    rw [pkS_pl sr ny]
    refine Ci.mono (c_mn d I (h_i h1 c 5) x.2.1) (fun r h2 k => ?_)
    obtain ⟨eh, er⟩ := k
    subst eh er
    refine ⟨I.1, hc.2.2, fun n1 => Ci.mono (c_so P d I hc B x.2.1 (h_i h2 c 11).toNatClampNeg) (fun q h3 k => ?_), fun e1 => Cv.mono (c_sr P d I hc B 2 2 R.1 (by have := R.2.1; omega) R.2.2) (fun h3 k => ⟨k.1.1, k.1.1, Or.inl rfl, ?_⟩)⟩
    · by_cases y : 0 < wI h2 (h_i h2 c 5) x.2.1
      · replace k := k.1 y
        obtain ⟨eq, k⟩ := k
        subst eq
        refine ⟨k.1.1, (k.cn hc).2.2, fun _ => ⟨k.1.1, Or.inr rfl, ?_⟩, fun e => absurd e (by decide)⟩
        unfold fOne
        rw [if_neg ny, if_neg n3, if_pos y]
        exact ⟨rfl, k⟩
      · obtain ⟨eq, eh⟩ := k.2 y
        subst eq eh
        have am := pkS_am sr
        rw [if_neg ny] at am
        refine ⟨I.1, hc.2.2, fun n => absurd rfl n, fun _ => Ci.mono (c_wp P d I hc B (pkS x) (h_i h3 c 10 + x.2.2) (by rw [am]) R.1 (by have := R.2.1; omega) R.2.2) (fun q h4 k => ?_)⟩
        obtain ⟨eq, k⟩ := k
        have fo : fOne (h_i h3 0 0) (wI h3) x (h_i h3 c) = ((fPt (h_i h3 0 0) (h_i h3 c 10 + x.2.2) (h_i h3 c)).1, (fPt (h_i h3 0 0) (h_i h3 c 10 + x.2.2) (h_i h3 c)).2.1, [(fPt (h_i h3 0 0) (h_i h3 c 10 + x.2.2) (h_i h3 c)).2.2]) := by
          unfold fOne
          rw [if_neg ny, if_neg n3, if_neg y, if_pos y2, if_neg n1]
        rw [fo]
        by_cases t : (fPt (h_i h3 0 0) (h_i h3 c 10 + x.2.2) (h_i h3 c)).1 = true
        · rw [if_pos t] at eq
          subst eq
          exact ⟨k.1.1, fun e => absurd e (by decide), fun _ => ⟨k.1.1, Or.inr rfl, by show (1 : Int32) = if (fPt (h_i h3 0 0) (h_i h3 c 10 + x.2.2) (h_i h3 c)).1 = true then 1 else 0; rw [if_pos t], k⟩⟩
        · rw [if_neg t] at eq
          subst eq
          exact ⟨k.1.1, fun _ => ⟨k.1.1, Or.inl rfl, by show (0 : Int32) = if (fPt (h_i h3 0 0) (h_i h3 c 10 + x.2.2) (h_i h3 c)).1 = true then 1 else 0; rw [if_neg t], k⟩, fun n => absurd rfl n⟩
    · have nw : ¬ 0 < wI h2 (h_i h2 c 5) x.2.1 := by rw [e1]; decide
      unfold fOne
      rw [if_neg ny, if_neg n3, if_neg nw, if_pos y2, if_pos e1]
      exact ⟨rfl, k⟩
  · have ny : ¬ x.1 = 1 := by rw [y3]; decide
    unfold fOne
    rw [if_neg ny, if_pos y3]
    exact ⟨rfl, (Sxm.rf I B).im P hc (by decide) _⟩
  · refine t_X0_placeOf d h1 _ _ ⟨I.1, hc.2.2, ?_⟩
    rw [pkS_pl sr yn.1]
    refine Ci.mono (c_so P d I hc B x.2.1 (h_i h1 c 11).toNatClampNeg) (fun q h3 k => ?_)
    by_cases y : 0 < wI h1 (h_i h1 c 5) x.2.1
    · replace k := k.1 y
      obtain ⟨eq, k⟩ := k
      subst eq
      refine ⟨k.1.1, Or.inr rfl, ?_⟩
      unfold fOne
      rw [if_neg yn.1, if_neg yn.2.2, if_pos y]
      exact ⟨rfl, k⟩
    · obtain ⟨eq, eh⟩ := k.2 y
      subst eq eh
      refine ⟨I.1, Or.inl rfl, ?_⟩
      unfold fOne
      rw [if_neg yn.1, if_neg yn.2.2, if_neg y, if_neg yn.2.1]
      exact ⟨rfl, Sxm.rf I B⟩
end MEN
/-! MEN, the class: steps, and one who wakes -/
section MEN
variable {β : Type} {PB : β → Hp_ → Prop} {tB : Int32 → Int32 → β → β} {lB : Nat → Hp_ → β → β}
/-- the row number behind those that were settled -/
theorem row_n {x : Int32} (lo : 0 ≤ x.toInt) (hi : x.toInt < 1000) : (x + 1).toNatClampNeg = x.toNatClampNeg + 1 ∧ (x + 1).toInt = x.toInt + 1 := by
  have t1 : (1 : Int32).toInt = 1 := rfl
  have e : (x + 1).toInt = x.toInt + 1 := tx_add (by rw [t1]; omega) (by rw [t1]; omega)
  have n1 := n_nat (x := x) lo
  have n2 := n_nat (x := x + 1) (by omega)
  exact ⟨by omega, e⟩
theorem rowX_in {h : Hp_} (I : Iv h) : 0 ≤ (h_i h 16 7).toInt ∧ (h_i h 16 7).toInt ≤ 400 := by
  have rg := I.2.1 16 7
  rw [show tf 16 7 = (0, 400) by decide +kernel] at rg
  exact ⟨rg.1, rg.2⟩
theorem fOne_r {h : Hp_} (I : Iv h) {n : Int32} {w : Int32 → Int32 → Int32} {x : Sp3} {M : Nat → Int32} {L : List Sp3} (R : Rok h M (mts (x :: L))) : ((fOne n w x M).2.1 11).toNatClampNeg = (M 11).toNatClampNeg + (fOne n w x M).2.2.length ∧ ((fOne n w x M).1 = false → Rok h (fOne n w x M).2.1 (mts L)) := by
  have r4 := rowX_in I
  have m : mts (x :: L) = (if x.1 = 2 then 1 else 0) + mts L := rfl
  have e12 : (fOne n w x M).2.1 12 = M 12 := fOne_k (by decide) (by decide) (by decide) (by decide) (by decide) (by decide)
  have r1 := R.1
  have r2 := R.2.1
  have r3 := R.2.2
  rw [m] at r2
  rcases fOne_11 (n := n) (w := w) (x := x) (M := M) with ⟨a, b, c⟩ | ⟨a, b, c⟩
  · refine ⟨by rw [a, b]; rfl, fun y => ?_⟩
    have c := c y
    rw [if_neg c] at r2
    exact ⟨by rw [b]; exact r1, by rw [b, e12]; omega, by rw [e12]; exact r3⟩
  · rw [if_pos a] at r2
    have q := row_n (x := M 11) r1 (by omega)
    refine ⟨by rw [b, c]; exact q.1, fun _ => ⟨by rw [c]; omega, by rw [c, e12]; omega, by rw [e12]; exact r3⟩⟩
theorem ds_lp (P : PBok PB tB lB) (d : Nat) {c : Nat} : ∀ (L : List Sp3) {h : Hp_} {b : β} (i : Nat) (x2 : Int32), Iv h → Cn h c → PB b h → Stb h (h_i h c 8) i L → h_i h c 9 = Int32.ofNat i → x2 = Int32.ofNat (i + L.length) → Rok h (h_i h c) (mts L) → h_i h c 4 = 1 → AW (m_X11_doSteps (d + 5) 0 0) 0 0 12 [(0, .ref 0), (1, .ref c), (2, .int x2)] [] h (kV (fun h' => Sxm PB c (h_i h 0 0) (fSt (h_i h 0 0) (wI h) L (h_i h c)).1 (h_i h c 11).toNatClampNeg (fSt (h_i h 0 0) (wI h) L (h_i h c)).2 (fB tB (h_i h 0 0) (fSt (h_i h 0 0) (wI h) L (h_i h c)).1 b) h h'))
  | [], h, b, i, x2, I, hc, B, S, e9, e2, R, e4 => by
    have c1 := hc.1
    refine t_X11_doSteps_12 d h I.1 c hc.2.2 (by omega) x2 _ ⟨fun _ => Cv.mono (c_gh P d I hc B (h_i h c 11).toNatClampNeg) (fun h' k => ⟨k.1.1, k⟩), fun n => absurd (q_le.mpr ?_) n⟩
    rw [e9, e2]
    exact Int.le_refl _
  | x :: L, h, b, i, x2, I, hc, B, S, e9, e2, R, e4 => by
    have c1 := hc.1
    have ll : i + (L.length + 1) ≤ 150 := S.2.1
    have l2 : (i + (x :: L).length : Nat) = i + (L.length + 1) := rfl
    refine t_X11_doSteps_12 d h I.1 c hc.2.2 (by omega) x2 _ ⟨fun y => ?_, fun _ => Ci.mono (c_tt P d I hc B S e9 ⟨R.1, ?_, R.2.2⟩) (fun q h9 k => ?_)⟩
    · have y := q_le.mp y
      rw [e9, e2, on_j (by omega), on_j (by omega)] at y
      omega
    · have m : mts (x :: L) = (if x.1 = 2 then 1 else 0) + mts L := rfl
      have r2 := R.2.1
      rw [m] at r2
      omega
    · obtain ⟨eq, k⟩ := k
      have fr := fOne_r I (n := h_i h 0 0) (w := wI h) R
      have f4 : (fOne (h_i h 0 0) (wI h) x (h_i h c)).2.1 4 = 1 := by rw [fOne_k (by decide) (by decide) (by decide) (by decide) (by decide) (by decide)]; exact e4
      by_cases t : (fOne (h_i h 0 0) (wI h) x (h_i h c)).1 = true
      · rw [if_pos t] at eq
        subst eq
        have f : fSt (h_i h 0 0) (wI h) (x :: L) (h_i h c) = ((fOne (h_i h 0 0) (wI h) x (h_i h c)).2.1, (fOne (h_i h 0 0) (wI h) x (h_i h c)).2.2) := by
          show (if (fOne (h_i h 0 0) (wI h) x (h_i h c)).1 = true then _ else _) = _
          rw [if_pos t]
        refine ⟨k.1.1, (k.cn hc).2.2, fun e => absurd e (by decide), fun _ => ?_⟩
        rw [f]
        have fb : fB tB (h_i h 0 0) (fOne (h_i h 0 0) (wI h) x (h_i h c)).2.1 b = b := by
          unfold fB
          rw [f4, if_neg (by decide)]
        show Sxm PB c (h_i h 0 0) (fOne (h_i h 0 0) (wI h) x (h_i h c)).2.1 (h_i h c 11).toNatClampNeg (fOne (h_i h 0 0) (wI h) x (h_i h c)).2.2 (fB tB (h_i h 0 0) (fOne (h_i h 0 0) (wI h) x (h_i h c)).2.1 b) h h9
        rw [fb]
        exact k
      · rw [if_neg t] at eq
        subst eq
        have tf' : (fOne (h_i h 0 0) (wI h) x (h_i h c)).1 = false := by
          cases z : (fOne (h_i h 0 0) (wI h) x (h_i h c)).1 with
          | true => exact absurd z t
          | false => rfl
        have f : fSt (h_i h 0 0) (wI h) (x :: L) (h_i h c) = ((fSt (h_i h 0 0) (wI h) L (up1 (fOne (h_i h 0 0) (wI h) x (h_i h c)).2.1 9 ((fOne (h_i h 0 0) (wI h) x (h_i h c)).2.1 9 + 1))).1, (fOne (h_i h 0 0) (wI h) x (h_i h c)).2.2 ++ (fSt (h_i h 0 0) (wI h) L (up1 (fOne (h_i h 0 0) (wI h) x (h_i h c)).2.1 9 ((fOne (h_i h 0 0) (wI h) x (h_i h c)).2.1 9 + 1))).2) := by
          show (if (fOne (h_i h 0 0) (wI h) x (h_i h c)).1 = true then _ else _) = _
          rw [if_neg t]
        refine ⟨k.1.1, (k.cn hc).2.2, fun _ => ?_, fun n => absurd rfl n⟩
        rw [f, show h_i h9 c 9 = (fOne (h_i h 0 0) (wI h) x (h_i h c)).2.1 9 from congrFun k.2.2.1 9]
        have k10 := k.im P hc (k := 9) (by decide) ((fOne (h_i h 0 0) (wI h) x (h_i h c)).2.1 9 + 1)
        have f9 : (fOne (h_i h 0 0) (wI h) x (h_i h c)).2.1 9 = Int32.ofNat i := by rw [fOne_k (by decide) (by decide) (by decide) (by decide) (by decide) (by decide)]; exact e9
        have f8 : (fOne (h_i h 0 0) (wI h) x (h_i h c)).2.1 8 = h_i h c 8 := fOne_k (by decide) (by decide) (by decide) (by decide) (by decide) (by decide)
        have kk := k10.2.1.k c1
        have Rk := fr.2 tf'
        have r11 := fr.1
        generalize h_im h9 c 9 ((fOne (h_i h 0 0) (wI h) x (h_i h c)).2.1 9 + 1) = h10 at *
        have ec := k10.2.2.1
        have ih := ds_lp P d L (h := h10) (b := b) (i + 1) x2 k10.1 (k10.cn hc) k10.2.2.2.2 (by rw [ec, up1_ne (by decide), f8]; exact S.tl.cg kk.2.2.2.2.2.1) (by rw [ec, up1_at, f9, on_s (by omega)]) (by rw [e2, l2, show i + 1 + L.length = i + (L.length + 1) by omega]) (by
          rw [ec]
          exact ⟨by rw [up1_ne (by decide)]; exact Rk.1, by rw [up1_ne (by decide), up1_ne (by decide)]; exact Rk.2.1, by rw [up1_ne (by decide), kk.2.2.2.1]; exact Rk.2.2⟩) (by rw [ec, up1_ne (by decide)]; exact f4)
        rw [kk.2.1, wI_eq k10.2.1 c1, ec] at ih
        refine AW.mono ih (fun v h' z => ⟨z.1, k10.tr z.2 ?_⟩)
        rw [up1_ne (by decide)]
        exact r11
theorem c_ds (P : PBok PB tB lB) (d : Nat) {h : Hp_} (I : Iv h) {c : Nat} (hc : Cn h c) {b : β} (B : PB b h) (L : List Sp3) (i : Nat) (S : Stb h (h_i h c 8) i L) (e9 : h_i h c 9 = Int32.ofNat i) (b3 : (h_i h c 8).toInt < (h_i h 12 3).toInt) (e35 : h_i h 35 (h_i h c 8).toNatClampNeg = Int32.ofNat (i + L.length)) (R : Rok h (h_i h c) (mts L)) (e4 : h_i h c 4 = 1) : Cv (m_X11_doSteps (d + 5) 0 0) [.ref 0, .ref c] h (fun h' => Sxm PB c (h_i h 0 0) (fSt (h_i h 0 0) (wI h) L (h_i h c)).1 (h_i h c 11).toNatClampNeg (fSt (h_i h 0 0) (wI h) L (h_i h c)).2 (fB tB (h_i h 0 0) (fSt (h_i h 0 0) (wI h) L (h_i h c)).1 b) h h') := by
  have c1 := hc.1
  have t0 : (0 : Int32).toInt = 0 := rfl
  have b8 := S.1
  refine t_X11_doSteps d h I.1 c hc.2.2 (by omega) _ (t_X0_stepsOf d h I.1 _ _ (Ci.mono (c_has d I _) (fun r3 h3 q => ?_)))
  obtain ⟨e, q⟩ := q
  subst e
  refine ⟨I.1, fun z => ?_, fun _ => ⟨dp_in (lo := 0) (hi := 11) ⟨b8.1, b8.2⟩ (by decide) (by decide), I.1, hc.2.2, ?_⟩⟩
  · rcases q with q | q
    · rw [z] at q
      exact absurd q.1 (by decide)
    · refine absurd ⟨fun y => ?_, fun y => ?_⟩ q.2
      · have y := q_lt.mp y
        omega
      · have y := q_le.mp y
        omega
  · exact ds_lp P d L i _ I hc B S e9 e35 R e4
theorem c_sd (P : PBok PB tB lB) (d : Nat) {h : Hp_} (I : Iv h) {c : Nat} (hc : Cn h c) {b : β} (B : PB b h) (r : Nat) (e4 : h_i h c 4 = 3) : Cv (m_X11_serveDrawn (d + 4) 0 0) [.ref 0, .ref c] h (fun h' => Sxm PB c (h_i h 0 0) (fDr (h_i h 0 0) (wI h) (h_i h c)) r [] (fB tB (h_i h 0 0) (fDr (h_i h 0 0) (wI h) (h_i h c)) b) h h') := by
  have c1 := hc.1
  refine t_X11_serveDrawn d h I.1 c hc.2.2 (by omega) _ (Ci.mono (c_so P d I hc B (h_i h c 13) r) (fun q h1 k => ?_))
  by_cases y : 0 < wI h (h_i h c 5) (h_i h c 13)
  · replace k := k.1 y
    obtain ⟨eq, k⟩ := k
    subst eq
    have f : fDr (h_i h 0 0) (wI h) (h_i h c) = sOut (h_i h 0 0) (wI h (h_i h c 5) (h_i h c 13)) (h_i h c 13) (h_i h c) := by
      unfold fDr
      rw [if_pos y]
    refine ⟨k.1.1, (k.cn hc).2.2, fun e => absurd e (by decide), fun _ => ?_⟩
    rw [f]
    unfold fB
    rw [sOut_k (by decide) (by decide) (by decide), e4, if_neg (by decide)]
    exact k
  · obtain ⟨eq, eh⟩ := k.2 y
    subst eq eh
    refine ⟨I.1, hc.2.2, fun _ => ⟨fun n => Cv.mono (c_gh P d I hc B r) (fun h' k => ⟨k.1.1, ?_⟩), fun e => ⟨fun l => Cv.mono (c_gh P d I hc B r) (fun h' k => ⟨k.1.1, ?_⟩), fun l => ?_⟩⟩, fun n => absurd rfl n⟩
    · have f : fDr (h_i h1 0 0) (wI h1) (h_i h1 c) = fHome (h_i h1 0 0) (wI h1) (h_i h1 c) := by
        unfold fDr
        rw [if_neg y, if_neg (fun z => n z.1)]
      rw [f]
      exact k
    · have l := q_le.mp l
      have f : fDr (h_i h1 0 0) (wI h1) (h_i h1 c) = fHome (h_i h1 0 0) (wI h1) (h_i h1 c) := by
        unfold fDr
        rw [if_neg y, if_neg (fun z => by have := q_lt.mp z.2; omega)]
      rw [f]
      exact k
    · have l := q_nle l
      have f : fDr (h_i h1 0 0) (wI h1) (h_i h1 c) = up1 (h_i h1 c) 7 (h_i h1 c 14) := by
        unfold fDr
        rw [if_neg y, if_pos ⟨e, q_lt.mpr l⟩]
      rw [f]
      unfold fB
      rw [up1_ne (by decide), e4, if_neg (by decide)]
      exact (Sxm.rf I B).im P hc (by decide) _
/-- the step is over, or he waits; a look is had -/
theorem c_es (P : PBok PB tB lB) (d : Nat) {h : Hp_} (I : Iv h) {c : Nat} (hc : Cn h c) {b : β} (B : PB b h) {i : Nat} {x : Sp3} {L : List Sp3} (S : Stb h (h_i h c 8) i (x :: L)) (e9 : h_i h c 9 = Int32.ofNat i) (x2 : Int32) (came : Bool) (ec : came = true ↔ ¬ x2 = 0) (R : x.1 = 2 → came = true → Rok h (h_i h c) 1) : Ci (m_X11_endsStep (d + 6) 0 0) [.ref 0, .ref c, .int x2] h (fun q h' => q = (if (fEn (h_i h 0 0) x came (h_i h c)).1 = true then 0 else 1) ∧ Sxm PB c (h_i h 0 0) (fEn (h_i h 0 0) x came (h_i h c)).2.1 (h_i h c 11).toNatClampNeg (fEn (h_i h 0 0) x came (h_i h c)).2.2 (if x.1 = 3 then lB c h b else b) h h') := by
  have c1 := hc.1
  have sr := S.hd.2
  have kd := stR_k sr
  have k := c_sa (d + 1) I S
  rw [← e9] at k
  refine t_X11_endsStep (d + 1) h I.1 c hc.2.2 (by omega) x2 _ (Ci.mono k (fun r h1 k => ?_))
  obtain ⟨eh, er⟩ := k
  subst eh er
  refine ⟨I.1, hc.2.2, t_X0_kindOf (d + 1) h1 _ _ ⟨I.1, hc.2.2, ?_⟩⟩
  rw [pkS_3 kd]
  refine ⟨fun n3 => ⟨fun n2 => ?_, fun y2 => ⟨fun e0 => ?_, fun n0 => ?_⟩⟩, fun y3 => Cv.mono (P.2.2.2 d b h1 c I hc B) (fun h' k => ⟨k.1.1, by rw [k.2.1.1]; exact hc.2.2, fun _ => ?_, fun y2 => absurd (y3.symm.trans y2) (by decide)⟩)⟩
  · have fo : fEn (h_i h1 0 0) x came (h_i h1 c) = (false, h_i h1 c, []) := if_neg (fun z => n2 z.1)
    rw [fo, if_neg n3]
    exact ⟨rfl, Sxm.rf I B⟩
  · have fo : fEn (h_i h1 0 0) x came (h_i h1 c) = (false, h_i h1 c, []) := if_neg (fun z => ec.mp z.2 e0)
    rw [fo, if_neg n3]
    exact ⟨rfl, Sxm.rf I B⟩
  · have yc := ec.mpr n0
    have ny : ¬ x.1 = 1 := by rw [y2]; decide
    have am := pkS_am sr
    rw [if_neg ny] at am
    have R' := R y2 yc
    refine Ci.mono (c_wp P (d + 1) I hc B (pkS x) (h_i h1 c 10 + x.2.2) (by rw [am]) R'.1 (by have := R'.2.1; omega) R'.2.2) (fun q h4 k => ?_)
    obtain ⟨eq, k⟩ := k
    have fo : fEn (h_i h1 0 0) x came (h_i h1 c) = ((fPt (h_i h1 0 0) (h_i h1 c 10 + x.2.2) (h_i h1 c)).1, (fPt (h_i h1 0 0) (h_i h1 c 10 + x.2.2) (h_i h1 c)).2.1, [(fPt (h_i h1 0 0) (h_i h1 c 10 + x.2.2) (h_i h1 c)).2.2]) := by
      unfold fEn
      rw [if_pos ⟨y2, yc⟩]
    rw [fo, if_neg n3]
    by_cases t : (fPt (h_i h1 0 0) (h_i h1 c 10 + x.2.2) (h_i h1 c)).1 = true
    · rw [if_pos t] at eq
      subst eq
      exact ⟨k.1.1, fun _ => ⟨by show (0 : Int32) = if (fPt (h_i h1 0 0) (h_i h1 c 10 + x.2.2) (h_i h1 c)).1 = true then 0 else 1; rw [if_pos t], k⟩, fun e => absurd e (by decide)⟩
    · rw [if_neg t] at eq
      subst eq
      exact ⟨k.1.1, fun n => absurd rfl n, fun _ => ⟨by show (1 : Int32) = if (fPt (h_i h1 0 0) (h_i h1 c 10 + x.2.2) (h_i h1 c)).1 = true then 0 else 1; rw [if_neg t], k⟩⟩
  · have n2 : ¬ x.1 = 2 := by rw [y3]; decide
    have fo : fEn (h_i h1 0 0) x came (h_i h1 c) = (false, h_i h1 c, []) := if_neg (fun z => n2 z.1)
    rw [fo, if_pos y3]
    exact ⟨rfl, (Sxm.rf I B).fr hc k.1 k.2.1 k.2.2⟩
end MEN
/-! MEN, the class: goOn -/
section MEN
variable {β : Type} {PB : β → Hp_ → Prop} {tB : Int32 → Int32 → β → β} {lB : Nat → Hp_ → β → β}
/-- one on a beat: his step x, the steps L behind it, room for his rows -/
def Btk (h : Hp_) (M : Nat → Int32) (i : Nat) (x : Sp3) (L : List Sp3) (came : Bool) : Prop := Stb h (M 8) i (x :: L) ∧ M 9 = Int32.ofNat i ∧ (M 8).toInt < (h_i h 12 3).toInt ∧ h_i h 35 (M 8).toNatClampNeg = Int32.ofNat (i + (L.length + 1)) ∧ Rok h M ((if x.1 = 2 ∧ came = true then 1 else 0) + mts L)
theorem fEn_k {n : Int32} {x : Sp3} {came : Bool} {M : Nat → Int32} {k : Nat} (a : k ≠ 7) (b : k ≠ 11) (c : k ≠ 15) (e : k ≠ 16) : (fEn n x came M).2.1 k = M k := by
  unfold fEn
  split
  · exact fPt_k a b c e
  · rfl
theorem fEn_r {h : Hp_} (I : Iv h) {n : Int32} {x : Sp3} {came : Bool} {M : Nat → Int32} {m : Nat} (R : Rok h M ((if x.1 = 2 ∧ came = true then 1 else 0) + m)) : ((fEn n x came M).2.1 11).toNatClampNeg = (M 11).toNatClampNeg + (fEn n x came M).2.2.length ∧ Rok h (fEn n x came M).2.1 m := by
  have r4 := rowX_in I
  have e12 : (fEn n x came M).2.1 12 = M 12 := fEn_k (by decide) (by decide) (by decide) (by decide)
  have r1 := R.1
  have r2 := R.2.1
  have r3 := R.2.2
  unfold Rok
  rw [e12]
  unfold fEn
  by_cases y : x.1 = 2 ∧ came = true
  · rw [if_pos y] at r2 ⊢
    have q := row_n (x := M 11) r1 (by omega)
    refine ⟨?_, ?_, ?_, r3⟩
    · show ((fPt n (M 10 + x.2.2) M).2.1 11).toNatClampNeg = (M 11).toNatClampNeg + 1
      rw [fPt_11]
      exact q.1
    · show 0 ≤ ((fPt n (M 10 + x.2.2) M).2.1 11).toInt
      rw [fPt_11]
      omega
    · show ((fPt n (M 10 + x.2.2) M).2.1 11).toInt + (m : Int) ≤ (M 12).toInt
      rw [fPt_11]
      omega
  · rw [if_neg y] at r2 ⊢
    exact ⟨rfl, r1, by show (M 11).toInt + (m : Int) ≤ (M 12).toInt; omega, r3⟩
theorem go_b (P : PBok PB tB lB) (d : Nat) {h : Hp_} (I : Iv h) {c : Nat} (hc : Cn h c) {b : β} (B : PB b h) {i : Nat} {x : Sp3} {L : List Sp3} {came : Bool} (T : Btk h (h_i h c) i x L came) (e4 : h_i h c 4 = 1) (x2 : Int32) (ec : came = true ↔ ¬ x2 = 0) (K : Hp_ → Prop) (hK : ∀ h', Sxm PB c (h_i h 0 0) (fNx (h_i h 0 0) (wI h) L (fEn (h_i h 0 0) x came (h_i h c))).1 (h_i h c 11).toNatClampNeg (fNx (h_i h 0 0) (wI h) L (fEn (h_i h 0 0) x came (h_i h c))).2 (fB tB (h_i h 0 0) (fNx (h_i h 0 0) (wI h) L (fEn (h_i h 0 0) x came (h_i h c))).1 (if x.1 = 3 then lB c h b else b)) h h' → K h') : Ci (m_X11_endsStep (d + 6) 0 0) [.ref 0, .ref c, .int x2] h (fun r14 h12 => Wf h12 ∧ h_sh h12 c = some (12, 17) ∧ ((r14 = 0 → K h12) ∧ (¬ r14 = 0 → Cv (m_X11_doSteps (d + 1 + 5) 0 0) [.ref 0, .ref c] (h_im h12 c 9 ((h_i h12 c 9) + 1)) (fun h17 => Wf h17 ∧ (K h17))))) := by
  have c1 := hc.1
  obtain ⟨S, e9, b3, e35, R⟩ := T
  have ll : i + (L.length + 1) ≤ 150 := S.2.1
  refine Ci.mono (c_es P d I hc B S e9 x2 came ec (fun y2 yc => ?_)) (fun q h12 k => ?_)
  · rw [if_pos ⟨y2, yc⟩] at R
    exact ⟨R.1, by have := R.2.1; omega, R.2.2⟩
  · obtain ⟨eq, k⟩ := k
    have f4 : (fEn (h_i h 0 0) x came (h_i h c)).2.1 4 = 1 := by rw [fEn_k (by decide) (by decide) (by decide) (by decide)]; exact e4
    have fr := fEn_r I (n := h_i h 0 0) R
    refine ⟨k.1.1, (k.cn hc).2.2, fun e0 => hK h12 ?_, fun n0 => ?_⟩
    · have t : (fEn (h_i h 0 0) x came (h_i h c)).1 = true := by
        cases z : (fEn (h_i h 0 0) x came (h_i h c)).1 with
        | true => rfl
        | false =>
          rw [z, if_neg (by decide)] at eq
          rw [eq] at e0
          exact absurd e0 (by decide)
      have f : fNx (h_i h 0 0) (wI h) L (fEn (h_i h 0 0) x came (h_i h c)) = ((fEn (h_i h 0 0) x came (h_i h c)).2.1, (fEn (h_i h 0 0) x came (h_i h c)).2.2) := by
        unfold fNx
        rw [if_pos t]
      rw [f]
      unfold fB
      show Sxm PB c (h_i h 0 0) (fEn (h_i h 0 0) x came (h_i h c)).2.1 (h_i h c 11).toNatClampNeg (fEn (h_i h 0 0) x came (h_i h c)).2.2 (if (fEn (h_i h 0 0) x came (h_i h c)).2.1 4 = 0 then _ else _) h h12
      rw [f4, if_neg (by decide)]
      exact k
    · have t : ¬ (fEn (h_i h 0 0) x came (h_i h c)).1 = true := fun z => by
        rw [z, if_pos rfl] at eq
        exact n0 eq
      have f : fNx (h_i h 0 0) (wI h) L (fEn (h_i h 0 0) x came (h_i h c)) = ((fSt (h_i h 0 0) (wI h) L (up1 (fEn (h_i h 0 0) x came (h_i h c)).2.1 9 ((fEn (h_i h 0 0) x came (h_i h c)).2.1 9 + 1))).1, (fEn (h_i h 0 0) x came (h_i h c)).2.2 ++ (fSt (h_i h 0 0) (wI h) L (up1 (fEn (h_i h 0 0) x came (h_i h c)).2.1 9 ((fEn (h_i h 0 0) x came (h_i h c)).2.1 9 + 1))).2) := by
        unfold fNx
        rw [if_neg t]
      rw [f] at hK
      rw [show h_i h12 c 9 = (fEn (h_i h 0 0) x came (h_i h c)).2.1 9 from congrFun k.2.2.1 9]
      have k10 := k.im P hc (k := 9) (by decide) ((fEn (h_i h 0 0) x came (h_i h c)).2.1 9 + 1)
      have f9 : (fEn (h_i h 0 0) x came (h_i h c)).2.1 9 = Int32.ofNat i := by rw [fEn_k (by decide) (by decide) (by decide) (by decide)]; exact e9
      have f8 : (fEn (h_i h 0 0) x came (h_i h c)).2.1 8 = h_i h c 8 := fEn_k (by decide) (by decide) (by decide) (by decide)
      have kk := k10.2.1.k c1
      have Rk := fr.2
      have r11 := fr.1
      generalize h_im h12 c 9 ((fEn (h_i h 0 0) x came (h_i h c)).2.1 9 + 1) = h10 at *
      have ec' := k10.2.2.1
      have g := c_ds P (d + 1) (h := h10) k10.1 (k10.cn hc) k10.2.2.2.2 L (i + 1) (by rw [ec', up1_ne (by decide), f8]; exact S.tl.cg kk.2.2.2.2.2.1) (by rw [ec', up1_at, f9, on_s (by omega)]) (by rw [ec', up1_ne (by decide), f8, kk.2.2.2.2.1]; exact b3) (by rw [ec', up1_ne (by decide), f8, kk.2.2.2.2.2.2, e35, show i + 1 + L.length = i + (L.length + 1) by omega]) (by
        rw [ec']
        exact ⟨by rw [up1_ne (by decide)]; exact Rk.1, by rw [up1_ne (by decide), up1_ne (by decide)]; exact Rk.2.1, by rw [up1_ne (by decide), kk.2.2.2.1]; exact Rk.2.2⟩) (by rw [ec', up1_ne (by decide)]; exact f4)
      rw [kk.2.1, wI_eq k10.2.1 c1, ec'] at g
      refine Cv.mono g (fun h' z => ⟨z.1.1, hK h' (k10.tr z ?_)⟩)
      rw [up1_ne (by decide)]
      exact r11
/-- look's share: only one who looks -/
def bL3 (lB : Nat → Hp_ → β → β) (c : Nat) (h : Hp_) (x : Sp3) (b : β) : β := if h_i h c 4 = 1 ∧ x.1 = 3 then lB c h b else b
theorem go_t (P : PBok PB tB lB) (d : Nat) {h g : Hp_} {c : Nat} (hc : Cn h c) {b : β} {r : Nat} (er : r = (h_i h c 11).toNatClampNeg) (n0 : ¬ h_i h c 4 = 0) (s : Sxm PB c (h_i h 0 0) (fCm (h_i h c)) r [] b h (h_im g c 7 (-1))) (eg : h_i g c 4 = h_i h c 4) {i : Nat} {x : Sp3} {L : List Sp3} (T : h_i h c 4 = 1 → Btk h (h_i h c) i x L (decide (¬ h_i h c 6 = -1))) (x2 : Int32) (ec : decide (¬ h_i h c 6 = -1) = true ↔ ¬ x2 = 0) (K : Hp_ → Prop) (hK : ∀ h', Sxm PB c (h_i h 0 0) (fGo (h_i h 0 0) (wI h) x L (h_i h c)).1 r (fGo (h_i h 0 0) (wI h) x L (h_i h c)).2 (fB tB (h_i h 0 0) (fGo (h_i h 0 0) (wI h) x L (h_i h c)).1 (bL3 lB c (h_im g c 7 (-1)) x b)) h h' → K h') : (¬ (h_i g c 4) = 1 → (¬ (h_i g c 4) = 2 → (¬ (h_i g c 4) = 3 → K (h_im g c 7 (-1))) ∧ ((h_i g c 4) = 3 → Cv (m_X11_serveDrawn (d + 1 + 4) 0 0) [.ref 0, .ref c] (h_im g c 7 (-1)) (fun h6 => Wf h6 ∧ (K h6)))) ∧ ((h_i g c 4) = 2 → Cv (m_X11_setFree (d + 1 + 1) 0 0) [.ref 0, .ref c] (h_im g c 7 (-1)) (fun h9 => Wf h9 ∧ (K h9)))) ∧ ((h_i g c 4) = 1 → Ci (m_X11_endsStep (d + 1 + 5) 0 0) [.ref 0, .ref c, .int x2] (h_im g c 7 (-1)) (fun r14 h12 => Wf h12 ∧ h_sh h12 c = some (12, 17) ∧ ((r14 = 0 → K h12) ∧ (¬ r14 = 0 → Cv (m_X11_doSteps (d + 1 + 5) 0 0) [.ref 0, .ref c] (h_im h12 c 9 ((h_i h12 c 9) + 1)) (fun h17 => Wf h17 ∧ (K h17)))))) := by
  have c1 := hc.1
  have kk := s.2.1.k c1
  have ew := wI_eq s.2.1 c1
  have ecc := s.2.2.1
  have f4 : fCm (h_i h c) 4 = h_i h c 4 := by
    unfold fCm
    split
    · rw [up1_ne (by decide)]
    · rw [up1_ne (by decide), up1_ne (by decide), up1_ne (by decide)]
  have f11 : fCm (h_i h c) 11 = h_i h c 11 := by
    unfold fCm
    split
    · rw [up1_ne (by decide)]
    · rw [up1_ne (by decide), up1_ne (by decide), up1_ne (by decide)]
  have g4 : h_i (h_im g c 7 (-1)) c 4 = h_i h c 4 := by rw [ecc]; exact f4
  rw [eg]
  have nb : ¬ h_i h c 4 = 1 → bL3 lB c (h_im g c 7 (-1)) x b = b := fun n => by
    unfold bL3
    rw [if_neg (fun z => n (g4.symm.trans z.1))]
  refine ⟨fun n1 => ⟨fun n2 => ⟨fun n3 => hK _ ?_, fun y3 => ?_⟩, fun y2 => ?_⟩, fun y1 => ?_⟩
  · have f : fGo (h_i h 0 0) (wI h) x L (h_i h c) = (fCm (h_i h c), []) := by
      unfold fGo
      rw [if_neg n1, if_neg n2, if_neg n3]
    rw [f, nb n1]
    unfold fB
    show Sxm PB c (h_i h 0 0) (fCm (h_i h c)) r [] (if fCm (h_i h c) 4 = 0 then _ else _) h _
    rw [f4, if_neg n0]
    exact s
  · have f : fGo (h_i h 0 0) (wI h) x L (h_i h c) = (fDr (h_i h 0 0) (wI h) (fCm (h_i h c)), []) := by
      unfold fGo
      rw [if_neg n1, if_neg n2, if_pos y3]
    rw [f, nb n1] at hK
    have z := c_sd P (d + 1) s.1 (s.cn hc) s.2.2.2.2 r (by rw [g4]; exact y3)
    rw [kk.2.1, ew, ecc] at z
    exact Cv.mono z (fun h' k => ⟨k.1.1, hK h' (s.tr k rfl)⟩)
  · have f : fGo (h_i h 0 0) (wI h) x L (h_i h c) = (fFree (fCm (h_i h c)), []) := by
      unfold fGo
      rw [if_neg n1, if_pos y2]
    rw [f, nb n1] at hK
    have z := c_sf P (d + 1) s.1 (s.cn hc) s.2.2.2.2 r
    rw [kk.2.1, ecc] at z
    refine Cv.mono z (fun h' k => ⟨k.1.1, hK h' ?_⟩)
    have z0 : fFree (fCm (h_i h c)) 4 = 0 := by
      unfold fFree
      rw [up1_ne (by decide), up1_at]
    have z1 : fFree (fCm (h_i h c)) 0 = fCm (h_i h c) 0 := fFree_k (by decide) (by decide)
    unfold fB
    show Sxm PB c (h_i h 0 0) (fFree (fCm (h_i h c))) r [] (if fFree (fCm (h_i h c)) 4 = 0 then tB (fFree (fCm (h_i h c)) 0) (h_i h 0 0) b else b) h h'
    rw [if_pos z0, z1]
    exact s.tr k rfl
  · have T := T y1
    obtain ⟨S, e9, b3, e35, R⟩ := T
    have fk : ∀ k, k ≠ 5 → k ≠ 6 → k ≠ 7 → fCm (h_i h c) k = h_i h c k := fun k a b e => by
      unfold fCm
      split
      · rw [up1_ne e]
      · rw [up1_ne e, up1_ne a, up1_ne b]
    have T7 : Btk (h_im g c 7 (-1)) (h_i (h_im g c 7 (-1)) c) i x L (decide (¬ h_i h c 6 = -1)) := by
      rw [ecc]
      unfold Btk Rok
      rw [fk 8 (by decide) (by decide) (by decide), fk 9 (by decide) (by decide) (by decide), fk 11 (by decide) (by decide) (by decide), fk 12 (by decide) (by decide) (by decide), kk.2.2.2.2.1, kk.2.2.2.2.2.2, kk.2.2.2.1]
      exact ⟨S.cg kk.2.2.2.2.2.1, e9, b3, e35, R⟩
    have f : fGo (h_i h 0 0) (wI h) x L (h_i h c) = fNx (h_i h 0 0) (wI h) L (fEn (h_i h 0 0) x (decide (¬ h_i h c 6 = -1)) (fCm (h_i h c))) := by
      unfold fGo
      rw [if_pos y1]
    have eb : bL3 lB c (h_im g c 7 (-1)) x b = if x.1 = 3 then lB c (h_im g c 7 (-1)) b else b := by
      unfold bL3
      by_cases z : x.1 = 3
      · rw [if_pos z, if_pos ⟨g4.trans y1, z⟩]
      · rw [if_neg z, if_neg (fun q => z q.2)]
    rw [f, eb] at hK
    refine go_b P d s.1 (s.cn hc) s.2.2.2.2 T7 (by rw [g4]; exact y1) x2 ec K (fun h' k => hK h' ?_)
    rw [kk.2.1, ew, ecc, f11] at k
    rw [er]
    rw [er] at s
    exact s.tr k rfl
theorem c_go (P : PBok PB tB lB) (d : Nat) {h : Hp_} (I : Iv h) {c : Nat} (hc : Cn h c) {b : β} (B : PB b h) (n0 : ¬ h_i h c 4 = 0) {i : Nat} {x : Sp3} {L : List Sp3} (T : h_i h c 4 = 1 → Btk h (h_i h c) i x L (decide (¬ h_i h c 6 = -1)) ∧ (x.1 = 3 → h_i h c 6 = -1)) : Cv (m_X11_goOn (d + 7) 0 0) [.ref 0, .ref c] h (fun h' => Sxm PB c (h_i h 0 0) (fGo (h_i h 0 0) (wI h) x L (h_i h c)).1 (h_i h c 11).toNatClampNeg (fGo (h_i h 0 0) (wI h) x L (h_i h c)).2 (fB tB (h_i h 0 0) (fGo (h_i h 0 0) (wI h) x L (h_i h c)).1 (bL3 lB c (h_im h c 7 (-1)) x b)) h h') := by
  have c1 := hc.1
  refine t_X11_goOn (d + 1) h I.1 c hc.2.2 (by omega) _ ⟨fun e6 => ?_, fun n6 => ?_⟩
  · have fc : fCm (h_i h c) = up1 (h_i h c) 7 (-1) := by
      unfold fCm
      rw [if_pos e6]
    have s : Sxm PB c (h_i h 0 0) (fCm (h_i h c)) (h_i h c 11).toNatClampNeg [] b h (h_im h c 7 (-1)) := by
      rw [fc]
      exact (Sxm.rf I B).im P hc (by decide) (-1)
    exact go_t P d hc rfl n0 s rfl (fun y => (T y).1) 0 (by rw [decide_eq_true_iff]; exact ⟨fun y => absurd e6 y, fun y => absurd rfl y⟩) _ (fun h' k => k)
  · have s6 : Sxm PB c (h_i h 0 0) (up1 (h_i h c) 6 (-1)) (h_i h c 11).toNatClampNeg [] b h (h_im h c 6 (-1)) := (Sxm.rf I B).im P hc (by decide) (-1)
    refine Cv.mono (c_put P (d + 1) s6.1 (s6.cn hc) s6.2.2.2.2 (h_i h c 6)) (fun h21 k6 => ?_)
    have s21 : Sxm PB c (h_i h 0 0) (up1 (up1 (h_i h c) 6 (-1)) 5 (h_i h c 6)) (h_i h c 11).toNatClampNeg [] b h h21 := ⟨k6.1, s6.2.1.tr k6.2.1, by rw [k6.2.2.1, s6.2.2.1], ⟨by rw [k6.2.2.2.1 51 (by omega)]; exact s6.2.2.2.1.1, by rw [k6.2.2.2.1 52 (by omega)]; exact s6.2.2.2.1.2.1, by rw [k6.2.2.2.1 53 (by omega)]; exact s6.2.2.2.1.2.2⟩, k6.2.2.2.2⟩
    have fc : fCm (h_i h c) = up1 (up1 (up1 (h_i h c) 6 (-1)) 5 (h_i h c 6)) 7 (-1) := by
      unfold fCm
      rw [if_neg n6]
    have s : Sxm PB c (h_i h 0 0) (fCm (h_i h c)) (h_i h c 11).toNatClampNeg [] b h (h_im h21 c 7 (-1)) := by
      rw [fc]
      exact s21.im P hc (by decide) (-1)
    refine ⟨s21.1.1, (s21.cn hc).2.2, go_t P d hc rfl n0 s (by rw [s21.2.2.1, up1_ne (by decide), up1_ne (by decide)]) (fun y => (T y).1) 1 (by rw [decide_eq_true_iff]; exact ⟨fun _ => by decide, fun _ => n6⟩) _ (fun h' k => ?_)⟩
    have e1 : bL3 lB c (h_im h21 c 7 (-1)) x b = b := by
      unfold bL3
      refine if_neg (fun z => ?_)
      have e4 : h_i h c 4 = 1 := by
        have q := z.1
        rw [s.2.2.1, fc, up1_ne (by decide), up1_ne (by decide), up1_ne (by decide)] at q
        exact q
      exact n6 ((T e4).2 z.2)
    have e2 : bL3 lB c (h_im h c 7 (-1)) x b = b := by
      unfold bL3
      refine if_neg (fun z => ?_)
      have e4 : h_i h c 4 = 1 := by
        have q := z.1
        rw [im_row, up1_ne (by decide)] at q
        exact q
      exact n6 ((T e4).2 z.2)
    rw [e1] at k
    rw [e2]
    exact k
end MEN
end
section
/-! MEN, the class: what is dropped, rows written, begin -/
def dRow (cz : Int32) : Nat → (Nat → Int32) → Nat → Int32
  | 0, M => M
  | k + 1, M => dRow cz k (sRow (2, cz) M)
theorem dRow_k {cz : Int32} {j : Nat} (a : j ≠ 11) (b : j ≠ 15) (c : j ≠ 16) : ∀ (k : Nat) (M : Nat → Int32), dRow cz k M j = M j
  | 0, _ => rfl
  | k + 1, M => by
    show dRow cz k (sRow (2, cz) M) j = M j
    rw [dRow_k a b c k, sRow_k a b c]
/-- what he is about is dropped -/
def fDp (cz : Int32) (M : Nat → Int32) : (Nat → Int32) × List Ev2 := if M 4 = 1 then (dRow cz (M 12 - M 11).toNatClampNeg M, List.replicate (M 12 - M 11).toNatClampNeg (2, cz)) else (M, [])
theorem fDp_k {cz : Int32} {M : Nat → Int32} {j : Nat} (a : j ≠ 11) (b : j ≠ 15) (c : j ≠ 16) : (fDp cz M).1 j = M j := by
  unfold fDp
  split
  · exact dRow_k a b c _ _
  · rfl
/-- the points of a beat: place, minutes -/
def ptL : List Sp3 → List Ev2
  | [] => []
  | x :: L => if x.1 = 2 then x.2 :: ptL L else ptL L
theorem ptL_l : ∀ L : List Sp3, (ptL L).length = mts L
  | [] => rfl
  | x :: L => by
    show (if x.1 = 2 then x.2 :: ptL L else ptL L).length = (if x.1 = 2 then 1 else 0) + mts L
    split
    · show (ptL L).length + 1 = 1 + mts L
      rw [ptL_l L]
      omega
    · rw [ptL_l L]
      omega
section MEN
variable {β : Type} {PB : β → Hp_ → Prop} {tB : Int32 → Int32 → β → β} {lB : Nat → Hp_ → β → β}
theorem dp_lp (P : PBok PB tB lB) (d : Nat) {c : Nat} (cz x3 : Int32) (u3 : x3.toInt ≤ 400) : ∀ (k : Nat) {h : Hp_} {b : β} (x4 : Int32), Iv h → Cn h c → PB b h → 0 ≤ x4.toInt → x4.toInt + (k : Int) = x3.toInt → 0 ≤ (h_i h c 11).toInt → (h_i h c 11).toInt + (k : Int) = (h_i h c 12).toInt → (h_i h c 12).toInt ≤ (h_i h 16 7).toInt → AW (m_X11_drop (d + 2) 0 0) 0 0 16 [(0, .ref 0), (1, .ref c), (2, .int cz), (3, .int x3), (4, .int x4)] [] h (kV (fun h' => Sxm PB c (h_i h 0 0) (dRow cz k (h_i h c)) (h_i h c 11).toNatClampNeg (List.replicate k (2, cz)) b h h'))
  | 0, h, b, x4, I, hc, B, p4, e3, lo, e12, l2 => by
    have c1 := hc.1
    refine t_X11_drop_16 d h I.1 c hc.2.2 (by omega) cz x3 x4 _ ⟨fun _ => Sxm.rf I B, fun n => absurd (q_le.mpr (by omega)) n⟩
  | k + 1, h, b, x4, I, hc, B, p4, e3, lo, e12, l2 => by
    have c1 := hc.1
    have t1 : (1 : Int32).toInt = 1 := rfl
    have r4 := rowX_in I
    refine t_X11_drop_16 d h I.1 c hc.2.2 (by omega) cz x3 x4 _ ⟨fun y => ?_, fun _ => Cv.mono (c_sr P d I hc B 2 cz lo (by omega) l2) (fun h7 s => ⟨s.1.1, (s.cn hc).2.2, ?_⟩)⟩
    · have y := q_le.mp y
      omega
    · have kk := s.2.1.k c1
      have q := row_n (x := h_i h c 11) lo (by omega)
      have e4 : (x4 + 1).toInt = x4.toInt + 1 := tx_add (by rw [t1]; omega) (by rw [t1]; omega)
      have e11 : h_i h7 c 11 = h_i h c 11 + 1 := by rw [s.2.2.1]; exact sRow_11
      have e12' : h_i h7 c 12 = h_i h c 12 := by rw [s.2.2.1]; exact sRow_k (by decide) (by decide) (by decide)
      have ih := dp_lp P d cz x3 u3 k (h := h7) (b := b) (x4 + 1) s.1 (s.cn hc) s.2.2.2.2 (by omega) (by omega) (by rw [e11]; omega) (by rw [e11, e12']; omega) (by rw [e12', kk.2.2.2.1]; exact l2)
      rw [kk.2.1, e11, q.1, s.2.2.1] at ih
      exact AW.mono ih (fun v h' z => ⟨z.1, s.tr z.2 rfl⟩)
theorem c_dp (P : PBok PB tB lB) (d : Nat) {h : Hp_} (I : Iv h) {c : Nat} (hc : Cn h c) {b : β} (B : PB b h) (cz : Int32) (R : h_i h c 4 = 1 → Rok h (h_i h c) 0) : Cv (m_X11_drop (d + 2) 0 0) [.ref 0, .ref c, .int cz] h (fun h' => Sxm PB c (h_i h 0 0) (fDp cz (h_i h c)).1 (h_i h c 11).toNatClampNeg (fDp cz (h_i h c)).2 b h h') := by
  have c1 := hc.1
  unfold fDp
  refine t_X11_drop d h c hc.2.2 (by omega) cz _ ⟨fun n => ?_, fun y => t_X2_openPoints d h c hc.2.2 (by omega) _ ⟨I.1, hc.2.2, ?_⟩⟩
  · rw [if_neg n]
    exact Sxm.rf I B
  · rw [if_pos y]
    have R := R y
    have r4 := rowX_in I
    have r1 := R.1
    have r2 := R.2.1
    have r3 := R.2.2
    have es : (h_i h c 12 - h_i h c 11).toInt = (h_i h c 12).toInt - (h_i h c 11).toInt := tx_sub (by omega) (by omega)
    have ns := n_nat (x := h_i h c 12 - h_i h c 11) (by omega)
    have t0 : (0 : Int32).toInt = 0 := rfl
    exact dp_lp P d cz _ (by omega) (h_i h c 12 - h_i h c 11).toNatClampNeg (b := b) 0 I hc B (by omega) (by omega) r1 (by omega) r3
/-- rows written from r on: the man, the points E -/
def wwR : List Nat := [16007, 47999, 48999, 49999, 50999]
def Wx (PB : β → Hp_ → Prop) (m n : Int32) (r : Nat) (E : List Ev2) (b : β) (h h' : Hp_) : Prop := Iv h' ∧ Fr wwR h h' ∧ h_i h' 47 = rz (fun _ => m) r E (h_i h 47) ∧ h_i h' 48 = rz Prod.fst r E (h_i h 48) ∧ h_i h' 49 = rz (fun e => n + e.2) r E (h_i h 49) ∧ h_i h' 50 = rz (fun _ => n) r E (h_i h 50) ∧ h_i h' 16 7 = Int32.ofNat (r + E.length) ∧ PB b h'
theorem wr_lp (P : PBok PB tB lB) (d : Nat) {c : Nat} : ∀ (L : List Sp3) {h : Hp_} {b : β} (i : Nat) (x2 : Int32), Iv h → Cn h c → PB b h → Stb h (h_i h c 8) i L → x2 = Int32.ofNat (i + L.length) → (h_i h 16 7).toInt + (mts L : Int) ≤ 400 → AW (m_X11_writeRows (d + 2) 0 0) 0 0 14 [(0, .ref 0), (1, .ref c), (2, .int x2), (3, .int (Int32.ofNat i))] [] h (kV (fun h' => Wx PB (h_i h c 0) (h_i h 0 0) (h_i h 16 7).toNatClampNeg (ptL L) b h h'))
  | [], h, b, i, x2, I, hc, B, S, e2, R => by
    have c1 := hc.1
    have r4 := rowX_in I
    refine t_X11_writeRows_14 d h I.1 c hc.2.2 (by omega) x2 _ _ ⟨fun _ => ⟨I, Fr.rf _ _, rfl, rfl, rfl, rfl, ?_, B⟩, fun n => absurd (q_le.mpr ?_) n⟩
    · exact (of_nat32 r4.1).symm
    · rw [e2]
      exact Int.le_refl _
  | x :: L, h, b, i, x2, I, hc, B, S, e2, R => by
    have c1 := hc.1
    have r4 := rowX_in I
    have ll : i + (L.length + 1) ≤ 150 := S.2.1
    have l2 : (i + (x :: L).length : Nat) = i + (L.length + 1) := rfl
    have sr := S.hd.2
    have kd := stR_k sr
    have m : mts (x :: L) = (if x.1 = 2 then 1 else 0) + mts L := rfl
    rw [m] at R
    refine t_X11_writeRows_14 d h I.1 c hc.2.2 (by omega) x2 _ _ ⟨fun y => ?_, fun _ => Ci.mono (c_sa d I S) (fun r8 h6 k => ?_)⟩
    · have y := q_le.mp y
      rw [e2, on_j (by omega), on_j (by omega)] at y
      omega
    · obtain ⟨eh, er⟩ := k
      subst eh er
      refine ⟨I.1, hc.2.2, t_X0_kindOf d h6 _ _ ⟨I.1, hc.2.2, ?_⟩⟩
      rw [pkS_3 kd, on_s (by omega)]
      refine ⟨fun n2 => ?_, fun y2 => t_X0_placeOf d h6 _ _ ⟨I.1, hc.2.2, t_X0_amountOf d h6 _ _ ⟨I.1, hc.2.2, ?_⟩⟩⟩
      · have f : ptL (x :: L) = ptL L := if_neg n2
        rw [f]
        rw [if_neg n2] at R
        exact wr_lp P d L (i + 1) x2 I hc B S.tl (by rw [e2, l2, show i + 1 + L.length = i + (L.length + 1) by omega]) (by omega)
      · have ny : ¬ x.1 = 1 := by rw [y2]; decide
        have f : ptL (x :: L) = x.2 :: ptL L := if_pos y2
        have am := pkS_am sr
        rw [if_neg ny] at am
        rw [if_pos y2] at R
        rw [pkS_pl sr ny, am, f]
        have v : vp_in (h_i h6 16 7) 400 := dp_in (lo := 0) (hi := 399) ⟨r4.1, by show _ ≤ (399 : Int); omega⟩ (by decide) (by decide)
        have t400 : (400 : Int32).toInt = 400 := rfl
        have rn := row_n (x := h_i h6 16 7) r4.1 (by omega)
        refine t_X7_write d h6 I.1 _ _ _ _ _ ⟨fun y => ?_, fun _ => ⟨v, v, v, v, ?_⟩⟩
        · have y := q_le.mp y
          omega
        · have I5 : Iv (h_im (h_im (h_im (h_im (h_im h6 47 (h_i h6 16 7).toNatClampNeg (h_i h6 c 0)) 48 (h_i h6 16 7).toNatClampNeg x.2.1) 49 (h_i h6 16 7).toNatClampNeg (h_i h6 0 0 + x.2.2)) 50 (h_i h6 16 7).toNatClampNeg (h_i h6 0 0)) 16 7 (h_i h6 16 7 + 1)) := (tr_ 50 (by decide +kernel) (tr_ 49 (by decide +kernel) (tr_ 48 (by decide +kernel) (tr_ 47 (by decide +kernel) I _ _ (by decide) (by decide)) _ _ (by decide) (by decide)) _ _ (by decide) (by decide)) _ _ (by decide) (by decide)).im (a := 16) (k := 7) (by rw [show tf 16 7 = (0, 400) by decide +kernel]; exact ⟨by show (0 : Int) ≤ _; omega, by show _ ≤ (400 : Int); omega⟩) (by decide)
          have B5 : PB b (h_im (h_im (h_im (h_im (h_im h6 47 (h_i h6 16 7).toNatClampNeg (h_i h6 c 0)) 48 (h_i h6 16 7).toNatClampNeg x.2.1) 49 (h_i h6 16 7).toNatClampNeg (h_i h6 0 0 + x.2.2)) 50 (h_i h6 16 7).toNatClampNeg (h_i h6 0 0)) 16 7 (h_i h6 16 7 + 1)) := P.1 _ _ _ _ _ (Or.inr (Or.inr ⟨rfl, rfl⟩)) (P.1 _ _ _ _ _ (Or.inr (Or.inl ⟨by decide, by decide⟩)) (P.1 _ _ _ _ _ (Or.inr (Or.inl ⟨by decide, by decide⟩)) (P.1 _ _ _ _ _ (Or.inr (Or.inl ⟨by decide, by decide⟩)) (P.1 _ _ _ _ _ (Or.inr (Or.inl ⟨by decide, by decide⟩)) B))))
          have F5 : Fr wwR h6 (h_im (h_im (h_im (h_im (h_im h6 47 (h_i h6 16 7).toNatClampNeg (h_i h6 c 0)) 48 (h_i h6 16 7).toNatClampNeg x.2.1) 49 (h_i h6 16 7).toNatClampNeg (h_i h6 0 0 + x.2.2)) 50 (h_i h6 16 7).toNatClampNeg (h_i h6 0 0)) 16 7 (h_i h6 16 7 + 1)) := (((((Fr.rf _ _).im (inw_row (by decide +kernel) _)).im (inw_row (by decide +kernel) _)).im (inw_row (by decide +kernel) _)).im (inw_row (by decide +kernel) _)).im (by decide +kernel)
          generalize hg : h_im (h_im (h_im (h_im (h_im h6 47 (h_i h6 16 7).toNatClampNeg (h_i h6 c 0)) 48 (h_i h6 16 7).toNatClampNeg x.2.1) 49 (h_i h6 16 7).toNatClampNeg (h_i h6 0 0 + x.2.2)) 50 (h_i h6 16 7).toNatClampNeg (h_i h6 0 0)) 16 7 (h_i h6 16 7 + 1) = g at *
          have g47 : h_i g 47 = up1 (h_i h6 47) (h_i h6 16 7).toNatClampNeg (h_i h6 c 0) := by rw [← hg, im_oth (by decide), im_oth (by decide), im_oth (by decide), im_oth (by decide), im_row]
          have g48 : h_i g 48 = up1 (h_i h6 48) (h_i h6 16 7).toNatClampNeg x.2.1 := by rw [← hg, im_oth (by decide), im_oth (by decide), im_oth (by decide), im_row, im_oth (by decide)]
          have g49 : h_i g 49 = up1 (h_i h6 49) (h_i h6 16 7).toNatClampNeg (h_i h6 0 0 + x.2.2) := by rw [← hg, im_oth (by decide), im_oth (by decide), im_row, im_oth (by decide), im_oth (by decide)]
          have g50 : h_i g 50 = up1 (h_i h6 50) (h_i h6 16 7).toNatClampNeg (h_i h6 0 0) := by rw [← hg, im_oth (by decide), im_row, im_oth (by decide), im_oth (by decide), im_oth (by decide)]
          have g16 : h_i g 16 7 = h_i h6 16 7 + 1 := by rw [← hg, im_at]
          have g0 : h_i g 0 0 = h_i h6 0 0 := (F5.2 0 0 (by decide +kernel)).1
          have gc : h_i g c = h_i h6 c := by rw [← hg, im_oth (by omega), im_oth (by omega), im_oth (by omega), im_oth (by omega), im_oth (by omega)]
          have g34 : ∀ k, h_i g 34 k = h_i h6 34 k := fun k => fr_i F5 (by decide +kernel) k
          have hcg : Cn g c := hc.of F5.1
          have ih := wr_lp P d L (h := g) (b := b) (i + 1) x2 I5 hcg B5 (by rw [gc]; exact S.tl.cg g34) (by rw [e2, l2, show i + 1 + L.length = i + (L.length + 1) by omega]) (by rw [g16]; omega)
          rw [g0, gc, g16, rn.1] at ih
          refine ⟨I5.1, hcg.2.2, AW.mono ih (fun v h' z => ⟨z.1, z.2.1, F5.tr z.2.2.1, ?_, ?_, ?_, ?_, ?_, z.2.2.2.2.2.2.2.2⟩)⟩
          · rw [z.2.2.2.1, g47]
            rfl
          · rw [z.2.2.2.2.1, g48]
            rfl
          · rw [z.2.2.2.2.2.1, g49]
            rfl
          · rw [z.2.2.2.2.2.2.1, g50]
            rfl
          · rw [z.2.2.2.2.2.2.2.1]
            show Int32.ofNat ((h_i h6 16 7).toNatClampNeg + 1 + (ptL L).length) = Int32.ofNat ((h_i h6 16 7).toNatClampNeg + ((ptL L).length + 1))
            rw [show (h_i h6 16 7).toNatClampNeg + 1 + (ptL L).length = (h_i h6 16 7).toNatClampNeg + ((ptL L).length + 1) by omega]
end MEN
/-! MEN, the reference: man j of its rows against a man M as the class has him -/
theorem wI_X {h : Hp_} {a b : Int32} (p1 : 0 ≤ a.toInt ∧ a.toInt < 16) (p2 : 0 ≤ b.toInt ∧ b.toInt < 16) : (∀ k, wX h a.toNatClampNeg b.toNatClampNeg = some k → (wI h a b).toInt = k) ∧ (wX h a.toNatClampNeg b.toNatClampNeg = none → wI h a b = -1) := by
  have t16 : (16 : Int32).toInt = 16 := rfl
  have t0 : (0 : Int32).toInt = 0 := rfl
  have tm : (1000000 : Int32).toInt = 1000000 := rfl
  have na := n_nat p1.1
  have nb := n_nat p2.1
  have c : (0 ≤ a ∧ a < 16) ∧ (0 ≤ b ∧ b < 16) := ⟨⟨q_le.mpr (by omega), q_lt.mpr (by omega)⟩, ⟨q_le.mpr (by omega), q_lt.mpr (by omega)⟩⟩
  unfold wX wI
  rw [if_pos c]
  by_cases y : dX h a.toNatClampNeg b.toNatClampNeg < 1000000
  · have y' : h_i h 30 (16 * a.toNatClampNeg + b.toNatClampNeg) < 1000000 := q_lt.mpr (by rw [tm]; exact y)
    rw [if_pos ⟨by omega, by omega, y⟩, if_pos y']
    exact ⟨fun k e => Option.some.inj e, fun e => (by cases e)⟩
  · have y' : ¬ h_i h 30 (16 * a.toNatClampNeg + b.toNatClampNeg) < 1000000 := fun z => y (by have := q_lt.mp z; rw [tm] at this; exact this)
    rw [if_neg (fun z => y z.2.2), if_neg y']
    exact ⟨fun k e => (by cases e), fun _ => rfl⟩
theorem wI_p {h : Hp_} (I : Iv h) (X : ExP h) (a b : Int32) : wI h a b = -1 ∨ (0 ≤ (wI h a b).toInt ∧ (wI h a b).toInt ≤ 900 ∧ (0 ≤ a.toInt ∧ a.toInt < 16) ∧ (0 ≤ b.toInt ∧ b.toInt < 16) ∧ wX h a.toNatClampNeg b.toNatClampNeg = some (wI h a b).toInt) := by
  by_cases c : (0 ≤ a ∧ a < 16) ∧ (0 ≤ b ∧ b < 16)
  · have t16 : (16 : Int32).toInt = 16 := rfl
    have t0 : (0 : Int32).toInt = 0 := rfl
    have u1 := q_le.mp c.1.1
    have u2 := q_lt.mp c.1.2
    have u3 := q_le.mp c.2.1
    have u4 := q_lt.mp c.2.2
    have q := wI_X (h := h) (a := a) (b := b) ⟨by omega, by omega⟩ ⟨by omega, by omega⟩
    cases e : wX h a.toNatClampNeg b.toNatClampNeg with
    | none => exact Or.inl (q.2 e)
    | some k =>
      have w := wX_le I X _ _ _ e
      have z := q.1 k e
      exact Or.inr ⟨by omega, by omega, ⟨by omega, by omega⟩, ⟨by omega, by omega⟩, by rw [z]⟩
  · refine Or.inl ?_
    unfold wI
    rw [if_neg c]
theorem c_woI (d : Nat) {h : Hp_} (I : Iv h) (x : ExP h) (x1 x2 : Int32) (p1 : 0 ≤ x1.toInt ∧ x1.toInt < 16) (p2 : 0 ≤ x2.toInt ∧ x2.toInt < 16) : Ci (m_X12_walkOf (d + 0) 0 0) [.ref 1, .int x1, .int x2] h (fun r h' => Iv h' ∧ Fr [203999] h h' ∧ r = wI h x1 x2) := by
  have q := wI_X (h := h) p1 p2
  refine Ci.mono (c_woR d I x x1 x2 p1 p2) (fun r h' k => ⟨k.1, k.2.1, ?_⟩)
  rcases k.2.2 with ⟨k, e, y⟩ | ⟨e, y⟩
  · exact Int32.toInt_inj.mp (y.trans (q.1 k e).symm)
  · rw [y, q.2 e]
def mrL : List Nat := [208, 209, 210, 211, 212, 213, 214, 215, 216, 217, 218, 219, 248]
def mwR : List Nat := 208999 :: 209999 :: 210999 :: 211999 :: 213999 :: 216999 :: 218999 :: 219999 :: 241999 :: 242999 :: 243999 :: 248999 :: wz_X12_see
def Gmm (j : Nat) (h h' : Hp_) : Prop := Fr mwR h h' ∧ ∀ a, a ∈ mrL → ∀ k, k ≠ j → h_i h' a k = h_i h a k
theorem Gmm.rf (j : Nat) (h : Hp_) : Gmm j h h := ⟨Fr.rf _ _, fun _ _ _ _ => rfl⟩
theorem Gmm.tr {j : Nat} {h h1 h2 : Hp_} (a : Gmm j h h1) (b : Gmm j h1 h2) : Gmm j h h2 := ⟨a.1.tr b.1, fun x hx k n => (b.2 x hx k n).trans (a.2 x hx k n)⟩
theorem Gmm.im {j a k : Nat} {h0 h : Hp_} {x : Int32} (g : Gmm j h0 h) (w : inw mwR a k = true) (hk : a ∈ mrL → k = j) : Gmm j h0 (h_im h a k x) := ⟨g.1.im w, fun b hb i n => by
  rw [h_i_im, if_neg (fun e => n (e.2.trans (hk (e.1 ▸ hb))))]
  exact g.2 b hb i n⟩
theorem Gmm.imj {j a : Nat} {h0 h : Hp_} {x : Int32} (g : Gmm j h0 h) (w : inw mwR a 999 = true) : Gmm j h0 (h_im h a j x) := g.im (inw_row w j) (fun _ => rfl)
theorem Gmm.imo {j a k : Nat} {h0 h : Hp_} {x : Int32} (g : Gmm j h0 h) (w : inw mwR a 999 = true) (n : a ∉ mrL) : Gmm j h0 (h_im h a k x) := g.im (inw_row w k) (fun z => absurd z n)
theorem Gmm.fr {j : Nat} {ws : List Nat} {h0 h h' : Hp_} (g : Gmm j h0 h) (f : Fr ws h h') (s : wsub ws mwR = true) (o : mrL.all (fun a => off ws a) = true) : Gmm j h0 h' := g.tr ⟨f.more s, fun a ha k _ => fr_i f (List.all_eq_true.mp o a ha) k⟩
/-- what the reference reads and none of these methods writes -/
theorem Gmm.k {j : Nat} {h h' : Hp_} (g : Gmm j h h') : wI h' = wI h ∧ h_i h' 1 0 = h_i h 1 0 ∧ (∀ k, h_i h' 206 k = h_i h 206 k) ∧ (∀ k, h_i h' 227 k = h_i h 227 k) ∧ (∀ k, sB h' k = sB h k) ∧ (ExP h → ExP h') := by
  have e30 : ∀ k, h_i h' 30 k = h_i h 30 k := fun k => fr_i g.1 (by decide +kernel) k
  have e8 : ∀ k, h_i h' 228 k = h_i h 228 k := fun k => fr_i g.1 (by decide +kernel) k
  have e9 : ∀ k, h_i h' 229 k = h_i h 229 k := fun k => fr_i g.1 (by decide +kernel) k
  have e10 : ∀ k, h_i h' 230 k = h_i h 230 k := fun k => fr_i g.1 (by decide +kernel) k
  refine ⟨?_, (g.1.2 1 0 (by decide +kernel)).1, fun k => fr_i g.1 (by decide +kernel) k, fun k => fr_i g.1 (by decide +kernel) k, fun k => ?_, fun x => x.fr g.1 (by decide +kernel)⟩
  · funext a b
    unfold wI
    rw [e30]
  · funext i
    unfold sB
    rw [e8, e9, e10]
/-- man j of the reference is M -/
def RMp (j : Nat) (M : Nat → Int32) (h : Hp_) : Prop := (h_i h 208 j = M 4 ∧ h_i h 209 j = M 5 ∧ h_i h 210 j = M 6 ∧ h_i h 211 j = M 7) ∧ (M 4 = 1 → h_i h 212 j = M 8 ∧ h_i h 213 j = M 9 ∧ h_i h 214 j = M 10 ∧ h_i h 216 j = M 11 ∧ h_i h 217 j = M 12) ∧ (M 4 = 3 → h_i h 218 j = M 13 ∧ h_i h 219 j = M 14) ∧ h_i h 206 j = M 3
/-- the reference's rows take events -/
def rq (g : Ev2 → Option Int32) : Nat → List Ev2 → (Nat → Int32) → Nat → Int32
  | _, [], f => f
  | r, e :: E, f => rq g (r + 1) E (match g e with | some v => up1 f r v | none => f)
theorem rq_a (g : Ev2 → Option Int32) : ∀ (E1 E2 : List Ev2) (r : Nat) (f : Nat → Int32), rq g r (E1 ++ E2) f = rq g (r + E1.length) E2 (rq g r E1 f)
  | [], _, _, _ => rfl
  | e :: E1, E2, r, f => by
    show rq g (r + 1) (E1 ++ E2) _ = rq g (r + (E1.length + 1)) E2 (rq g (r + 1) E1 _)
    rw [rq_a g E1 E2 (r + 1), show r + 1 + E1.length = r + (E1.length + 1) by omega]
def gM (n : Int32) (e : Ev2) : Option Int32 := if e.1 = 1 then some n else none
def gS (n : Int32) (e : Ev2) : Option Int32 := if e.1 = 1 then none else some n
def gC (e : Ev2) : Option Int32 := if e.1 = 1 then none else some e.2
section MEN
variable {β : Type} {PM : β → Hp_ → Prop} {tB : Int32 → Int32 → β → β} {lM : Nat → Hp_ → β → β}
/-- what else is kept in the reference -/
def PMok {β : Type} (PM : β → Hp_ → Prop) (tB : Int32 → Int32 → β → β) (lM : Nat → Hp_ → β → β) : Prop :=
  (∀ b h a k x, ((208 ≤ a ∧ a ≤ 219) ∨ (238 ≤ a ∧ a ≤ 244) ∨ a = 248 ∨ (a = 1 ∧ k = 63)) → PM b h → PM b (h_im h a k x)) ∧
  (∀ b h h', Fr [203999] h h' → PM b h → PM b h') ∧
  (∀ d b h x1, Iv h → (0 ≤ x1.toInt ∧ x1.toInt ≤ 11) → PM b h → AW (m_X12_free (d + 0) 0 0) 0 0 42 [(0, .ref 1), (1, .int x1), (2, .int 0)] [] h (kV (fun h' => Iv h' ∧ Fr [260999] h h' ∧ PM (tB x1 (h_i h 1 0) b) h'))) ∧
  (∀ d b h x1, Iv h → (0 ≤ x1.toInt ∧ x1.toInt ≤ 11) → PM b h → Cv (m_X12_see (d + 7) 0 0) [.ref 1, .int x1] h (fun h' => Iv h' ∧ Fr wz_X12_see h h' ∧ PM (lM x1.toNatClampNeg h b) h'))
def Mx (PM : β → Hp_ → Prop) (j : Nat) (n : Int32) (M' : Nat → Int32) (r : Nat) (E : List Ev2) (b' : β) (h h' : Hp_) : Prop := Iv h' ∧ Gmm j h h' ∧ RMp j M' h' ∧ (h_i h' 241 = rq (gM n) r E (h_i h 241) ∧ h_i h' 242 = rq (gS n) r E (h_i h 242) ∧ h_i h' 243 = rq gC r E (h_i h 243)) ∧ PM b' h'
theorem Mx.tr {j : Nat} {n : Int32} {M1 M2 : Nat → Int32} {r r' : Nat} {E1 E2 : List Ev2} {b1 b2 : β} {h h1 h2 : Hp_} (a : Mx PM j n M1 r E1 b1 h h1) (b : Mx PM j n M2 r' E2 b2 h1 h2) (e : r' = r + E1.length) : Mx PM j n M2 r (E1 ++ E2) b2 h h2 := ⟨b.1, a.2.1.tr b.2.1, b.2.2.1, ⟨by rw [b.2.2.2.1.1, a.2.2.2.1.1, e, rq_a], by rw [b.2.2.2.1.2.1, a.2.2.2.1.2.1, e, rq_a], by rw [b.2.2.2.1.2.2, a.2.2.2.1.2.2, e, rq_a]⟩, b.2.2.2.2⟩
theorem Mx.rf {j : Nat} {n : Int32} {M : Nat → Int32} {r : Nat} {b : β} {h : Hp_} (I : Iv h) (R : RMp j M h) (B : PM b h) : Mx PM j n M r [] b h h := ⟨I, Gmm.rf _ _, R, ⟨rfl, rfl, rfl⟩, B⟩
theorem v12 {x1 : Int32} (b : 0 ≤ x1.toInt ∧ x1.toInt ≤ 11) : vp_in x1 12 := dp_in (lo := 0) (hi := 11) ⟨b.1, b.2⟩ (by decide) (by decide)
/-- ranges of what the reference keeps of a man -/
theorem m209 {h : Hp_} (I : Iv h) (k : Nat) : -1 ≤ (h_i h 209 k).toInt ∧ (h_i h 209 k).toInt ≤ 15 := by
  have rg := I.2.1 209 k
  rw [tfa_tf (show tfa 209 = some (-1, 15) by decide +kernel)] at rg
  exact ⟨rg.1, rg.2⟩
theorem m210 {h : Hp_} (I : Iv h) (k : Nat) : -1 ≤ (h_i h 210 k).toInt ∧ (h_i h 210 k).toInt ≤ 15 := by
  have rg := I.2.1 210 k
  rw [tfa_tf (show tfa 210 = some (-1, 15) by decide +kernel)] at rg
  exact ⟨rg.1, rg.2⟩
theorem m206 {h : Hp_} (I : Iv h) (k : Nat) : 0 ≤ (h_i h 206 k).toInt ∧ (h_i h 206 k).toInt ≤ 15 := by
  have rg := I.2.1 206 k
  rw [tfa_tf (show tfa 206 = some (0, 15) by decide +kernel)] at rg
  exact ⟨rg.1, rg.2⟩
theorem m218 {h : Hp_} (I : Iv h) (k : Nat) : 0 ≤ (h_i h 218 k).toInt ∧ (h_i h 218 k).toInt ≤ 15 := by
  have rg := I.2.1 218 k
  rw [tfa_tf (show tfa 218 = some (0, 15) by decide +kernel)] at rg
  exact ⟨rg.1, rg.2⟩
theorem im208 {h : Hp_} (I : Iv h) (k : Nat) (x : Int32) : Iv (h_im h 208 k x) := tr_ 208 (by decide +kernel) I _ _ (by decide) (by decide)
theorem im211 {h : Hp_} (I : Iv h) (k : Nat) (x : Int32) : Iv (h_im h 211 k x) := tr_ 211 (by decide +kernel) I _ _ (by decide) (by decide)
theorem im209 {h : Hp_} (I : Iv h) (k : Nat) (x : Int32) (b : -1 ≤ x.toInt ∧ x.toInt ≤ 15) : Iv (h_im h 209 k x) := I.im (by rw [tfa_tf (show tfa 209 = some (-1, 15) by decide +kernel)]; exact ⟨b.1, b.2⟩) (jw_jr (by decide) (by decide) _)
theorem im210 {h : Hp_} (I : Iv h) (k : Nat) (x : Int32) (b : -1 ≤ x.toInt ∧ x.toInt ≤ 15) : Iv (h_im h 210 k x) := I.im (by rw [tfa_tf (show tfa 210 = some (-1, 15) by decide +kernel)]; exact ⟨b.1, b.2⟩) (jw_jr (by decide) (by decide) _)
theorem im213 {h : Hp_} (I : Iv h) (k : Nat) (x : Int32) (b : -1 ≤ x.toInt ∧ x.toInt ≤ 150) : Iv (h_im h 213 k x) := I.im (by rw [tfa_tf (show tfa 213 = some (-1, 150) by decide +kernel)]; exact ⟨b.1, b.2⟩) (jw_jr (by decide) (by decide) _)
theorem im216 {h : Hp_} (I : Iv h) (k : Nat) (x : Int32) (b : 0 ≤ x.toInt ∧ x.toInt ≤ 400) : Iv (h_im h 216 k x) := I.im (by rw [tfa_tf (show tfa 216 = some (0, 400) by decide +kernel)]; exact ⟨b.1, b.2⟩) (jw_jr (by decide) (by decide) _)
theorem i24 {h : Hp_} (I : Iv h) (a k : Nat) (x : Int32) (b : a = 241 ∨ a = 242 ∨ a = 243) : Iv (h_im h a k x) := by
  rcases b with e | e | e <;> subst e
  · exact tr_ 241 (by decide +kernel) I _ _ (by decide) (by decide)
  · exact tr_ 242 (by decide +kernel) I _ _ (by decide) (by decide)
  · exact tr_ 243 (by decide +kernel) I _ _ (by decide) (by decide)
/-- he sets out: the reference, where there is a walk and it takes time -/
theorem m_so (P : PMok PM tB lM) (d : Nat) {h : Hp_} (I : Iv h) (X : ExP h) {x1 : Int32} (hx : 0 ≤ x1.toInt ∧ x1.toInt ≤ 11) {M : Nat → Int32} (R : RMp x1.toNatClampNeg M h) {b : β} (B : PM b h) (x2 : Int32) (p : 0 ≤ (M 5).toInt) (p2 : 0 ≤ x2.toInt ∧ x2.toInt ≤ 15) (r : Nat) (nz : ¬ wI h (M 5) x2 = -1) : Cv (m_X12_setOut (d + 1) 0 0) [.ref 1, .int x1, .int x2] h (fun h' => Mx PM x1.toNatClampNeg (h_i h 1 0) (if 0 < wI h (M 5) x2 then sOut (h_i h 1 0) (wI h (M 5) x2) x2 M else M) r [] b h h') := by
  have v := v12 hx
  have b9 := m209 I x1.toNatClampNeg
  have t0 : (0 : Int32).toInt = 0 := rfl
  rw [R.1.2.1] at b9
  have W := c_woI d I X (M 5) x2 ⟨p, by omega⟩ ⟨p2.1, by omega⟩
  refine t_X12_setOut d h I.1 x1 x2 _ ⟨v, ?_⟩
  rw [R.1.2.1]
  refine Ci.mono W (fun r4 h2 k => ?_)
  obtain ⟨I2, F2, er⟩ := k
  subst er
  have G2 : Gmm x1.toNatClampNeg h h2 := (Gmm.rf _ _).fr F2 (by decide +kernel) (by decide +kernel)
  have B2 : PM b h2 := P.2.1 b h h2 F2 B
  have f : ∀ a, off [203999] a = true → ∀ k, h_i h2 a k = h_i h a k := fun a o k => fr_i F2 o k
  have n2 : h_i h2 1 0 = h_i h 1 0 := (F2.2 1 0 (by decide +kernel)).1
  refine ⟨I2.1, fun n0 => ⟨v, v, v, ?_⟩, fun e0 => ?_⟩
  · have y : 0 < wI h (M 5) x2 := by
      rcases wI_p I X (M 5) x2 with q | q
      · exact absurd q nz
      · refine q_lt.mpr ?_
        rcases Int.lt_or_le 0 (wI h (M 5) x2).toInt with u | u
        · omega
        · exact absurd (Int32.toInt_inj.mp (by omega)) n0
    rw [if_pos y, n2]
    refine ⟨im211 (im210 (im209 I2 _ _ (by decide)) _ _ ⟨by omega, p2.2⟩) _ _, ((G2.imj (by decide +kernel)).imj (by decide +kernel)).imj (by decide +kernel), ⟨⟨?_, ?_, ?_, ?_⟩, fun e4 => ?_, fun e4 => ?_, ?_⟩, ⟨?_, ?_, ?_⟩, P.1 _ _ _ _ _ (Or.inl (by decide)) (P.1 _ _ _ _ _ (Or.inl (by decide)) (P.1 _ _ _ _ _ (Or.inl (by decide)) B2))⟩
    · rw [im_ne (by decide), im_ne (by decide), im_ne (by decide), f 208 (by decide +kernel), sOut_k (by decide) (by decide) (by decide)]
      exact R.1.1
    · rw [im_ne (by decide), im_ne (by decide), im_at]
      exact up1_at.symm
    · rw [im_ne (by decide), im_at]
      unfold sOut
      rw [up1_ne (by decide), up1_ne (by decide), up1_at]
    · rw [im_at]
      unfold sOut
      rw [up1_ne (by decide), up1_at]
    · rw [sOut_k (by decide) (by decide) (by decide)] at e4
      rw [im_ne (by decide), im_ne (by decide), im_ne (by decide), im_ne (by decide), im_ne (by decide), im_ne (by decide), im_ne (by decide), im_ne (by decide), im_ne (by decide), im_ne (by decide), im_ne (by decide), im_ne (by decide), im_ne (by decide), im_ne (by decide), im_ne (by decide), f 212 (by decide +kernel), f 213 (by decide +kernel), f 214 (by decide +kernel), f 216 (by decide +kernel), f 217 (by decide +kernel), sOut_k (by decide) (by decide) (by decide), sOut_k (by decide) (by decide) (by decide), sOut_k (by decide) (by decide) (by decide), sOut_k (by decide) (by decide) (by decide), sOut_k (by decide) (by decide) (by decide)]
      exact R.2.1 e4
    · rw [sOut_k (by decide) (by decide) (by decide)] at e4
      rw [im_ne (by decide), im_ne (by decide), im_ne (by decide), im_ne (by decide), im_ne (by decide), im_ne (by decide), f 218 (by decide +kernel), f 219 (by decide +kernel), sOut_k (by decide) (by decide) (by decide), sOut_k (by decide) (by decide) (by decide)]
      exact R.2.2.1 e4
    · rw [im_ne (by decide), im_ne (by decide), im_ne (by decide), f 206 (by decide +kernel), sOut_k (by decide) (by decide) (by decide)]
      exact R.2.2.2
    · rw [im_oth (by decide), im_oth (by decide), im_oth (by decide)]
      exact funext (fun k => f 241 (by decide +kernel) k)
    · rw [im_oth (by decide), im_oth (by decide), im_oth (by decide)]
      exact funext (fun k => f 242 (by decide +kernel) k)
    · rw [im_oth (by decide), im_oth (by decide), im_oth (by decide)]
      exact funext (fun k => f 243 (by decide +kernel) k)
  · rw [if_neg (by rw [e0]; decide)]
    refine ⟨I2, G2, ?_, ⟨funext (fun k => f 241 (by decide +kernel) k), funext (fun k => f 242 (by decide +kernel) k), funext (fun k => f 243 (by decide +kernel) k)⟩, B2⟩
    unfold RMp
    rw [f 208 (by decide +kernel), f 209 (by decide +kernel), f 210 (by decide +kernel), f 211 (by decide +kernel), f 212 (by decide +kernel), f 213 (by decide +kernel), f 214 (by decide +kernel), f 216 (by decide +kernel), f 217 (by decide +kernel), f 218 (by decide +kernel), f 219 (by decide +kernel), f 206 (by decide +kernel)]
    exact R
end MEN
/-! MEN, the reference: free, goHome, stay, goDrawn, comes -/
theorem RMp.cg {j : Nat} {M : Nat → Int32} {h h' : Hp_} (R : RMp j M h) (e : ∀ a, a ∈ (206 :: mrL) → h_i h' a j = h_i h a j) : RMp j M h' := by
  unfold RMp
  rw [e 208 (by decide), e 209 (by decide), e 210 (by decide), e 211 (by decide), e 212 (by decide), e 213 (by decide), e 214 (by decide), e 216 (by decide), e 217 (by decide), e 218 (by decide), e 219 (by decide), e 206 (by decide)]
  exact R
section MEN
variable {β : Type} {PM : β → Hp_ → Prop} {tB : Int32 → Int32 → β → β} {lM : Nat → Hp_ → β → β}
theorem Mx.fr {j : Nat} {n : Int32} {M : Nat → Int32} {r : Nat} {E : List Ev2} {b b' : β} {ws : List Nat} {h h1 h2 : Hp_} (s : Mx PM j n M r E b h h1) (I : Iv h2) (f : Fr ws h1 h2) (B : PM b' h2) (o1 : wsub ws mwR = true) (o2 : mrL.all (fun a => off ws a) = true) (o3 : (off ws 206 && off ws 241 && off ws 242 && off ws 243) = true) : Mx PM j n M r E b' h h2 := by
  simp only [Bool.and_eq_true] at o3
  refine ⟨I, s.2.1.fr f o1 o2, s.2.2.1.cg (fun a ha => ?_), ⟨?_, ?_, ?_⟩, B⟩
  · rcases List.mem_cons.mp ha with e | e
    · rw [e]
      exact fr_i f o3.1.1.1 j
    · exact fr_i f (List.all_eq_true.mp o2 a e) j
  · rw [← s.2.2.2.1.1]
    exact funext (fun k => fr_i f o3.1.1.2 k)
  · rw [← s.2.2.2.1.2.1]
    exact funext (fun k => fr_i f o3.1.2 k)
  · rw [← s.2.2.2.1.2.2]
    exact funext (fun k => fr_i f o3.2 k)
theorem m_fr (P : PMok PM tB lM) (d : Nat) {h : Hp_} (I : Iv h) {x1 : Int32} (hx : 0 ≤ x1.toInt ∧ x1.toInt ≤ 11) {b : β} (B : PM b h) (r : Nat) (M' : Nat → Int32) (e4 : M' 4 = 0) (e5 : M' 5 = h_i h 206 x1.toNatClampNeg) (e6 : M' 6 = -1) (e7 : M' 7 = -1) (e3 : M' 3 = h_i h 206 x1.toNatClampNeg) : Cv (m_X12_free (d + 0) 0 0) [.ref 1, .int x1] h (fun h' => Mx PM x1.toNatClampNeg (h_i h 1 0) M' r [] (tB x1 (h_i h 1 0) b) h h') := by
  have v := v12 hx
  have b6 := m206 I x1.toNatClampNeg
  have I5 := im213 (im211 (im210 (im209 (im208 I x1.toNatClampNeg 0) x1.toNatClampNeg (h_i h 206 x1.toNatClampNeg) ⟨by omega, b6.2⟩) x1.toNatClampNeg (-1) (by decide)) x1.toNatClampNeg (-1)) x1.toNatClampNeg (-1) (by decide)
  have B5 := P.1 _ _ 213 x1.toNatClampNeg (-1) (Or.inl (by decide)) (P.1 _ _ 211 x1.toNatClampNeg (-1) (Or.inl (by decide)) (P.1 _ _ 210 x1.toNatClampNeg (-1) (Or.inl (by decide)) (P.1 _ _ 209 x1.toNatClampNeg (h_i h 206 x1.toNatClampNeg) (Or.inl (by decide)) (P.1 b h 208 x1.toNatClampNeg 0 (Or.inl (by decide)) B))))
  have G5 : Gmm x1.toNatClampNeg h (h_im (h_im (h_im (h_im (h_im h 208 x1.toNatClampNeg 0) 209 x1.toNatClampNeg (h_i h 206 x1.toNatClampNeg)) 210 x1.toNatClampNeg (-1)) 211 x1.toNatClampNeg (-1)) 213 x1.toNatClampNeg (-1)) := (((((Gmm.rf _ _).imj (by decide +kernel)).imj (by decide +kernel)).imj (by decide +kernel)).imj (by decide +kernel)).imj (by decide +kernel)
  have q8 : h_i (h_im (h_im (h_im (h_im (h_im h 208 x1.toNatClampNeg 0) 209 x1.toNatClampNeg (h_i h 206 x1.toNatClampNeg)) 210 x1.toNatClampNeg (-1)) 211 x1.toNatClampNeg (-1)) 213 x1.toNatClampNeg (-1)) 208 x1.toNatClampNeg = 0 := by rw [im_ne (by decide), im_ne (by decide), im_ne (by decide), im_ne (by decide), im_at]
  have q9 : h_i (h_im (h_im (h_im (h_im (h_im h 208 x1.toNatClampNeg 0) 209 x1.toNatClampNeg (h_i h 206 x1.toNatClampNeg)) 210 x1.toNatClampNeg (-1)) 211 x1.toNatClampNeg (-1)) 213 x1.toNatClampNeg (-1)) 209 x1.toNatClampNeg = h_i h 206 x1.toNatClampNeg := by rw [im_ne (by decide), im_ne (by decide), im_ne (by decide), im_at]
  have q10 : h_i (h_im (h_im (h_im (h_im (h_im h 208 x1.toNatClampNeg 0) 209 x1.toNatClampNeg (h_i h 206 x1.toNatClampNeg)) 210 x1.toNatClampNeg (-1)) 211 x1.toNatClampNeg (-1)) 213 x1.toNatClampNeg (-1)) 210 x1.toNatClampNeg = -1 := by rw [im_ne (by decide), im_ne (by decide), im_at]
  have q11 : h_i (h_im (h_im (h_im (h_im (h_im h 208 x1.toNatClampNeg 0) 209 x1.toNatClampNeg (h_i h 206 x1.toNatClampNeg)) 210 x1.toNatClampNeg (-1)) 211 x1.toNatClampNeg (-1)) 213 x1.toNatClampNeg (-1)) 211 x1.toNatClampNeg = -1 := by rw [im_ne (by decide), im_at]
  have qo : ∀ a, a ≠ 208 → a ≠ 209 → a ≠ 210 → a ≠ 211 → a ≠ 213 → h_i (h_im (h_im (h_im (h_im (h_im h 208 x1.toNatClampNeg 0) 209 x1.toNatClampNeg (h_i h 206 x1.toNatClampNeg)) 210 x1.toNatClampNeg (-1)) 211 x1.toNatClampNeg (-1)) 213 x1.toNatClampNeg (-1)) a = h_i h a := fun a n1 n2 n3 n4 n5 => by rw [im_oth n5, im_oth n4, im_oth n3, im_oth n2, im_oth n1]
  refine t_X12_free d h I.1 x1 _ ⟨v, v, v, v, v, v, ?_⟩
  generalize h_im (h_im (h_im (h_im (h_im h 208 x1.toNatClampNeg 0) 209 x1.toNatClampNeg (h_i h 206 x1.toNatClampNeg)) 210 x1.toNatClampNeg (-1)) 211 x1.toNatClampNeg (-1)) 213 x1.toNatClampNeg (-1) = g at *
  have g0 : h_i g 1 0 = h_i h 1 0 := by rw [qo 1 (by decide) (by decide) (by decide) (by decide) (by decide)]
  have s : Mx PM x1.toNatClampNeg (h_i h 1 0) M' r [] b h g := ⟨I5, G5, ⟨⟨by rw [q8, e4], by rw [q9, e5], by rw [q10, e6], by rw [q11, e7]⟩, fun y => absurd (e4.symm.trans y) (by decide), fun y => absurd (e4.symm.trans y) (by decide), by rw [qo 206 (by decide) (by decide) (by decide) (by decide) (by decide), e3]⟩, ⟨qo 241 (by decide) (by decide) (by decide) (by decide) (by decide), qo 242 (by decide) (by decide) (by decide) (by decide) (by decide), qo 243 (by decide) (by decide) (by decide) (by decide) (by decide)⟩, B5⟩
  have z := P.2.2.1 d b g x1 I5 hx B5
  rw [g0] at z
  exact AW.mono z (fun w h' k => ⟨k.1, s.fr k.2.1 k.2.2.1 k.2.2.2 (by decide +kernel) (by decide +kernel) (by decide +kernel)⟩)
/-- a store into the man himself -/
theorem Mx.imj (P : PMok PM tB lM) {j a : Nat} {n : Int32} {M M' : Nat → Int32} {r : Nat} {E : List Ev2} {b : β} {h h1 : Hp_} {x : Int32} (s : Mx PM j n M r E b h h1) (I : Iv (h_im h1 a j x)) (ha : 208 ≤ a ∧ a ≤ 219) (w : inw mwR a 999 = true) (R : RMp j M' (h_im h1 a j x)) : Mx PM j n M' r E b h (h_im h1 a j x) := ⟨I, s.2.1.imj w, R, ⟨by rw [im_oth (by omega)]; exact s.2.2.2.1.1, by rw [im_oth (by omega)]; exact s.2.2.2.1.2.1, by rw [im_oth (by omega)]; exact s.2.2.2.1.2.2⟩, P.1 _ _ _ _ _ (Or.inl ha) s.2.2.2.2⟩
theorem m_gh (P : PMok PM tB lM) (d : Nat) {h : Hp_} (I : Iv h) (X : ExP h) {x1 : Int32} (hx : 0 ≤ x1.toInt ∧ x1.toInt ≤ 11) {M : Nat → Int32} (R : RMp x1.toNatClampNeg M h) {b : β} (B : PM b h) (p : 0 ≤ (M 5).toInt) (p6 : M 6 = -1) (n0 : M 0 = x1) (r : Nat) : Cv (m_X12_goHome (d + 2) 0 0) [.ref 1, .int x1] h (fun h' => Mx PM x1.toNatClampNeg (h_i h 1 0) (fHome (h_i h 1 0) (wI h) M) r [] (fB tB (h_i h 1 0) (fHome (h_i h 1 0) (wI h) M) b) h h') := by
  have v := v12 hx
  have b6 := m206 I x1.toNatClampNeg
  have b9 := m209 I x1.toNatClampNeg
  have t0 : (0 : Int32).toInt = 0 := rfl
  have I3 := im211 (im213 (im208 I x1.toNatClampNeg 2) x1.toNatClampNeg (-1) (by decide)) x1.toNatClampNeg (-1)
  have B3 := P.1 _ _ 211 x1.toNatClampNeg (-1) (Or.inl (by decide)) (P.1 _ _ 213 x1.toNatClampNeg (-1) (Or.inl (by decide)) (P.1 b h 208 x1.toNatClampNeg 2 (Or.inl (by decide)) B))
  have G3 : Gmm x1.toNatClampNeg h (h_im (h_im (h_im h 208 x1.toNatClampNeg 2) 213 x1.toNatClampNeg (-1)) 211 x1.toNatClampNeg (-1)) := (((Gmm.rf _ _).imj (by decide +kernel)).imj (by decide +kernel)).imj (by decide +kernel)
  have R3 : RMp x1.toNatClampNeg (up1 (up1 M 4 2) 7 (-1)) (h_im (h_im (h_im h 208 x1.toNatClampNeg 2) 213 x1.toNatClampNeg (-1)) 211 x1.toNatClampNeg (-1)) := by
    refine ⟨⟨?_, ?_, ?_, ?_⟩, fun y => absurd (show (2 : Int32) = 1 from y) (by decide), fun y => absurd (show (2 : Int32) = 3 from y) (by decide), ?_⟩
    · rw [im_ne (by decide), im_ne (by decide), im_at]
      rfl
    · rw [im_ne (by decide), im_ne (by decide), im_ne (by decide)]
      exact R.1.2.1
    · rw [im_ne (by decide), im_ne (by decide), im_ne (by decide)]
      exact R.1.2.2.1
    · rw [im_at]
      rfl
    · rw [im_ne (by decide), im_ne (by decide), im_ne (by decide)]
      exact R.2.2.2
  have qo : ∀ a, a ≠ 208 → a ≠ 213 → a ≠ 211 → h_i (h_im (h_im (h_im h 208 x1.toNatClampNeg 2) 213 x1.toNatClampNeg (-1)) 211 x1.toNatClampNeg (-1)) a = h_i h a := fun a n1 n2 n3 => by rw [im_oth n3, im_oth n2, im_oth n1]
  have s : Mx PM x1.toNatClampNeg (h_i h 1 0) (up1 (up1 M 4 2) 7 (-1)) r [] b h (h_im (h_im (h_im h 208 x1.toNatClampNeg 2) 213 x1.toNatClampNeg (-1)) 211 x1.toNatClampNeg (-1)) := ⟨I3, G3, R3, ⟨qo 241 (by decide) (by decide) (by decide), qo 242 (by decide) (by decide) (by decide), qo 243 (by decide) (by decide) (by decide)⟩, B3⟩
  have e206 := R.2.2.2
  have e209 := R.1.2.1
  refine t_X12_goHome d h I.1 x1 _ ⟨v, v, v, v, v, ?_⟩
  generalize h_im (h_im (h_im h 208 x1.toNatClampNeg 2) 213 x1.toNatClampNeg (-1)) 211 x1.toNatClampNeg (-1) = g at *
  have gk := G3.k
  rw [e206] at b6
  rw [e209] at b9
  rw [e206, e209]
  have W := c_woI d I3 (gk.2.2.2.2.2 X) (M 5) (M 3) ⟨p, by omega⟩ ⟨by omega, by omega⟩
  rw [gk.1] at W
  refine Ci.mono W (fun r8 h6 k => ?_)
  obtain ⟨I6, F6, er⟩ := k
  subst er
  have B6 : PM b h6 := P.2.1 b g h6 F6 B3
  have s6 : Mx PM x1.toNatClampNeg (h_i h 1 0) (up1 (up1 M 4 2) 7 (-1)) r [] b h h6 := s.fr I6 F6 B6 (by decide +kernel) (by decide +kernel) (by decide +kernel)
  have k6 := s6.2.1.k
  have h206 : h_i h6 206 x1.toNatClampNeg = M 3 := s6.2.2.1.2.2.2
  have fr : ¬ 0 < wI h (M 5) (M 3) → Cv (m_X12_free (d + 0) 0 0) [.ref 1, .int x1] h6 (fun h10 => Wf h10 ∧ Mx PM x1.toNatClampNeg (h_i h 1 0) (fHome (h_i h 1 0) (wI h) M) r [] (fB tB (h_i h 1 0) (fHome (h_i h 1 0) (wI h) M) b) h h10) := fun y => by
    have f : fHome (h_i h 1 0) (wI h) M = fFree (up1 (up1 M 4 2) 5 (M 3)) := by
      unfold fHome
      rw [if_neg y]
    have z0 : fFree (up1 (up1 M 4 2) 5 (M 3)) 4 = 0 := by
      unfold fFree
      rw [up1_ne (by decide), up1_at]
    have z1 : fFree (up1 (up1 M 4 2) 5 (M 3)) 0 = x1 := by
      rw [fFree_k (by decide) (by decide), up1_ne (by decide), up1_ne (by decide), n0]
    have fb : fB tB (h_i h 1 0) (fFree (up1 (up1 M 4 2) 5 (M 3))) b = tB x1 (h_i h 1 0) b := by
      unfold fB
      rw [if_pos z0, z1]
    rw [f, fb]
    have z := m_fr P d I6 hx B6 r (fFree (up1 (up1 M 4 2) 5 (M 3))) z0 (by rw [fFree_k (by decide) (by decide), up1_at, h206]) (by rw [fFree_k (by decide) (by decide), up1_ne (by decide), up1_ne (by decide)]; exact p6) (by unfold fFree; rw [up1_at]) (by rw [fFree_k (by decide) (by decide), up1_ne (by decide), up1_ne (by decide), h206])
    rw [k6.2.1] at z
    exact Cv.mono z (fun h10 k => ⟨k.1.1, s6.tr k rfl⟩)
  refine ⟨I6.1, fun e1 => fr (by rw [e1]; decide), fun n1 => ⟨fun nz => ⟨v, ?_⟩, fun e0 => fr (by rw [e0]; decide)⟩⟩
  have y : 0 < wI h (M 5) (M 3) := by
    rcases wI_p I X (M 5) (M 3) with q | q
    · exact absurd q n1
    · refine q_lt.mpr ?_
      rcases Int.lt_or_le 0 (wI h (M 5) (M 3)).toInt with u | u
      · omega
      · exact absurd (Int32.toInt_inj.mp (by omega)) nz
  have f : fHome (h_i h 1 0) (wI h) M = sOut (h_i h 1 0) (wI h (M 5) (M 3)) (M 3) (up1 M 4 2) := by
    unfold fHome
    rw [if_pos y]
  have f7 : sOut (h_i h 1 0) (wI h (M 5) (M 3)) (M 3) (up1 (up1 M 4 2) 7 (-1)) = sOut (h_i h 1 0) (wI h (M 5) (M 3)) (M 3) (up1 M 4 2) := by
    funext k
    unfold sOut
    by_cases a5 : k = 5
    · rw [a5, up1_at, up1_at]
    · rw [up1_ne a5, up1_ne a5]
      by_cases a7 : k = 7
      · rw [a7, up1_at, up1_at]
      · rw [up1_ne a7, up1_ne a7]
        by_cases a6 : k = 6
        · rw [a6, up1_at, up1_at]
        · rw [up1_ne a6, up1_ne a6, up1_ne a7]
  have fb : fB tB (h_i h 1 0) (sOut (h_i h 1 0) (wI h (M 5) (M 3)) (M 3) (up1 M 4 2)) b = b := by
    unfold fB
    rw [sOut_k (by decide) (by decide) (by decide), up1_at, if_neg (by decide)]
  rw [h206, f, fb]
  have u5 : up1 (up1 M 4 2) 7 (-1) 5 = M 5 := by rw [up1_ne (by decide), up1_ne (by decide)]
  have z := m_so P d I6 (k6.2.2.2.2.2 X) hx s6.2.2.1 B6 (M 3) (by rw [u5]; exact p) ⟨by omega, by omega⟩ r (by rw [u5, k6.1]; exact n1)
  rw [u5, k6.1, k6.2.1, if_pos y, f7] at z
  exact Cv.mono z (fun h15 k => ⟨k.1.1, s6.tr k rfl⟩)
end MEN
/-! walks: who can reach whom -/
theorem wkq_1 {E : Nat → Nat × Nat × Int} {n i : Nat} (hi : i < n) : wkq E n (E i).1 1 (E i).2.1 (E i).2.2 ∧ wkq E n (E i).2.1 1 (E i).1 (E i).2.2 := ⟨⟨i, hi, Or.inl ⟨rfl, rfl, Int.sub_self _⟩⟩, ⟨i, hi, Or.inr ⟨rfl, rfl, Int.sub_self _⟩⟩⟩
theorem wkq_rv {E : Nat → Nat × Nat × Int} {n u : Nat} : ∀ (k v : Nat) (t : Int), wkq E n u k v t → ∃ k' t', wkq E n v k' u t'
  | 0, v, t, h => by
    have h' : v = u ∧ t = 0 := h
    exact ⟨0, 0, h'.1.symm, rfl⟩
  | k + 1, v, t, ⟨i, hi, h⟩ => by
    have e := wkq_1 (E := E) hi
    rcases h with ⟨a, b⟩ | ⟨a, b⟩
    · obtain ⟨k', t', z⟩ := wkq_rv k _ _ b
      rw [a]
      exact ⟨_, _, wkq_cc e.2 k' _ _ z⟩
    · obtain ⟨k', t', z⟩ := wkq_rv k _ _ b
      rw [a]
      exact ⟨_, _, wkq_cc e.1 k' _ _ z⟩
theorem Exr.cn {E : Nat → Nat × Nat × Int} {n u : Nat} {B : Int} {d : Nat → Int} (x : Exr E n B u d) (e : Ev E n) (hB : 1000 < B) : ∀ (k v : Nat) (t : Int), v < 16 → wkq E n u k v t → d v < B
  | 0, v, t, hv, h => by
    have q := (x v hv).2.1 0 t h
    have h' : v = u ∧ t = 0 := h
    omega
  | k + 1, v, t, hv, ⟨i, hi, h⟩ => by
    have ei := e i hi
    have fe := x.fe e i hi
    rcases h with ⟨a, b⟩ | ⟨a, b⟩
    · have ih := x.cn e hB k _ _ ei.1.1 b
      have l := x.le e ei.1.1 ih
      rw [a]
      omega
    · have ih := x.cn e hB k _ _ ei.1.2 b
      have l := x.le e ei.1.2 ih
      rw [a]
      omega
theorem wkq_t {E : Nat → Nat × Nat × Int} {n u : Nat} (e : Ev E n) : ∀ (k v : Nat) (t : Int), wkq E n u k v t → (k : Int) ≤ t
  | 0, v, t, h => by
    have h' : v = u ∧ t = 0 := h
    omega
  | k + 1, v, t, ⟨i, hi, h⟩ => by
    have ei := e i hi
    rcases h with ⟨_, b⟩ | ⟨_, b⟩
    · have ih := wkq_t e k _ _ b
      omega
    · have ih := wkq_t e k _ _ b
      omega
/-- there is a walk from a to b -/
def Wy (h : Hp_) (a b : Int32) : Prop := (0 ≤ a.toInt ∧ a.toInt < 16) ∧ (0 ≤ b.toInt ∧ b.toInt < 16) ∧ ∃ k t, wkq (eE h) (eN h) a.toNatClampNeg k b.toNatClampNeg t
theorem wI_y {h : Hp_} (I : Iv h) (X : ExP h) {a b : Int32} : ¬ wI h a b = -1 ↔ Wy h a b := by
  constructor
  · intro n
    rcases wI_p I X a b with q | q
    · exact absurd q n
    · refine ⟨q.2.2.1, q.2.2.2.1, ?_⟩
      have na := n_nat q.2.2.1.1
      have nb := n_nat q.2.2.2.1.1
      have e := q.2.2.2.2
      unfold wX at e
      split at e
      · rename_i c
        obtain ⟨k, w⟩ := (X.2 a.toNatClampNeg c.1 b.toNatClampNeg c.2.1).2.2 c.2.2
        exact ⟨k, _, w⟩
      · cases e
  · intro y e
    obtain ⟨p1, p2, k, t, w⟩ := y
    have na := n_nat p1.1
    have nb := n_nat p2.1
    have l := (X.2 a.toNatClampNeg (by omega)).cn (ev_ I X.1) (by decide) k b.toNatClampNeg t (by omega) w
    have q := (wI_X (h := h) p1 p2).1 (dX h a.toNatClampNeg b.toNatClampNeg) (by
      unfold wX
      rw [if_pos ⟨by omega, by omega, l⟩])
    have z := (X.2 a.toNatClampNeg (by omega) b.toNatClampNeg (by omega)).1.1
    rw [e] at q
    have tm : (-1 : Int32).toInt = -1 := rfl
    omega
theorem Wy.s {h : Hp_} {a b : Int32} (y : Wy h a b) : Wy h b a := by
  obtain ⟨p1, p2, k, t, w⟩ := y
  obtain ⟨k', t', w'⟩ := wkq_rv k _ _ w
  exact ⟨p2, p1, k', t', w'⟩
theorem Wy.t {h : Hp_} {a b c : Int32} (y : Wy h a b) (z : Wy h b c) : Wy h a c := by
  obtain ⟨p1, _, k, t, w⟩ := y
  obtain ⟨_, p3, k', t', w'⟩ := z
  exact ⟨p1, p3, _, _, wkq_cc w k' _ _ w'⟩
theorem Wy.r {h : Hp_} {a : Int32} (p : 0 ≤ a.toInt ∧ a.toInt < 16) : Wy h a a := ⟨p, p, 0, 0, rfl, rfl⟩
theorem wI_z {h : Hp_} (I : Iv h) (X : ExP h) {a b : Int32} (e0 : wI h a b = 0) : a = b := by
  rcases wI_p I X a b with q | q
  · rw [q] at e0
    exact absurd e0 (by decide)
  · have na := n_nat q.2.2.1.1
    have nb := n_nat q.2.2.2.1.1
    have e := q.2.2.2.2
    have t0 : (0 : Int32).toInt = 0 := rfl
    rw [e0] at e
    unfold wX at e
    split at e
    · rename_i c
      have e := Option.some.inj e
      obtain ⟨k, w⟩ := (X.2 a.toNatClampNeg c.1 b.toNatClampNeg c.2.1).2.2 c.2.2
      have l := wkq_t (ev_ I X.1) k _ _ w
      have k0 : k = 0 := by omega
      rw [k0] at w
      have w' : b.toNatClampNeg = a.toNatClampNeg ∧ dX h a.toNatClampNeg b.toNatClampNeg = 0 := w
      exact Int32.toInt_inj.mp (by omega)
    · cases e
theorem wI_tr {h : Hp_} (I : Iv h) (X : ExP h) {a p q : Int32} (y : ¬ wI h a p = -1) (z : ¬ wI h a q = -1) : ¬ wI h p q = -1 := (wI_y I X).mpr (((wI_y I X).mp y).s.t ((wI_y I X).mp z))
theorem wI_t2 {h : Hp_} (I : Iv h) (X : ExP h) {a p q : Int32} (y : ¬ wI h a p = -1) (z : ¬ wI h p q = -1) : ¬ wI h a q = -1 := (wI_y I X).mpr (((wI_y I X).mp y).t ((wI_y I X).mp z))
theorem wI_r {h : Hp_} (I : Iv h) (X : ExP h) {a : Int32} (p : 0 ≤ a.toInt ∧ a.toInt ≤ 15) : ¬ wI h a a = -1 := (wI_y I X).mpr (Wy.r ⟨p.1, by omega⟩)
end
