/-! MEN: what holds of a man at any time, kept by all that befalls him -/
def WOk (w : Int32 → Int32 → Int32) : Prop := (∀ a p q, ¬ w a p = -1 → ¬ w p q = -1 → ¬ w a q = -1) ∧ (∀ a, 0 ≤ a.toInt ∧ a.toInt ≤ 15 → ¬ w a a = -1) ∧ (∀ a b, ¬ w a b = -1 → (0 ≤ b.toInt ∧ b.toInt ≤ 15) ∧ 0 ≤ (w a b).toInt) ∧ (∀ a p q, ¬ w a p = -1 → ¬ w a q = -1 → ¬ w p q = -1) ∧ ∀ a b, w a b = 0 → a = b
theorem wok {h : Hp_} (I : Iv h) (X : ExP h) : WOk (wI h) := ⟨fun _ _ _ y z => wI_t2 I X y z, fun _ p => wI_r I X p, fun a b y => by
  rcases wI_p I X a b with q | q
  · exact absurd q y
  · exact ⟨⟨q.2.2.2.1.1, by have := q.2.2.2.1.2; omega⟩, q.1⟩, fun _ _ _ y z => wI_tr I X y z, fun _ _ e => wI_z I X e⟩
def KmB (BL : Nat → List Sp3) (nb rw : Nat) (M : Nat → Int32) : Prop := ∃ i x L, (0 ≤ (M 8).toInt ∧ (M 8).toNatClampNeg < nb) ∧ (BL (M 8).toNatClampNeg).drop i = x :: L ∧ M 9 = Int32.ofNat i ∧ ((x.1 = 1 ∨ x.1 = 3) → M 6 = -1) ∧ 0 ≤ (M 11).toInt ∧ (M 11).toInt + (((if x.1 = 2 ∧ decide (¬ M 6 = -1) = true then 1 else 0) + mts L : Nat) : Int) = (M 12).toInt ∧ (M 12).toInt ≤ (rw : Int)
def Km (w : Int32 → Int32 → Int32) (BL : Nat → List Sp3) (nb rw : Nat) (M : Nat → Int32) : Prop := KmA w M ∧ (M 4 = 1 → KmB BL nb rw M)
/-- events of one sort, of the other -/
def c1 : List Ev2 → Nat
  | [] => 0
  | e :: E => (if e.1 = 1 then 1 else 0) + c1 E
def c2 : List Ev2 → Nat
  | [] => 0
  | e :: E => (if e.1 = 1 then 0 else 1) + c2 E
theorem c1_a : ∀ A B : List Ev2, c1 (A ++ B) = c1 A + c1 B
  | [], B => by show c1 B = 0 + c1 B; omega
  | e :: A, B => by
    show (if e.1 = 1 then 1 else 0) + c1 (A ++ B) = (if e.1 = 1 then 1 else 0) + c1 A + c1 B
    rw [c1_a A B]
    omega
theorem c2_a : ∀ A B : List Ev2, c2 (A ++ B) = c2 A + c2 B
  | [], B => by show c2 B = 0 + c2 B; omega
  | e :: A, B => by
    show (if e.1 = 1 then 0 else 1) + c2 (A ++ B) = (if e.1 = 1 then 0 else 1) + c2 A + c2 B
    rw [c2_a A B]
    omega
/-- slots that stay -/
abbrev fx (k : Nat) : Prop := k ≠ 4 ∧ k ≠ 5 ∧ k ≠ 6 ∧ k ≠ 7 ∧ k ≠ 9 ∧ k ≠ 11 ∧ k ≠ 15 ∧ k ≠ 16
/-- what became of a man M: nothing but his own, m rows at most were settled -/
def Rk (m : Nat) (M : Nat → Int32) (o : (Nat → Int32) × List Ev2) : Prop := (∀ k, fx k → o.1 k = M k) ∧ (∀ e ∈ o.2, e.1 = 1 ∨ e.1 = 2) ∧ o.2.length ≤ m ∧ o.1 11 = M 11 + Int32.ofNat o.2.length ∧ o.1 15 = M 15 + Int32.ofNat (c1 o.2) ∧ o.1 16 = M 16 + Int32.ofNat (c2 o.2)
theorem i_0 (x : Int32) : x + Int32.ofNat 0 = x := by
  show x + 0 = x
  exact Int32.add_zero x
theorem i_a (x : Int32) (a b : Nat) : x + Int32.ofNat a + Int32.ofNat b = x + Int32.ofNat (a + b) := by rw [Int32.add_assoc, Int32.ofNat_add]
theorem Rk.rf {m : Nat} {M M' : Nat → Int32} (a : ∀ k, fx k → M' k = M k) (b : M' 11 = M 11) (c : M' 15 = M 15) (d : M' 16 = M 16) : Rk m M (M', []) := ⟨a, fun e he => (by cases he), Nat.zero_le _, by show M' 11 = M 11 + Int32.ofNat 0; rw [i_0, b], by show M' 15 = M 15 + Int32.ofNat 0; rw [i_0, c], by show M' 16 = M 16 + Int32.ofNat 0; rw [i_0, d]⟩
theorem Rk.tr {m m' : Nat} {M M1 : Nat → Int32} {E1 : List Ev2} {o : (Nat → Int32) × List Ev2} (a : Rk m M (M1, E1)) (b : Rk m' M1 o) : Rk (m + m') M (o.1, E1 ++ o.2) := ⟨fun k hk => (b.1 k hk).trans (a.1 k hk), fun e he => (List.mem_append.mp he).elim (a.2.1 e) (b.2.1 e), by
  have x := a.2.2.1
  have y := b.2.2.1
  show (E1 ++ o.2).length ≤ m + m'
  rw [List.length_append]
  have x : E1.length ≤ m := x
  omega, by
  show o.1 11 = M 11 + Int32.ofNat (E1 ++ o.2).length
  rw [b.2.2.2.1, show M1 11 = M 11 + Int32.ofNat E1.length from a.2.2.2.1, i_a, List.length_append], by
  show o.1 15 = M 15 + Int32.ofNat (c1 (E1 ++ o.2))
  rw [b.2.2.2.2.1, show M1 15 = M 15 + Int32.ofNat (c1 E1) from a.2.2.2.2.1, i_a, c1_a], by
  show o.1 16 = M 16 + Int32.ofNat (c2 (E1 ++ o.2))
  rw [b.2.2.2.2.2, show M1 16 = M 16 + Int32.ofNat (c2 E1) from a.2.2.2.2.2, i_a, c2_a]⟩
theorem Rk.mo {m m' : Nat} {M : Nat → Int32} {o : (Nat → Int32) × List Ev2} (a : Rk m M o) (l : m ≤ m') : Rk m' M o := ⟨a.1, a.2.1, Nat.le_trans a.2.2.1 l, a.2.2.2⟩
theorem n9 {k : Nat} (hk : fx k) : k ≠ 4 ∧ k ≠ 5 ∧ k ≠ 6 ∧ k ≠ 7 ∧ k ≠ 9 ∧ k ≠ 11 ∧ k ≠ 15 ∧ k ≠ 16 := hk
theorem Rk.out {m : Nat} {n k p : Int32} {M : Nat → Int32} : Rk m M (sOut n k p M, []) := Rk.rf (fun j hj => sOut_k (n9 hj).2.1 (n9 hj).2.2.1 (n9 hj).2.2.2.1) (sOut_k (by decide) (by decide) (by decide)) (sOut_k (by decide) (by decide) (by decide)) (sOut_k (by decide) (by decide) (by decide))
theorem Rk.u7 {m : Nat} {x : Int32} {M : Nat → Int32} : Rk m M (up1 M 7 x, []) := Rk.rf (fun j hj => up1_ne (n9 hj).2.2.2.1) (up1_ne (by decide)) (up1_ne (by decide)) (up1_ne (by decide))
theorem Rk.u9 {m : Nat} {x : Int32} {M : Nat → Int32} : Rk m M (up1 M 9 x, []) := Rk.rf (fun j hj => up1_ne (n9 hj).2.2.2.2.1) (up1_ne (by decide)) (up1_ne (by decide)) (up1_ne (by decide))
theorem Rk.hm {m : Nat} {n : Int32} {w : Int32 → Int32 → Int32} {M : Nat → Int32} : Rk m M (fHome n w M, []) := Rk.rf (fun j hj => fHome_k (n9 hj).1 (n9 hj).2.1 (n9 hj).2.2.1 (n9 hj).2.2.2.1) (fHome_k (by decide) (by decide) (by decide) (by decide)) (fHome_k (by decide) (by decide) (by decide) (by decide)) (fHome_k (by decide) (by decide) (by decide) (by decide))
theorem Rk.row {m : Nat} {e : Ev2} {M : Nat → Int32} (he : e.1 = 1 ∨ e.1 = 2) (l : 1 ≤ m) : Rk m M (sRow e M, [e]) := by
  have o1 : Int32.ofNat 1 = 1 := rfl
  refine ⟨fun j hj => sRow_k (n9 hj).2.2.2.2.2.1 (n9 hj).2.2.2.2.2.2.1 (n9 hj).2.2.2.2.2.2.2, fun x hx => by rw [List.mem_singleton.mp hx]; exact he, l, sRow_11, ?_, ?_⟩
  · show sRow e M 15 = M 15 + Int32.ofNat ((if e.1 = 1 then 1 else 0) + 0)
    unfold sRow
    by_cases c : e.1 = 1
    · rw [if_pos c, if_pos c, up1_at]
      rfl
    · rw [if_neg c, if_neg c, up1_ne (by decide), up1_ne (by decide)]
      exact (i_0 _).symm
  · show sRow e M 16 = M 16 + Int32.ofNat ((if e.1 = 1 then 0 else 1) + 0)
    unfold sRow
    by_cases c : e.1 = 1
    · rw [if_pos c, if_pos c, up1_ne (by decide), up1_ne (by decide)]
      exact (i_0 _).symm
    · rw [if_neg c, if_neg c, up1_at]
      rfl
theorem Rk.pt {m : Nat} {n u : Int32} {M : Nat → Int32} (l : 1 ≤ m) : Rk m M ((fPt n u M).2.1, [(fPt n u M).2.2]) := by
  unfold fPt
  split
  · split
    · exact Rk.row (Or.inl rfl) l
    · have a := Rk.row (m := m) (M := M) (e := (1, -1)) (Or.inl rfl) l
      have b := Rk.u7 (m := 0) (x := u) (M := sRow (1, -1) M)
      have c := a.tr b
      exact c
  · exact Rk.row (Or.inr rfl) l
theorem Rk.one {m : Nat} {n : Int32} {w : Int32 → Int32 → Int32} {x : Sp3} {M : Nat → Int32} (l : x.1 = 2 → 1 ≤ m) : Rk m M ((fOne n w x M).2.1, (fOne n w x M).2.2) := by
  unfold fOne
  split
  · exact Rk.u7
  · split
    · exact Rk.u7
    · split
      · exact Rk.out
      · split
        · rename_i c
          split
          · exact Rk.row (Or.inr rfl) (l c)
          · exact Rk.pt (l c)
        · exact Rk.rf (fun _ _ => rfl) rfl rfl rfl
theorem Rk.st {n : Int32} {w : Int32 → Int32 → Int32} : ∀ (L : List Sp3) (M : Nat → Int32), Rk (mts L) M (fSt n w L M)
  | [], _ => Rk.hm
  | x :: L, M => by
    have o := Rk.one (m := if x.1 = 2 then 1 else 0) (n := n) (w := w) (x := x) (M := M) (fun e => by rw [if_pos e]; exact Nat.le_refl _)
    show Rk ((if x.1 = 2 then 1 else 0) + mts L) M (if (fOne n w x M).1 = true then ((fOne n w x M).2.1, (fOne n w x M).2.2) else ((fSt n w L (up1 (fOne n w x M).2.1 9 ((fOne n w x M).2.1 9 + 1))).1, (fOne n w x M).2.2 ++ (fSt n w L (up1 (fOne n w x M).2.1 9 ((fOne n w x M).2.1 9 + 1))).2))
    by_cases t : (fOne n w x M).1 = true
    · rw [if_pos t]
      exact o.mo (Nat.le_add_right _ _)
    · rw [if_neg t]
      have z := (o.tr (Rk.u9 (m := 0) (x := (fOne n w x M).2.1 9 + 1))).tr (Rk.st (n := n) (w := w) L (up1 (fOne n w x M).2.1 9 ((fOne n w x M).2.1 9 + 1)))
      have e : (fOne n w x M).2.2 ++ ([] : List Ev2) = (fOne n w x M).2.2 := List.append_nil _
      have z : Rk ((if x.1 = 2 then 1 else 0) + 0 + mts L) M ((fSt n w L (up1 (fOne n w x M).2.1 9 ((fOne n w x M).2.1 9 + 1))).1, ((fOne n w x M).2.2 ++ []) ++ (fSt n w L (up1 (fOne n w x M).2.1 9 ((fOne n w x M).2.1 9 + 1))).2) := z
      rw [e] at z
      exact z
theorem Rk.cm {m : Nat} {M : Nat → Int32} : Rk m M (fCm M, []) := by
  have q : ∀ k, k ≠ 5 → k ≠ 6 → k ≠ 7 → fCm M k = M k := fun k a b e => by
    unfold fCm
    split
    · rw [up1_ne e]
    · rw [up1_ne e, up1_ne a, up1_ne b]
  exact Rk.rf (fun j hj => q j (n9 hj).2.1 (n9 hj).2.2.1 (n9 hj).2.2.2.1) (q 11 (by decide) (by decide) (by decide)) (q 15 (by decide) (by decide) (by decide)) (q 16 (by decide) (by decide) (by decide))
theorem Rk.fr {m : Nat} {M : Nat → Int32} : Rk m M (fFree M, []) := Rk.rf (fun j hj => fFree_k (n9 hj).1 (n9 hj).2.2.2.1) (fFree_k (by decide) (by decide)) (fFree_k (by decide) (by decide)) (fFree_k (by decide) (by decide))
theorem Rk.dr {m : Nat} {n : Int32} {w : Int32 → Int32 → Int32} {M : Nat → Int32} : Rk m M (fDr n w M, []) := by
  unfold fDr
  split
  · exact Rk.out
  · split
    · exact Rk.u7
    · exact Rk.hm
theorem Rk.en {m : Nat} {n : Int32} {x : Sp3} {came : Bool} {M : Nat → Int32} (l : x.1 = 2 ∧ came = true → 1 ≤ m) : Rk m M ((fEn n x came M).2.1, (fEn n x came M).2.2) := by
  unfold fEn
  split
  · rename_i c
    exact Rk.pt (l c)
  · exact Rk.rf (fun _ _ => rfl) rfl rfl rfl
theorem Rk.nx {m : Nat} {n : Int32} {w : Int32 → Int32 → Int32} {L : List Sp3} {M : Nat → Int32} {o : Bool × (Nat → Int32) × List Ev2} (a : Rk m M (o.2.1, o.2.2)) : Rk (m + mts L) M (fNx n w L o) := by
  unfold fNx
  split
  · exact a.mo (by omega)
  · have z := (a.tr (Rk.u9 (m := 0) (x := o.2.1 9 + 1))).tr (Rk.st (n := n) (w := w) L (up1 o.2.1 9 (o.2.1 9 + 1)))
    have e : o.2.2 ++ ([] : List Ev2) = o.2.2 := List.append_nil _
    have z : Rk (m + 0 + mts L) M ((fSt n w L (up1 o.2.1 9 (o.2.1 9 + 1))).1, (o.2.2 ++ []) ++ (fSt n w L (up1 o.2.1 9 (o.2.1 9 + 1))).2) := z
    rw [e] at z
    exact z
theorem Rk.go {n : Int32} {w : Int32 → Int32 → Int32} {x : Sp3} {L : List Sp3} {M : Nat → Int32} : Rk ((if x.1 = 2 ∧ decide (¬ M 6 = -1) = true then 1 else 0) + mts L) M (fGo n w x L M) := by
  have o := Rk.en (m := if x.1 = 2 ∧ decide (¬ M 6 = -1) = true then 1 else 0) (n := n) (x := x) (came := decide (¬ M 6 = -1)) (M := fCm M) (fun e => by rw [if_pos e]; exact Nat.le_refl _)
  generalize (if x.1 = 2 ∧ decide (¬ M 6 = -1) = true then 1 else 0) = q at o ⊢
  unfold fGo
  split
  · have z := (Rk.cm (m := 0) (M := M)).tr (Rk.nx (n := n) (w := w) (L := L) o)
    exact z.mo (by omega)
  · split
    · exact ((Rk.cm (m := 0) (M := M)).tr (Rk.fr (m := 0))).mo (by omega)
    · split
      · exact ((Rk.cm (m := 0) (M := M)).tr (Rk.dr (m := 0) (n := n) (w := w))).mo (by omega)
      · exact Rk.cm
/-! the invariant -/
theorem km_hm {n : Int32} {w : Int32 → Int32 → Int32} {BL : Nat → List Sp3} {nb rw : Nat} {M : Nat → Int32} (W : WOk w) (p3 : 0 ≤ (M 3).toInt ∧ (M 3).toInt ≤ 15) (p6 : M 6 = -1) : Km w BL nb rw (fHome n w M) := by
  have tm : (-1 : Int32).toInt = -1 := rfl
  unfold fHome
  split
  · have e3 : sOut n (w (M 5) (M 3)) (M 3) (up1 M 4 2) 3 = M 3 := by rw [sOut_k (by decide) (by decide) (by decide), up1_ne (by decide)]
    have e4 : sOut n (w (M 5) (M 3)) (M 3) (up1 M 4 2) 4 = 2 := by rw [sOut_k (by decide) (by decide) (by decide), up1_at]
    have e6 : sOut n (w (M 5) (M 3)) (M 3) (up1 M 4 2) 6 = M 3 := by
      unfold sOut
      rw [up1_ne (by decide), up1_ne (by decide), up1_at]
    have n6 : ¬ M 3 = -1 := fun e => by rw [e] at p3; exact absurd p3.1 (by decide)
    unfold Km KmA
    rw [e3, e4, e6]
    exact ⟨⟨p3, fun e => absurd e n6, fun _ => p3.1, fun e => absurd e (by decide), fun e => absurd e (by decide), fun _ => rfl, fun e => absurd e (by decide), by rw [if_neg n6]; exact W.2.1 _ p3⟩, fun e => absurd e (by decide)⟩
  · have e3 : fFree (up1 (up1 M 4 2) 5 (M 3)) 3 = M 3 := by rw [fFree_k (by decide) (by decide), up1_ne (by decide), up1_ne (by decide)]
    have e4 : fFree (up1 (up1 M 4 2) 5 (M 3)) 4 = 0 := by
      unfold fFree
      rw [up1_ne (by decide), up1_at]
    have e5 : fFree (up1 (up1 M 4 2) 5 (M 3)) 5 = M 3 := by rw [fFree_k (by decide) (by decide), up1_at]
    have e6 : fFree (up1 (up1 M 4 2) 5 (M 3)) 6 = -1 := by rw [fFree_k (by decide) (by decide), up1_ne (by decide), up1_ne (by decide), p6]
    have e7 : fFree (up1 (up1 M 4 2) 5 (M 3)) 7 = -1 := by
      unfold fFree
      rw [up1_at]
    unfold Km KmA
    rw [e3, e4, e5, e6, e7]
    exact ⟨⟨p3, fun _ => p3.1, fun e => absurd rfl e, fun _ => ⟨rfl, rfl⟩, fun e => absurd e (by decide), fun e => absurd e (by decide), fun e => absurd e (by decide), by rw [if_pos rfl]; exact W.2.1 _ p3⟩, fun e => absurd e (by decide)⟩
/-- one who stands at a place, free of points to come to -/
theorem kma_at {w : Int32 → Int32 → Int32} {M : Nat → Int32} (p3 : 0 ≤ (M 3).toInt ∧ (M 3).toInt ≤ 15) (p6 : M 6 = -1) (p5 : 0 ≤ (M 5).toInt) (e4 : M 4 = 1) (c : ¬ w (M 3) (M 5) = -1) : KmA w M := ⟨p3, fun _ => p5, fun e => absurd p6 e, fun e => absurd (e4.symm.trans e) (by decide), fun e => absurd (e4.symm.trans e) (by decide), fun e => absurd (e4.symm.trans e) (by decide), fun e => absurd (e4.symm.trans e) (by decide), by rw [if_pos p6]; exact c⟩
theorem kma_out {n : Int32} {w : Int32 → Int32 → Int32} {M : Nat → Int32} {p : Int32} (W : WOk w) (p3 : 0 ≤ (M 3).toInt ∧ (M 3).toInt ≤ 15) (e4 : M 4 = 1) (c : ¬ w (M 3) (M 5) = -1) (y : 0 < w (M 5) p) : KmA w (sOut n (w (M 5) p) p M) ∧ ¬ sOut n (w (M 5) p) p M 6 = -1 := by
  have ny : ¬ w (M 5) p = -1 := fun e => by rw [e] at y; exact absurd y (by decide)
  have q := W.2.2.1 _ _ ny
  have e3 : sOut n (w (M 5) p) p M 3 = M 3 := sOut_k (by decide) (by decide) (by decide)
  have e4' : sOut n (w (M 5) p) p M 4 = 1 := by rw [sOut_k (by decide) (by decide) (by decide), e4]
  have e6 : sOut n (w (M 5) p) p M 6 = p := by
    unfold sOut
    rw [up1_ne (by decide), up1_ne (by decide), up1_at]
  have n6 : ¬ p = -1 := fun e => by rw [e] at q; exact absurd q.1.1 (by decide)
  unfold KmA
  rw [e3, e4', e6]
  exact ⟨⟨p3, fun e => absurd e n6, fun _ => q.1.1, fun e => absurd e (by decide), fun e => absurd e (by decide), fun e => absurd e (by decide), fun e => absurd e (by decide), by rw [if_neg n6]; exact W.1 _ _ _ c ny⟩, n6⟩
theorem km_st {n : Int32} {w : Int32 → Int32 → Int32} {BL : Nat → List Sp3} {nb rw : Nat} (W : WOk w) : ∀ (L : List Sp3) (M : Nat → Int32) (i : Nat), (∀ x ∈ L, stR x) → M 4 = 1 → M 6 = -1 → 0 ≤ (M 5).toInt → (0 ≤ (M 3).toInt ∧ (M 3).toInt ≤ 15) → ¬ w (M 3) (M 5) = -1 → (0 ≤ (M 8).toInt ∧ (M 8).toNatClampNeg < nb) → (BL (M 8).toNatClampNeg).drop i = L → M 9 = Int32.ofNat i → i + L.length ≤ 150 → 0 ≤ (M 11).toInt → (M 11).toInt + (mts L : Int) = (M 12).toInt → (M 12).toInt ≤ (rw : Int) → rw ≤ 400 → Km w BL nb rw (fSt n w L M).1
  | [], M, i, _, e4, p6, p5, p3, c, b8, hd, e9, il, r0, r12, rr, r4 => km_hm W p3 p6
  | x :: L, M, i, hs, e4, p6, p5, p3, c, b8, hd, e9, il, r0, r12, rr, r4 => by
    have sr := hs x List.mem_cons_self
    have m : mts (x :: L) = (if x.1 = 2 then 1 else 0) + mts L := rfl
    have il' : i + (L.length + 1) ≤ 150 := il
    rw [m] at r12
    have dr : (BL (M 8).toNatClampNeg).drop (i + 1) = L := by
      rw [← List.drop_drop, hd]
      rfl
    show Km w BL nb rw (if (fOne n w x M).1 = true then ((fOne n w x M).2.1, (fOne n w x M).2.2) else ((fSt n w L (up1 (fOne n w x M).2.1 9 ((fOne n w x M).2.1 9 + 1))).1, (fOne n w x M).2.2 ++ (fSt n w L (up1 (fOne n w x M).2.1 9 ((fOne n w x M).2.1 9 + 1))).2)).1
    by_cases t : (fOne n w x M).1 = true
    · rw [if_pos t]
      show Km w BL nb rw (fOne n w x M).2.1
      have fk : ∀ k, k ≠ 5 → k ≠ 6 → k ≠ 7 → k ≠ 11 → k ≠ 15 → k ≠ 16 → (fOne n w x M).2.1 k = M k := fun k a b c d e f => fOne_k a b c d e f
      have key : KmA w (fOne n w x M).2.1 ∧ ((x.1 = 1 ∨ x.1 = 3) → (fOne n w x M).2.1 6 = -1) ∧ 0 ≤ ((fOne n w x M).2.1 11).toInt ∧ ((fOne n w x M).2.1 11).toInt + (((if x.1 = 2 ∧ decide (¬ (fOne n w x M).2.1 6 = -1) = true then 1 else 0) + mts L : Nat) : Int) = (M 12).toInt := by
        by_cases y1 : x.1 = 1
        · have fo : fOne n w x M = (true, up1 M 7 (n + x.2.1), []) := by
            unfold fOne
            rw [if_pos y1]
          rw [fo]
          show KmA w (up1 M 7 (n + x.2.1)) ∧ (_ → up1 M 7 (n + x.2.1) 6 = -1) ∧ 0 ≤ (up1 M 7 (n + x.2.1) 11).toInt ∧ (up1 M 7 (n + x.2.1) 11).toInt + (((if x.1 = 2 ∧ decide (¬ up1 M 7 (n + x.2.1) 6 = -1) = true then 1 else 0) + mts L : Nat) : Int) = (M 12).toInt
          rw [up1_ne (by decide), up1_ne (by decide)]
          have n2 : ¬ x.1 = 2 := by rw [y1]; decide
          rw [if_neg n2] at r12
          rw [if_neg (fun z => n2 z.1)]
          exact ⟨kma_at (by rw [up1_ne (by decide)]; exact p3) (by rw [up1_ne (by decide)]; exact p6) (by rw [up1_ne (by decide)]; exact p5) (by rw [up1_ne (by decide)]; exact e4) (by rw [up1_ne (by decide), up1_ne (by decide)]; exact c), fun _ => p6, r0, r12⟩
        · by_cases y3 : x.1 = 3
          · have fo : fOne n w x M = (true, up1 M 7 (n + 1), []) := by
              unfold fOne
              rw [if_neg y1, if_pos y3]
            rw [fo]
            show KmA w (up1 M 7 (n + 1)) ∧ (_ → up1 M 7 (n + 1) 6 = -1) ∧ 0 ≤ (up1 M 7 (n + 1) 11).toInt ∧ (up1 M 7 (n + 1) 11).toInt + (((if x.1 = 2 ∧ decide (¬ up1 M 7 (n + 1) 6 = -1) = true then 1 else 0) + mts L : Nat) : Int) = (M 12).toInt
            rw [up1_ne (by decide), up1_ne (by decide)]
            have n2 : ¬ x.1 = 2 := by rw [y3]; decide
            rw [if_neg n2] at r12
            rw [if_neg (fun z => n2 z.1)]
            exact ⟨kma_at (by rw [up1_ne (by decide)]; exact p3) (by rw [up1_ne (by decide)]; exact p6) (by rw [up1_ne (by decide)]; exact p5) (by rw [up1_ne (by decide)]; exact e4) (by rw [up1_ne (by decide), up1_ne (by decide)]; exact c), fun _ => p6, r0, r12⟩
          · by_cases yw : 0 < w (M 5) x.2.1
            · have fo : fOne n w x M = (true, sOut n (w (M 5) x.2.1) x.2.1 M, []) := by
                unfold fOne
                rw [if_neg y1, if_neg y3, if_pos yw]
              rw [fo]
              have q := kma_out (n := n) (M := M) W p3 e4 c yw
              show KmA w (sOut n (w (M 5) x.2.1) x.2.1 M) ∧ (_ → sOut n (w (M 5) x.2.1) x.2.1 M 6 = -1) ∧ 0 ≤ (sOut n (w (M 5) x.2.1) x.2.1 M 11).toInt ∧ (sOut n (w (M 5) x.2.1) x.2.1 M 11).toInt + (((if x.1 = 2 ∧ decide (¬ sOut n (w (M 5) x.2.1) x.2.1 M 6 = -1) = true then 1 else 0) + mts L : Nat) : Int) = (M 12).toInt
              rw [sOut_k (k := 11) (by decide) (by decide) (by decide)]
              refine ⟨q.1, fun z => absurd z (fun u => u.elim y1 y3), r0, ?_⟩
              by_cases y2 : x.1 = 2
              · rw [if_pos y2] at r12
                rw [if_pos ⟨y2, decide_eq_true q.2⟩]
                exact r12
              · rw [if_neg y2] at r12
                rw [if_neg (fun z => y2 z.1)]
                exact r12
            · by_cases y2 : x.1 = 2
              · rw [if_pos y2] at r12
                by_cases em : w (M 5) x.2.1 = -1
                · have fo : fOne n w x M = (false, sRow (2, 2) M, [(2, 2)]) := by
                    unfold fOne
                    rw [if_neg y1, if_neg y3, if_neg yw, if_pos y2, if_pos em]
                  rw [fo] at t
                  cases t
                · have fo : fOne n w x M = ((fPt n (M 10 + x.2.2) M).1, (fPt n (M 10 + x.2.2) M).2.1, [(fPt n (M 10 + x.2.2) M).2.2]) := by
                    unfold fOne
                    rw [if_neg y1, if_neg y3, if_neg yw, if_pos y2, if_neg em]
                  rw [fo]
                  have pk : ∀ k, k ≠ 7 → k ≠ 11 → k ≠ 15 → k ≠ 16 → (fPt n (M 10 + x.2.2) M).2.1 k = M k := fun k a b c d => fPt_k a b c d
                  have rn := row_n (x := M 11) r0 (by omega)
                  show KmA w (fPt n (M 10 + x.2.2) M).2.1 ∧ (_ → (fPt n (M 10 + x.2.2) M).2.1 6 = -1) ∧ 0 ≤ ((fPt n (M 10 + x.2.2) M).2.1 11).toInt ∧ ((fPt n (M 10 + x.2.2) M).2.1 11).toInt + (((if x.1 = 2 ∧ decide (¬ (fPt n (M 10 + x.2.2) M).2.1 6 = -1) = true then 1 else 0) + mts L : Nat) : Int) = (M 12).toInt
                  rw [fPt_11, pk 6 (by decide) (by decide) (by decide) (by decide)]
                  have nn : ¬ (x.1 = 2 ∧ decide (¬ M 6 = -1) = true) := fun z => of_decide_eq_true z.2 p6
                  rw [if_neg nn]
                  exact ⟨kma_at (by rw [pk 3 (by decide) (by decide) (by decide) (by decide)]; exact p3) (by rw [pk 6 (by decide) (by decide) (by decide) (by decide)]; exact p6) (by rw [pk 5 (by decide) (by decide) (by decide) (by decide)]; exact p5) (by rw [pk 4 (by decide) (by decide) (by decide) (by decide)]; exact e4) (by rw [pk 3 (by decide) (by decide) (by decide) (by decide), pk 5 (by decide) (by decide) (by decide) (by decide)]; exact c), fun _ => p6, by omega, by omega⟩
              · have fo : fOne n w x M = (false, M, []) := by
                  unfold fOne
                  rw [if_neg y1, if_neg y3, if_neg yw, if_neg y2]
                rw [fo] at t
                cases t
      refine ⟨key.1, fun _ => ⟨i, x, L, ?_, ?_, ?_, key.2.1, key.2.2.1, ?_, ?_⟩⟩
      · rw [fk 8 (by decide) (by decide) (by decide) (by decide) (by decide) (by decide)]
        exact b8
      · rw [fk 8 (by decide) (by decide) (by decide) (by decide) (by decide) (by decide)]
        exact hd
      · rw [fk 9 (by decide) (by decide) (by decide) (by decide) (by decide) (by decide)]
        exact e9
      · rw [fk 12 (by decide) (by decide) (by decide) (by decide) (by decide) (by decide)]
        exact key.2.2.2
      · rw [fk 12 (by decide) (by decide) (by decide) (by decide) (by decide) (by decide)]
        exact rr
    · rw [if_neg t]
      show Km w BL nb rw (fSt n w L (up1 (fOne n w x M).2.1 9 ((fOne n w x M).2.1 9 + 1))).1
      have tf' : (fOne n w x M).1 = false := by
        cases z : (fOne n w x M).1 with
        | true => exact absurd z t
        | false => rfl
      have fn := fOne_n tf'
      have fk : ∀ k, k ≠ 5 → k ≠ 6 → k ≠ 7 → k ≠ 11 → k ≠ 15 → k ≠ 16 → (fOne n w x M).2.1 k = M k := fun k a b c d e f => fOne_k a b c d e f
      have f9 : (fOne n w x M).2.1 9 = Int32.ofNat i := by rw [fk 9 (by decide) (by decide) (by decide) (by decide) (by decide) (by decide)]; exact e9
      have f11 : 0 ≤ ((fOne n w x M).2.1 11).toInt ∧ ((fOne n w x M).2.1 11).toInt + (mts L : Int) = (M 12).toInt := by
        rcases fOne_11 (n := n) (w := w) (x := x) (M := M) with ⟨_, b, c⟩ | ⟨a, _, c⟩
        · have c := c tf'
          rw [if_neg c] at r12
          rw [b]
          exact ⟨r0, by omega⟩
        · rw [if_pos a] at r12
          have rn := row_n (x := M 11) r0 (by omega)
          rw [c]
          exact ⟨by omega, by omega⟩
      refine km_st W L _ (i + 1) (fun y hy => hs y (List.mem_cons_of_mem _ hy)) ?_ ?_ ?_ ?_ ?_ ?_ ?_ ?_ (by omega) ?_ ?_ ?_ r4
      · rw [up1_ne (by decide), fk 4 (by decide) (by decide) (by decide) (by decide) (by decide) (by decide)]
        exact e4
      · rw [up1_ne (by decide), fn.2.1]
        exact p6
      · rw [up1_ne (by decide), fn.1]
        exact p5
      · rw [up1_ne (by decide), fk 3 (by decide) (by decide) (by decide) (by decide) (by decide) (by decide)]
        exact p3
      · rw [up1_ne (by decide), up1_ne (by decide), fk 3 (by decide) (by decide) (by decide) (by decide) (by decide) (by decide), fn.1]
        exact c
      · rw [up1_ne (by decide), fk 8 (by decide) (by decide) (by decide) (by decide) (by decide) (by decide)]
        exact b8
      · rw [up1_ne (by decide), fk 8 (by decide) (by decide) (by decide) (by decide) (by decide) (by decide)]
        exact dr
      · rw [up1_at, f9, on_s (by omega)]
      · rw [up1_ne (by decide)]
        exact f11.1
      · rw [up1_ne (by decide), up1_ne (by decide), fk 12 (by decide) (by decide) (by decide) (by decide) (by decide) (by decide)]
        exact f11.2
      · rw [up1_ne (by decide), fk 12 (by decide) (by decide) (by decide) (by decide) (by decide) (by decide)]
        exact rr
theorem km_dr {n : Int32} {w : Int32 → Int32 → Int32} {BL : Nat → List Sp3} {nb rw : Nat} {M : Nat → Int32} (W : WOk w) (p3 : 0 ≤ (M 3).toInt ∧ (M 3).toInt ≤ 15) (p6 : M 6 = -1) (p5 : 0 ≤ (M 5).toInt) (e4 : M 4 = 3) (c : ¬ w (M 3) (M 5) = -1) (p13 : 0 ≤ (M 13).toInt ∧ (M 13).toInt ≤ 15) (c13 : ¬ w (M 3) (M 13) = -1) : Km w BL nb rw (fDr n w M) := by
  unfold fDr
  split
  · rename_i y
    have n6 : ¬ M 13 = -1 := fun e => by rw [e] at p13; exact absurd p13.1 (by decide)
    have e3 : sOut n (w (M 5) (M 13)) (M 13) M 3 = M 3 := sOut_k (by decide) (by decide) (by decide)
    have e4' : sOut n (w (M 5) (M 13)) (M 13) M 4 = 3 := by rw [sOut_k (by decide) (by decide) (by decide), e4]
    have e13 : sOut n (w (M 5) (M 13)) (M 13) M 13 = M 13 := sOut_k (by decide) (by decide) (by decide)
    have e6 : sOut n (w (M 5) (M 13)) (M 13) M 6 = M 13 := by
      unfold sOut
      rw [up1_ne (by decide), up1_ne (by decide), up1_at]
    unfold Km KmA
    rw [e3, e4', e6, e13]
    exact ⟨⟨p3, fun e => absurd e n6, fun _ => p13.1, fun e => absurd e (by decide), fun e => absurd e (by decide), fun e => absurd e (by decide), fun _ => ⟨p13, c13, fun e => absurd e n6⟩, by rw [if_neg n6]; exact c13⟩, fun e => absurd e (by decide)⟩
  · split
    · rename_i y
      unfold Km KmA
      rw [up1_ne (k := 7) (j := 3) (by decide), up1_ne (k := 7) (j := 4) (by decide), up1_ne (k := 7) (j := 5) (by decide), up1_ne (k := 7) (j := 6) (by decide), up1_ne (k := 7) (j := 13) (by decide), up1_ne (k := 7) (j := 14) (by decide), up1_at, e4]
      exact ⟨⟨p3, fun _ => p5, fun e => absurd p6 e, fun e => absurd e (by decide), fun e => absurd e (by decide), fun e => absurd e (by decide), fun _ => ⟨p13, c13, fun _ => ⟨y.1, rfl⟩⟩, by rw [if_pos p6]; exact c⟩, fun e => absurd e (by decide)⟩
    · exact km_hm W p3 p6
theorem km_go {n : Int32} {w : Int32 → Int32 → Int32} {BL : Nat → List Sp3} {nb rw : Nat} {M : Nat → Int32} (W : WOk w) (hb : ∀ k x, k < nb → x ∈ BL k → stR x) (hl : ∀ k, k < nb → (BL k).length ≤ 150) (r4 : rw ≤ 400) (n0 : ¬ M 4 = 0) (K : Km w BL nb rw M) {i : Nat} {x : Sp3} {L : List Sp3} (T : M 4 = 1 → (BL (M 8).toNatClampNeg).drop i = x :: L ∧ M 9 = Int32.ofNat i ∧ (0 ≤ (M 8).toInt ∧ (M 8).toNatClampNeg < nb) ∧ 0 ≤ (M 11).toInt ∧ (M 11).toInt + (((if x.1 = 2 ∧ decide (¬ M 6 = -1) = true then 1 else 0) + mts L : Nat) : Int) = (M 12).toInt ∧ (M 12).toInt ≤ (rw : Int)) : Km w BL nb rw (fGo n w x L M).1 := by
  obtain ⟨⟨p3, k5, k6, kf, k4, k2, kd, kc⟩, _⟩ := K
  have ck : ∀ k, k ≠ 5 → k ≠ 6 → k ≠ 7 → fCm M k = M k := fun k a b e => by
    unfold fCm
    split
    · rw [up1_ne e]
    · rw [up1_ne e, up1_ne a, up1_ne b]
  have c6 : fCm M 6 = -1 := by
    unfold fCm
    split
    · rename_i e
      rw [up1_ne (by decide), e]
    · rw [up1_ne (by decide), up1_ne (by decide), up1_at]
  have c5 : fCm M 5 = if M 6 = -1 then M 5 else M 6 := by
    unfold fCm
    split
    · rw [up1_ne (by decide)]
    · rw [up1_ne (by decide), up1_at]
  have p5 : 0 ≤ (fCm M 5).toInt := by
    rw [c5]
    split
    · rename_i e
      exact k5 e
    · rename_i e
      exact k6 e
  have cc : ¬ w (fCm M 3) (fCm M 5) = -1 := by
    rw [c5, ck 3 (by decide) (by decide) (by decide)]
    exact kc
  unfold fGo
  split
  · rename_i y1
    have T := T y1
    obtain ⟨hd, e9, b8, r0, r12, rr⟩ := T
    have hdl : (BL (M 8).toNatClampNeg).drop i = x :: L := hd
    have il : i + (L.length + 1) ≤ 150 := by
      have l := congrArg List.length hd
      rw [List.length_drop] at l
      have l : (BL (M 8).toNatClampNeg).length - i = L.length + 1 := l
      have := hl _ b8.2
      omega
    have dr : (BL (M 8).toNatClampNeg).drop (i + 1) = L := by
      rw [← List.drop_drop, hd]
      rfl
    have hs : ∀ y ∈ L, stR y := fun y hy => hb _ y b8.2 (List.mem_of_mem_drop (i := i) (by rw [hd]; exact List.mem_cons_of_mem _ hy))
    unfold fNx
    have ek : ∀ k, k ≠ 7 → k ≠ 11 → k ≠ 15 → k ≠ 16 → (fEn n x (decide (¬ M 6 = -1)) (fCm M)).2.1 k = fCm M k := fun k a b c d => fEn_k a b c d
    have e11 : 0 ≤ ((fEn n x (decide (¬ M 6 = -1)) (fCm M)).2.1 11).toInt ∧ ((fEn n x (decide (¬ M 6 = -1)) (fCm M)).2.1 11).toInt + (mts L : Int) = (M 12).toInt := by
      unfold fEn
      by_cases y : x.1 = 2 ∧ decide (¬ M 6 = -1) = true
      · rw [if_pos y] at r12 ⊢
        have rn := row_n (x := M 11) r0 (by omega)
        show 0 ≤ ((fPt n (fCm M 10 + x.2.2) (fCm M)).2.1 11).toInt ∧ ((fPt n (fCm M 10 + x.2.2) (fCm M)).2.1 11).toInt + (mts L : Int) = (M 12).toInt
        rw [fPt_11, ck 11 (by decide) (by decide) (by decide)]
        omega
      · rw [if_neg y] at r12 ⊢
        show 0 ≤ (fCm M 11).toInt ∧ (fCm M 11).toInt + (mts L : Int) = (M 12).toInt
        rw [ck 11 (by decide) (by decide) (by decide)]
        omega
    split
    · rename_i t
      show Km w BL nb rw (fEn n x (decide (¬ M 6 = -1)) (fCm M)).2.1
      have y : x.1 = 2 ∧ decide (¬ M 6 = -1) = true := Decidable.byContradiction (fun y => by
        unfold fEn at t
        rw [if_neg y] at t
        cases t)
      refine ⟨kma_at (by rw [ek 3 (by decide) (by decide) (by decide) (by decide), ck 3 (by decide) (by decide) (by decide)]; exact p3) (by rw [ek 6 (by decide) (by decide) (by decide) (by decide)]; exact c6) (by rw [ek 5 (by decide) (by decide) (by decide) (by decide)]; exact p5) (by rw [ek 4 (by decide) (by decide) (by decide) (by decide), ck 4 (by decide) (by decide) (by decide)]; exact y1) (by rw [ek 3 (by decide) (by decide) (by decide) (by decide), ek 5 (by decide) (by decide) (by decide) (by decide)]; exact cc), fun _ => ⟨i, x, L, ?_, ?_, ?_, fun _ => ?_, e11.1, ?_, ?_⟩⟩
      · rw [ek 8 (by decide) (by decide) (by decide) (by decide), ck 8 (by decide) (by decide) (by decide)]
        exact b8
      · rw [ek 8 (by decide) (by decide) (by decide) (by decide), ck 8 (by decide) (by decide) (by decide)]
        exact hd
      · rw [ek 9 (by decide) (by decide) (by decide) (by decide), ck 9 (by decide) (by decide) (by decide)]
        exact e9
      · rw [ek 6 (by decide) (by decide) (by decide) (by decide)]
        exact c6
      · have n6 : ¬ (x.1 = 2 ∧ decide (¬ (fEn n x (decide (¬ M 6 = -1)) (fCm M)).2.1 6 = -1) = true) := fun z => of_decide_eq_true z.2 (by rw [ek 6 (by decide) (by decide) (by decide) (by decide)]; exact c6)
        rw [if_neg n6, ek 12 (by decide) (by decide) (by decide) (by decide), ck 12 (by decide) (by decide) (by decide)]
        have := e11.2
        omega
      · rw [ek 12 (by decide) (by decide) (by decide) (by decide), ck 12 (by decide) (by decide) (by decide)]
        exact rr
    · rename_i t
      show Km w BL nb rw (fSt n w L (up1 (fEn n x (decide (¬ M 6 = -1)) (fCm M)).2.1 9 ((fEn n x (decide (¬ M 6 = -1)) (fCm M)).2.1 9 + 1))).1
      refine km_st W L _ (i + 1) hs ?_ ?_ ?_ ?_ ?_ ?_ ?_ ?_ (by omega) ?_ ?_ ?_ r4
      · rw [up1_ne (by decide), ek 4 (by decide) (by decide) (by decide) (by decide), ck 4 (by decide) (by decide) (by decide)]
        exact y1
      · rw [up1_ne (by decide), ek 6 (by decide) (by decide) (by decide) (by decide)]
        exact c6
      · rw [up1_ne (by decide), ek 5 (by decide) (by decide) (by decide) (by decide)]
        exact p5
      · rw [up1_ne (by decide), ek 3 (by decide) (by decide) (by decide) (by decide), ck 3 (by decide) (by decide) (by decide)]
        exact p3
      · rw [up1_ne (by decide), up1_ne (by decide), ek 3 (by decide) (by decide) (by decide) (by decide), ek 5 (by decide) (by decide) (by decide) (by decide)]
        exact cc
      · rw [up1_ne (by decide), ek 8 (by decide) (by decide) (by decide) (by decide), ck 8 (by decide) (by decide) (by decide)]
        exact b8
      · rw [up1_ne (by decide), ek 8 (by decide) (by decide) (by decide) (by decide), ck 8 (by decide) (by decide) (by decide)]
        exact dr
      · rw [up1_at, ek 9 (by decide) (by decide) (by decide) (by decide), ck 9 (by decide) (by decide) (by decide), e9, on_s (by omega)]
      · rw [up1_ne (by decide)]
        exact e11.1
      · rw [up1_ne (by decide), up1_ne (by decide), ek 12 (by decide) (by decide) (by decide) (by decide), ck 12 (by decide) (by decide) (by decide)]
        exact e11.2
      · rw [up1_ne (by decide), ek 12 (by decide) (by decide) (by decide) (by decide), ck 12 (by decide) (by decide) (by decide)]
        exact rr
  · rename_i y1
    split
    · rename_i y2
      show Km w BL nb rw (fFree (fCm M))
      have n6 : ¬ M 6 = -1 := fun e => by
        have z := k2 y2
        rw [e] at z
        rw [← z] at p3
        exact absurd p3.1 (by decide)
      have e5 : fFree (fCm M) 5 = M 3 := by rw [fFree_k (by decide) (by decide), c5, if_neg n6]; exact k2 y2
      have e3 : fFree (fCm M) 3 = M 3 := by rw [fFree_k (by decide) (by decide)]; exact ck 3 (by decide) (by decide) (by decide)
      have e4 : fFree (fCm M) 4 = 0 := by
        unfold fFree
        rw [up1_ne (by decide), up1_at]
      have e6 : fFree (fCm M) 6 = -1 := by rw [fFree_k (by decide) (by decide)]; exact c6
      have e7 : fFree (fCm M) 7 = -1 := by
        unfold fFree
        rw [up1_at]
      unfold Km KmA
      rw [e3, e4, e5, e6, e7]
      exact ⟨⟨p3, fun _ => p3.1, fun e => absurd rfl e, fun _ => ⟨rfl, rfl⟩, fun e => absurd e (by decide), fun e => absurd e (by decide), fun e => absurd e (by decide), by rw [if_pos rfl]; exact W.2.1 _ p3⟩, fun e => absurd e (by decide)⟩
    · rename_i y2
      split
      · rename_i y3
        have q := kd y3
        exact km_dr W (by rw [ck 3 (by decide) (by decide) (by decide)]; exact p3) c6 p5 (by rw [ck 4 (by decide) (by decide) (by decide)]; exact y3) cc (by rw [ck 13 (by decide) (by decide) (by decide)]; exact q.1) (by rw [ck 3 (by decide) (by decide) (by decide), ck 13 (by decide) (by decide) (by decide)]; exact q.2.1)
      · rename_i y3
        show Km w BL nb rw (fCm M)
        unfold Km KmA
        rw [ck 3 (by decide) (by decide) (by decide), ck 4 (by decide) (by decide) (by decide), c6, if_pos rfl]
        refine ⟨⟨p3, fun _ => p5, fun e => absurd rfl e, fun e => absurd e n0, fun e => ⟨rfl, by rw [c5, if_pos (k4 e).1]; exact (k4 e).2⟩, fun e => absurd e y2, fun e => absurd e y3, ?_⟩, fun e => absurd e y1⟩
        rw [ck 3 (by decide) (by decide) (by decide)] at cc
        exact cc
/-! MEN, the class: begin, draw, ill -/
def isM (h : Hp_) (x1 : Int32) : Prop := 0 ≤ x1.toInt ∧ x1.toInt < (h_i h 0 7).toInt
/-- the men's row -/
def Mrw (h : Hp_) : Prop := ∀ k : Nat, (k : Int) < (h_i h 0 7).toInt → h_r h 15 k = some (401 + k)
theorem menX_in {h : Hp_} (I : Iv h) : 0 ≤ (h_i h 0 7).toInt ∧ (h_i h 0 7).toInt ≤ 12 := by
  have rg := I.2.1 0 7
  rw [show tf 0 7 = (0, 12) by decide +kernel] at rg
  exact ⟨rg.1, rg.2⟩
theorem Mrw.cn {h : Hp_} (I : Iv h) (m : Mrw h) {x1 : Int32} (y : isM h x1) : Cn h (401 + x1.toNatClampNeg) := by
  have b := menX_in I
  have y1 := y.1
  have y2 := y.2
  have n := n_nat y.1
  have r := m x1.toNatClampNeg (by omega)
  rcases I.2.2.1 x1.toNatClampNeg with q | ⟨c, q, hc⟩
  · rw [r] at q
    cases q
  · rw [r] at q
    rw [Option.some.inj q]
    exact hc
theorem c_mo (d : Nat) {h : Hp_} (I : Iv h) (m : Mrw h) (x1 : Int32) : Cr (m_X11_manOf (d + 1) 0 0) [.ref 0, .int x1] h (fun o h' => h' = h ∧ ((isM h x1 ∧ o = some (401 + x1.toNatClampNeg)) ∨ (¬ isM h x1 ∧ o = none))) := by
  have t0 : (0 : Int32).toInt = 0 := rfl
  have t1 : (1 : Int32).toInt = 1 := rfl
  have b := menX_in I
  have s1 : (h_i h 0 7 - 1).toInt = (h_i h 0 7).toInt - 1 := by rw [tx_sub (by rw [t1]; omega) (by rw [t1]; omega), t1]
  refine t_X11_manOf d h I.1 x1 _ ⟨fun n => ⟨rfl, Or.inr ⟨fun y => n ⟨q_le.mpr (by have := y.1; omega), q_le.mpr (by have := y.2; omega)⟩, rfl⟩⟩, fun y => ?_⟩
  have y1 := q_le.mp y.1
  have y2 := q_le.mp y.2
  have n1 := n_nat (x := x1) (by omega)
  have ym : isM h x1 := ⟨by omega, by omega⟩
  have r := m x1.toNatClampNeg (by omega)
  have hc := m.cn I ym
  refine ⟨dp_in (lo := 0) (hi := 11) ⟨by show (0 : Int) ≤ _; omega, by show _ ≤ (11 : Int); omega⟩ (by decide) (by decide), fun e => ?_, fun b5 e => ?_⟩
  · rw [r] at e
    cases e
  · rw [r] at e
    have e := Option.some.inj e
    subst e
    exact ⟨hc.2.2, by omega, rfl, Or.inl ⟨ym, rfl⟩⟩
def fDw (n : Int32) (w : Int32 → Int32 → Int32) (x2 x3 : Int32) (M : Nat → Int32) : (Nat → Int32) × List Ev2 := ((if (fDp 3 M).1 6 = -1 then fDr n w (up1 (up1 (up1 (up1 (fDp 3 M).1 4 3) 13 x2) 14 x3) 7 (-1)) else up1 (up1 (up1 (fDp 3 M).1 4 3) 13 x2) 14 x3), (fDp 3 M).2)
def okDw (h : Hp_) (M : Nat → Int32) (x2 x3 : Int32) : Prop := (0 ≤ x2 ∧ x2 < 16) ∧ ((h_i h 0 0) ≤ x3 ∧ x3 ≤ 30000) ∧ ¬ wI h (M 3) x2 = -1 ∧ ¬ M 4 = 3 ∧ ¬ M 4 = 4
def fIl (M : Nat → Int32) : (Nat → Int32) × List Ev2 := (up1 (up1 (up1 (up1 (fDp 4 M).1 4 4) 6 (-1)) 7 (-1)) 5 (M 3), (fDp 4 M).2)
section MEN
variable {β : Type} {PB : β → Hp_ → Prop} {tB : Int32 → Int32 → β → β} {lB : Nat → Hp_ → β → β}
theorem c_dw (P : PBok PB tB lB) (d : Nat) {h : Hp_} (I : Iv h) (m : Mrw h) {b : β} (B : PB b h) (x1 x2 x3 : Int32) (R : isM h x1 → h_i h (401 + x1.toNatClampNeg) 4 = 1 → Rok h (h_i h (401 + x1.toNatClampNeg)) 0) : Ci (m_X11_draw (d + 5) 0 0) [.ref 0, .int x1, .int x2, .int x3] h (fun r h' => ((isM h x1 ∧ okDw h (h_i h (401 + x1.toNatClampNeg)) x2 x3) → r = 1 ∧ Sxm PB (401 + x1.toNatClampNeg) (h_i h 0 0) (fDw (h_i h 0 0) (wI h) x2 x3 (h_i h (401 + x1.toNatClampNeg))).1 (h_i h (401 + x1.toNatClampNeg) 11).toNatClampNeg (fDw (h_i h 0 0) (wI h) x2 x3 (h_i h (401 + x1.toNatClampNeg))).2 (fB tB (h_i h 0 0) (fDw (h_i h 0 0) (wI h) x2 x3 (h_i h (401 + x1.toNatClampNeg))).1 b) h h') ∧ (¬ (isM h x1 ∧ okDw h (h_i h (401 + x1.toNatClampNeg)) x2 x3) → r = 0 ∧ h' = h)) := by
  refine t_X11_draw d h I.1 x1 x2 x3 _ (Cr.mono (c_mo d I m x1) (fun o h1 q => ?_))
  obtain ⟨eh, q⟩ := q
  subst eh
  refine ⟨I.1, fun e => ?_, fun b4 e => ?_⟩
  · rcases q with q | q
    · rw [e] at q
      cases q.2
    · exact ⟨fun y => absurd y.1 q.1, fun _ => ⟨rfl, rfl⟩⟩
  · have ym : isM h1 x1 := by
      rcases q with q | q
      · exact q.1
      · rw [e] at q
        cases q.2
    have eb : b4 = 401 + x1.toNatClampNeg := by
      rcases q with q | q
      · exact Option.some.inj (e.symm.trans q.2)
      · exact absurd ym q.1
    subst eb
    have hc := m.cn I ym
    have R := R ym
    generalize 401 + x1.toNatClampNeg = c at *
    have c1 := hc.1
    refine ⟨hc.2.2, by omega, Ci.mono (s_X11_isPlace _ h1 x2) (fun r8 h8 k => ?_)⟩
    obtain ⟨er, eh⟩ := k
    subst er eh
    refine ⟨I.1, hc.2.2, fun z => ⟨fun y => absurd y.2.1 (bI_0.mp z), fun _ => ⟨rfl, rfl⟩⟩, fun z => ⟨fun yt => Ci.mono (c_mn d I (h_i h8 c 3) x2) (fun r16 h16 k => ?_), fun nt => ⟨fun y => absurd y.2.2.1 nt, fun _ => ⟨rfl, rfl⟩⟩⟩⟩
    obtain ⟨eh, er⟩ := k
    subst eh er
    have yp : 0 ≤ x2 ∧ x2 < 16 := Decidable.byContradiction (fun n => z (bI_0.mpr n))
    refine ⟨I.1, hc.2.2, fun e1 => ⟨fun y => absurd e1 y.2.2.2.1, fun _ => ⟨rfl, rfl⟩⟩, fun n1 => ⟨fun e3 => ⟨fun y => absurd e3 y.2.2.2.2.1, fun _ => ⟨rfl, rfl⟩⟩, fun n3 => ⟨fun n4 => ?_, fun e4 => ⟨fun y => absurd e4 y.2.2.2.2.2, fun _ => ⟨rfl, rfl⟩⟩⟩⟩⟩
    have ok : isM h16 x1 ∧ okDw h16 (h_i h16 c) x2 x3 := ⟨ym, yp, yt, n1, n3, n4⟩
    refine Cv.mono (c_dp P d I hc B 3 R) (fun h23 s => ?_)
    have kk := s.2.1.k c1
    have ew := wI_eq s.2.1 c1
    have e6 : h_i h23 c 6 = (fDp 3 (h_i h16 c)).1 6 := by rw [s.2.2.1]
    refine ⟨s.1.1, (s.cn hc).2.2, fun n6 => ⟨fun _ => ⟨rfl, ?_⟩, fun y => absurd ok y⟩, fun y6 => ?_⟩
    · rw [e6] at n6
      have f : fDw (h_i h16 0 0) (wI h16) x2 x3 (h_i h16 c) = (up1 (up1 (up1 (fDp 3 (h_i h16 c)).1 4 3) 13 x2) 14 x3, (fDp 3 (h_i h16 c)).2) := by
        unfold fDw
        rw [if_neg n6]
      rw [f]
      have fb : fB tB (h_i h16 0 0) (up1 (up1 (up1 (fDp 3 (h_i h16 c)).1 4 3) 13 x2) 14 x3) b = b := by
        unfold fB
        rw [up1_ne (by decide), up1_ne (by decide), up1_at, if_neg (by decide)]
      show Sxm PB c (h_i h16 0 0) (up1 (up1 (up1 (fDp 3 (h_i h16 c)).1 4 3) 13 x2) 14 x3) _ _ (fB tB (h_i h16 0 0) (up1 (up1 (up1 (fDp 3 (h_i h16 c)).1 4 3) 13 x2) 14 x3) b) h16 _
      rw [fb]
      exact ((s.im P hc (by decide) 3).im P hc (by decide) x2).im P hc (by decide) x3
    · rw [e6] at y6
      have f : fDw (h_i h16 0 0) (wI h16) x2 x3 (h_i h16 c) = (fDr (h_i h16 0 0) (wI h16) (up1 (up1 (up1 (up1 (fDp 3 (h_i h16 c)).1 4 3) 13 x2) 14 x3) 7 (-1)), (fDp 3 (h_i h16 c)).2) := by
        unfold fDw
        rw [if_pos y6]
      rw [f]
      have s4 := (((s.im P hc (k := 4) (by decide) 3).im P hc (k := 13) (by decide) x2).im P hc (k := 14) (by decide) x3).im P hc (k := 7) (by decide) (-1)
      have k4 := s4.2.1.k c1
      have ew4 := wI_eq s4.2.1 c1
      have z := c_sd P d s4.1 (s4.cn hc) s4.2.2.2.2 ((h_i h16 c 11).toNatClampNeg + (fDp 3 (h_i h16 c)).2.length) (by rw [s4.2.2.1, up1_ne (by decide), up1_ne (by decide), up1_ne (by decide), up1_at])
      rw [k4.2.1, ew4, s4.2.2.1] at z
      refine Cv.mono z (fun h28 k => ⟨k.1.1, fun _ => ⟨rfl, ?_⟩, fun y => absurd ok y⟩)
      have q := s4.tr k rfl
      rw [List.append_nil] at q
      exact q
theorem c_il (P : PBok PB tB lB) (d : Nat) {h : Hp_} (I : Iv h) (m : Mrw h) {b : β} (B : PB b h) (x1 x2 : Int32) (b2 : x2 = 0 ∨ x2 = 1) (R : isM h x1 → h_i h (401 + x1.toNatClampNeg) 4 = 1 → Rok h (h_i h (401 + x1.toNatClampNeg)) 0) : Ci (m_X11_ill (d + 3) 0 0) [.ref 0, .int x1, .int x2] h (fun r h' => ((isM h x1 ∧ ¬ h_i h (401 + x1.toNatClampNeg) 4 = 4 ∧ x2 = 1) → r = 1 ∧ Sxm PB (401 + x1.toNatClampNeg) (h_i h 0 0) (fIl (h_i h (401 + x1.toNatClampNeg))).1 (h_i h (401 + x1.toNatClampNeg) 11).toNatClampNeg (fIl (h_i h (401 + x1.toNatClampNeg))).2 b h h') ∧ ((isM h x1 ∧ h_i h (401 + x1.toNatClampNeg) 4 = 4 ∧ x2 = 0) → r = 1 ∧ Sxm PB (401 + x1.toNatClampNeg) (h_i h 0 0) (fFree (h_i h (401 + x1.toNatClampNeg))) (h_i h (401 + x1.toNatClampNeg) 11).toNatClampNeg [] (tB (h_i h (401 + x1.toNatClampNeg) 0) (h_i h 0 0) b) h h') ∧ (¬ (isM h x1 ∧ ((¬ h_i h (401 + x1.toNatClampNeg) 4 = 4 ∧ x2 = 1) ∨ (h_i h (401 + x1.toNatClampNeg) 4 = 4 ∧ x2 = 0))) → r = 0 ∧ h' = h)) := by
  refine t_X11_ill d h I.1 x1 x2 _ (Cr.mono (c_mo d I m x1) (fun o h1 q => ?_))
  obtain ⟨eh, q⟩ := q
  subst eh
  refine ⟨I.1, fun e => ?_, fun b4 e => ?_⟩
  · rcases q with q | q
    · rw [e] at q
      cases q.2
    · exact ⟨fun y => absurd y.1 q.1, fun y => absurd y.1 q.1, fun _ => ⟨rfl, rfl⟩⟩
  · have ym : isM h1 x1 := by
      rcases q with q | q
      · exact q.1
      · rw [e] at q
        cases q.2
    have eb : b4 = 401 + x1.toNatClampNeg := by
      rcases q with q | q
      · exact Option.some.inj (e.symm.trans q.2)
      · exact absurd ym q.1
    subst eb
    have hc := m.cn I ym
    have R := R ym
    generalize 401 + x1.toNatClampNeg = c at *
    have c1 := hc.1
    have z10 : ∀ {x : Int32}, x = 1 → ¬ x = 0 := fun e => by rw [e]; decide
    refine ⟨hc.2.2, by omega, fun n4 => ⟨fun nz => ⟨fun ez => absurd ez nz, fun _ => Cv.mono (c_dp P d I hc B 4 R) (fun h14 s => ?_)⟩, fun ez => ⟨fun y => absurd ez (z10 y.2.2), fun y => absurd y.2.1 n4, fun _ => ⟨rfl, rfl⟩⟩⟩, fun y4 => ⟨fun n1 => ⟨fun ez => Cv.mono (c_sf P d I hc B (h_i h1 c 11).toNatClampNeg) (fun h23 k => ⟨k.1.1, fun y => absurd y4 y.2.1, fun _ => ⟨rfl, k⟩, fun y => absurd ⟨ym, Or.inr ⟨y4, ez⟩⟩ y⟩), fun nz => ?_⟩, fun e1 => ⟨fun y => absurd y4 y.2.1, fun y => absurd y.2.2 (z10 e1), fun _ => ⟨rfl, rfl⟩⟩⟩⟩
    · have e1 : x2 = 1 := b2.elim (fun e => absurd e nz) id
      have s3 := ((s.im P hc (k := 4) (by decide) 4).im P hc (k := 6) (by decide) (-1)).im P hc (k := 7) (by decide) (-1)
      have e3 : h_i h14 c 3 = h_i h1 c 3 := by rw [s.2.2.1]; exact fDp_k (by decide) (by decide) (by decide)
      rw [e3]
      refine ⟨s.1.1, (s.cn hc).2.2, Cv.mono (c_put P d s3.1 (s3.cn hc) s3.2.2.2.2 (h_i h1 c 3)) (fun h18 k6 => ⟨k6.1.1, fun _ => ⟨rfl, ?_⟩, fun y => absurd y.2.1 n4, fun y => absurd ⟨ym, Or.inl ⟨n4, e1⟩⟩ y⟩)⟩
      exact ⟨k6.1, s3.2.1.tr k6.2.1, by rw [k6.2.2.1, s3.2.2.1]; rfl, ⟨by rw [k6.2.2.2.1 51 (by omega)]; exact s3.2.2.2.1.1, by rw [k6.2.2.2.1 52 (by omega)]; exact s3.2.2.2.1.2.1, by rw [k6.2.2.2.1 53 (by omega)]; exact s3.2.2.2.1.2.2⟩, k6.2.2.2.2⟩
    · exact absurd (b2.elim (fun e => absurd e nz) id) n1
/-- begin: the rows of the beat's points, then its steps -/
def fBg (n : Int32) (w : Int32 → Int32 → Int32) (b0 : Int32) (r r' : Nat) (L : List Sp3) (M : Nat → Int32) : (Nat → Int32) × List Ev2 := fSt n w L (up1 (up1 (up1 (up1 (up1 (up1 M 4 1) 8 b0) 9 0) 10 n) 11 (Int32.ofNat r)) 12 (Int32.ofNat r'))
def Bxm (PB : β → Hp_ → Prop) (c : Nat) (m n : Int32) (M' : Nat → Int32) (r : Nat) (Q E : List Ev2) (b' : β) (h h' : Hp_) : Prop := Iv h' ∧ Gw c (wwR ++ wgM) h h' ∧ h_i h' c = M' ∧ (h_i h' 47 = rz (fun _ => m) r Q (h_i h 47) ∧ h_i h' 48 = rz Prod.fst r Q (h_i h 48) ∧ h_i h' 49 = rz (fun e => n + e.2) r Q (h_i h 49) ∧ h_i h' 50 = rz (fun _ => n) r Q (h_i h 50)) ∧ h_i h' 16 7 = Int32.ofNat (r + Q.length) ∧ (h_i h' 51 = rz Prod.fst r E (h_i h 51) ∧ h_i h' 52 = rz (fun _ => n) r E (h_i h 52) ∧ h_i h' 53 = rz Prod.snd r E (h_i h 53)) ∧ PB b' h'
theorem Gw.mo {c : Nat} {a b : List Nat} {h h' : Hp_} (g : Gw c a h h') (s : wsub a b = true) : Gw c b h h' := ⟨g.1, fun x k o => g.2 x k (inw_sub s o)⟩
theorem c_bg (P : PBok PB tB lB) (d : Nat) {h : Hp_} (I : Iv h) (m : Mrw h) {b : β} (B : PB b h) (x1 x2 : Int32) (n0 : isM h x1 → h_i h (401 + x1.toNatClampNeg) 0 = x1) (L : List Sp3) (S : (0 ≤ x2.toInt ∧ x2.toInt < (h_i h 12 3).toInt) → Stb h x2 0 L ∧ h_i h 35 x2.toNatClampNeg = Int32.ofNat L.length ∧ (h_i h 36 x2.toNatClampNeg).toInt = (mts L : Int)) : Ci (m_X11_begin (d + 6) 0 0) [.ref 0, .int x1, .int x2] h (fun r h' => ((isM h x1 ∧ (0 ≤ x2.toInt ∧ x2.toInt < (h_i h 12 3).toInt) ∧ h_i h (401 + x1.toNatClampNeg) 4 = 0 ∧ (h_i h 16 7).toInt + (mts L : Int) ≤ 400) → r = 1 ∧ Bxm PB (401 + x1.toNatClampNeg) x1 (h_i h 0 0) (fBg (h_i h 0 0) (wI h) x2 (h_i h 16 7).toNatClampNeg ((h_i h 16 7).toNatClampNeg + mts L) L (h_i h (401 + x1.toNatClampNeg))).1 (h_i h 16 7).toNatClampNeg (ptL L) (fBg (h_i h 0 0) (wI h) x2 (h_i h 16 7).toNatClampNeg ((h_i h 16 7).toNatClampNeg + mts L) L (h_i h (401 + x1.toNatClampNeg))).2 (fB tB (h_i h 0 0) (fBg (h_i h 0 0) (wI h) x2 (h_i h 16 7).toNatClampNeg ((h_i h 16 7).toNatClampNeg + mts L) L (h_i h (401 + x1.toNatClampNeg))).1 b) h h') ∧ (¬ (isM h x1 ∧ (0 ≤ x2.toInt ∧ x2.toInt < (h_i h 12 3).toInt) ∧ h_i h (401 + x1.toNatClampNeg) 4 = 0 ∧ (h_i h 16 7).toInt + (mts L : Int) ≤ 400) → r = 0 ∧ h' = h)) := by
  have t0 : (0 : Int32).toInt = 0 := rfl
  have t400 : (400 : Int32).toInt = 400 := rfl
  have b3 := x12_in I
  have r4 := rowX_in I
  refine t_X11_begin d h I.1 x1 x2 _ (Cr.mono (c_mo d I m x1) (fun o h1 q => ?_))
  obtain ⟨eh, q⟩ := q
  subst eh
  refine ⟨I.1, fun e => ?_, fun b4 e => ?_⟩
  · rcases q with q | q
    · rw [e] at q
      cases q.2
    · exact ⟨fun y => absurd y.1 q.1, fun _ => ⟨rfl, rfl⟩⟩
  · have ym : isM h1 x1 := by
      rcases q with q | q
      · exact q.1
      · rw [e] at q
        cases q.2
    have eb : b4 = 401 + x1.toNatClampNeg := by
      rcases q with q | q
      · exact Option.some.inj (e.symm.trans q.2)
      · exact absurd ym q.1
    subst eb
    have hc := m.cn I ym
    have n0 := n0 ym
    generalize 401 + x1.toNatClampNeg = c at *
    have c1 := hc.1
    refine ⟨hc.2.2, by omega, Ci.mono (c_has d I x2) (fun r10 h8 k => ?_)⟩
    obtain ⟨eh, k⟩ := k
    subst eh
    have hb : (¬ x2 < 0 ∧ ¬ h_i h8 12 3 ≤ x2) ↔ (0 ≤ x2.toInt ∧ x2.toInt < (h_i h8 12 3).toInt) := ⟨fun y => ⟨by have := q_nlt y.1; omega, by have := q_nle y.2; omega⟩, fun y => ⟨fun z => by have := q_lt.mp z; omega, fun z => by have := q_le.mp z; omega⟩⟩
    rw [hb] at k
    refine ⟨I.1, hc.2.2, fun e0 => ⟨fun y => ?_, fun _ => ⟨rfl, rfl⟩⟩, fun ne => ⟨fun nf => ⟨fun y => absurd y.2.2.1 nf, fun _ => ⟨rfl, rfl⟩⟩, fun yf => ?_⟩⟩
    · rcases k with k | k
      · rw [e0] at k
        exact absurd k.1 (by decide)
      · exact absurd y.2.1 k.2
    · have yb : 0 ≤ x2.toInt ∧ x2.toInt < (h_i h8 12 3).toInt := by
        rcases k with k | k
        · exact k.2
        · exact absurd k.1 ne
      obtain ⟨S, e35, e36⟩ := S yb
      have n2 := n_nat yb.1
      have ll : 0 + L.length ≤ 150 := S.2.1
      have ml := mts_l L
      have v2 : vp_in x2 12 := dp_in (lo := 0) (hi := 11) ⟨yb.1, by show _ ≤ (11 : Int); omega⟩ (by decide) (by decide)
      refine t_X0_pointsOf d h8 I.1 x2 _ (Ci.mono (c_has d I x2) (fun r3 h3 k3 => ?_))
      obtain ⟨eh, k3⟩ := k3
      subst eh
      rw [hb] at k3
      refine ⟨I.1, fun z => ?_, fun _ => ⟨v2, I.1, hc.2.2, ?_⟩⟩
      · rcases k3 with k3 | k3
        · rw [z] at k3
          exact absurd k3.1 (by decide)
        · exact absurd yb k3.2
      · have sm : (h_i h3 16 7 + h_i h3 36 x2.toNatClampNeg).toInt = (h_i h3 16 7).toInt + (mts L : Int) := by rw [tx_add (by omega) (by omega), e36]
        refine t_X7_hasRoom d h3 I.1 _ _ ⟨fun l => ⟨I.1, hc.2.2, fun n => absurd rfl n, fun _ => ⟨fun y => ?_, fun _ => ⟨rfl, rfl⟩⟩⟩, fun l => ⟨I.1, hc.2.2, fun _ => ?_, fun e => absurd e (by decide)⟩⟩
        · have l := q_lt.mp l
          have := y.2.2.2
          omega
        · have l := q_nlt l
          have lr : (h_i h3 16 7).toInt + (mts L : Int) ≤ 400 := by omega
          have ok : isM h3 x1 ∧ (0 ≤ x2.toInt ∧ x2.toInt < (h_i h3 12 3).toInt) ∧ h_i h3 c 4 = 0 ∧ (h_i h3 16 7).toInt + (mts L : Int) ≤ 400 := ⟨ym, yb, yf, lr⟩
          have s5 := (((((Sxm.rf (PB := PB) (c := c) (n := h_i h3 0 0) (r := 0) I B).im P hc (k := 4) (by decide) 1).im P hc (k := 8) (by decide) x2).im P hc (k := 9) (by decide) 0).im P hc (k := 10) (by decide) (h_i h3 0 0)).im P hc (k := 11) (by decide) (h_i h3 16 7)
          have k5 := s5.2.1.k c1
          have hc5 := s5.cn hc
          have o5 : ∀ a, a ≠ c → h_i (h_im (h_im (h_im (h_im (h_im h3 c 4 1) c 8 x2) c 9 0) c 10 (h_i h3 0 0)) c 11 (h_i h3 16 7)) a = h_i h3 a := fun a n => by rw [im_oth n, im_oth n, im_oth n, im_oth n, im_oth n]
          generalize hg : h_im (h_im (h_im (h_im (h_im h3 c 4 1) c 8 x2) c 9 0) c 10 (h_i h3 0 0)) c 11 (h_i h3 16 7) = g at *
          have ec := s5.2.2.1
          have g8 : h_i g c 8 = x2 := by rw [ec, up1_ne (by decide), up1_ne (by decide), up1_ne (by decide), up1_at]
          have g0 : h_i g c 0 = x1 := by rw [ec, up1_ne (by decide), up1_ne (by decide), up1_ne (by decide), up1_ne (by decide), up1_ne (by decide)]; exact n0
          have Sg : Stb g (h_i g c 8) 0 L := by rw [g8]; exact S.cg (fun k => by rw [o5 34 (by omega)])
          have hbg : Ci (m_X0_has (d + 0) 0 0) [.ref 12, .int x2] g (fun r h' => h' = g ∧ ((r = 1 ∧ (¬ x2 < 0 ∧ ¬ h_i g 12 3 ≤ x2)) ∨ (r = 0 ∧ ¬ (¬ x2 < 0 ∧ ¬ h_i g 12 3 ≤ x2)))) := c_has d s5.1 x2
          have g12 : h_i g 12 3 = h_i h3 12 3 := by rw [o5 12 (by omega)]
          have g35 : h_i g 35 x2.toNatClampNeg = Int32.ofNat L.length := by rw [o5 35 (by omega)]; exact e35
          rw [g12] at hbg
          have Wr := wr_lp P d L (h := g) (b := b) 0 (Int32.ofNat L.length) s5.1 hc5 s5.2.2.2.2 Sg (by rw [Nat.zero_add]) (by rw [k5.2.2.2.1]; exact lr)
          rw [g0, k5.2.1, k5.2.2.2.1] at Wr
          have Cw1 : Cv (m_X11_writeRows (d + 2) 0 0) [.ref 0, .ref c] g (fun h' => Wx PB x1 (h_i h3 0 0) (h_i h3 16 7).toNatClampNeg (ptL L) b g h') := by
            refine t_X11_writeRows d g s5.1.1 c hc5.2.2 (by omega) _ ?_
            rw [g8]
            refine t_X0_stepsOf d g s5.1.1 _ _ (Ci.mono hbg (fun r3 h' q => ?_))
            obtain ⟨e, q⟩ := q
            subst e
            rw [hb] at q
            refine ⟨s5.1.1, fun z => ?_, fun _ => ⟨v2, s5.1.1, hc5.2.2, ?_⟩⟩
            · rcases q with q | q
              · rw [z] at q
                exact absurd q.1 (by decide)
              · exact absurd yb q.2
            · rw [g35]
              exact Wr
          refine Cv.mono Cw1 (fun h23 w => ?_)
          obtain ⟨Iw, Fw, w47, w48, w49, w50, w16, Bw⟩ := w
          have hcw : Cn h23 c := hc5.of Fw.1
          have oc : ∀ a, a ≠ 16 → a ≠ 47 → a ≠ 48 → a ≠ 49 → a ≠ 50 → (∀ k, inw wwR a k = false) → h_i h23 a = h_i g a := fun a _ _ _ _ _ o => funext (fun k => (Fw.2 a k (o k)).1)
          have icn : ∀ k, inw wwR c k = false := fun k => by
            have e : cn c = cn 401 := by
              have q := cn_man (j := c - 401) (by have := hc.2.1; omega)
              rw [show 401 + (c - 401) = c by omega] at q
              rw [q]
              decide
            rw [inw_ce e]
            exact off_inw (by decide +kernel) k
          have hcc : h_i h23 c = h_i g c := funext (fun k => (Fw.2 c k (icn k)).1)
          rw [w16]
          have s6 : Sxm PB c (h_i h3 0 0) (up1 (h_i h23 c) 12 (Int32.ofNat ((h_i h3 16 7).toNatClampNeg + (ptL L).length))) 0 [] b h23 (h_im h23 c 12 (Int32.ofNat ((h_i h3 16 7).toNatClampNeg + (ptL L).length))) := (Sxm.rf Iw Bw).im P hcw (by decide) _
          have k6 := s6.2.1.k c1
          have f34 : ∀ k, h_i h23 34 k = h_i h3 34 k := fun k => by rw [(Fw.2 34 k (off_inw (by decide +kernel) k)).1, o5 34 (by omega)]
          have f0 : h_i h23 0 0 = h_i h3 0 0 := by rw [(Fw.2 0 0 (by decide +kernel)).1, o5 0 (by omega)]
          have f12 : h_i h23 12 3 = h_i h3 12 3 := by rw [(Fw.2 12 3 (by decide +kernel)).1, o5 12 (by omega)]
          have f35 : ∀ k, h_i h23 35 k = h_i h3 35 k := fun k => by rw [(Fw.2 35 k (off_inw (by decide +kernel) k)).1, o5 35 (by omega)]
          have fw : wI h23 = wI h3 := by
            funext p q
            unfold wI
            rw [(Fw.2 30 _ (off_inw (by decide +kernel) _)).1, o5 30 (by omega)]
          have hM : up1 (h_i h23 c) 12 (Int32.ofNat ((h_i h3 16 7).toNatClampNeg + (ptL L).length)) = up1 (up1 (up1 (up1 (up1 (up1 (h_i h3 c) 4 1) 8 x2) 9 0) 10 (h_i h3 0 0)) 11 (Int32.ofNat (h_i h3 16 7).toNatClampNeg)) 12 (Int32.ofNat ((h_i h3 16 7).toNatClampNeg + mts L)) := by rw [hcc, ec, ptL_l, of_nat32 r4.1]
          have f16 : h_i h23 16 7 = Int32.ofNat ((h_i h3 16 7).toNatClampNeg + mts L) := by rw [w16, ptL_l]
          have nr := n_nat r4.1
          have gM : h_i (h_im h23 c 12 (Int32.ofNat ((h_i h3 16 7).toNatClampNeg + (ptL L).length))) c = up1 (up1 (up1 (up1 (up1 (up1 (h_i h3 c) 4 1) 8 x2) 9 0) 10 (h_i h3 0 0)) 11 (Int32.ofNat (h_i h3 16 7).toNatClampNeg)) 12 (Int32.ofNat ((h_i h3 16 7).toNatClampNeg + mts L)) := s6.2.2.1.trans hM
          have z := c_ds P d s6.1 (s6.cn hcw) s6.2.2.2.2 L 0 (by rw [gM]; exact S.cg (fun k => (k6.2.2.2.2.2.1 k).trans (f34 k))) (by rw [gM]; rfl) (by rw [gM, k6.2.2.2.2.1, f12]; exact yb.2) (by rw [gM, k6.2.2.2.2.2.2, f35, Nat.zero_add]; exact e35) (by
            rw [gM]
            refine ⟨?_, ?_, ?_⟩
            · show 0 ≤ (Int32.ofNat (h_i h3 16 7).toNatClampNeg).toInt
              rw [on_j (by omega)]
              omega
            · show (Int32.ofNat (h_i h3 16 7).toNatClampNeg).toInt + (mts L : Int) ≤ (Int32.ofNat ((h_i h3 16 7).toNatClampNeg + mts L)).toInt
              rw [on_j (by omega), on_j (by omega)]
              omega
            · show (Int32.ofNat ((h_i h3 16 7).toNatClampNeg + mts L)).toInt ≤ _
              rw [k6.2.2.2.1, f16]
              exact Int.le_refl _) (by rw [gM]; rfl)
          rw [k6.2.1, f0, wI_eq s6.2.1 c1, fw, gM] at z
          refine ⟨Iw.1, hcw.2.2, Cv.mono z (fun h27 k => ⟨k.1.1, fun _ => ⟨rfl, ?_⟩, fun y => absurd ok y⟩)⟩
          have e11 : (up1 (up1 (up1 (up1 (up1 (up1 (h_i h3 c) 4 1) 8 x2) 9 0) 10 (h_i h3 0 0)) 11 (Int32.ofNat (h_i h3 16 7).toNatClampNeg)) 12 (Int32.ofNat ((h_i h3 16 7).toNatClampNeg + mts L)) 11).toNatClampNeg = (h_i h3 16 7).toNatClampNeg := by
            rw [up1_ne (by decide), up1_at, of_nat32 r4.1]
          rw [e11] at k
          have G : Gw c (wwR ++ wgM) h3 h27 := (((s5.2.1.mo (by decide +kernel)).tr ((Gw.fr (c := c) Fw).mo (by decide +kernel))).tr (s6.2.1.mo (by decide +kernel))).tr (k.2.1.mo (by decide +kernel))
          have p : ∀ a, a ≠ c → inw wgM a 0 = false → (∀ k, inw wgM a k = false) → h_i h27 a = h_i h23 a := fun a n _ o => funext (fun i => by rw [k.2.1.i a i n (o i), im_ne n])
          refine ⟨k.1, G, k.2.2.1, ⟨?_, ?_, ?_, ?_⟩, ?_, ⟨?_, ?_, ?_⟩, k.2.2.2.2⟩
          · rw [p 47 (by omega) (by decide +kernel) (fun k => off_inw (by decide +kernel) k), w47, o5 47 (by omega)]
          · rw [p 48 (by omega) (by decide +kernel) (fun k => off_inw (by decide +kernel) k), w48, o5 48 (by omega)]
          · rw [p 49 (by omega) (by decide +kernel) (fun k => off_inw (by decide +kernel) k), w49, o5 49 (by omega)]
          · rw [p 50 (by omega) (by decide +kernel) (fun k => off_inw (by decide +kernel) k), w50, o5 50 (by omega)]
          · rw [k.2.1.i 16 7 (by omega) (by decide +kernel), im_ne (by omega), w16]
          · rw [k.2.2.2.1.1, im_oth (by omega), show h_i h23 51 = h_i g 51 from funext (fun i => (Fw.2 51 i (off_inw (by decide +kernel) i)).1), o5 51 (by omega)]
            rfl
          · rw [k.2.2.2.1.2.1, im_oth (by omega), show h_i h23 52 = h_i g 52 from funext (fun i => (Fw.2 52 i (off_inw (by decide +kernel) i)).1), o5 52 (by omega)]
            rfl
          · rw [k.2.2.2.1.2.2, im_oth (by omega), show h_i h23 53 = h_i g 53 from funext (fun i => (Fw.2 53 i (off_inw (by decide +kernel) i)).1), o5 53 (by omega)]
            rfl
end MEN
/-! MEN, the reference: drop, draw, ill -/
theorem rq_1 (g : Ev2 → Option Int32) (r : Nat) (e : Ev2) (E : List Ev2) (f : Nat → Int32) : rq g r (e :: E) f = rq g (r + 1) E (rq g r [e] f) := rfl
theorem rq_o (g : Ev2 → Option Int32) : ∀ (E : List Ev2) (r : Nat) (f : Nat → Int32) (k : Nat), (k < r ∨ r + E.length ≤ k) → rq g r E f k = f k
  | [], _, _, _, _ => rfl
  | e :: E, r, f, k, hk => by
    have hk : k < r ∨ r + (E.length + 1) ≤ k := hk
    show rq g (r + 1) E (match g e with | some v => up1 f r v | none => f) k = f k
    rw [rq_o g E (r + 1) _ k (by omega)]
    cases g e with
    | none => rfl
    | some v => exact up1_ne (by omega)
theorem fDr_7 {n x : Int32} {w : Int32 → Int32 → Int32} {M : Nat → Int32} : fDr n w (up1 M 7 x) = fDr n w M := by
  have u5 : up1 M 7 x 5 = M 5 := up1_ne (by decide)
  have u13 : up1 M 7 x 13 = M 13 := up1_ne (by decide)
  have u14 : up1 M 7 x 14 = M 14 := up1_ne (by decide)
  unfold fDr
  rw [u5, u13, u14, sOut_7, fHome_7]
  have e : up1 (up1 M 7 x) 7 (M 14) = up1 M 7 (M 14) := funext (fun k => by
    by_cases a7 : k = 7
    · rw [a7, up1_at, up1_at]
    · rw [up1_ne a7, up1_ne a7, up1_ne a7])
  rw [e]
section MEN
variable {β : Type} {PM : β → Hp_ → Prop} {tB : Int32 → Int32 → β → β} {lM : Nat → Hp_ → β → β}
/-- what is dropped: rows r, r + 1 .. r + k, all of them open -/
def Dpm (PM : β → Hp_ → Prop) (j : Nat) (n cz : Int32) (r k : Nat) (b : β) (h h' : Hp_) : Prop := Iv h' ∧ Gmm j h h' ∧ (∀ a, a ∈ [206, 208, 209, 210, 211, 212, 214, 215, 217, 218, 219, 248] → h_i h' a j = h_i h a j) ∧ (h_i h' 241 = rq (gM n) r (List.replicate k (2, cz)) (h_i h 241) ∧ h_i h' 242 = rq (gS n) r (List.replicate k (2, cz)) (h_i h 242) ∧ h_i h' 243 = rq gC r (List.replicate k (2, cz)) (h_i h 243)) ∧ PM b h'
theorem md_lp (P : PMok PM tB lM) (d : Nat) {x1 : Int32} (hx : 0 ≤ x1.toInt ∧ x1.toInt ≤ 11) (cz : Int32) : ∀ (k : Nat) {h : Hp_} {b : β} (r : Nat), Iv h → PM b h → h_i h 216 x1.toNatClampNeg = Int32.ofNat r → h_i h 217 x1.toNatClampNeg = Int32.ofNat (r + k) → r + k ≤ 400 → (∀ i, r ≤ i → i < r + k → h_i h 241 i = -1 ∧ h_i h 242 i = -1) → AW (m_X12_drop (d + 1) 0 0) 0 0 0 [(0, .ref 1), (1, .int x1), (2, .int cz)] [] h (kV (fun h' => Dpm PM x1.toNatClampNeg (h_i h 1 0) cz r k b h h'))
  | 0, h, b, r, I, B, e16, e17, l, op => by
    have v := v12 hx
    have Tt := t_X12_drop_0 d h I.1 x1 cz
    rw [e16, e17] at Tt
    refine Tt _ ⟨v, v, fun _ => ⟨v, im213 I _ _ (by decide), (Gmm.rf _ _).imj (by decide +kernel), fun a ha => ?_, ⟨?_, ?_, ?_⟩, P.1 _ _ _ _ _ (Or.inl (by decide)) B⟩, fun n => absurd (q_le.mpr (Int.le_refl _)) n⟩
    · refine im_ne ?_
      simp only [List.mem_cons, List.not_mem_nil, or_false] at ha
      omega
    · rw [im_oth (by decide)]
      rfl
    · rw [im_oth (by decide)]
      rfl
    · rw [im_oth (by decide)]
      rfl
  | k + 1, h, b, r, I, B, e16, e17, l, op => by
    have v := v12 hx
    have Tt := t_X12_drop_0 d h I.1 x1 cz
    rw [e16, e17, on_k (by omega)] at Tt
    have o := op r (Nat.le_refl _) (by omega)
    rw [o.1, o.2] at Tt
    have vr : vp_in (Int32.ofNat r) 400 := on_in (by omega) (by decide)
    have I2 := i24 (i24 I 242 r (h_i h 1 0) (Or.inr (Or.inl rfl))) 243 r cz (Or.inr (Or.inr rfl))
    refine Tt _ ⟨v, v, fun y => ?_, fun _ => ⟨v, vr, fun n => absurd rfl n, fun _ => ⟨v, vr, fun n => absurd rfl n, fun _ => ⟨v, ?_⟩⟩⟩⟩
    · have y := q_le.mp y
      rw [on_j (by omega), on_j (by omega)] at y
      omega
    · have Tm := t_X12_miss d h I.1 (Int32.ofNat r) cz
      rw [on_k (by omega)] at Tm
      refine Tm _ ⟨vr, vr, I2.1, v, v, ?_⟩
      have g16 : h_i (h_im (h_im h 242 r (h_i h 1 0)) 243 r cz) 216 x1.toNatClampNeg = Int32.ofNat r := by rw [im_ne (by decide), im_ne (by decide)]; exact e16
      rw [g16, on_s (by omega)]
      have I3 : Iv (h_im (h_im (h_im h 242 r (h_i h 1 0)) 243 r cz) 216 x1.toNatClampNeg (Int32.ofNat (r + 1))) := im216 I2 _ _ (by rw [on_j (by omega)]; omega)
      have G3 : Gmm x1.toNatClampNeg h (h_im (h_im (h_im h 242 r (h_i h 1 0)) 243 r cz) 216 x1.toNatClampNeg (Int32.ofNat (r + 1))) := (((Gmm.rf _ _).imo (by decide +kernel) (by decide)).imo (by decide +kernel) (by decide)).imj (by decide +kernel)
      have B3 : PM b (h_im (h_im (h_im h 242 r (h_i h 1 0)) 243 r cz) 216 x1.toNatClampNeg (Int32.ofNat (r + 1))) := P.1 _ _ _ _ _ (Or.inl (by decide)) (P.1 _ _ _ _ _ (Or.inr (Or.inl (by decide))) (P.1 _ _ _ _ _ (Or.inr (Or.inl (by decide))) B))
      have q41 : h_i (h_im (h_im (h_im h 242 r (h_i h 1 0)) 243 r cz) 216 x1.toNatClampNeg (Int32.ofNat (r + 1))) 241 = h_i h 241 := by rw [im_oth (by decide), im_oth (by decide), im_oth (by decide)]
      have q42 : h_i (h_im (h_im (h_im h 242 r (h_i h 1 0)) 243 r cz) 216 x1.toNatClampNeg (Int32.ofNat (r + 1))) 242 = up1 (h_i h 242) r (h_i h 1 0) := by rw [im_oth (by decide), im_oth (by decide), im_row]
      have q43 : h_i (h_im (h_im (h_im h 242 r (h_i h 1 0)) 243 r cz) 216 x1.toNatClampNeg (Int32.ofNat (r + 1))) 243 = up1 (h_i h 243) r cz := by rw [im_oth (by decide), im_row, im_oth (by decide)]
      have q16 : h_i (h_im (h_im (h_im h 242 r (h_i h 1 0)) 243 r cz) 216 x1.toNatClampNeg (Int32.ofNat (r + 1))) 216 x1.toNatClampNeg = Int32.ofNat (r + 1) := im_at
      have qo : ∀ a, a ∈ [206, 208, 209, 210, 211, 212, 214, 215, 217, 218, 219, 248] → h_i (h_im (h_im (h_im h 242 r (h_i h 1 0)) 243 r cz) 216 x1.toNatClampNeg (Int32.ofNat (r + 1))) a x1.toNatClampNeg = h_i h a x1.toNatClampNeg := fun a ha => by
        simp only [List.mem_cons, List.not_mem_nil, or_false] at ha
        rw [im_ne (by omega), im_ne (by omega), im_ne (by omega)]
      have q0 : h_i (h_im (h_im (h_im h 242 r (h_i h 1 0)) 243 r cz) 216 x1.toNatClampNeg (Int32.ofNat (r + 1))) 1 0 = h_i h 1 0 := G3.k.2.1
      generalize h_im (h_im (h_im h 242 r (h_i h 1 0)) 243 r cz) 216 x1.toNatClampNeg (Int32.ofNat (r + 1)) = g at *
      have ih := md_lp P d hx cz k (h := g) (b := b) (r + 1) I3 B3 q16 (by rw [qo 217 (by decide), e17, show r + 1 + k = r + (k + 1) by omega]) (by omega) (fun i a c => by
        have z := op i (by omega) (by omega)
        rw [q41, q42, up1_ne (by omega)]
        exact z)
      rw [q0] at ih
      refine AW.mono ih (fun w h' z => ⟨z.1, z.2.1, G3.tr z.2.2.1, fun a ha => (z.2.2.2.1 a ha).trans (qo a ha), ⟨?_, ?_, ?_⟩, z.2.2.2.2.2⟩)
      · rw [z.2.2.2.2.1.1, q41]
        rfl
      · rw [z.2.2.2.2.1.2.1, q42]
        rfl
      · rw [z.2.2.2.2.1.2.2, q43]
        rfl
theorem cv_drop {d : Nat} {x1 x2 : Int32} {h : Hp_} {K : Hp_ → Prop} (k : AW (m_X12_drop (d + 1) 0 0) 0 0 0 [(0, .ref 1), (1, .int x1), (2, .int x2)] [] h (kV K)) : Cv (m_X12_drop (d + 1) 0 0) [.ref 1, .int x1, .int x2] h K := by
  refine Ct.of (fun _ _ _ => trivial) rfl (Nat.le_of_ble_eq_true rfl) ?_
  exact k
/-- a man whose beat may have been dropped: his state but for what he is about -/
def Dpx (PM : β → Hp_ → Prop) (j : Nat) (n cz : Int32) (M : Nat → Int32) (b : β) (h h' : Hp_) : Prop := Iv h' ∧ Gmm j h h' ∧ (h_i h' 209 j = M 5 ∧ h_i h' 210 j = M 6 ∧ h_i h' 211 j = M 7 ∧ h_i h' 206 j = M 3) ∧ (h_i h' 241 = rq (gM n) (M 11).toNatClampNeg (fDp cz M).2 (h_i h 241) ∧ h_i h' 242 = rq (gS n) (M 11).toNatClampNeg (fDp cz M).2 (h_i h 242) ∧ h_i h' 243 = rq gC (M 11).toNatClampNeg (fDp cz M).2 (h_i h 243)) ∧ PM b h'
/-- he is on a beat: his rows that are left are open -/
def Opn (h : Hp_) (M : Nat → Int32) : Prop := M 4 = 1 → 0 ≤ (M 11).toInt ∧ (M 11).toInt ≤ (M 12).toInt ∧ (M 12).toInt ≤ 400 ∧ ∀ i : Nat, (M 11).toInt ≤ (i : Int) → (i : Int) < (M 12).toInt → h_i h 241 i = -1 ∧ h_i h 242 i = -1
theorem m_dp (P : PMok PM tB lM) (d : Nat) {h : Hp_} (I : Iv h) {x1 : Int32} (hx : 0 ≤ x1.toInt ∧ x1.toInt ≤ 11) {M : Nat → Int32} (R : RMp x1.toNatClampNeg M h) {b : β} (B : PM b h) (e4 : M 4 = 1) (cz : Int32) (O : Opn h M) : Cv (m_X12_drop (d + 1) 0 0) [.ref 1, .int x1, .int cz] h (fun h' => Dpx PM x1.toNatClampNeg (h_i h 1 0) cz M b h h') := by
  obtain ⟨r0, r1, r2, op⟩ := O e4
  have q := R.2.1 e4
  have n1 := n_nat r0
  have n2 := n_nat (x := M 12) (by omega)
  have es : (M 12 - M 11).toInt = (M 12).toInt - (M 11).toInt := tx_sub (by omega) (by omega)
  have ns := n_nat (x := M 12 - M 11) (by omega)
  have z := md_lp P d hx cz (M 12 - M 11).toNatClampNeg (h := h) (b := b) (M 11).toNatClampNeg I B (by rw [q.2.2.2.1, of_nat32 r0]) (by rw [q.2.2.2.2, show (M 11).toNatClampNeg + (M 12 - M 11).toNatClampNeg = (M 12).toNatClampNeg by omega, of_nat32 (by omega)]) (by omega) (fun i a c => op i (by omega) (by omega))
  have f : (fDp cz M).2 = List.replicate (M 12 - M 11).toNatClampNeg (2, cz) := by
    unfold fDp
    rw [if_pos e4]
  refine cv_drop (AW.mono z (fun w h' k => ⟨k.1, k.2.1, k.2.2.1, ⟨by rw [k.2.2.2.1 209 (by decide)]; exact R.1.2.1, by rw [k.2.2.2.1 210 (by decide)]; exact R.1.2.2.1, by rw [k.2.2.2.1 211 (by decide)]; exact R.1.2.2.2, by rw [k.2.2.2.1 206 (by decide)]; exact R.2.2.2⟩, ?_, k.2.2.2.2.2⟩))
  rw [f]
  exact k.2.2.2.2.1
theorem dpx_no {h : Hp_} (I : Iv h) {j : Nat} {n cz : Int32} {M : Nat → Int32} (R : RMp j M h) {b : β} (B : PM b h) (n4 : ¬ M 4 = 1) : Dpx PM j n cz M b h h := by
  have f : (fDp cz M).2 = [] := by
    unfold fDp
    rw [if_neg n4]
  refine ⟨I, Gmm.rf _ _, ⟨R.1.2.1, R.1.2.2.1, R.1.2.2.2, R.2.2.2⟩, ?_, B⟩
  rw [f]
  exact ⟨rfl, rfl, rfl⟩
theorem Dpx.fr {j : Nat} {n cz : Int32} {M : Nat → Int32} {b : β} {h h1 h2 : Hp_} (P : PMok PM tB lM) (f : Fr [203999] h h1) (e : h_i h1 1 0 = h_i h 1 0) (D : Dpx PM j n cz M b h1 h2) : Dpx PM j n cz M b h h2 := by
  have g : Gmm j h h1 := (Gmm.rf _ _).fr f (by decide +kernel) (by decide +kernel)
  refine ⟨D.1, g.tr D.2.1, D.2.2.1, ⟨?_, ?_, ?_⟩, D.2.2.2.2⟩
  · rw [D.2.2.2.1.1, show h_i h1 241 = h_i h 241 from funext (fun k => fr_i f (by decide +kernel) k)]
  · rw [D.2.2.2.1.2.1, show h_i h1 242 = h_i h 242 from funext (fun k => fr_i f (by decide +kernel) k)]
  · rw [D.2.2.2.1.2.2, show h_i h1 243 = h_i h 243 from funext (fun k => fr_i f (by decide +kernel) k)]
def isN (h : Hp_) (x1 : Int32) : Prop := 0 ≤ x1.toInt ∧ x1.toInt < (h_i h 1 7).toInt
theorem menM_in {h : Hp_} (I : Iv h) : 0 ≤ (h_i h 1 7).toInt ∧ (h_i h 1 7).toInt ≤ 12 := by
  have rg := I.2.1 1 7
  rw [show tf 1 7 = (0, 12) by decide +kernel] at rg
  exact ⟨rg.1, rg.2⟩
theorem isN_q {h : Hp_} (I : Iv h) {x1 : Int32} : (0 ≤ x1 ∧ x1 ≤ h_i h 1 7 - 1) ↔ isN h x1 := by
  have t0 : (0 : Int32).toInt = 0 := rfl
  have t1 : (1 : Int32).toInt = 1 := rfl
  have b := menM_in I
  have s1 : (h_i h 1 7 - 1).toInt = (h_i h 1 7).toInt - 1 := by rw [tx_sub (by rw [t1]; omega) (by rw [t1]; omega), t1]
  exact ⟨fun y => ⟨by have := q_le.mp y.1; omega, by have := q_le.mp y.2; omega⟩, fun y => ⟨q_le.mpr (by have := y.1; omega), q_le.mpr (by have := y.2; omega)⟩⟩
/-- drawn: behind the dropping -/
theorem dw_end (P : PMok PM tB lM) {h g : Hp_} {x1 x2 x3 y8 : Int32} {M : Nat → Int32} {b : β} (hx : 0 ≤ x1.toInt ∧ x1.toInt ≤ 11) (p2 : 0 ≤ x2.toInt ∧ x2.toInt ≤ 15) (b8 : y8 = 0 ∨ y8 = 1) (D : Dpx PM x1.toNatClampNeg (h_i h 1 0) 3 M b h g) : Mx PM x1.toNatClampNeg (h_i h 1 0) (up1 (up1 (up1 (fDp 3 M).1 4 3) 13 x2) 14 x3) (M 11).toNatClampNeg (fDp 3 M).2 b h (h_im (h_im (h_im (h_im (h_im g 213 x1.toNatClampNeg (-1)) 208 x1.toNatClampNeg 3) 218 x1.toNatClampNeg x2) 219 x1.toNatClampNeg x3) 248 x1.toNatClampNeg (vp_nar .boolean y8)) := by
  obtain ⟨Ig, Gg, ⟨d9, d10, d11, d6⟩, rr, Bg⟩ := D
  have fk : ∀ k, k ≠ 11 → k ≠ 15 → k ≠ 16 → (fDp 3 M).1 k = M k := fun k a b c => fDp_k a b c
  have I5 := im248 ((tr_ 219 (by decide +kernel) ((im208 (im213 Ig x1.toNatClampNeg (-1) (by decide)) x1.toNatClampNeg 3).im (a := 218) (k := x1.toNatClampNeg) (x := x2) (by rw [tfa_tf (show tfa 218 = some (0, 15) by decide +kernel)]; exact ⟨p2.1, p2.2⟩) (jw_jr (by decide) (by decide) _)) x1.toNatClampNeg x3 (by decide) (by decide))) x1.toNatClampNeg y8 b8
  refine ⟨I5, ((((Gg.imj (by decide +kernel)).imj (by decide +kernel)).imj (by decide +kernel)).imj (by decide +kernel)).imj (by decide +kernel), ⟨⟨?_, ?_, ?_, ?_⟩, fun e => ?_, fun _ => ⟨?_, ?_⟩, ?_⟩, ⟨?_, ?_, ?_⟩, P.1 _ _ _ _ _ (Or.inr (Or.inr (Or.inl rfl))) (P.1 _ _ _ _ _ (Or.inl (by decide)) (P.1 _ _ _ _ _ (Or.inl (by decide)) (P.1 _ _ _ _ _ (Or.inl (by decide)) (P.1 _ _ _ _ _ (Or.inl (by decide)) Bg))))⟩
  · rw [im_ne (by decide), im_ne (by decide), im_ne (by decide), im_at, up1_ne (by decide), up1_ne (by decide), up1_at]
  · rw [im_ne (by decide), im_ne (by decide), im_ne (by decide), im_ne (by decide), im_ne (by decide), up1_ne (by decide), up1_ne (by decide), up1_ne (by decide), fk 5 (by decide) (by decide) (by decide)]
    exact d9
  · rw [im_ne (by decide), im_ne (by decide), im_ne (by decide), im_ne (by decide), im_ne (by decide), up1_ne (by decide), up1_ne (by decide), up1_ne (by decide), fk 6 (by decide) (by decide) (by decide)]
    exact d10
  · rw [im_ne (by decide), im_ne (by decide), im_ne (by decide), im_ne (by decide), im_ne (by decide), up1_ne (by decide), up1_ne (by decide), up1_ne (by decide), fk 7 (by decide) (by decide) (by decide)]
    exact d11
  · rw [up1_ne (by decide), up1_ne (by decide), up1_at] at e
    exact absurd e (by decide)
  · rw [im_ne (by decide), im_ne (by decide), im_at, up1_ne (by decide), up1_at]
  · rw [im_ne (by decide), im_at, up1_at]
  · rw [im_ne (by decide), im_ne (by decide), im_ne (by decide), im_ne (by decide), im_ne (by decide), up1_ne (by decide), up1_ne (by decide), up1_ne (by decide), fk 3 (by decide) (by decide) (by decide)]
    exact d6
  · rw [im_oth (by decide), im_oth (by decide), im_oth (by decide), im_oth (by decide), im_oth (by decide)]
    exact rr.1
  · rw [im_oth (by decide), im_oth (by decide), im_oth (by decide), im_oth (by decide), im_oth (by decide)]
    exact rr.2.1
  · rw [im_oth (by decide), im_oth (by decide), im_oth (by decide), im_oth (by decide), im_oth (by decide)]
    exact rr.2.2
/-- what draw does from there -/
theorem dw_go (P : PMok PM tB lM) (d : Nat) {h g : Hp_} {x1 x2 x3 : Int32} {M : Nat → Int32} {b : β} (X : ExP h) (hx : 0 ≤ x1.toInt ∧ x1.toInt ≤ 11) (n0 : M 0 = x1) (p2 : 0 ≤ x2.toInt ∧ x2.toInt ≤ 15) (p5 : M 6 = -1 → 0 ≤ (M 5).toInt) (nz : M 6 = -1 → ¬ wI h (M 5) x2 = -1) (z0 : wI h (M 5) x2 = 0 → M 5 = x2) (D : Dpx PM x1.toNatClampNeg (h_i h 1 0) 3 M b h g) (K : Hp_ → Prop) (hK : ∀ h', Mx PM x1.toNatClampNeg (h_i h 1 0) (fDw (h_i h 1 0) (wI h) x2 x3 M).1 (M 11).toNatClampNeg (fDw (h_i h 1 0) (wI h) x2 x3 M).2 (fB tB (h_i h 1 0) (fDw (h_i h 1 0) (wI h) x2 x3 M).1 b) h h' → K h') : (¬ (h_i g 210 x1.toNatClampNeg) = (-1) → K (h_im (h_im (h_im (h_im (h_im g 213 x1.toNatClampNeg (-1)) 208 x1.toNatClampNeg 3) 218 x1.toNatClampNeg x2) 219 x1.toNatClampNeg x3) 248 x1.toNatClampNeg (vp_nar .boolean 0))) ∧ ((h_i g 210 x1.toNatClampNeg) = (-1) → Cv (m_X12_goDrawn (d + 4) 0 0) [.ref 1, .int x1] (h_im (h_im (h_im (h_im (h_im g 213 x1.toNatClampNeg (-1)) 208 x1.toNatClampNeg 3) 218 x1.toNatClampNeg x2) 219 x1.toNatClampNeg x3) 248 x1.toNatClampNeg (vp_nar .boolean 1)) (fun h30 => Wf h30 ∧ (K h30))) := by
  have fk : ∀ k, k ≠ 11 → k ≠ 15 → k ≠ 16 → (fDp 3 M).1 k = M k := fun k a b c => fDp_k a b c
  have g10 : h_i g 210 x1.toNatClampNeg = M 6 := D.2.2.1.2.1
  rw [g10]
  refine ⟨fun n6 => hK _ ?_, fun y6 => ?_⟩
  · have f : fDw (h_i h 1 0) (wI h) x2 x3 M = (up1 (up1 (up1 (fDp 3 M).1 4 3) 13 x2) 14 x3, (fDp 3 M).2) := by
      unfold fDw
      rw [if_neg (by rw [fk 6 (by decide) (by decide) (by decide)]; exact n6)]
    have fb : fB tB (h_i h 1 0) (up1 (up1 (up1 (fDp 3 M).1 4 3) 13 x2) 14 x3) b = b := by
      unfold fB
      rw [up1_ne (by decide), up1_ne (by decide), up1_at, if_neg (by decide)]
    rw [f]
    show Mx PM x1.toNatClampNeg (h_i h 1 0) (up1 (up1 (up1 (fDp 3 M).1 4 3) 13 x2) 14 x3) (M 11).toNatClampNeg (fDp 3 M).2 (fB tB (h_i h 1 0) (up1 (up1 (up1 (fDp 3 M).1 4 3) 13 x2) 14 x3) b) h _
    rw [fb]
    exact dw_end P hx p2 (Or.inl rfl) D
  · have s := dw_end (y8 := 1) (x3 := x3) P hx p2 (Or.inr rfl) D
    have kk := s.2.1.k
    have f : fDw (h_i h 1 0) (wI h) x2 x3 M = (fDr (h_i h 1 0) (wI h) (up1 (up1 (up1 (up1 (fDp 3 M).1 4 3) 13 x2) 14 x3) 7 (-1)), (fDp 3 M).2) := by
      unfold fDw
      rw [if_pos (by rw [fk 6 (by decide) (by decide) (by decide)]; exact y6)]
    have fd7 : fDr (h_i h 1 0) (wI h) (up1 (up1 (up1 (up1 (fDp 3 M).1 4 3) 13 x2) 14 x3) 7 (-1)) = fDr (h_i h 1 0) (wI h) (up1 (up1 (up1 (fDp 3 M).1 4 3) 13 x2) 14 x3) := fDr_7
    rw [f, fd7] at hK
    generalize h_im (h_im (h_im (h_im (h_im g 213 x1.toNatClampNeg (-1)) 208 x1.toNatClampNeg 3) 218 x1.toNatClampNeg x2) 219 x1.toNatClampNeg x3) 248 x1.toNatClampNeg (vp_nar .boolean 1) = g5 at *
    have u5 : up1 (up1 (up1 (fDp 3 M).1 4 3) 13 x2) 14 x3 5 = M 5 := by rw [up1_ne (by decide), up1_ne (by decide), up1_ne (by decide)]; exact fk 5 (by decide) (by decide) (by decide)
    have u6 : up1 (up1 (up1 (fDp 3 M).1 4 3) 13 x2) 14 x3 6 = -1 := by rw [up1_ne (by decide), up1_ne (by decide), up1_ne (by decide), fk 6 (by decide) (by decide) (by decide)]; exact y6
    have u13 : up1 (up1 (up1 (fDp 3 M).1 4 3) 13 x2) 14 x3 13 = x2 := by rw [up1_ne (by decide), up1_at]
    have u0 : up1 (up1 (up1 (fDp 3 M).1 4 3) 13 x2) 14 x3 0 = x1 := by rw [up1_ne (by decide), up1_ne (by decide), up1_ne (by decide), fk 0 (by decide) (by decide) (by decide)]; exact n0
    have u4 : up1 (up1 (up1 (fDp 3 M).1 4 3) 13 x2) 14 x3 4 = 3 := by rw [up1_ne (by decide), up1_ne (by decide), up1_at]
    have z := m_gd P d s.1 (kk.2.2.2.2.2 X) hx s.2.2.1 s.2.2.2.2 (by rw [u5]; exact p5 y6) u6 u0 u4 (by rw [u5, u13, kk.1]; exact nz y6) (by rw [u5, u13, kk.1]; exact z0) ((M 11).toNatClampNeg + (fDp 3 M).2.length)
    rw [kk.2.1, kk.1] at z
    refine Cv.mono z (fun h' k => ⟨k.1.1, hK h' ?_⟩)
    have q := s.tr k rfl
    rw [List.append_nil] at q
    exact q
def DwP (PM : β → Hp_ → Prop) (tB : Int32 → Int32 → β → β) (x1 x2 x3 : Int32) (M : Nat → Int32) (b : β) (h : Hp_) (r : Int32) (h' : Hp_) : Prop := ((isN h x1 ∧ (0 ≤ x2 ∧ x2 ≤ 15) ∧ (h_i h 1 0 ≤ x3 ∧ x3 ≤ 30000) ∧ ¬ wI h (M 3) x2 = -1 ∧ ¬ M 4 = 3 ∧ ¬ M 4 = 4) → r = 1 ∧ Mx PM x1.toNatClampNeg (h_i h 1 0) (fDw (h_i h 1 0) (wI h) x2 x3 M).1 (M 11).toNatClampNeg (fDw (h_i h 1 0) (wI h) x2 x3 M).2 (fB tB (h_i h 1 0) (fDw (h_i h 1 0) (wI h) x2 x3 M).1 b) h h') ∧ (¬ (isN h x1 ∧ (0 ≤ x2 ∧ x2 ≤ 15) ∧ (h_i h 1 0 ≤ x3 ∧ x3 ≤ 30000) ∧ ¬ wI h (M 3) x2 = -1 ∧ ¬ M 4 = 3 ∧ ¬ M 4 = 4) → r = 0 ∧ Iv h' ∧ Fr [203999] h h')
theorem m_dw (P : PMok PM tB lM) (d : Nat) {h : Hp_} (I : Iv h) (X : ExP h) (x1 x2 x3 : Int32) {b : β} (B : PM b h) (M : Nat → Int32) (H : isN h x1 → RMp x1.toNatClampNeg M h ∧ M 0 = x1 ∧ (M 6 = -1 → 0 ≤ (M 5).toInt) ∧ Opn h M ∧ (∀ q, M 6 = -1 → ¬ wI h (M 3) q = -1 → ¬ wI h (M 5) q = -1)) : Ci (m_X12_draw (d + 5) 0 0) [.ref 1, .int x1, .int x2, .int x3] h (DwP PM tB x1 x2 x3 M b h) := by
  have t0 : (0 : Int32).toInt = 0 := rfl
  have t15 : (15 : Int32).toInt = 15 := rfl
  have bm := menM_in I
  refine t_X12_draw d h I.1 x1 x2 x3 _ ⟨fun n => ⟨fun y => absurd ((isN_q I).mpr y.1) n, fun _ => ⟨rfl, I, Fr.rf _ _⟩⟩, fun y1 => ⟨fun n => ⟨fun y => absurd y.2.1 n, fun _ => ⟨rfl, I, Fr.rf _ _⟩⟩, fun y2 => ⟨fun n => ⟨fun y => absurd y.2.2.1 n, fun _ => ⟨rfl, I, Fr.rf _ _⟩⟩, fun y3 => ?_⟩⟩⟩
  have ym := (isN_q I).mp y1
  obtain ⟨R, n0, p5, O, wt⟩ := H ym
  have hx : 0 ≤ x1.toInt ∧ x1.toInt ≤ 11 := ⟨ym.1, by have := ym.2; omega⟩
  have v := v12 hx
  have b6 := m206 I x1.toNatClampNeg
  have u1 := q_le.mp y2.1
  have u2 := q_le.mp y2.2
  have p2 : 0 ≤ x2.toInt ∧ x2.toInt ≤ 15 := ⟨by omega, by omega⟩
  rw [R.2.2.2] at b6
  have W := c_woI d I X (M 3) x2 ⟨b6.1, by omega⟩ ⟨p2.1, by omega⟩
  rw [R.2.2.2]
  refine ⟨v, Ci.mono W (fun r13 h11 k => ?_)⟩
  obtain ⟨I2, F2, er⟩ := k
  subst er
  have B2 : PM b h11 := P.2.1 b h h11 F2 B
  have f : ∀ a, off [203999] a = true → ∀ k, h_i h11 a k = h_i h a k := fun a o k => fr_i F2 o k
  have n2 : h_i h11 1 0 = h_i h 1 0 := (F2.2 1 0 (by decide +kernel)).1
  have R2 : RMp x1.toNatClampNeg M h11 := R.cg (fun a ha => by
    refine f a ?_ _
    simp only [mrL, List.mem_cons, List.not_mem_nil, or_false] at ha
    rcases ha with e | e | e | e | e | e | e | e | e | e | e | e | e | e <;> subst e <;> decide +kernel)
  have X2 : ExP h11 := X.fr F2 (by decide +kernel)
  have O2 : Opn h11 M := fun e => ⟨(O e).1, (O e).2.1, (O e).2.2.1, fun i a c => by
    rw [f 241 (by decide +kernel), f 242 (by decide +kernel)]
    exact (O e).2.2.2 i a c⟩
  have no : ∀ r : Int32, r = 0 → ¬ (isN h x1 ∧ (0 ≤ x2 ∧ x2 ≤ 15) ∧ (h_i h 1 0 ≤ x3 ∧ x3 ≤ 30000) ∧ ¬ wI h (M 3) x2 = -1 ∧ ¬ M 4 = 3 ∧ ¬ M 4 = 4) → (((isN h x1 ∧ (0 ≤ x2 ∧ x2 ≤ 15) ∧ (h_i h 1 0 ≤ x3 ∧ x3 ≤ 30000) ∧ ¬ wI h (M 3) x2 = -1 ∧ ¬ M 4 = 3 ∧ ¬ M 4 = 4) → r = 1 ∧ Mx PM x1.toNatClampNeg (h_i h 1 0) (fDw (h_i h 1 0) (wI h) x2 x3 M).1 (M 11).toNatClampNeg (fDw (h_i h 1 0) (wI h) x2 x3 M).2 (fB tB (h_i h 1 0) (fDw (h_i h 1 0) (wI h) x2 x3 M).1 b) h h11) ∧ (¬ (isN h x1 ∧ (0 ≤ x2 ∧ x2 ≤ 15) ∧ (h_i h 1 0 ≤ x3 ∧ x3 ≤ 30000) ∧ ¬ wI h (M 3) x2 = -1 ∧ ¬ M 4 = 3 ∧ ¬ M 4 = 4) → r = 0 ∧ Iv h11 ∧ Fr [203999] h h11)) := fun r e n => ⟨fun y => absurd y n, fun _ => ⟨e, I2, F2⟩⟩
  rw [R2.1.1]
  refine ⟨I2.1, fun e => no 0 rfl (fun y => y.2.2.2.1 e), fun n1 => ⟨v, fun e => no 0 rfl (fun y => y.2.2.2.2.1 e), fun n3 => ⟨v, fun n4 => ⟨v, fun n41 => ?_, fun y41 => ?_⟩, fun e => no 0 rfl (fun y => y.2.2.2.2.2 e)⟩⟩⟩
  · have ok : isN h x1 ∧ (0 ≤ x2 ∧ x2 ≤ 15) ∧ (h_i h 1 0 ≤ x3 ∧ x3 ≤ 30000) ∧ ¬ wI h (M 3) x2 = -1 ∧ ¬ M 4 = 3 ∧ ¬ M 4 = 4 := ⟨ym, y2, y3, n1, n3, n4⟩
    have D : Dpx PM x1.toNatClampNeg (h_i h 1 0) 3 M b h h11 := Dpx.fr P F2 n2 (dpx_no I2 R2 B2 n41)
    have G := fun K hK => dw_go P d (x3 := x3) X hx n0 p2 p5 (fun e => wt x2 e n1) (fun e => wI_z I X e) D K hK
    refine ⟨v, v, v, v, v, fun n6 => ⟨v, v, fun _ => (G (DwP PM tB x1 x2 x3 M b h 1) (fun h' k => ⟨fun _ => ⟨rfl, k⟩, fun y => absurd ok y⟩)).1 n6, fun e => absurd e n6⟩, fun y6 => ⟨v, v, fun n => absurd y6 n, fun _ => (G (DwP PM tB x1 x2 x3 M b h 1) (fun h' k => ⟨fun _ => ⟨rfl, k⟩, fun y => absurd ok y⟩)).2 y6⟩⟩
  · have ok : isN h x1 ∧ (0 ≤ x2 ∧ x2 ≤ 15) ∧ (h_i h 1 0 ≤ x3 ∧ x3 ≤ 30000) ∧ ¬ wI h (M 3) x2 = -1 ∧ ¬ M 4 = 3 ∧ ¬ M 4 = 4 := ⟨ym, y2, y3, n1, n3, n4⟩
    have z := m_dp P d I2 hx R2 B2 y41 3 O2
    rw [n2] at z
    refine Cv.mono z (fun h39 k => ?_)
    have D : Dpx PM x1.toNatClampNeg (h_i h 1 0) 3 M b h h39 := Dpx.fr P F2 n2 k
    have G := fun K hK => dw_go P d (x3 := x3) X hx n0 p2 p5 (fun e => wt x2 e n1) (fun e => wI_z I X e) D K hK
    refine ⟨k.1.1, v, v, v, v, v, fun n6 => ⟨v, v, fun _ => (G (DwP PM tB x1 x2 x3 M b h 1) (fun h' k => ⟨fun _ => ⟨rfl, k⟩, fun y => absurd ok y⟩)).1 n6, fun e => absurd e n6⟩, fun y6 => ⟨v, v, fun n => absurd y6 n, fun _ => (G (DwP PM tB x1 x2 x3 M b h 1) (fun h' k => ⟨fun _ => ⟨rfl, k⟩, fun y => absurd ok y⟩)).2 y6⟩⟩
theorem il_end (P : PMok PM tB lM) {h g : Hp_} {x1 : Int32} {M : Nat → Int32} {b : β} (D : Dpx PM x1.toNatClampNeg (h_i h 1 0) 4 M b h g) : Mx PM x1.toNatClampNeg (h_i h 1 0) (fIl M).1 (M 11).toNatClampNeg (fIl M).2 b h (h_im (h_im (h_im (h_im (h_im g 208 x1.toNatClampNeg 4) 209 x1.toNatClampNeg (h_i g 206 x1.toNatClampNeg)) 210 x1.toNatClampNeg (-1)) 211 x1.toNatClampNeg (-1)) 213 x1.toNatClampNeg (-1)) := by
  obtain ⟨Ig, Gg, ⟨d9, d10, d11, d6⟩, rr, Bg⟩ := D
  have b6 := m206 Ig x1.toNatClampNeg
  have I5 := im213 (im211 (im210 (im209 (im208 Ig x1.toNatClampNeg 4) x1.toNatClampNeg (h_i g 206 x1.toNatClampNeg) ⟨by omega, b6.2⟩) x1.toNatClampNeg (-1) (by decide)) x1.toNatClampNeg (-1)) x1.toNatClampNeg (-1) (by decide)
  have fe : (fIl M).2 = (fDp 4 M).2 := rfl
  have f4 : (fIl M).1 4 = 4 := by
    show up1 (up1 (up1 (up1 (fDp 4 M).1 4 4) 6 (-1)) 7 (-1)) 5 (M 3) 4 = 4
    rw [up1_ne (by decide), up1_ne (by decide), up1_ne (by decide), up1_at]
  have f5 : (fIl M).1 5 = M 3 := by
    show up1 (up1 (up1 (up1 (fDp 4 M).1 4 4) 6 (-1)) 7 (-1)) 5 (M 3) 5 = M 3
    rw [up1_at]
  have f6 : (fIl M).1 6 = -1 := by
    show up1 (up1 (up1 (up1 (fDp 4 M).1 4 4) 6 (-1)) 7 (-1)) 5 (M 3) 6 = -1
    rw [up1_ne (by decide), up1_ne (by decide), up1_at]
  have f7 : (fIl M).1 7 = -1 := by
    show up1 (up1 (up1 (up1 (fDp 4 M).1 4 4) 6 (-1)) 7 (-1)) 5 (M 3) 7 = -1
    rw [up1_ne (by decide), up1_at]
  have f3 : (fIl M).1 3 = M 3 := by
    show up1 (up1 (up1 (up1 (fDp 4 M).1 4 4) 6 (-1)) 7 (-1)) 5 (M 3) 3 = M 3
    rw [up1_ne (by decide), up1_ne (by decide), up1_ne (by decide), up1_ne (by decide), fDp_k (by decide) (by decide) (by decide)]
  refine ⟨I5, ((((Gg.imj (by decide +kernel)).imj (by decide +kernel)).imj (by decide +kernel)).imj (by decide +kernel)).imj (by decide +kernel), ⟨⟨?_, ?_, ?_, ?_⟩, fun e => ?_, fun e => ?_, ?_⟩, ⟨?_, ?_, ?_⟩, P.1 _ _ _ _ _ (Or.inl (by decide)) (P.1 _ _ _ _ _ (Or.inl (by decide)) (P.1 _ _ _ _ _ (Or.inl (by decide)) (P.1 _ _ _ _ _ (Or.inl (by decide)) (P.1 _ _ _ _ _ (Or.inl (by decide)) Bg))))⟩
  · rw [im_ne (by decide), im_ne (by decide), im_ne (by decide), im_ne (by decide), im_at, f4]
  · rw [im_ne (by decide), im_ne (by decide), im_ne (by decide), im_at, f5]
    exact d6
  · rw [im_ne (by decide), im_ne (by decide), im_at, f6]
  · rw [im_ne (by decide), im_at, f7]
  · rw [f4] at e
    exact absurd e (by decide)
  · rw [f4] at e
    exact absurd e (by decide)
  · rw [im_ne (by decide), im_ne (by decide), im_ne (by decide), im_ne (by decide), im_ne (by decide), f3]
    exact d6
  · rw [im_oth (by decide), im_oth (by decide), im_oth (by decide), im_oth (by decide), im_oth (by decide), fe]
    exact rr.1
  · rw [im_oth (by decide), im_oth (by decide), im_oth (by decide), im_oth (by decide), im_oth (by decide), fe]
    exact rr.2.1
  · rw [im_oth (by decide), im_oth (by decide), im_oth (by decide), im_oth (by decide), im_oth (by decide), fe]
    exact rr.2.2
theorem m_il (P : PMok PM tB lM) (d : Nat) {h : Hp_} (I : Iv h) (x1 x2 : Int32) (b2 : x2 = 0 ∨ x2 = 1) {b : β} (B : PM b h) (M : Nat → Int32) (H : isN h x1 → RMp x1.toNatClampNeg M h ∧ M 0 = x1 ∧ (M 4 = 4 → M 6 = -1 ∧ M 5 = M 3) ∧ Opn h M) : Ci (m_X12_ill (d + 2) 0 0) [.ref 1, .int x1, .int x2] h (fun r h' => ((isN h x1 ∧ ¬ M 4 = 4 ∧ x2 = 1) → r = 1 ∧ Mx PM x1.toNatClampNeg (h_i h 1 0) (fIl M).1 (M 11).toNatClampNeg (fIl M).2 b h h') ∧ ((isN h x1 ∧ M 4 = 4 ∧ x2 = 0) → r = 1 ∧ Mx PM x1.toNatClampNeg (h_i h 1 0) (fFree M) (M 11).toNatClampNeg [] (tB x1 (h_i h 1 0) b) h h') ∧ (¬ (isN h x1 ∧ ((¬ M 4 = 4 ∧ x2 = 1) ∨ (M 4 = 4 ∧ x2 = 0))) → r = 0 ∧ h' = h)) := by
  have bm := menM_in I
  have z10 : ∀ {x : Int32}, x = 1 → ¬ x = 0 := fun e => by rw [e]; decide
  refine t_X12_ill d h I.1 x1 x2 _ ⟨fun n => ⟨fun y => absurd ((isN_q I).mpr y.1) n, fun y => absurd ((isN_q I).mpr y.1) n, fun _ => ⟨rfl, rfl⟩⟩, fun y1 => ?_⟩
  have ym := (isN_q I).mp y1
  obtain ⟨R, n0, k4, O⟩ := H ym
  have hx : 0 ≤ x1.toInt ∧ x1.toInt ≤ 11 := ⟨ym.1, by have := ym.2; omega⟩
  have v := v12 hx
  rw [R.1.1]
  refine ⟨v, fun n4 => ⟨fun nz => ⟨fun _ => ⟨v, fun n41 => ⟨v, v, v, v, v, v, ?_⟩, fun y41 => ?_⟩, fun ez => absurd ez.symm nz⟩, fun ez => ⟨fun y => absurd ez.symm (z10 y.2.2), fun y => absurd y.2.1 n4, fun _ => ⟨rfl, rfl⟩⟩⟩, fun y4 => ⟨fun n1 => ⟨fun nz => absurd (b2.elim (fun e => absurd e nz) (fun e => e.symm)) n1, fun ez => ?_⟩, fun e1 => ⟨fun y => absurd y4 y.2.1, fun y => absurd y.2.2 (z10 e1.symm), fun _ => ⟨rfl, rfl⟩⟩⟩⟩
  · have e1 : x2 = 1 := b2.elim (fun e => absurd e.symm nz) id
    exact ⟨fun _ => ⟨rfl, il_end P (dpx_no I R B n41)⟩, fun y => absurd y.2.1 n4, fun y => absurd ⟨ym, Or.inl ⟨n4, e1⟩⟩ y⟩
  · have e1 : x2 = 1 := b2.elim (fun e => absurd e.symm nz) id
    exact Cv.mono (m_dp P d I hx R B y41 4 O) (fun h16 k => ⟨k.1.1, v, v, v, v, v, v, fun _ => ⟨rfl, il_end P k⟩, fun y => absurd y.2.1 n4, fun y => absurd ⟨ym, Or.inl ⟨n4, e1⟩⟩ y⟩)
  · have q := k4 y4
    have e206 := R.2.2.2
    have z := m_fr P d I hx B (M 11).toNatClampNeg (fFree M) (by unfold fFree; rw [up1_ne (by decide), up1_at]) (by rw [fFree_k (by decide) (by decide), e206]; exact q.2) (by rw [fFree_k (by decide) (by decide)]; exact q.1) (by unfold fFree; rw [up1_at]) (by rw [fFree_k (by decide) (by decide), e206])
    exact Cv.mono z (fun h47 k => ⟨k.1.1, fun y => absurd y4 y.2.1, fun _ => ⟨rfl, k⟩, fun y => absurd ⟨ym, Or.inr ⟨y4, ez⟩⟩ y⟩)
/-! begin -/
def wwM : List Nat := [1063, 238999, 239999, 240999, 241999, 242999, 244999]
def Wmx (PM : β → Hp_ → Prop) (m n : Int32) (r : Nat) (Q : List Ev2) (b : β) (h h' : Hp_) : Prop := Iv h' ∧ Fr wwM h h' ∧ (h_i h' 238 = rz (fun _ => m) r Q (h_i h 238) ∧ h_i h' 239 = rz Prod.fst r Q (h_i h 239) ∧ h_i h' 240 = rz (fun e => n + e.2) r Q (h_i h 240) ∧ h_i h' 241 = rz (fun _ => -1) r Q (h_i h 241) ∧ h_i h' 242 = rz (fun _ => -1) r Q (h_i h 242) ∧ h_i h' 244 = rz (fun _ => n) r Q (h_i h 244)) ∧ h_i h' 1 63 = Int32.ofNat (r + Q.length) ∧ PM b h'
theorem mb_lp (P : PMok PM tB lM) (d : Nat) {x1 x2 : Int32} (b2 : 0 ≤ x2.toInt ∧ x2.toInt ≤ 11) (K : Int32 → Hp_ → Prop) (hx : 0 ≤ x1.toInt ∧ x1.toInt ≤ 11) : ∀ (L : List Sp3) {h : Hp_} {b : β} (i : Nat), Iv h → PM b h → Stm h x2 i L → h_i h 227 x2.toNatClampNeg = Int32.ofNat (i + L.length) → (h_i h 1 63).toInt + (mts L : Int) ≤ 400 → (∀ h', Wmx PM x1 (h_i h 1 0) (h_i h 1 63).toNatClampNeg (ptL L) b h h' → Cv (m_X12_goOn (d + 3) 0 0) [.ref 1, .int x1] (h_im h' 217 x1.toNatClampNeg (h_i h' 1 63)) (fun h22 => Wf h22 ∧ (K 1 h22))) → AW (m_X12_begin (d + 4) 0 0) 0 0 106 [(0, .ref 1), (1, .int x1), (2, .int x2), (3, .int (150 * x2 + Int32.ofNat i))] [] h (kI K)
  | [], h, b, i, I, B, S, e227, R, O => by
    have v := v12 hx
    have r4 := rows_in I
    have v2 : vp_in x2 12 := dp_in (lo := 0) (hi := 11) ⟨b2.1, b2.2⟩ (by decide) (by decide)
    have Tt := t_X12_begin_106 d h I.1 x1 x2 (150 * x2 + Int32.ofNat i)
    rw [e227] at Tt
    exact Tt _ ⟨v2, fun _ => ⟨v, O h ⟨I, Fr.rf _ _, ⟨rfl, rfl, rfl, rfl, rfl, rfl⟩, (of_nat32 r4.1).symm, B⟩⟩, fun n => absurd (q_le.mpr (Int.le_refl _)) n⟩
  | x :: L, h, b, i, I, B, S, e227, R, O => by
    have v := v12 hx
    have rg := rows_in I
    have r4 : (h_i h 1 63).toInt ≤ 400 := rg.2
    have r0 : 0 ≤ (h_i h 1 63).toInt := rg.1
    have t150 : (150 : Int32).toInt = 150 := rfl
    have v2 : vp_in x2 12 := dp_in (lo := 0) (hi := 11) ⟨b2.1, b2.2⟩ (by decide) (by decide)
    have ll : i + (L.length + 1) ≤ 150 := S.2.1
    have l2 : (i + (x :: L).length : Nat) = i + (L.length + 1) := rfl
    have oi := on_j (n := i) (by omega)
    have ol := on_j (n := i + (L.length + 1)) (by omega)
    have n2 := n_nat b2.1
    have m1 : (150 * x2).toInt = 150 * x2.toInt := by rw [tx_mul (by rw [t150]; omega) (by rw [t150]; omega), t150]
    have m2 : (150 * x2 + Int32.ofNat i).toInt = 150 * x2.toInt + (i : Int) := by rw [tx_add (by omega) (by omega), m1, oi]
    have m3 : (150 * x2 + Int32.ofNat (i + (L.length + 1))).toInt = 150 * x2.toInt + ((i + (L.length + 1) : Nat) : Int) := by rw [tx_add (by omega) (by omega), m1, ol]
    have nm := n_nat (x := 150 * x2 + Int32.ofNat i) (by omega)
    have km : (150 * x2 + Int32.ofNat i).toNatClampNeg = 150 * x2.toNatClampNeg + i := by omega
    have vi : vp_in (150 * x2 + Int32.ofNat i) 1800 := dp_in (lo := 0) (hi := 1799) ⟨by show (0 : Int) ≤ _; omega, by show _ ≤ (1799 : Int); omega⟩ (by decide) (by decide)
    have nx : 150 * x2 + Int32.ofNat i + 1 = 150 * x2 + Int32.ofNat (i + 1) := by rw [Int32.add_assoc, on_s (by omega)]
    have sb := S.hd.1
    have a8 : h_i h 228 (150 * x2.toNatClampNeg + i) = x.1 := congrArg (fun z => z.1) sb
    have a9 : h_i h 229 (150 * x2.toNatClampNeg + i) = x.2.1 := congrArg (fun z => z.2.1) sb
    have a10 : h_i h 230 (150 * x2.toNatClampNeg + i) = x.2.2 := congrArg (fun z => z.2.2) sb
    have m : mts (x :: L) = (if x.1 = 2 then 1 else 0) + mts L := rfl
    rw [m] at R
    have Tt := t_X12_begin_106 d h I.1 x1 x2 (150 * x2 + Int32.ofNat i)
    rw [e227, km, a8, a9, a10, nx, l2] at Tt
    refine Tt _ ⟨v2, fun y => ?_, fun _ => ⟨vi, fun ny => ?_, fun y2 => ?_⟩⟩
    · have y := q_le.mp y
      omega
    · have f : ptL (x :: L) = ptL L := if_neg ny
      rw [f] at O
      rw [if_neg ny] at R
      exact mb_lp P d b2 K hx L (i + 1) I B S.tl (by rw [e227, l2, show i + 1 + L.length = i + (L.length + 1) by omega]) (by omega) O
    · have f : ptL (x :: L) = x.2 :: ptL L := if_pos y2
      rw [if_pos y2] at R
      have vr : vp_in (h_i h 1 63) 400 := dp_in (lo := 0) (hi := 399) ⟨r0, by show _ ≤ (399 : Int); omega⟩ (by decide) (by decide)
      have rn := row_n (x := h_i h 1 63) r0 (by omega)
      have I7 := (tr_ 244 (by decide +kernel) (tr_ 242 (by decide +kernel) (tr_ 241 (by decide +kernel) (tr_ 240 (by decide +kernel) (tr_ 239 (by decide +kernel) (tr_ 238 (by decide +kernel) I (h_i h 1 63).toNatClampNeg x1 (by decide) (by decide)) (h_i h 1 63).toNatClampNeg x.2.1 (by decide) (by decide)) (h_i h 1 63).toNatClampNeg (h_i h 1 0 + x.2.2) (by decide) (by decide)) (h_i h 1 63).toNatClampNeg (-1) (by decide) (by decide)) (h_i h 1 63).toNatClampNeg (-1) (by decide) (by decide)) (h_i h 1 63).toNatClampNeg (h_i h 1 0) (by decide) (by decide)).im (a := 1) (k := 63) (x := h_i h 1 63 + 1) (by rw [show tf 1 63 = (0, 400) by decide +kernel]; exact ⟨by show (0 : Int) ≤ _; omega, by show _ ≤ (400 : Int); omega⟩) (by decide)
      have F7 : Fr wwM h (h_im (h_im (h_im (h_im (h_im (h_im (h_im h 238 (h_i h 1 63).toNatClampNeg x1) 239 (h_i h 1 63).toNatClampNeg x.2.1) 240 (h_i h 1 63).toNatClampNeg (h_i h 1 0 + x.2.2)) 241 (h_i h 1 63).toNatClampNeg (-1)) 242 (h_i h 1 63).toNatClampNeg (-1)) 244 (h_i h 1 63).toNatClampNeg (h_i h 1 0)) 1 63 (h_i h 1 63 + 1)) := (((((((Fr.rf _ _).im (inw_row (by decide +kernel) _)).im (inw_row (by decide +kernel) _)).im (inw_row (by decide +kernel) _)).im (inw_row (by decide +kernel) _)).im (inw_row (by decide +kernel) _)).im (inw_row (by decide +kernel) _)).im (by decide +kernel)
      have B7 : PM b (h_im (h_im (h_im (h_im (h_im (h_im (h_im h 238 (h_i h 1 63).toNatClampNeg x1) 239 (h_i h 1 63).toNatClampNeg x.2.1) 240 (h_i h 1 63).toNatClampNeg (h_i h 1 0 + x.2.2)) 241 (h_i h 1 63).toNatClampNeg (-1)) 242 (h_i h 1 63).toNatClampNeg (-1)) 244 (h_i h 1 63).toNatClampNeg (h_i h 1 0)) 1 63 (h_i h 1 63 + 1)) := P.1 _ _ _ _ _ (Or.inr (Or.inr (Or.inr ⟨rfl, rfl⟩))) (P.1 _ _ _ _ _ (Or.inr (Or.inl (by decide))) (P.1 _ _ _ _ _ (Or.inr (Or.inl (by decide))) (P.1 _ _ _ _ _ (Or.inr (Or.inl (by decide))) (P.1 _ _ _ _ _ (Or.inr (Or.inl (by decide))) (P.1 _ _ _ _ _ (Or.inr (Or.inl (by decide))) (P.1 _ _ _ _ _ (Or.inr (Or.inl (by decide))) B))))))
      refine ⟨vr, vi, vr, vi, vr, vr, vr, vr, ?_⟩
      generalize hg : h_im (h_im (h_im (h_im (h_im (h_im (h_im h 238 (h_i h 1 63).toNatClampNeg x1) 239 (h_i h 1 63).toNatClampNeg x.2.1) 240 (h_i h 1 63).toNatClampNeg (h_i h 1 0 + x.2.2)) 241 (h_i h 1 63).toNatClampNeg (-1)) 242 (h_i h 1 63).toNatClampNeg (-1)) 244 (h_i h 1 63).toNatClampNeg (h_i h 1 0)) 1 63 (h_i h 1 63 + 1) = g at *
      have g8 : h_i g 238 = up1 (h_i h 238) (h_i h 1 63).toNatClampNeg x1 := by rw [← hg, im_oth (by decide), im_oth (by decide), im_oth (by decide), im_oth (by decide), im_oth (by decide), im_oth (by decide), im_row]
      have g9 : h_i g 239 = up1 (h_i h 239) (h_i h 1 63).toNatClampNeg x.2.1 := by rw [← hg, im_oth (by decide), im_oth (by decide), im_oth (by decide), im_oth (by decide), im_oth (by decide), im_row, im_oth (by decide)]
      have g10 : h_i g 240 = up1 (h_i h 240) (h_i h 1 63).toNatClampNeg (h_i h 1 0 + x.2.2) := by rw [← hg, im_oth (by decide), im_oth (by decide), im_oth (by decide), im_oth (by decide), im_row, im_oth (by decide), im_oth (by decide)]
      have g11 : h_i g 241 = up1 (h_i h 241) (h_i h 1 63).toNatClampNeg (-1) := by rw [← hg, im_oth (by decide), im_oth (by decide), im_oth (by decide), im_row, im_oth (by decide), im_oth (by decide), im_oth (by decide)]
      have g12 : h_i g 242 = up1 (h_i h 242) (h_i h 1 63).toNatClampNeg (-1) := by rw [← hg, im_oth (by decide), im_oth (by decide), im_row, im_oth (by decide), im_oth (by decide), im_oth (by decide), im_oth (by decide)]
      have g14 : h_i g 244 = up1 (h_i h 244) (h_i h 1 63).toNatClampNeg (h_i h 1 0) := by rw [← hg, im_oth (by decide), im_row, im_oth (by decide), im_oth (by decide), im_oth (by decide), im_oth (by decide), im_oth (by decide)]
      have g63 : h_i g 1 63 = h_i h 1 63 + 1 := by rw [← hg, im_at]
      have g0 : h_i g 1 0 = h_i h 1 0 := (F7.2 1 0 (by decide +kernel)).1
      have gs : ∀ k, sB g k = sB h k := fun k => by
        funext i
        unfold sB
        rw [fr_i F7 (by decide +kernel), fr_i F7 (by decide +kernel), fr_i F7 (by decide +kernel)]
      have g227 : ∀ k, h_i g 227 k = h_i h 227 k := fun k => fr_i F7 (by decide +kernel) k
      refine mb_lp P d b2 K hx L (h := g) (b := b) (i + 1) I7 B7 (S.tl.cg gs) (by rw [g227, e227, l2, show i + 1 + L.length = i + (L.length + 1) by omega]) (by rw [g63]; omega) (fun h' w => O h' ?_)
      obtain ⟨Iw, Fw, ⟨w8, w9, w10, w11, w12, w14⟩, w63, Bw⟩ := w
      rw [g63, rn.1] at w8 w9 w10 w11 w12 w14 w63
      rw [g0] at w10 w14
      rw [f]
      refine ⟨Iw, F7.tr Fw, ⟨?_, ?_, ?_, ?_, ?_, ?_⟩, ?_, Bw⟩
      · rw [w8, g8]
        rfl
      · rw [w9, g9]
        rfl
      · rw [w10, g10]
        rfl
      · rw [w11, g11]
        rfl
      · rw [w12, g12]
        rfl
      · rw [w14, g14]
        rfl
      · rw [w63]
        show Int32.ofNat ((h_i h 1 63).toNatClampNeg + 1 + (ptL L).length) = Int32.ofNat ((h_i h 1 63).toNatClampNeg + ((ptL L).length + 1))
        rw [show (h_i h 1 63).toNatClampNeg + 1 + (ptL L).length = (h_i h 1 63).toNatClampNeg + ((ptL L).length + 1) by omega]
end MEN
