/-! tell of the reference -/
theorem wev_ind {s : Nat} {cd lt lt' : Nat → Int32} {j : Nat} (hl : ∀ c, okl s c = true → lt c.toNatClampNeg = lt' c.toNatClampNeg) : ∀ (g i n : Nat) (p p' : Nat → Int32), prun s cd g i n j 1 → (∀ k, k < n → p k = p' k) → wev cd lt g i n p = wev cd lt' g i n p' := by
  intro g
  induction g with
  | zero =>
    intro i n p p' h e
    have := h.2
    exact e 0 (by omega)
  | succ g ih =>
    intro i n p p' h e
    obtain ⟨i', n', hs, hp⟩ := h
    rw [wev_s, wev_s]
    rcases pst_0 hs with ⟨c, q1, q2, q3⟩ | ⟨c, q1, qk, q2, q3⟩ | ⟨c, q1, q2, q3⟩ | ⟨c, q1, q2, q3⟩
    · subst q2 q3
      rw [if_pos c, if_pos c]
      refine ih _ _ _ _ hp (fun k hk => ?_)
      unfold upp
      split
      · rfl
      · exact e k (by omega)
    · subst q2 q3
      have c0 : ¬ cd i = 0 := by rw [c]; decide
      rw [if_neg c0, if_neg c0, if_pos c, if_pos c]
      refine ih _ _ _ _ hp (fun k hk => ?_)
      unfold upp
      split
      · exact hl _ qk
      · exact e k (by omega)
    · subst q2 q3
      have c0 : ¬ cd i = 0 := by rw [c]; decide
      have c1 : ¬ cd i = 1 := by rw [c]; decide
      rw [if_neg c0, if_neg c0, if_neg c1, if_neg c1, if_pos c, if_pos c]
      refine ih _ _ _ _ hp (fun k hk => ?_)
      unfold upp
      rw [e _ (show n' - 1 < n' by omega)]
      split
      · rfl
      · exact e k (by omega)
    · subst q2 q3
      rw [if_neg c.1, if_neg c.1, if_neg c.2.1, if_neg c.2.1, if_neg c.2.2.1, if_neg c.2.2.1]
      refine ih _ _ _ _ hp (fun k hk => ?_)
      unfold upp
      rw [e _ (show n - 1 < n by omega), e _ (show n - 2 < n by omega)]
      split
      · rfl
      · exact e k (by omega)
/-- what a text tells: the answer of the first clause whose condition holds -/
def tel (s : Nat) (cd lt : Nat → Int32) : Nat → Nat → Nat → Int32 → Prop
  | 0, _, _, v => v = 0
  | f + 1, i, e, v => ∃ j k g1 g2, prun s cd g1 i 0 j 1 ∧ cd j = 2 ∧ prun s cd g2 (j + 1) 0 k 1 ∧ cd k = 3 ∧ ((¬ wev cd lt g1 i 0 (fun _ => 0) = 0 ∧ v = wev cd lt g2 (j + 1) 0 (fun _ => 0)) ∨ (wev cd lt g1 i 0 (fun _ => 0) = 0 ∧ tel s cd lt f (k + 1) e v))
theorem pcl_le {s : Nat} {cd : Nat → Int32} : ∀ {f i e : Nat}, pcl s cd f i e → i ≤ e
  | 0, _, _, h => by have : _ = _ := h; omega
  | f + 1, i, e, h => by
    obtain ⟨j, k, ⟨g1, p1⟩, _, ⟨g2, p2⟩, _, h2⟩ := h
    have := prun_le p1
    have := prun_le p2
    have := pcl_le h2
    omega
theorem tl_loop (d s t e : Nat) (h0 : Hp_) (cd lt : Nat → Int32) (ht : t < 40) (he : e ≤ 22400) :
    ∀ (f i : Nat) (h : Hp_), pcl s cd f i e → Ws h0 cd lt i h → 560 * t + (h_i h0 232 t).toNatClampNeg = e → AW (m_X12_tell (d + 4) 0 0) 0 0 23 [(0, .ref 1), (3, .int (Int32.ofNat t))] [] h (kI (fun r h' => Iv h' ∧ Fr wzw h0 h' ∧ tel s cd lt f i e r)) := by
  have key : ∀ (i : Nat) (h : Hp_), Ws h0 cd lt i h → 560 * t + (h_i h0 232 t).toNatClampNeg = e → i ≤ 22400 → ((560 * Int32.ofNat t + h_i h 232 (Int32.ofNat t).toNatClampNeg).toInt = (e : Int) ∧ (h_i h 1 52).toInt = (i : Int)) := by
    intro i h W e1 li
    have t560 : (560 : Int32).toInt = 560 := rfl
    have sz : rin (h_i h 232 t).toInt (0, 560) := by
      have := W.1.2.1 232 t
      rwa [tfa_tf (show tfa 232 = some (0, 560) by decide +kernel)] at this
    have s0 : 0 ≤ (h_i h 232 t).toInt := sz.1
    have s1 : (h_i h 232 t).toInt ≤ 560 := sz.2
    have es : h_i h 232 t = h_i h0 232 t := (W.2.1.2 232 t (by
      cases q : inw wzw 232 t with
      | false => rfl
      | true =>
        exfalso
        have o : off wzw 232 = true := by decide +kernel
        rw [off_inw o] at q; cases q)).1
    have en : ((h_i h 232 t).toNatClampNeg : Int) = (h_i h 232 t).toInt := n_nat s0
    rw [← es] at e1
    have m1 : (560 * Int32.ofNat t).toInt = 560 * (t : Int) := by rw [tx_mul (by rw [t560, on_j (by omega)]; omega) (by rw [t560, on_j (by omega)]; omega), t560, on_j (by omega)]
    rw [on_k (by omega), tx_add (by omega) (by omega), m1, W.2.2.2.2, on_j (by omega)]
    omega
  intro f
  induction f with
  | zero =>
    intro i h hp W e1
    have hp : i = e := hp
    obtain ⟨k1, k2⟩ := key i h W e1 (by omega)
    refine t_X12_tell_23 d h W.1.1 _ _ ⟨on_in ht (by decide), fun _ => ⟨W.1, W.2.1, rfl⟩, fun z => ?_⟩
    have z := q_nle z
    omega
  | succ f ih =>
    intro i h hp W e1
    obtain ⟨j, k, ⟨g1, p1⟩, cj, ⟨g2, p2⟩, ck, hp2⟩ := hp
    have l1 := prun_le p1
    have l2 := prun_le p2
    have l3 := pcl_le hp2
    obtain ⟨k1, k2⟩ := key i h W e1 (by omega)
    have ind := fun (lt' : Nat → Int32) (p : Nat → Int32) (g i j : Nat) (q : prun s cd g i 0 j 1) => wev_ind (s := s) (cd := cd) (lt := lt) (lt' := lt) (fun _ _ => rfl) g i 0 p (fun _ => 0) q (fun k hk => absurd hk (Nat.not_lt_zero k))
    refine t_X12_tell_23 d h W.1.1 _ _ ⟨on_in ht (by decide), fun z => ?_, fun _ => ?_⟩
    · have z := q_le.mp z
      omega
    · refine Ci.mono (c_work d s h0 cd lt (by omega) (Or.inl cj) p1 W) (fun r h1 q => ?_)
      obtain ⟨W1, e2⟩ := q
      rw [ind lt _ g1 i j p1] at e2
      refine ⟨W1.1.1, fun z => ?_, fun z => ?_⟩
      · refine Ci.mono (c_work d s h0 cd lt (by omega) (Or.inr ck) p2 W1) (fun r2 h2 q2 => ?_)
        obtain ⟨W2, _⟩ := q2
        refine ⟨W2.1.1, AW.mono (ih (k + 1) h2 hp2 W2 e1) (fun v h' q3 => ?_)⟩
        obtain ⟨r3, ev, I3, F3, t3⟩ := q3
        exact ⟨r3, ev, I3, F3, j, k, g1, g2, p1, cj, p2, ck, Or.inr ⟨by rw [← e2]; exact z, t3⟩⟩
      · refine Ci.mono (c_work d s h0 cd lt (by omega) (Or.inr ck) p2 W1) (fun r2 h2 q2 => ?_)
        obtain ⟨W2, e3⟩ := q2
        rw [ind lt _ g2 (j + 1) k p2] at e3
        exact ⟨W2.1.1, W2.1, W2.2.1, j, k, g1, g2, p1, cj, p2, ck, Or.inl ⟨by rw [← e2]; exact z, e3⟩⟩
/-- the text t, told from the heap h -/
def Tel (h : Hp_) (x1 x2 r : Int32) : Prop := (x2 = -1 ∧ r = 0) ∨ (¬ x2 = -1 ∧ ∃ f t, t < 40 ∧ 20 * x1 + x2 = Int32.ofNat t ∧ tel (t / 20 + 1) (h_i h 231) (h_i h 236) f (560 * t) (560 * t + (h_i h 232 t).toNatClampNeg) r)
theorem c_tell (d : Nat) {h : Hp_} (I : Iv h) (x1 x2 : Int32) (b1 : rin x1.toInt (0, 1)) (b2 : rin x2.toInt (-1, 19)) : Ci (m_X12_tell (d + 4) 0 0) [.ref 1, .int x1, .int x2] h (fun r h' => Iv h' ∧ Fr wzw h h' ∧ Tel h x1 x2 r) := by
  have c1 : 0 ≤ x1.toInt := b1.1
  have c2 : x1.toInt ≤ 1 := b1.2
  have c3 : -1 ≤ x2.toInt := b2.1
  have c4 : x2.toInt ≤ 19 := b2.2
  have t20 : (20 : Int32).toInt = 20 := rfl
  have t560 : (560 : Int32).toInt = 560 := rfl
  have tm : (-1 : Int32).toInt = -1 := rfl
  refine t_X12_tell d h I.1 x1 x2 _ ⟨fun z => ?_, fun z => ⟨I, Fr.rf _ _, Or.inl ⟨z, rfl⟩⟩⟩
  have c5 : 0 ≤ x2.toInt := by
    rcases Int.lt_or_le x2.toInt 0 with y | y
    · exact absurd (Int32.toInt_inj.mp (by rw [tm]; omega)) z
    · exact y
  have m1 : (20 * x1).toInt = 20 * x1.toInt := by rw [tx_mul (by rw [t20]; omega) (by rw [t20]; omega), t20]
  have m2 : (20 * x1 + x2).toInt = 20 * x1.toInt + x2.toInt := by rw [tx_add (by omega) (by omega), m1]
  obtain ⟨t, et, ht⟩ : ∃ t : Nat, 20 * x1 + x2 = Int32.ofNat t ∧ t < 40 := ⟨(20 * x1.toInt + x2.toInt).toNat, by
    refine Int32.toInt_inj.mp ?_
    rw [on_j (by omega), m2]
    omega, by omega⟩
  rw [et]
  have m3 : 560 * Int32.ofNat t = Int32.ofNat (560 * t) := by
    refine Int32.toInt_inj.mp ?_
    rw [tx_mul (by rw [t560, on_j (by omega)]; omega) (by rw [t560, on_j (by omega)]; omega), t560, on_j (by omega), on_j (by omega)]
    omega
  rw [m3]
  obtain ⟨f, hf⟩ := I.2.2.2.2.2.2.2.2 t ht
  have sz : rin (h_i h 232 t).toInt (0, 560) := by
    have := I.2.1 232 t
    rwa [tfa_tf (show tfa 232 = some (0, 560) by decide +kernel)] at this
  have s1 : (h_i h 232 t).toInt ≤ 560 := sz.2
  have en : ((h_i h 232 t).toNatClampNeg : Int) = (h_i h 232 t).toInt := n_nat sz.1
  have W0 : Ws h (h_i h 231) (h_i h 236) (560 * t) (h_im h 1 52 (Int32.ofNat (560 * t))) :=
    ⟨I.im (by rw [show tf 1 52 = rtop by decide +kernel]; exact rtop_in _) (by decide), (Fr.rf _ _).im (by decide +kernel), funext (fun k => by rw [h_i_im, if_neg (fun z => absurd z.1 (by decide))]), funext (fun k => by rw [h_i_im, if_neg (fun z => absurd z.1 (by decide))]), by rw [h_i_im, if_pos ⟨rfl, rfl⟩]⟩
  refine AW.mono (tl_loop d (t / 20 + 1) t (560 * t + (h_i h 232 t).toNatClampNeg) h (h_i h 231) (h_i h 236) ht (by omega) f (560 * t) _ hf W0 rfl) (fun v h' q => ?_)
  obtain ⟨r, ev, I', F', T⟩ := q
  exact ⟨r, ev, I', F', Or.inr ⟨z, f, t, ht, et, T⟩⟩
def wz_X12_tell : List Nat := wzw
def q_X12_tell : Ctr := ([.inl (((-1), 19), (0, 0), none), .inl ((0, 1), (0, 0), none), .inr 11], [], (some (.inl (((-2147483648), 2147483647), (0, 0), none))), [], wz_X12_tell)
theorem hc_X12_tell (n : Nat) : Hc (m_X12_tell (n + 4) 0 0) q_X12_tell := by
  intro vs h ma I hp
  match vs, ma with
  | [v2, v1, v0], ma =>
    obtain ⟨⟨x2, e2, b2, _⟩, ⟨x1, e1, b1, _⟩, e0, _⟩ := ma
    have e0 : v0 = .ref 1 := e0
    subst e0 e1 e2
    refine Ct.mono (c_tell n I x1 x2 b1 b2) (fun v h' q => ?_)
    obtain ⟨r, ev, I', F', _⟩ := q
    subst ev
    exact ⟨I', F', fun _ z => (nomatch z), _, rfl, r, rfl, rtop_in _, fun _ z => (nomatch z)⟩
