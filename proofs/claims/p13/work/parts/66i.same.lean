/-! answers that stay the same: what a text tells; ranks, states, causes, texts in force -/
theorem pst_no {s : Nat} {cd : Nat → Int32} {i n : Nat} {q : Nat × Nat} (c : cd i = 2 ∨ cd i = 3) (h : pst s cd i n = some q) : False := by
  obtain ⟨i', n'⟩ := q
  rcases pst_0 h with ⟨a, _⟩ | ⟨a, _⟩ | ⟨a, _⟩ | ⟨a, _⟩
  · rw [a] at c; exact absurd c (by decide)
  · rw [a] at c; exact absurd c (by decide)
  · rw [a] at c; exact absurd c (by decide)
  · exact c.elim a.2.2.2.1 a.2.2.2.2
theorem prun_det {s : Nat} {cd : Nat → Int32} : ∀ {g g' i n j j' m m' : Nat}, prun s cd g i n j m → prun s cd g' i n j' m' → (cd j = 2 ∨ cd j = 3) → (cd j' = 2 ∨ cd j' = 3) → g = g' ∧ j = j'
  | 0, 0, i, n, j, j', m, m', a, b, _, _ => ⟨rfl, a.1.symm.trans b.1⟩
  | 0, g' + 1, i, n, j, j', m, m', a, b, c, _ => by
    obtain ⟨i', n', p, _⟩ := b
    rw [← a.1] at c
    exact (pst_no c p).elim
  | g + 1, 0, i, n, j, j', m, m', a, b, _, c => by
    obtain ⟨i', n', p, _⟩ := a
    rw [← b.1] at c
    exact (pst_no c p).elim
  | g + 1, g' + 1, i, n, j, j', m, m', a, b, c, c' => by
    obtain ⟨i1, n1, p, a⟩ := a
    obtain ⟨i2, n2, q, b⟩ := b
    rw [p] at q
    have q := Option.some.inj q
    have e1 : i1 = i2 := congrArg Prod.fst q
    have e2 : n1 = n2 := congrArg Prod.snd q
    subst e1 e2
    have r := prun_det a b c c'
    exact ⟨by rw [r.1], r.2⟩
theorem tel_ex {s : Nat} {cd lt : Nat → Int32} : ∀ {f i e : Nat}, pcl s cd f i e → ∃ r, tel s cd lt f i e r
  | 0, _, _, _ => ⟨0, rfl⟩
  | f + 1, i, e, h => by
    obtain ⟨j, k, ⟨g1, p1⟩, c2, ⟨g2, p2⟩, c3, q⟩ := h
    by_cases z : wev cd lt g1 i 0 (fun _ => 0) = 0
    · obtain ⟨r, t⟩ := tel_ex (lt := lt) q
      exact ⟨r, j, k, g1, g2, p1, c2, p2, c3, Or.inr ⟨z, t⟩⟩
    · exact ⟨_, j, k, g1, g2, p1, c2, p2, c3, Or.inl ⟨z, rfl⟩⟩
theorem pcl_lt {s : Nat} {cd : Nat → Int32} {f i e : Nat} (h : pcl s cd (f + 1) i e) : i < e := by
  obtain ⟨j, k, ⟨g1, p1⟩, _, ⟨g2, p2⟩, _, q⟩ := h
  have l1 := prun_le p1
  have l2 := prun_le p2
  have l3 := pcl_le q
  omega
theorem tel_det {s : Nat} {cd lt lt' : Nat → Int32} (hl : ∀ c, okl s c = true → lt c.toNatClampNeg = lt' c.toNatClampNeg) : ∀ {f f' i e : Nat} {r r' : Int32}, pcl s cd f i e → pcl s cd f' i e → tel s cd lt f i e r → tel s cd lt' f' i e r' → r = r'
  | 0, 0, _, _, _, _, _, _, t, t' => by
    have t : _ = _ := t
    have t' : _ = _ := t'
    rw [t, t']
  | 0, f' + 1, i, e, _, _, a, b, _, _ => by
    have a : i = e := a
    have := pcl_lt b
    omega
  | f + 1, 0, i, e, _, _, a, b, _, _ => by
    have b : i = e := b
    have := pcl_lt a
    omega
  | f + 1, f' + 1, i, e, r, r', a, b, t, t' => by
    obtain ⟨j, k, ⟨g1, p1⟩, c2, ⟨g2, p2⟩, c3, q⟩ := a
    obtain ⟨j', k', ⟨g1', p1'⟩, c2', ⟨g2', p2'⟩, c3', q'⟩ := b
    obtain ⟨u, v, w1, w2, u1, u2, u3, u4, u5⟩ := t
    obtain ⟨u', v', w1', w2', u1', u2', u3', u4', u5'⟩ := t'
    obtain ⟨_, e1⟩ := prun_det p1 p1' (Or.inl c2) (Or.inl c2')
    obtain ⟨_, e2⟩ := prun_det p1 u1 (Or.inl c2) (Or.inl u2)
    obtain ⟨_, e3⟩ := prun_det p1 u1' (Or.inl c2) (Or.inl u2')
    subst e1 e2 e3
    obtain ⟨_, d1⟩ := prun_det p2 p2' (Or.inr c3) (Or.inr c3')
    obtain ⟨_, d2⟩ := prun_det p2 u3 (Or.inr c3) (Or.inr u4)
    obtain ⟨_, d3⟩ := prun_det p2 u3' (Or.inr c3) (Or.inr u4')
    subst d1 d2 d3
    obtain ⟨x1, _⟩ := prun_det u1 u1' (Or.inl c2) (Or.inl c2)
    obtain ⟨x2, _⟩ := prun_det u3 u3' (Or.inr c3) (Or.inr c3)
    subst x1 x2
    have y1 := wev_ind (lt := lt) (lt' := lt') hl _ _ _ (fun _ => 0) (fun _ => 0) u1 (fun _ _ => rfl)
    have y2 := wev_ind (lt := lt) (lt' := lt') hl _ _ _ (fun _ => 0) (fun _ => 0) u3 (fun _ _ => rfl)
    rcases u5 with ⟨z, t⟩ | ⟨z, t⟩
    · rcases u5' with ⟨z', t'⟩ | ⟨z', t'⟩
      · rw [t, t', y2]
      · rw [y1] at z; exact absurd z' z
    · rcases u5' with ⟨z', t'⟩ | ⟨z', t'⟩
      · rw [y1] at z; exact absurd z z'
      · exact tel_det hl q q' t t'
/-- all that payOf reads stays; what book writes may change -/
def wzE : List Nat := [1052, 1127, 236999, 237999, 293999, 294999, 295999, 296999, 297999]
def wzL : List Nat := [1052, 236999, 237999]
def Dp (r : Int32) (h2 : Hp_) : Int32 → Hp_ → Prop := fun r' h' => r' = r ∧ Iv h' ∧ Fr wzL h2 h'
theorem c_tell2 (d s : Nat) (hs : s < 2) {h : Hp_} (I : Iv h) (x2 : Int32) (b2 : rin x2.toInt (-1, 19)) : Ci (m_X12_tell (d + 4) 0 0) [.ref 1, .int (Int32.ofNat s), .int x2] h (fun r h' => Iv h' ∧ Fr wzw h h' ∧ ((x2 = -1 ∧ r = 0) ∨ (¬ x2 = -1 ∧ ∃ f, pcl (s + 1) (h_i h 231) f (560 * (20 * s + x2.toNatClampNeg)) (560 * (20 * s + x2.toNatClampNeg) + (h_i h 232 (20 * s + x2.toNatClampNeg)).toNatClampNeg) ∧ tel (s + 1) (h_i h 231) (h_i h 236) f (560 * (20 * s + x2.toNatClampNeg)) (560 * (20 * s + x2.toNatClampNeg) + (h_i h 232 (20 * s + x2.toNatClampNeg)).toNatClampNeg) r))) := by
  have c3 : -1 ≤ x2.toInt := b2.1
  have c4 : x2.toInt ≤ 19 := b2.2
  have t20 : (20 : Int32).toInt = 20 := rfl
  have t560 : (560 : Int32).toInt = 560 := rfl
  have tm : (-1 : Int32).toInt = -1 := rfl
  have es : (Int32.ofNat s).toInt = (s : Int) := on_j (by omega)
  refine t_X12_tell d h I.1 _ x2 _ ⟨fun z => ?_, fun z => ⟨I, Fr.rf _ _, Or.inl ⟨z, rfl⟩⟩⟩
  have c5 : 0 ≤ x2.toInt := by
    rcases Int.lt_or_le x2.toInt 0 with y | y
    · exact absurd (Int32.toInt_inj.mp (by rw [tm]; omega)) z
    · exact y
  have nx := n_nat c5
  have m1 : (20 * Int32.ofNat s).toInt = 20 * (s : Int) := by rw [tx_mul (by rw [t20, es]; omega) (by rw [t20, es]; omega), t20, es]
  have et : 20 * Int32.ofNat s + x2 = Int32.ofNat (20 * s + x2.toNatClampNeg) := by
    refine Int32.toInt_inj.mp ?_
    rw [on_j (by omega), tx_add (by omega) (by omega), m1]
    omega
  rw [et]
  have ht : 20 * s + x2.toNatClampNeg < 40 := by omega
  have hq : (20 * s + x2.toNatClampNeg) / 20 + 1 = s + 1 := by omega
  generalize 20 * s + x2.toNatClampNeg = t at ht hq ⊢
  have m3 : 560 * Int32.ofNat t = Int32.ofNat (560 * t) := by
    refine Int32.toInt_inj.mp ?_
    rw [tx_mul (by rw [t560, on_j (by omega)]; omega) (by rw [t560, on_j (by omega)]; omega), t560, on_j (by omega), on_j (by omega)]
    omega
  rw [m3]
  obtain ⟨f, hf⟩ := I.2.2.2.2.2.2.2.2 t ht
  rw [hq] at hf
  have sz : rin (h_i h 232 t).toInt (0, 560) := by
    have := I.2.1 232 t
    rwa [tfa_tf (show tfa 232 = some (0, 560) by decide +kernel)] at this
  have s1 : (h_i h 232 t).toInt ≤ 560 := sz.2
  have en : ((h_i h 232 t).toNatClampNeg : Int) = (h_i h 232 t).toInt := n_nat sz.1
  have W0 : Ws h (h_i h 231) (h_i h 236) (560 * t) (h_im h 1 52 (Int32.ofNat (560 * t))) :=
    ⟨I.im (by rw [show tf 1 52 = rtop by decide +kernel]; exact rtop_in _) (by decide), (Fr.rf _ _).im (by decide +kernel), funext (fun k => by rw [h_i_im, if_neg (fun z => absurd z.1 (by decide))]), funext (fun k => by rw [h_i_im, if_neg (fun z => absurd z.1 (by decide))]), by rw [h_i_im, if_pos ⟨rfl, rfl⟩]⟩
  refine AW.mono (tl_loop d (s + 1) t (560 * t + (h_i h 232 t).toNatClampNeg) h (h_i h 231) (h_i h 236) ht (by omega) f (560 * t) _ hf W0 rfl) (fun v h' q => ?_)
  obtain ⟨r, ev, I', F', T⟩ := q
  exact ⟨r, ev, I', F', Or.inr ⟨z, f, hf, T⟩⟩
/-- a text told: the same for the same letters -/
theorem d_tell (d s : Nat) (hs : s < 2) {h : Hp_} (I : Iv h) (x2 : Int32) (b2 : rin x2.toInt (-1, 19)) (lt : Nat → Int32) : ∃ r, ∀ h2, Iv h2 → Fr wzE h h2 → (∀ c, okl (s + 1) c = true → h_i h2 236 c.toNatClampNeg = lt c.toNatClampNeg) → Ci (m_X12_tell (d + 4) 0 0) [.ref 1, .int (Int32.ofNat s), .int x2] h2 (Dp r h2) := by
  by_cases z : x2 = -1
  · refine ⟨0, fun h2 I2 F hl => Ci.mono (c_tell2 d s hs I2 x2 b2) (fun r' h' k => ⟨?_, k.1, k.2.1.more (by decide +kernel)⟩)⟩
    rcases k.2.2 with u | u
    · exact u.2
    · exact absurd z u.1
  · have c3 : -1 ≤ x2.toInt := b2.1
    have c4 : x2.toInt ≤ 19 := b2.2
    have tm : (-1 : Int32).toInt = -1 := rfl
    have c5 : 0 ≤ x2.toInt := by
      rcases Int.lt_or_le x2.toInt 0 with y | y
      · exact absurd (Int32.toInt_inj.mp (by rw [tm]; omega)) z
      · exact y
    have nx := n_nat c5
    obtain ⟨f, hf⟩ := I.2.2.2.2.2.2.2.2 (20 * s + x2.toNatClampNeg) (by omega)
    rw [show (20 * s + x2.toNatClampNeg) / 20 + 1 = s + 1 by omega] at hf
    obtain ⟨r, hr⟩ := tel_ex (lt := lt) hf
    refine ⟨r, fun h2 I2 F hl => Ci.mono (c_tell2 d s hs I2 x2 b2) (fun r' h' k => ⟨?_, k.1, k.2.1.more (by decide +kernel)⟩)⟩
    rcases k.2.2 with u | ⟨_, f', hf', t'⟩
    · exact absurd u.1 z
    · rw [show h_i h2 231 = h_i h 231 from funext (fun k => fr_i F (by decide +kernel) k), fr_i F (a := 232) (by decide +kernel)] at hf' t'
      exact tel_det hl hf' hf t' hr
theorem d_rankOn (d : Nat) {h : Hp_} (I : Iv h) (x1 x2 x3 : Int32) (v1 : vp_in x1 12) : ∃ r, ∀ h2, Iv h2 → Fr wzE h h2 → Ci (m_X12_rankOn (d + 0) 0 0) [.ref 1, .int x1, .int x2, .int x3] h2 (fun r' h' => r' = r ∧ h' = h2) := by
  have c29 := I.2.1 1 29
  rw [show tf 1 29 = (0, 40) by decide +kernel] at c29
  have b0 : 0 ≤ (h_i h 1 29).toInt := c29.1
  have b1 : (h_i h 1 29).toInt ≤ 40 := c29.2
  have nc := n_nat b0
  have lp : ∀ (n k : Nat) (x4 x5 : Int32), k + n = (h_i h 1 29).toNatClampNeg → ∃ r, ∀ h2, Iv h2 → Fr wzE h h2 → AW (m_X12_rankOn (d + 0) 0 0) 0 0 14 [(0, .ref 1), (1, .int x1), (2, .int x2), (3, .int x3), (4, .int x4), (5, .int x5), (6, .int (Int32.ofNat k))] [] h2 (kI (fun r' h' => r' = r ∧ h' = h2)) := by
    intro n
    induction n with
    | zero =>
      intro k x4 x5 e
      have ok := on_j (n := k) (by omega)
      refine ⟨x4, fun h2 I2 F => t_X12_rankOn_14 d h2 I2.1 x1 x2 x3 x4 x5 _ _ ⟨fun _ => ⟨rfl, rfl⟩, fun z => ?_⟩⟩
      rw [(F.2 1 29 (by decide +kernel)).1] at z
      have z := q_nle z
      omega
    | succ n ih =>
      intro k x4 x5 e
      have ok := on_j (n := k) (by omega)
      have kk := on_k (n := k) (by omega)
      have v : vp_in (Int32.ofNat k) 40 := on_in (by omega) (by decide)
      by_cases P : h_i h 221 k = x1 ∧ ¬ x3 < h_i h 224 k ∧ ¬ x2 < h_i h 223 k ∧ ¬ h_i h 223 k < x5
      · obtain ⟨r, hr⟩ := ih (k + 1) (h_i h 222 k) (h_i h 223 k) (by omega)
        refine ⟨r, fun h2 I2 F => t_X12_rankOn_14 d h2 I2.1 x1 x2 x3 x4 x5 _ _ ⟨fun z => ?_, fun _ => ?_⟩⟩
        · rw [(F.2 1 29 (by decide +kernel)).1] at z
          have z := q_le.mp z
          omega
        · rw [kk, fr_i F (a := 221) (by decide +kernel) k, fr_i F (a := 222) (by decide +kernel) k, fr_i F (a := 223) (by decide +kernel) k, fr_i F (a := 224) (by decide +kernel) k, on_s (by omega)]
          exact ⟨v, fun y => absurd P.1 y, fun _ => ⟨v, fun y => absurd y P.2.1, fun _ => ⟨v, fun y => absurd y P.2.2.1, fun _ => ⟨v, fun y => absurd y P.2.2.2, fun _ => ⟨v, v, hr h2 I2 F⟩⟩⟩⟩⟩
      · obtain ⟨r, hr⟩ := ih (k + 1) x4 x5 (by omega)
        refine ⟨r, fun h2 I2 F => t_X12_rankOn_14 d h2 I2.1 x1 x2 x3 x4 x5 _ _ ⟨fun z => ?_, fun _ => ?_⟩⟩
        · rw [(F.2 1 29 (by decide +kernel)).1] at z
          have z := q_le.mp z
          omega
        · have go := hr h2 I2 F
          rw [kk, fr_i F (a := 221) (by decide +kernel) k, fr_i F (a := 222) (by decide +kernel) k, fr_i F (a := 223) (by decide +kernel) k, fr_i F (a := 224) (by decide +kernel) k, on_s (by omega)]
          exact ⟨v, fun _ => go, fun y1 => ⟨v, fun _ => go, fun y2 => ⟨v, fun _ => go, fun y3 => ⟨v, fun _ => go, fun y4 => absurd ⟨y1, y2, y3, y4⟩ P⟩⟩⟩⟩
  obtain ⟨r, hr⟩ := lp (h_i h 1 29).toNatClampNeg 0 (h_i h 204 x1.toNatClampNeg) (-1) (by omega)
  refine ⟨r, fun h2 I2 F => t_X12_rankOn d h2 I2.1 x1 x2 x3 _ ⟨v1, ?_⟩⟩
  rw [fr_i F (a := 204) (by decide +kernel) _]
  exact hr h2 I2 F
theorem d_stateOf (d : Nat) {h : Hp_} (x1 x2 : Int32) (v : vp_in x1 400) : ∃ r, ∀ h2, Iv h2 → Fr wzE h h2 → Ci (m_X12_stateOf (d + 0) 0 0) [.ref 1, .int x1, .int x2] h2 (fun r' h' => r' = r ∧ h' = h2) := by
  by_cases a : h_i h 241 x1.toNatClampNeg = -1 ∨ x2 < h_i h 241 x1.toNatClampNeg
  · by_cases b : h_i h 242 x1.toNatClampNeg = -1 ∨ x2 < h_i h 242 x1.toNatClampNeg
    · refine ⟨0, fun h2 I2 F => t_X12_stateOf d h2 I2.1 x1 x2 _ ?_⟩
      rw [fr_i F (a := 241) (by decide +kernel) _, fr_i F (a := 242) (by decide +kernel) _]
      exact ⟨v, fun _ => ⟨v, fun _ => ⟨rfl, rfl⟩, fun nb => ⟨v, fun _ => ⟨rfl, rfl⟩, fun nc => absurd (b.resolve_left nb) nc⟩⟩, fun na => ⟨v, fun _ => ⟨v, fun _ => ⟨rfl, rfl⟩, fun nb => ⟨v, fun _ => ⟨rfl, rfl⟩, fun nc => absurd (b.resolve_left nb) nc⟩⟩, fun nc => absurd (a.resolve_left na) nc⟩⟩
    · refine ⟨2, fun h2 I2 F => t_X12_stateOf d h2 I2.1 x1 x2 _ ?_⟩
      rw [fr_i F (a := 241) (by decide +kernel) _, fr_i F (a := 242) (by decide +kernel) _]
      exact ⟨v, fun _ => ⟨v, fun y => absurd (Or.inl y) b, fun _ => ⟨v, fun y => absurd (Or.inr y) b, fun _ => ⟨rfl, rfl⟩⟩⟩, fun na => ⟨v, fun _ => ⟨v, fun y => absurd (Or.inl y) b, fun _ => ⟨v, fun y => absurd (Or.inr y) b, fun _ => ⟨rfl, rfl⟩⟩⟩, fun nc => absurd (a.resolve_left na) nc⟩⟩
  · refine ⟨1, fun h2 I2 F => t_X12_stateOf d h2 I2.1 x1 x2 _ ?_⟩
    rw [fr_i F (a := 241) (by decide +kernel) _, fr_i F (a := 242) (by decide +kernel) _]
    exact ⟨v, fun y => absurd (Or.inl y) a, fun _ => ⟨v, fun y => absurd (Or.inr y) a, fun _ => ⟨rfl, rfl⟩⟩⟩
theorem d_causeOf (d : Nat) {h : Hp_} (I : Iv h) (x1 x2 : Int32) (v1 : vp_in x1 400) : ∃ r, ∀ h2, Iv h2 → Fr wzE h h2 → Ci (m_X12_causeOf (d + 0) 0 0) [.ref 1, .int x1, .int x2] h2 (fun r' h' => r' = r ∧ h' = h2) := by
  have c64 := I.2.1 1 64
  rw [show tf 1 64 = (0, 200) by decide +kernel] at c64
  have b0 : 0 ≤ (h_i h 1 64).toInt := c64.1
  have b1 : (h_i h 1 64).toInt ≤ 200 := c64.2
  have nc := n_nat b0
  have lp : ∀ (n k : Nat) (x3 : Int32), k + n = (h_i h 1 64).toNatClampNeg → ∃ r, ∀ h2, Iv h2 → Fr wzE h h2 → AW (m_X12_causeOf (d + 0) 0 0) 0 0 10 [(0, .ref 1), (1, .int x1), (2, .int x2), (3, .int x3), (4, .int (Int32.ofNat k))] [] h2 (kI (fun r' h' => r' = r ∧ h' = h2)) := by
    intro n
    induction n with
    | zero =>
      intro k x3 e
      have ok := on_j (n := k) (by omega)
      refine ⟨x3, fun h2 I2 F => t_X12_causeOf_10 d h2 I2.1 x1 x2 x3 _ _ ⟨fun _ => ⟨rfl, rfl⟩, fun z => ?_⟩⟩
      rw [(F.2 1 64 (by decide +kernel)).1] at z
      have z := q_nle z
      omega
    | succ n ih =>
      intro k x3 e
      have ok := on_j (n := k) (by omega)
      have kk := on_k (n := k) (by omega)
      have v : vp_in (Int32.ofNat k) 200 := on_in (by omega) (by decide)
      by_cases P : h_i h 245 k = x1 ∧ ¬ x2 < h_i h 247 k
      · obtain ⟨r, hr⟩ := ih (k + 1) (h_i h 246 k) (by omega)
        refine ⟨r, fun h2 I2 F => t_X12_causeOf_10 d h2 I2.1 x1 x2 x3 _ _ ⟨fun z => ?_, fun _ => ?_⟩⟩
        · rw [(F.2 1 64 (by decide +kernel)).1] at z
          have z := q_le.mp z
          omega
        · rw [kk, fr_i F (a := 245) (by decide +kernel) k, fr_i F (a := 246) (by decide +kernel) k, fr_i F (a := 247) (by decide +kernel) k, on_s (by omega)]
          exact ⟨v, fun y => absurd P.1 y, fun _ => ⟨v, fun y => absurd y P.2, fun _ => ⟨v, hr h2 I2 F⟩⟩⟩
      · obtain ⟨r, hr⟩ := ih (k + 1) x3 (by omega)
        refine ⟨r, fun h2 I2 F => t_X12_causeOf_10 d h2 I2.1 x1 x2 x3 _ _ ⟨fun z => ?_, fun _ => ?_⟩⟩
        · rw [(F.2 1 64 (by decide +kernel)).1] at z
          have z := q_le.mp z
          omega
        · have go := hr h2 I2 F
          rw [kk, fr_i F (a := 245) (by decide +kernel) k, fr_i F (a := 246) (by decide +kernel) k, fr_i F (a := 247) (by decide +kernel) k, on_s (by omega)]
          exact ⟨v, fun _ => go, fun y1 => ⟨v, fun _ => go, fun y2 => absurd ⟨y1, y2⟩ P⟩⟩
  obtain ⟨r, hr⟩ := lp (h_i h 1 64).toNatClampNeg 0 (h_i h 243 x1.toNatClampNeg) (by omega)
  refine ⟨r, fun h2 I2 F => t_X12_causeOf d h2 I2.1 x1 x2 _ ⟨v1, ?_⟩⟩
  rw [fr_i F (a := 243) (by decide +kernel) _]
  exact hr h2 I2 F
theorem ix20 {s k : Nat} (hs : s < 2) (hk : k < 20) : (20 * Int32.ofNat s + Int32.ofNat k).toNatClampNeg = 20 * s + k ∧ vp_in (20 * Int32.ofNat s + Int32.ofNat k) 40 := by
  have t20 : (20 : Int32).toInt = 20 := rfl
  have es := on_j (n := s) (by omega)
  have ek := on_j (n := k) (by omega)
  have m1 : (20 * Int32.ofNat s).toInt = 20 * (s : Int) := by rw [tx_mul (by rw [t20, es]; omega) (by rw [t20, es]; omega), t20, es]
  have m2 : (20 * Int32.ofNat s + Int32.ofNat k).toInt = 20 * (s : Int) + k := by rw [tx_add (by omega) (by omega), m1, ek]
  have nn := n_nat (x := 20 * Int32.ofNat s + Int32.ofNat k) (by omega)
  exact ⟨by omega, dp_in (lo := 0) (hi := 39) ⟨by show (0 : Int) ≤ _; omega, by show _ ≤ (39 : Int); omega⟩ (by decide) (by decide)⟩
theorem d_forceOf (d s : Nat) (hs : s < 2) {h : Hp_} (I : Iv h) (x2 x3 : Int32) : ∃ r : Int32, rin r.toInt (-1, 19) ∧ ∀ h2, Iv h2 → Fr wzE h h2 → Ci (m_X12_forceOf (d + 0) 0 0) [.ref 1, .int (Int32.ofNat s), .int x2, .int x3] h2 (fun r' h' => r' = r ∧ h' = h2) := by
  have b := dp_rg I 235 s (show tfa 235 = some (0, 20) by decide +kernel)
  have b0 : 0 ≤ (h_i h 235 s).toInt := b.1
  have b1 : (h_i h 235 s).toInt ≤ 20 := b.2
  have nc := n_nat b0
  have v1 : vp_in (Int32.ofNat s) 2 := on_in hs (by decide)
  have k1 : (Int32.ofNat s).toNatClampNeg = s := on_k (by omega)
  have lp : ∀ (n k : Nat) (x4 : Int32), (x4 = -1 ∨ ∃ m, m < 20 ∧ x4 = Int32.ofNat m) → k + n = (h_i h 235 s).toNatClampNeg → ∃ r : Int32, rin r.toInt (-1, 19) ∧ ∀ h2, Iv h2 → Fr wzE h h2 → AW (m_X12_forceOf (d + 0) 0 0) 0 0 6 [(0, .ref 1), (1, .int (Int32.ofNat s)), (2, .int x2), (3, .int x3), (4, .int x4), (5, .int (Int32.ofNat k))] [] h2 (kI (fun r' h' => r' = r ∧ h' = h2)) := by
    intro n
    induction n with
    | zero =>
      intro k x4 o e
      have ok := on_j (n := k) (by omega)
      refine ⟨x4, ?_, fun h2 I2 F => t_X12_forceOf_6 d h2 I2.1 _ x2 x3 x4 _ _ ⟨v1, fun _ => ⟨rfl, rfl⟩, fun z => ?_⟩⟩
      · rcases o with u | ⟨m, lm, u⟩
        · rw [u]; exact ⟨by decide, by decide⟩
        · rw [u, on_j (by omega)]; exact ⟨by show (-1 : Int) ≤ _; omega, by show _ ≤ (19 : Int); omega⟩
      · rw [k1, fr_i F (a := 235) (by decide +kernel) s] at z
        have z := q_nle z
        omega
    | succ n ih =>
      intro k x4 o e
      have ok := on_j (n := k) (by omega)
      obtain ⟨jx, vx⟩ := ix20 (s := s) (k := k) hs (by omega)
      have v4 : ¬ x4 = -1 → vp_in (20 * Int32.ofNat s + x4) 40 := fun y => by
        rcases o with u | ⟨m, lm, u⟩
        · exact absurd u y
        · rw [u]; exact (ix20 hs lm).2
      by_cases P : ¬ x3 < h_i h 234 (20 * s + k) ∧ ¬ x2 < h_i h 233 (20 * s + k) ∧ (x4 = -1 ∨ ¬ h_i h 233 (20 * s + k) < h_i h 233 (20 * Int32.ofNat s + x4).toNatClampNeg)
      · obtain ⟨r, hb, hr⟩ := ih (k + 1) (Int32.ofNat k) (Or.inr ⟨k, by omega, rfl⟩) (by omega)
        refine ⟨r, hb, fun h2 I2 F => t_X12_forceOf_6 d h2 I2.1 _ x2 x3 x4 _ _ ⟨v1, fun z => ?_, fun _ => ?_⟩⟩
        · rw [k1, fr_i F (a := 235) (by decide +kernel) s] at z
          have z := q_le.mp z
          omega
        · have go := hr h2 I2 F
          rw [jx, fr_i F (a := 234) (by decide +kernel) _, fr_i F (a := 233) (by decide +kernel) (20 * s + k), fr_i F (a := 233) (by decide +kernel) (20 * Int32.ofNat s + x4).toNatClampNeg, on_s (by omega)]
          exact ⟨vx, fun y => absurd y P.1, fun _ => ⟨vx, fun y => absurd y P.2.1, fun _ => ⟨fun _ => go, fun y => ⟨vx, v4 y, fun z => absurd z (P.2.2.resolve_left y), fun _ => go⟩⟩⟩⟩
      · obtain ⟨r, hb, hr⟩ := ih (k + 1) x4 o (by omega)
        refine ⟨r, hb, fun h2 I2 F => t_X12_forceOf_6 d h2 I2.1 _ x2 x3 x4 _ _ ⟨v1, fun z => ?_, fun _ => ?_⟩⟩
        · rw [k1, fr_i F (a := 235) (by decide +kernel) s] at z
          have z := q_le.mp z
          omega
        · have go := hr h2 I2 F
          rw [jx, fr_i F (a := 234) (by decide +kernel) _, fr_i F (a := 233) (by decide +kernel) (20 * s + k), fr_i F (a := 233) (by decide +kernel) (20 * Int32.ofNat s + x4).toNatClampNeg, on_s (by omega)]
          exact ⟨vx, fun _ => go, fun y1 => ⟨vx, fun _ => go, fun y2 => ⟨fun y => absurd ⟨y1, y2, Or.inl y⟩ P, fun y => ⟨vx, v4 y, fun _ => go, fun z => absurd ⟨y1, y2, Or.inr z⟩ P⟩⟩⟩⟩
  obtain ⟨r, hb, hr⟩ := lp (h_i h 235 s).toNatClampNeg 0 (-1) (Or.inl rfl) (by omega)
  exact ⟨r, hb, fun h2 I2 F => t_X12_forceOf d h2 _ x2 x3 _ (hr h2 I2 F)⟩
