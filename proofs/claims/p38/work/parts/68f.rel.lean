/-! goods: how many marks are like, and the greatest sum -/
def lkv : Nat → Int32 → Int32 → Int32 → Int32
  | 0, _, _, n => n
  | r + 1, a, b, n => lkv r (a / 10) (b / 10) (if a - a / 10 * 10 = b - b / 10 * 10 then n + 1 else n)
def sbt (s : Int32) (f : Nat) : Int32 := s ||| ((1 : Int32) <<< (Int32.ofNat f &&& 31))
/-- the best of b and what the goods found from f on give -/
def fv (g : Nat → Int32) (e : Int32) (nx : Int32 → Int32) (s : Int32) : Nat → Nat → Int32 → Int32
  | 0, _, b => b
  | n + 1, f, b => fv g e nx s n (f + 1) (if ((s >>> (Int32.ofNat f &&& 31)) &&& 1) = 0 ∧ ¬ g f < e then (if b < g f + nx (sbt s f) then g f + nx (sbt s f) else b) else b)
def bv (G : Nat → Nat → Int32) (e : Int32) (F : Nat) : Nat → Nat → Int32 → Int32
  | 0, _, _ => 0
  | r + 1, l, s => fv (G l) e (bv G e F r (l + 1)) s F 0 (bv G e F r (l + 1) s)
/-- equal on what is looked at -/
theorem fv_eq {g g' : Nat → Int32} {e : Int32} {nx nx' : Int32 → Int32} {s : Int32} {F : Nat} (hg : ∀ f, f < F → g f = g' f) (hn : ∀ f, f < F → nx (sbt s f) = nx' (sbt s f)) : ∀ (n f : Nat) (b : Int32), f + n ≤ F → fv g e nx s n f b = fv g' e nx' s n f b
  | 0, _, _, _ => rfl
  | n + 1, f, b, l => by
    unfold fv
    rw [hg f (by omega), hn f (by omega)]
    exact fv_eq hg hn n (f + 1) _ (by omega)
theorem bv_eq {G G' : Nat → Nat → Int32} {e : Int32} {F M : Nat} (hG : ∀ l f, l < M → f < F → G l f = G' l f) : ∀ (r l : Nat) (s : Int32), l + r ≤ M → bv G e F r l s = bv G' e F r l s
  | 0, _, _, _ => rfl
  | r + 1, l, s, h => by
    unfold bv
    rw [bv_eq hG r (l + 1) s (by omega)]
    exact fv_eq (F := F) (fun f hf => hG l f (by omega) hf) (fun f _ => bv_eq hG r (l + 1) _ (by omega)) F 0 _ (by omega)
theorem sb_all : (List.range 256).all (fun s => (List.range 8).all (fun f => sbt (Int32.ofNat s) f == Int32.ofNat (s ||| 2 ^ f))) = true := by decide +kernel
theorem sb_in {s : Int32} {F f : Nat} (h0 : 0 ≤ s.toInt) (hs : s.toInt < ((2 ^ F : Nat) : Int)) (hF : F ≤ 8) (hf : f < F) : 0 ≤ (sbt s f).toInt ∧ (sbt s f).toInt < ((2 ^ F : Nat) : Int) := by
  have p8 : 2 ^ F ≤ 2 ^ 8 := Nat.pow_le_pow_right (by omega) hF
  have p8e : 2 ^ 8 = 256 := by decide
  have n := n_nat h0
  have es : s = Int32.ofNat s.toNatClampNeg := Int32.toInt_inj.mp (by rw [on_j (by omega)]; omega)
  have a := List.all_eq_true.mp sb_all s.toNatClampNeg (List.mem_range.mpr (by omega))
  have b := eq_of_beq (List.all_eq_true.mp a f (List.mem_range.mpr (by omega)))
  rw [← es] at b
  have o : s.toNatClampNeg ||| 2 ^ f < 2 ^ F := Nat.or_lt_two_pow (by omega) (Nat.pow_lt_pow_right (by omega) hf)
  rw [b, on_j (by omega)]
  omega
theorem c_alike (d : Nat) (h : Hp_) (x0 x1 : Int32) : Ci (m_X3_alike (d + 0) 0 0) [.int x0, .int x1] h (fun r h' => r = lkv 5 x0 x1 0 ∧ h' = h) := by
  have t1 : (1 : Int32).toInt = 1 := rfl
  have t5 : (5 : Int32).toInt = 5 := rfl
  have lp : ∀ (r : Nat) (x2 x3 x4 x5 : Int32), x5.toInt + r = 5 → 0 ≤ x5.toInt → AW (m_X3_alike (d + 0) 0 0) 0 0 10 [(2, .int x2), (3, .int x3), (4, .int x4), (5, .int x5)] [] h (kI (fun v h' => v = lkv r x3 x4 x2 ∧ h' = h)) := by
    intro r
    induction r with
    | zero =>
      intro x2 x3 x4 x5 e p
      exact t_X3_alike_10 d h x2 x3 x4 x5 _ ⟨fun _ => ⟨rfl, rfl⟩, fun z => absurd (q_le.mpr (by omega)) z⟩
    | succ r ih =>
      intro x2 x3 x4 x5 e p
      have e1 : (x5 + 1).toInt = x5.toInt + 1 := tx_add (by rw [t1]; omega) (by rw [t1]; omega)
      refine t_X3_alike_10 d h x2 x3 x4 x5 _ ⟨fun z => by have := q_le.mp z; omega, fun _ => ⟨fun n => ?_, fun y => ?_⟩⟩
      · have k := ih x2 (x3 / 10) (x4 / 10) (x5 + 1) (by omega) (by omega)
        unfold lkv
        rw [if_neg n]
        exact k
      · have k := ih (x2 + 1) (x3 / 10) (x4 / 10) (x5 + 1) (by omega) (by omega)
        unfold lkv
        rw [if_pos y]
        exact k
  exact t_X3_alike d h x0 x1 _ (lp 5 0 x0 x1 0 (by decide) (by decide))
theorem c_likeM (d : Nat) {h : Hp_} (w : Wf h) (x1 x2 : Int32) (v1 : vp_in x1 8) (v2 : vp_in x2 8) : Ci (m_X12_like (d + 0) 0 0) [.ref 1, .int x1, .int x2] h (fun r h' => r = lkv 5 (h_i h 278 x1.toNatClampNeg) (h_i h 279 x2.toNatClampNeg) 0 ∧ h' = h) := by
  have t1 : (1 : Int32).toInt = 1 := rfl
  have t5 : (5 : Int32).toInt = 5 := rfl
  have lp : ∀ (r : Nat) (x3 x4 x5 x6 : Int32), x6.toInt + r = 5 → 0 ≤ x6.toInt → AW (m_X12_like (d + 0) 0 0) 0 0 21 [(3, .int x3), (4, .int x4), (5, .int x5), (6, .int x6)] [] h (kI (fun v h' => v = lkv r x3 x4 x5 ∧ h' = h)) := by
    intro r
    induction r with
    | zero =>
      intro x3 x4 x5 x6 e p
      exact t_X12_like_21 d h x3 x4 x5 x6 _ ⟨fun _ => ⟨rfl, rfl⟩, fun z => absurd (q_le.mpr (by omega)) z⟩
    | succ r ih =>
      intro x3 x4 x5 x6 e p
      have e1 : (x6 + 1).toInt = x6.toInt + 1 := tx_add (by rw [t1]; omega) (by rw [t1]; omega)
      refine t_X12_like_21 d h x3 x4 x5 x6 _ ⟨fun z => by have := q_le.mp z; omega, fun _ => ⟨fun n => ?_, fun y => ?_⟩⟩
      · have k := ih (x3 / 10) (x4 / 10) x5 (x6 + 1) (by omega) (by omega)
        unfold lkv
        rw [if_neg n, Int32.add_zero]
        exact k
      · have k := ih (x3 / 10) (x4 / 10) (x5 + 1) (x6 + 1) (by omega) (by omega)
        unfold lkv
        rw [if_pos y]
        exact k
  exact t_X12_like d h w x1 x2 _ ⟨v1, v2, lp 5 _ _ 0 0 (by decide) (by decide)⟩
/-- the gains of the class -/
def Gn (e : Int32) (L F : Nat) (h : Hp_) : Prop := ∀ i f, i < L → f < F → h_i h 87 (8 * i + f) = if lkv 5 (h_i h 85 i) (h_i h 86 f) 0 < e then 0 else lkv 5 (h_i h 85 i) (h_i h 86 f) 0
theorem i64 {x1 x2 : Int32} {i f : Nat} (e1 : x1.toInt = (i : Int)) (e2 : x2.toInt = (f : Int)) (h1 : i < 8) (h2 : f < 8) : ((x1 * 8) + x2).toNatClampNeg = 8 * i + f ∧ vp_in ((x1 * 8) + x2) 64 := by
  have t8 : (8 : Int32).toInt = 8 := rfl
  have a : (x1 * 8).toInt = x1.toInt * 8 := by rw [tx_mul (by rw [t8]; omega) (by rw [t8]; omega), t8]
  have b : (x1 * 8 + x2).toInt = x1.toInt * 8 + x2.toInt := by rw [tx_add (by omega) (by omega), a]
  have n := n_nat (x := x1 * 8 + x2) (by omega)
  exact ⟨by omega, dp_in (lo := 0) (hi := 63) ⟨by show (0 : Int) ≤ _; omega, by show _ ≤ (63 : Int); omega⟩ (by decide) (by decide)⟩
theorem fg_in (d : Nat) (h0 : Hp_) (L F : Nat) (hL : L ≤ 8) (hF : F ≤ 8) (i : Nat) (hi : i < L) (x1 : Int32) (e1 : x1.toInt = (i : Int)) (K : Hp_ → Prop)
    (O : ∀ h, Iv h → Fr [87999] h0 h → (∀ j f, j < i + 1 → f < F → h_i h 87 (8 * j + f) = if lkv 5 (h_i h0 85 j) (h_i h0 86 f) 0 < h_i h0 19 4 then 0 else lkv 5 (h_i h0 85 j) (h_i h0 86 f) 0) → AW (m_X3_fillGains (d + 1) 0 0) 0 0 2 [(0, .ref 19), (1, .int (x1 + 1))] [] h (kV K)) (eF : (h_i h0 19 3).toInt = (F : Int)) :
    ∀ (n f : Nat) (x2 : Int32) (h : Hp_), x2.toInt = (f : Int) → f + n = F → Iv h → Fr [87999] h0 h → (∀ j g, (j < i ∧ g < F) ∨ (j = i ∧ g < f) → h_i h 87 (8 * j + g) = if lkv 5 (h_i h0 85 j) (h_i h0 86 g) 0 < h_i h0 19 4 then 0 else lkv 5 (h_i h0 85 j) (h_i h0 86 g) 0) → AW (m_X3_fillGains (d + 1) 0 0) 0 0 12 [(0, .ref 19), (1, .int x1), (2, .int x2)] [] h (kV K) := by
  have t1 : (1 : Int32).toInt = 1 := rfl
  intro n
  induction n with
  | zero =>
    intro f x2 h e2 en I Fh P
    have e3 : h_i h 19 3 = h_i h0 19 3 := (Fh.2 19 3 (by decide +kernel)).1
    refine t_X3_fillGains_12 d h I.1 x1 x2 K ⟨fun _ => O h I Fh (fun j g hj hg => P j g ?_), fun z => absurd (q_le.mpr (by rw [e3]; omega)) z⟩
    rcases Nat.lt_or_ge j i with u | u
    · exact Or.inl ⟨u, hg⟩
    · exact Or.inr ⟨by omega, by omega⟩
  | succ n ih =>
    intro f x2 h e2 en I Fh P
    have e3 : h_i h 19 3 = h_i h0 19 3 := (Fh.2 19 3 (by decide +kernel)).1
    have e4 : h_i h 19 4 = h_i h0 19 4 := (Fh.2 19 4 (by decide +kernel)).1
    have a5 : ∀ k, h_i h 85 k = h_i h0 85 k := fun k => fr_i Fh (by decide +kernel) k
    have a6 : ∀ k, h_i h 86 k = h_i h0 86 k := fun k => fr_i Fh (by decide +kernel) k
    have e5 : (x2 + 1).toInt = ((f + 1 : Nat) : Int) := by rw [tx_add (by rw [t1]; omega) (by rw [t1]; omega), t1]; omega
    have n1 := n_nat (x := x1) (by omega)
    have n2 := n_nat (x := x2) (by omega)
    have m1 : x1.toNatClampNeg = i := by omega
    have m2 : x2.toNatClampNeg = f := by omega
    have j := i64 e1 e2 (by omega) (by omega)
    have v1 : vp_in x1 8 := dp_in (lo := 0) (hi := 7) ⟨by show (0 : Int) ≤ _; omega, by show _ ≤ (7 : Int); omega⟩ (by decide) (by decide)
    have v2 : vp_in x2 8 := dp_in (lo := 0) (hi := 7) ⟨by show (0 : Int) ≤ _; omega, by show _ ≤ (7 : Int); omega⟩ (by decide) (by decide)
    refine t_X3_fillGains_12 d h I.1 x1 x2 K ⟨fun z => by have := q_le.mp z; rw [e3] at this; omega, fun _ => ⟨v1, v2, Ci.mono (c_alike d h _ _) (fun r h5 q => ?_)⟩⟩
    obtain ⟨er, eh⟩ := q
    subst eh
    rw [m1, m2, a5, a6] at er
    have st : ∀ v, v = (if lkv 5 (h_i h0 85 i) (h_i h0 86 f) 0 < h_i h0 19 4 then 0 else lkv 5 (h_i h0 85 i) (h_i h0 86 f) 0) → AW (m_X3_fillGains (d + 1) 0 0) 0 0 12 [(0, .ref 19), (1, .int x1), (2, .int (x2 + 1))] [] (h_im h5 87 ((x1 * 8) + x2).toNatClampNeg v) (kV K) := by
      intro v ev
      refine ih (f + 1) (x2 + 1) _ e5 (by omega) (tr_ 87 (by decide +kernel) I _ _ (by decide) (by decide)) (Fh.im (inw_row (by decide +kernel) _)) (fun jj g hg => ?_)
      rw [j.1, h_i_im]
      by_cases c : 87 = 87 ∧ 8 * jj + g = 8 * i + f
      · rw [if_pos c]
        have u : jj = i ∧ g = f := by omega
        rw [u.1, u.2]
        exact ev
      · rw [if_neg c]
        refine P jj g ?_
        rcases hg with u | u
        · exact Or.inl u
        · exact Or.inr ⟨u.1, by
            rcases Nat.lt_or_ge g f with w | w
            · exact w
            · exact absurd ⟨rfl, by omega⟩ c⟩
    refine ⟨I.1, fun z => ⟨j.2, st 0 ?_⟩, fun z => ⟨j.2, st r ?_⟩⟩
    · rw [er, e4] at z
      rw [if_pos z]
    · rw [er, e4] at z
      rw [if_neg z]
      exact er
theorem c_fillGains (d : Nat) {h : Hp_} (I : Iv h) {L F : Nat} (hL : L ≤ 8) (hF : F ≤ 8) (eL : (h_i h 19 2).toInt = (L : Int)) (eF : (h_i h 19 3).toInt = (F : Int)) : Cv (m_X3_fillGains (d + 1) 0 0) [.ref 19] h (fun h' => Iv h' ∧ Fr [87999] h h' ∧ Gn (h_i h 19 4) L F h') := by
  have t1 : (1 : Int32).toInt = 1 := rfl
  have fin : ∀ h', Fr [87999] h h' → (∀ j f, j < L → f < F → h_i h' 87 (8 * j + f) = if lkv 5 (h_i h 85 j) (h_i h 86 f) 0 < h_i h 19 4 then 0 else lkv 5 (h_i h 85 j) (h_i h 86 f) 0) → Gn (h_i h 19 4) L F h' := fun h' f P i g hi hg => by
    rw [fr_i f (a := 85) (by decide +kernel) i, fr_i f (a := 86) (by decide +kernel) g]
    exact P i g hi hg
  have lp : ∀ (n i : Nat) (x1 : Int32) (h' : Hp_), x1.toInt = (i : Int) → i + n = L → Iv h' → Fr [87999] h h' → (∀ j f, j < i → f < F → h_i h' 87 (8 * j + f) = if lkv 5 (h_i h 85 j) (h_i h 86 f) 0 < h_i h 19 4 then 0 else lkv 5 (h_i h 85 j) (h_i h 86 f) 0) → AW (m_X3_fillGains (d + 1) 0 0) 0 0 2 [(0, .ref 19), (1, .int x1)] [] h' (kV (fun h' => Iv h' ∧ Fr [87999] h h' ∧ Gn (h_i h 19 4) L F h')) := by
    intro n
    induction n with
    | zero =>
      intro i x1 h' e1 en I' Fh P
      have e3 : h_i h' 19 2 = h_i h 19 2 := (Fh.2 19 2 (by decide +kernel)).1
      exact t_X3_fillGains_2 d h' I'.1 x1 _ ⟨fun _ => ⟨I', Fh, fin h' Fh (fun j f hj hf => P j f (by omega) hf)⟩, fun z => absurd (q_le.mpr (by rw [e3]; omega)) z⟩
    | succ n ih =>
      intro i x1 h' e1 en I' Fh P
      have e3 : h_i h' 19 2 = h_i h 19 2 := (Fh.2 19 2 (by decide +kernel)).1
      have e5 : (x1 + 1).toInt = ((i + 1 : Nat) : Int) := by rw [tx_add (by rw [t1]; omega) (by rw [t1]; omega), t1]; omega
      refine t_X3_fillGains_2 d h' I'.1 x1 _ ⟨fun z => by have := q_le.mp z; rw [e3] at this; omega, fun _ => ?_⟩
      refine fg_in d h L F hL hF i (by omega) x1 e1 _ (fun h9 I9 F9 P9 => ih (i + 1) (x1 + 1) h9 e5 (by omega) I9 F9 P9) eF F 0 0 h' rfl (by omega) I' Fh (fun j g hg => ?_)
      rcases hg with u | u
      · exact P j g u.1 u.2
      · exact absurd u.2 (by omega)
  exact t_X3_fillGains d h _ (lp L 0 0 h rfl (by omega) I (Fr.rf _ _) (fun j f hj _ => absurd hj (by omega)))
theorem f_le {h : Hp_} {c f : Nat} {n : Int} (I : Iv h) (e : tf c f = (0, n)) : 0 ≤ (h_i h c f).toInt ∧ (h_i h c f).toInt ≤ n := by
  have rg := I.2.1 c f
  rw [e] at rg
  exact ⟨rg.1, rg.2⟩
def gG (h : Hp_) : Nat → Nat → Int32 := fun l f => lkv 5 (h_i h 85 l) (h_i h 86 f) 0
theorem i2304 {x2 x3 : Int32} {i : Nat} (e : x2.toInt = (i : Int)) (hi : i ≤ 8) (h0 : 0 ≤ x3.toInt) (h1 : x3.toInt < 256) : ((x2 * 256) + x3).toNatClampNeg = 256 * i + x3.toNatClampNeg ∧ vp_in ((x2 * 256) + x3) 2304 ∧ ((256 * x2) + x3).toNatClampNeg = 256 * i + x3.toNatClampNeg ∧ vp_in ((256 * x2) + x3) 2304 := by
  have t : (256 : Int32).toInt = 256 := rfl
  have a : (x2 * 256).toInt = x2.toInt * 256 := by rw [tx_mul (by rw [t]; omega) (by rw [t]; omega), t]
  have a' : (256 * x2).toInt = 256 * x2.toInt := by rw [tx_mul (by rw [t]; omega) (by rw [t]; omega), t]
  have b : (x2 * 256 + x3).toInt = x2.toInt * 256 + x3.toInt := by rw [tx_add (by omega) (by omega), a]
  have b' : (256 * x2 + x3).toInt = 256 * x2.toInt + x3.toInt := by rw [tx_add (by omega) (by omega), a']
  have n := n_nat (x := x2 * 256 + x3) (by omega)
  have n' := n_nat (x := 256 * x2 + x3) (by omega)
  have m := n_nat (x := x3) h0
  exact ⟨by omega, dp_in (lo := 0) (hi := 2303) ⟨by show (0 : Int) ≤ _; omega, by show _ ≤ (2303 : Int); omega⟩ (by decide) (by decide), by omega, dp_in (lo := 0) (hi := 2303) ⟨by show (0 : Int) ≤ _; omega, by show _ ≤ (2303 : Int); omega⟩ (by decide) (by decide)⟩
theorem p2_8 {F : Nat} (h : F ≤ 8) : 2 ^ F ≤ 256 ∧ 1 ≤ 2 ^ F := by
  have a : 2 ^ F ≤ 2 ^ 8 := Nat.pow_le_pow_right (by omega) h
  have b : 2 ^ 8 = 256 := by decide
  have c : 0 < 2 ^ F := Nat.pos_of_ne_zero (by simp)
  omega
theorem on_ne {j : Nat} (h : j ≤ 1000000) : ¬ Int32.ofNat j = -1 := fun z => by
  have k := on_j h
  have t : (-1 : Int32).toInt = -1 := rfl
  rw [z] at k
  omega
/-! goods: steps that keep the greatest sum, and what they reach -/
def cnb (g : Nat → Int32) (e s : Int32) (f : Nat) : Prop := ((s >>> (Int32.ofNat f &&& 31)) &&& 1) = 0 ∧ ¬ g f < e
theorem fv_ge {g : Nat → Int32} {e : Int32} {nx : Int32 → Int32} {s : Int32} : ∀ (n f : Nat) (b : Int32), b.toInt ≤ (fv g e nx s n f b).toInt
  | 0, _, _ => Int.le_refl _
  | n + 1, f, b => by
    unfold fv
    refine Int.le_trans ?_ (fv_ge n (f + 1) _)
    by_cases c : ((s >>> (Int32.ofNat f &&& 31)) &&& 1) = 0 ∧ ¬ g f < e
    · rw [if_pos c]
      by_cases l : b < g f + nx (sbt s f)
      · rw [if_pos l]
        exact Int.le_of_lt (q_lt.mp l)
      · rw [if_neg l]
        exact Int.le_refl _
    · rw [if_neg c]
      exact Int.le_refl _
theorem fv_gc {g : Nat → Int32} {e : Int32} {nx : Int32 → Int32} {s : Int32} : ∀ (n f : Nat) (b : Int32) (j : Nat), f ≤ j → j < f + n → cnb g e s j → (g j + nx (sbt s j)).toInt ≤ (fv g e nx s n f b).toInt
  | 0, _, _, _, h1, h2, _ => absurd h2 (by omega)
  | n + 1, f, b, j, h1, h2, c => by
    unfold fv
    by_cases ej : j = f
    · subst ej
      refine Int.le_trans ?_ (fv_ge n (j + 1) _)
      rw [if_pos (show ((s >>> (Int32.ofNat j &&& 31)) &&& 1) = 0 ∧ ¬ g j < e from c)]
      by_cases l : b < g j + nx (sbt s j)
      · rw [if_pos l]
        exact Int.le_refl _
      · rw [if_neg l]
        exact q_nlt l
    · exact fv_gc n (f + 1) _ j (by omega) (by omega) c
theorem fv_or {g : Nat → Int32} {e : Int32} {nx : Int32 → Int32} {s : Int32} : ∀ (n f : Nat) (b : Int32), fv g e nx s n f b = b ∨ ∃ j, f ≤ j ∧ j < f + n ∧ cnb g e s j ∧ fv g e nx s n f b = g j + nx (sbt s j)
  | 0, _, _ => Or.inl rfl
  | n + 1, f, b => by
    unfold fv
    by_cases c : ((s >>> (Int32.ofNat f &&& 31)) &&& 1) = 0 ∧ ¬ g f < e
    · rw [if_pos c]
      by_cases l : b < g f + nx (sbt s f)
      · rw [if_pos l]
        rcases fv_or (g := g) (e := e) (nx := nx) (s := s) n (f + 1) (g f + nx (sbt s f)) with h | ⟨j, h1, h2, h3, h4⟩
        · exact Or.inr ⟨f, Nat.le_refl _, by omega, c, h⟩
        · exact Or.inr ⟨j, by omega, by omega, h3, h4⟩
      · rw [if_neg l]
        rcases fv_or (g := g) (e := e) (nx := nx) (s := s) n (f + 1) b with h | ⟨j, h1, h2, h3, h4⟩
        · exact Or.inl h
        · exact Or.inr ⟨j, by omega, by omega, h3, h4⟩
    · rw [if_neg c]
      rcases fv_or (g := g) (e := e) (nx := nx) (s := s) n (f + 1) b with h | ⟨j, h1, h2, h3, h4⟩
      · exact Or.inl h
      · exact Or.inr ⟨j, by omega, by omega, h3, h4⟩
theorem lkv_in : ∀ (r : Nat) (a b n : Int32), 0 ≤ n.toInt → n.toInt + r ≤ 100 → n.toInt ≤ (lkv r a b n).toInt ∧ (lkv r a b n).toInt ≤ n.toInt + r
  | 0, _, _, n, _, _ => by
    unfold lkv
    omega
  | r + 1, a, b, n, h0, h1 => by
    unfold lkv
    have t1 : (1 : Int32).toInt = 1 := rfl
    have e1 : (n + 1).toInt = n.toInt + 1 := tx_add (by rw [t1]; omega) (by rw [t1]; omega)
    by_cases c : a - a / 10 * 10 = b - b / 10 * 10
    · rw [if_pos c]
      have ih := lkv_in r (a / 10) (b / 10) (n + 1) (by omega) (by omega)
      omega
    · rw [if_neg c]
      have ih := lkv_in r (a / 10) (b / 10) n h0 (by omega)
      omega
/-- the greatest sum from good l on -/
def bl_ (G : Nat → Nat → Int32) (e : Int32) (F L l : Nat) : Int32 → Int32 := bv G e F (L - l) l
theorem bl_s {G : Nat → Nat → Int32} {e : Int32} {F L l : Nat} (h : l < L) (s : Int32) : bl_ G e F L l s = fv (G l) e (bl_ G e F L (l + 1)) s F 0 (bl_ G e F L (l + 1) s) := by
  unfold bl_
  rw [show L - l = (L - (l + 1)) + 1 by omega]
  rfl
theorem bl_in {G : Nat → Nat → Int32} {e : Int32} {F L : Nat} (hG : ∀ l f, 0 ≤ (G l f).toInt ∧ (G l f).toInt ≤ 5) : ∀ (r l : Nat), l + r = L → r ≤ 8 → ∀ s, 0 ≤ (bl_ G e F L l s).toInt ∧ (bl_ G e F L l s).toInt ≤ 5 * (r : Int)
  | 0, l, h, _, s => by
    have z : bl_ G e F L l s = 0 := by
      unfold bl_
      rw [show L - l = 0 by omega]
      rfl
    have t0 : (0 : Int32).toInt = 0 := rfl
    rw [z, t0]
    omega
  | r + 1, l, h, hr, s => by
    have ih := bl_in (e := e) (F := F) (L := L) hG r (l + 1) (by omega) (by omega)
    rw [bl_s (by omega)]
    rcases fv_or (g := G l) (e := e) (nx := bl_ G e F L (l + 1)) (s := s) F 0 (bl_ G e F L (l + 1) s) with k | ⟨j, _, _, _, k⟩
    · rw [k]
      have := ih s
      omega
    · rw [k]
      have a := ih (sbt s j)
      have b := hG l j
      rw [tx_add (by omega) (by omega)]
      omega
/-- joined to none, or to f, with the sum kept -/
def opn (G : Nat → Nat → Int32) (e : Int32) (F L l : Nat) (s : Int32) : Prop := bl_ G e F L (l + 1) s = bl_ G e F L l s
def opf (G : Nat → Nat → Int32) (e : Int32) (F L l : Nat) (s : Int32) (f : Nat) : Prop := cnb (G l) e s f ∧ G l f + bl_ G e F L (l + 1) (sbt s f) = bl_ G e F L l s
def stq (G : Nat → Nat → Int32) (e : Int32) (F L l : Nat) (s z : Int32) : Prop := (opn G e F L l s ∧ z = s) ∨ ∃ f, f < F ∧ opf G e F L l s f ∧ z = sbt s f
def rch (G : Nat → Nat → Int32) (e : Int32) (F L : Nat) : Nat → Int32 → Prop
  | 0, s => s = 0
  | l + 1, z => ∃ s, rch G e F L l s ∧ stq G e F L l s z
theorem rch_in {G : Nat → Nat → Int32} {e : Int32} {F L : Nat} (hF : F ≤ 8) : ∀ (l : Nat) (s : Int32), rch G e F L l s → 0 ≤ s.toInt ∧ s.toInt < ((2 ^ F : Nat) : Int)
  | 0, s, h => by
    have h' : s = 0 := h
    have p := (Nat.pos_of_ne_zero (by simp) : 0 < 2 ^ F)
    have t0 : (0 : Int32).toInt = 0 := rfl
    rw [h', t0]
    omega
  | l + 1, z, ⟨s, h, k⟩ => by
    have ih := rch_in hF l s h
    rcases k with ⟨_, k⟩ | ⟨f, hf, _, k⟩
    · rw [k]
      exact ih
    · rw [k]
      exact sb_in ih.1 ih.2 hF hf
/-- good bd is joined to t alone (to none, if t is -1) -/
def gqx (G : Nat → Nat → Int32) (e : Int32) (bd : Nat) (t : Int32) (l f : Nat) : Int32 := if l = bd ∧ ¬ t = Int32.ofNat f then e - 1 else G l f
def cvx (G : Nat → Nat → Int32) (e : Int32) (F bd : Nat) (t : Int32) : Nat → Nat → Int32 → Int32
  | 0, _, _ => 0
  | r + 1, l, s => fv (gqx G e bd t l) e (cvx G e F bd t r (l + 1)) s F 0 (if l = bd ∧ ¬ t = -1 then -1000 else cvx G e F bd t r (l + 1) s)
theorem gqx_ne {G : Nat → Nat → Int32} {e : Int32} {bd : Nat} {t : Int32} {l : Nat} (h : ¬ l = bd) : gqx G e bd t l = G l := funext (fun f => if_neg (fun c => h c.1))
theorem cv_hi {G : Nat → Nat → Int32} {e : Int32} {F bd : Nat} {t : Int32} : ∀ (r l : Nat), bd < l → ∀ s, cvx G e F bd t r l s = bv G e F r l s
  | 0, _, _, _ => rfl
  | r + 1, l, h, s => by
    unfold cvx bv
    rw [if_neg (fun c => absurd c.1 (by omega)), gqx_ne (by omega), show cvx G e F bd t r (l + 1) = bv G e F r (l + 1) from funext (fun s => cv_hi r (l + 1) (by omega) s)]
def cl_ (G : Nat → Nat → Int32) (e : Int32) (F L bd : Nat) (t : Int32) (l : Nat) : Int32 → Int32 := cvx G e F bd t (L - l) l
theorem cl_s {G : Nat → Nat → Int32} {e : Int32} {F L bd : Nat} {t : Int32} {l : Nat} (h : l < L) (n : ¬ l = bd) (s : Int32) : cl_ G e F L bd t l s = fv (G l) e (cl_ G e F L bd t (l + 1)) s F 0 (cl_ G e F L bd t (l + 1) s) := by
  unfold cl_
  rw [show L - l = (L - (l + 1)) + 1 by omega]
  show fv (gqx G e bd t l) e (cvx G e F bd t (L - (l + 1)) (l + 1)) s F 0 (if l = bd ∧ ¬ t = -1 then -1000 else cvx G e F bd t (L - (l + 1)) (l + 1) s) = _
  rw [if_neg (fun c => n c.1), gqx_ne n]
theorem cl_b {G : Nat → Nat → Int32} {e : Int32} {F L bd : Nat} {t : Int32} (h : bd < L) (s : Int32) : cl_ G e F L bd t bd s = fv (gqx G e bd t bd) e (bl_ G e F L (bd + 1)) s F 0 (if bd = bd ∧ ¬ t = -1 then -1000 else bl_ G e F L (bd + 1) s) := by
  unfold cl_ bl_
  rw [show L - bd = (L - (bd + 1)) + 1 by omega]
  show fv (gqx G e bd t bd) e (cvx G e F bd t (L - (bd + 1)) (bd + 1)) s F 0 (if bd = bd ∧ ¬ t = -1 then -1000 else cvx G e F bd t (L - (bd + 1)) (bd + 1) s) = _
  rw [show cvx G e F bd t (L - (bd + 1)) (bd + 1) = bv G e F (L - (bd + 1)) (bd + 1) from funext (fun s => cv_hi _ _ (by omega) s)]
theorem gqx_c {G : Nat → Nat → Int32} {e : Int32} {bd : Nat} {t s : Int32} {j : Nat} (he : 1 ≤ e.toInt) (c : cnb (gqx G e bd t bd) e s j) : t = Int32.ofNat j ∧ cnb (G bd) e s j ∧ gqx G e bd t bd j = G bd j := by
  by_cases q : t = Int32.ofNat j
  · have g : gqx G e bd t bd j = G bd j := if_neg (fun c => c.2 q)
    refine ⟨q, ?_, g⟩
    unfold cnb at c ⊢
    rw [g] at c
    exact c
  · have g : gqx G e bd t bd j = e - 1 := if_pos ⟨rfl, q⟩
    have t1 : (1 : Int32).toInt = 1 := rfl
    have l : e.toInt < 2147483648 := Int32.toInt_lt e
    have k := c.2
    rw [g] at k
    exact absurd (q_lt.mpr (by rw [tx_sub (by rw [t1]; omega) (by rw [t1]; omega), t1]; omega)) k
theorem on_inj {i j : Nat} (hi : i ≤ 1000000) (hj : j ≤ 1000000) (h : Int32.ofNat i = Int32.ofNat j) : i = j := by
  have a := on_j hi
  have b := on_j hj
  rw [h, b] at a
  omega
def Bs (G : Nat → Nat → Int32) (e : Int32) (F L bd : Nat) (t : Int32) (P : Int32 → Prop) : Prop := ∀ s, -1000 ≤ (cl_ G e F L bd t bd s).toInt ∧ (cl_ G e F L bd t bd s).toInt ≤ (bl_ G e F L bd s).toInt ∧ (cl_ G e F L bd t bd s = bl_ G e F L bd s ↔ P s)
theorem bs_f {G : Nat → Nat → Int32} {e : Int32} {F L bd f0 : Nat} (hG : ∀ l f, 0 ≤ (G l f).toInt ∧ (G l f).toInt ≤ 5) (he : 1 ≤ e.toInt) (hL : L ≤ 8) (hF : F ≤ 8) (hb : bd < L) (hf : f0 < F) : Bs G e F L bd (Int32.ofNat f0) (fun s => opf G e F L bd s f0) := fun s => by
  have ec := cl_b (G := G) (e := e) (F := F) (t := Int32.ofNat f0) hb s
  rw [if_pos ⟨rfl, on_ne (by omega)⟩] at ec
  have tm : (-1000 : Int32).toInt = -1000 := rfl
  have bb := bl_in (e := e) (F := F) (L := L) hG (L - bd) bd (by omega) (by omega) s
  have lo := fv_ge (g := gqx G e bd (Int32.ofNat f0) bd) (e := e) (nx := bl_ G e F L (bd + 1)) (s := s) F 0 (-1000)
  rw [← ec, tm] at lo
  have key : cl_ G e F L bd (Int32.ofNat f0) bd s = -1000 ∨ (cl_ G e F L bd (Int32.ofNat f0) bd s = G bd f0 + bl_ G e F L (bd + 1) (sbt s f0) ∧ cnb (G bd) e s f0) := by
    rcases fv_or (g := gqx G e bd (Int32.ofNat f0) bd) (e := e) (nx := bl_ G e F L (bd + 1)) (s := s) F 0 (-1000) with k | ⟨j, _, hj, c, k⟩
    · exact Or.inl (ec.trans k)
    · have q := gqx_c he c
      have ej : f0 = j := on_inj (by omega) (by omega) q.1
      rw [q.2.2] at k
      rw [← ej] at k q
      exact Or.inr ⟨ec.trans k, q.2.1⟩
  have up : (cl_ G e F L bd (Int32.ofNat f0) bd s).toInt ≤ (bl_ G e F L bd s).toInt := by
    rcases key with k | ⟨k, c⟩
    · rw [k, tm]
      omega
    · rw [k, bl_s hb]
      exact fv_gc F 0 _ f0 (Nat.zero_le _) (by omega) c
  refine ⟨lo, up, fun eq => ?_, fun o => ?_⟩
  · rcases key with k | ⟨k, c⟩
    · rw [← eq, k, tm] at bb
      omega
    · exact ⟨c, by rw [← k, eq]⟩
  · refine Int32.toInt_inj.mp (Int.le_antisymm up ?_)
    have g : gqx G e bd (Int32.ofNat f0) bd f0 = G bd f0 := if_neg (fun c => c.2 rfl)
    have k := fv_gc (g := gqx G e bd (Int32.ofNat f0) bd) (e := e) (nx := bl_ G e F L (bd + 1)) (s := s) F 0 (-1000) f0 (Nat.zero_le _) (by omega) (by
      have c := o.1
      unfold cnb at c ⊢
      rw [g]
      exact c)
    rw [← ec, g, o.2] at k
    exact k
theorem bs_n {G : Nat → Nat → Int32} {e : Int32} {F L bd : Nat} (hG : ∀ l f, 0 ≤ (G l f).toInt ∧ (G l f).toInt ≤ 5) (he : 1 ≤ e.toInt) (hL : L ≤ 8) (hF : F ≤ 8) (hb : bd < L) : Bs G e F L bd (-1) (fun s => opn G e F L bd s) := fun s => by
  have ec := cl_b (G := G) (e := e) (F := F) (t := -1) hb s
  rw [if_neg (fun c => c.2 rfl)] at ec
  have bb := bl_in (e := e) (F := F) (L := L) hG (L - (bd + 1)) (bd + 1) (by omega) (by omega) s
  have k : cl_ G e F L bd (-1) bd s = bl_ G e F L (bd + 1) s := by
    rcases fv_or (g := gqx G e bd (-1) bd) (e := e) (nx := bl_ G e F L (bd + 1)) (s := s) F 0 (bl_ G e F L (bd + 1) s) with k | ⟨j, _, hj, c, k⟩
    · exact ec.trans k
    · exact absurd (gqx_c he c).1.symm (on_ne (by omega))
  rw [k]
  exact ⟨by omega, by rw [bl_s hb s]; exact fv_ge F 0 _, Iff.rfl⟩
/-- good bd, k goods on, can be met with P by steps that keep the sum -/
def qvx (G : Nat → Nat → Int32) (e : Int32) (F L : Nat) (P : Int32 → Prop) : Nat → Nat → Int32 → Prop
  | 0, _, s => P s
  | k + 1, l, s => ∃ z, stq G e F L l s z ∧ qvx G e F L P k (l + 1) z
theorem qv_m {G : Nat → Nat → Int32} {e : Int32} {F L bd : Nat} {t : Int32} {P : Int32 → Prop} (hG : ∀ l f, 0 ≤ (G l f).toInt ∧ (G l f).toInt ≤ 5) (hL : L ≤ 8) (hb : bd < L) (B : Bs G e F L bd t P) : ∀ (k l : Nat), l + k = bd → ∀ s, -1000 ≤ (cl_ G e F L bd t l s).toInt ∧ (cl_ G e F L bd t l s).toInt ≤ (bl_ G e F L l s).toInt ∧ (cl_ G e F L bd t l s = bl_ G e F L l s ↔ qvx G e F L P k l s)
  | 0, l, h, s => by
    have el : l = bd := by omega
    rw [el]
    exact B s
  | k + 1, l, h, s => by
    have ih := qv_m hG hL hb B k (l + 1) (by omega)
    have bb := bl_in (e := e) (F := F) (L := L) hG (L - (l + 1)) (l + 1) (by omega) (by omega)
    have ec := cl_s (G := G) (e := e) (F := F) (t := t) (bd := bd) (l := l) (L := L) (by omega) (by omega) s
    have eb := bl_s (G := G) (e := e) (F := F) (l := l) (L := L) (by omega) s
    have g0 := fv_ge (g := G l) (e := e) (nx := cl_ G e F L bd t (l + 1)) (s := s) F 0 (cl_ G e F L bd t (l + 1) s)
    have b0 := fv_ge (g := G l) (e := e) (nx := bl_ G e F L (l + 1)) (s := s) F 0 (bl_ G e F L (l + 1) s)
    rw [← ec] at g0
    rw [← eb] at b0
    have is := ih s
    have gj : ∀ j, j < F → cnb (G l) e s j → (G l j).toInt + (cl_ G e F L bd t (l + 1) (sbt s j)).toInt ≤ (cl_ G e F L bd t l s).toInt ∧ (G l j).toInt + (bl_ G e F L (l + 1) (sbt s j)).toInt ≤ (bl_ G e F L l s).toInt := fun j hj c => by
      have a := fv_gc (g := G l) (e := e) (nx := cl_ G e F L bd t (l + 1)) (s := s) F 0 (cl_ G e F L bd t (l + 1) s) j (Nat.zero_le _) (by omega) c
      have b := fv_gc (g := G l) (e := e) (nx := bl_ G e F L (l + 1)) (s := s) F 0 (bl_ G e F L (l + 1) s) j (Nat.zero_le _) (by omega) c
      have x := ih (sbt s j)
      have y := bb (sbt s j)
      have w := hG l j
      rw [← ec, tx_add (by omega) (by omega)] at a
      rw [← eb, tx_add (by omega) (by omega)] at b
      exact ⟨a, b⟩
    have key : cl_ G e F L bd t l s = cl_ G e F L bd t (l + 1) s ∨ ∃ j, j < F ∧ cnb (G l) e s j ∧ (cl_ G e F L bd t l s).toInt = (G l j).toInt + (cl_ G e F L bd t (l + 1) (sbt s j)).toInt := by
      rcases fv_or (g := G l) (e := e) (nx := cl_ G e F L bd t (l + 1)) (s := s) F 0 (cl_ G e F L bd t (l + 1) s) with q | ⟨j, _, hj, c, q⟩
      · exact Or.inl (ec.trans q)
      · refine Or.inr ⟨j, by omega, c, ?_⟩
        have x := ih (sbt s j)
        have y := bb (sbt s j)
        have w := hG l j
        rw [ec, q, tx_add (by omega) (by omega)]
    have up : (cl_ G e F L bd t l s).toInt ≤ (bl_ G e F L l s).toInt := by
      rcases key with q | ⟨j, hj, c, q⟩
      · rw [q]
        omega
      · have a := gj j hj c
        have x := ih (sbt s j)
        omega
    refine ⟨by omega, up, fun eq => ?_, fun o => ?_⟩
    · rcases key with q | ⟨j, hj, c, q⟩
      · have e1 : cl_ G e F L bd t (l + 1) s = bl_ G e F L (l + 1) s := Int32.toInt_inj.mp (by rw [← q, eq] at is ⊢; omega)
        refine ⟨s, Or.inl ⟨?_, rfl⟩, is.2.2.mp e1⟩
        show bl_ G e F L (l + 1) s = bl_ G e F L l s
        rw [← e1, ← q, eq]
      · have a := gj j hj c
        have x := ih (sbt s j)
        have y := bb (sbt s j)
        have w := hG l j
        rw [eq] at q
        have e1 : cl_ G e F L bd t (l + 1) (sbt s j) = bl_ G e F L (l + 1) (sbt s j) := Int32.toInt_inj.mp (by omega)
        refine ⟨sbt s j, Or.inr ⟨j, hj, ⟨c, Int32.toInt_inj.mp ?_⟩, rfl⟩, x.2.2.mp e1⟩
        rw [tx_add (by omega) (by omega)]
        omega
    · obtain ⟨z, st, o⟩ := o
      refine Int32.toInt_inj.mp (Int.le_antisymm up ?_)
      rcases st with ⟨n, ez⟩ | ⟨j, hj, n, ez⟩
      · rw [ez] at o
        have e1 := is.2.2.mpr o
        have n' : bl_ G e F L (l + 1) s = bl_ G e F L l s := n
        rw [← n', ← e1]
        exact g0
      · rw [ez] at o
        have x := ih (sbt s j)
        have y := bb (sbt s j)
        have w := hG l j
        have e1 := x.2.2.mpr o
        have a := gj j hj n.1
        have n' := n.2
        rw [← n', tx_add (by omega) (by omega), ← e1]
        exact a.1
theorem re_q {G : Nat → Nat → Int32} {e : Int32} {F L : Nat} {P : Int32 → Prop} : ∀ (k l : Nat), (∃ s, rch G e F L l s ∧ qvx G e F L P k l s) ↔ ∃ s, rch G e F L (l + k) s ∧ P s
  | 0, _ => Iff.rfl
  | k + 1, l => by
    rw [show l + (k + 1) = (l + 1) + k by omega, ← re_q k (l + 1)]
    exact ⟨fun ⟨s, a, z, b, c⟩ => ⟨z, ⟨s, a, b⟩, c⟩, fun ⟨z, ⟨s, a, b⟩, c⟩ => ⟨s, a, z, b, c⟩⟩
/-- the sum with good bd bound is the greatest: good bd is met so by best steps -/
theorem cl_eq {G : Nat → Nat → Int32} {e : Int32} {F L bd : Nat} {t : Int32} {P : Int32 → Prop} (hG : ∀ l f, 0 ≤ (G l f).toInt ∧ (G l f).toInt ≤ 5) (hL : L ≤ 8) (hb : bd < L) (B : Bs G e F L bd t P) : cl_ G e F L bd t 0 0 = bl_ G e F L 0 0 ↔ ∃ s, rch G e F L bd s ∧ P s := by
  rw [(qv_m hG hL hb B bd 0 (by omega) 0).2.2]
  have k := re_q (G := G) (e := e) (F := F) (L := L) (P := P) bd 0
  rw [Nat.zero_add] at k
  rw [← k]
  exact ⟨fun h => ⟨0, rfl, h⟩, fun ⟨s, a, b⟩ => by
    have a' : s = 0 := a
    rw [a'] at b
    exact b⟩
/-- numbers by their bits -/
def Mks (x : Int32) (P : Nat → Prop) : Prop := ∃ c, c < 512 ∧ x = Int32.ofNat c ∧ ∀ b, b < 9 → (c.testBit b = true ↔ P b)
theorem mk_all : (List.range 512).all (fun c => (List.range 9).all (fun b => (Int32.ofNat c ||| ((1 : Int32) <<< (Int32.ofNat b &&& 31))) == Int32.ofNat (c ||| 2 ^ b))) = true := by decide +kernel
theorem ml_all : (List.range 512).all (fun c => (Int32.ofNat c &&& (-257)) == Int32.ofNat (c % 2 ^ 8)) = true := by decide +kernel
theorem ms_all : (List.range 512).all (fun c => decide (bcv (Int32.ofNat c) = 1) == decide (bcv (Int32.ofNat (c % 2 ^ 8)) + (if c.testBit 8 then 1 else 0) = 1)) = true := by decide +kernel
theorem Mks.or {x : Int32} {P : Nat → Prop} {b0 : Nat} (m : Mks x P) (h : b0 < 9) : Mks (x ||| ((1 : Int32) <<< (Int32.ofNat b0 &&& 31))) (fun b => P b ∨ b = b0) := by
  obtain ⟨c, hc, ex, hb⟩ := m
  have p : 2 ^ b0 < 2 ^ 9 := Nat.pow_lt_pow_right (by omega) h
  have p9 : 2 ^ 9 = 512 := by decide
  refine ⟨c ||| 2 ^ b0, by rw [← p9]; exact Nat.or_lt_two_pow (by omega) p, ?_, fun b h9 => ?_⟩
  · rw [ex]
    exact eq_of_beq (List.all_eq_true.mp (List.all_eq_true.mp mk_all c (List.mem_range.mpr hc)) b0 (List.mem_range.mpr h))
  · rw [Nat.testBit_or, Bool.or_eq_true, hb b h9, Nat.testBit_two_pow, decide_eq_true_iff]
    exact ⟨fun z => z.elim Or.inl (fun y => Or.inr y.symm), fun z => z.elim Or.inl (fun y => Or.inr y.symm)⟩
theorem Mks.cg {x : Int32} {P Q : Nat → Prop} (m : Mks x P) (h : ∀ b, b < 9 → (P b ↔ Q b)) : Mks x Q := by
  obtain ⟨c, hc, ex, hb⟩ := m
  exact ⟨c, hc, ex, fun b h9 => (hb b h9).trans (h b h9)⟩
theorem Mks.z : Mks 0 (fun _ => False) := ⟨0, by decide, rfl, fun b _ => by simp⟩
theorem mk_eq {c c' : Nat} (h : c < 512) (h' : c' < 512) (e : ∀ b, b < 9 → (c.testBit b = true ↔ c'.testBit b = true)) : c = c' := Nat.eq_of_testBit_eq (fun i => by
  by_cases h9 : i < 9
  · have k := e i h9
    cases a : c.testBit i <;> cases b : c'.testBit i
    · rfl
    · rw [a, b] at k
      exact absurd (k.mpr rfl) (by decide)
    · rw [a, b] at k
      exact absurd (k.mp rfl) (by decide)
    · rfl
  · have p : 2 ^ 9 ≤ 2 ^ i := Nat.pow_le_pow_right (by omega) (by omega)
    have p9 : 2 ^ 9 = 512 := by decide
    rw [Nat.testBit_lt_two_pow (by omega), Nat.testBit_lt_two_pow (by omega)])
theorem Mks.low {x : Int32} {P : Nat → Prop} (m : Mks x P) : Mks (x &&& (-257)) (fun b => b ≠ 8 ∧ P b) := by
  obtain ⟨c, hc, ex, hb⟩ := m
  have l : c % 2 ^ 8 < 2 ^ 8 := Nat.mod_lt _ (by decide)
  have p8 : 2 ^ 8 = 256 := by decide
  refine ⟨c % 2 ^ 8, by omega, ?_, fun b h9 => ?_⟩
  · rw [ex]
    exact eq_of_beq (List.all_eq_true.mp ml_all c (List.mem_range.mpr hc))
  · rw [Nat.testBit_mod_two_pow, Bool.and_eq_true, decide_eq_true_iff, hb b h9]
    exact ⟨fun z => ⟨by omega, z.2⟩, fun z => ⟨by omega, z.2⟩⟩
theorem Mks.inj {x y : Int32} {P Q : Nat → Prop} (m : Mks x P) (n : Mks y Q) (h : ∀ b, b < 9 → (P b ↔ Q b)) : x = y := by
  obtain ⟨c, hc, ex, hb⟩ := m
  obtain ⟨c', hc', ex', hb'⟩ := n
  rw [ex, ex', mk_eq hc hc' (fun b h9 => ((hb b h9).trans (h b h9)).trans (hb' b h9).symm)]
/-- one way alone, counted with and without the bit of none -/
theorem Mks.one {x y : Int32} {P Q : Nat → Prop} (m : Mks x P) (n : Mks y Q) (h : ∀ b, b < 8 → (P b ↔ Q b)) (h8 : ¬ Q 8) : (P 8 → (bcv x = 1 ↔ bcv y + 1 = 1)) ∧ (¬ P 8 → (bcv x = 1 ↔ bcv y + 0 = 1)) := by
  have e : y = x &&& (-257) := n.inj m.low (fun b h9 => by
    by_cases c : b = 8
    · rw [c]
      exact ⟨fun q => absurd q h8, fun q => absurd rfl q.1⟩
    · have hb := h b (by omega)
      exact ⟨fun q => ⟨c, hb.mpr q⟩, fun q => hb.mp q.2⟩)
  obtain ⟨c, hc, ex, hb⟩ := m
  have k := eq_of_beq (List.all_eq_true.mp ms_all c (List.mem_range.mpr hc))
  have l := eq_of_beq (List.all_eq_true.mp ml_all c (List.mem_range.mpr hc))
  have b8 := hb 8 (by decide)
  have iff1 : (bcv (Int32.ofNat c) = 1) ↔ (bcv (Int32.ofNat (c % 2 ^ 8)) + (if c.testBit 8 then 1 else 0) = 1) := decide_eq_decide.mp k
  refine ⟨fun p => ?_, fun p => ?_⟩
  · rw [e, ex, l, iff1, if_pos (b8.mpr p)]
  · rw [e, ex, l, iff1, if_neg (fun z => p (b8.mp z))]
theorem fb_f (d : Nat) {h : Hp_} (I : Iv h) {G : Nat → Nat → Int32} {e : Int32} {F i : Nat} (hF : F ≤ 8) (hi : i < 8) (he : 1 ≤ e.toInt) (nx : Int32 → Int32) (x1 x2 x3 : Int32) (e2 : x2.toInt = (i : Int)) (p0 : 0 ≤ x3.toInt) (p1 : x3.toInt < ((2 ^ F : Nat) : Int)) (eF : (h_i h 19 3).toInt = (F : Int)) (Gh : ∀ f, f < F → h_i h 87 (8 * i + f) = if G i f < e then 0 else G i f) (T : ∀ s : Int32, 0 ≤ s.toInt → s.toInt < ((2 ^ F : Nat) : Int) → h_i h 88 (256 * (i + 1) + s.toNatClampNeg) = nx s) (K : Hp_ → Prop) :
    ∀ (n f : Nat) (x4 : Int32), f + n = F → AW (m_X3_fillBest (d + 1) 0 0) 0 0 28 [(0, .ref 19), (1, .int x1), (2, .int x2), (3, .int (x3 + 1))] [] (h_im h 88 ((x2 * 256) + x3).toNatClampNeg (fv (G i) e nx x3 n f x4)) (kV K) → AW (m_X3_fillBest (d + 1) 0 0) 0 0 52 [(0, .ref 19), (1, .int x1), (2, .int x2), (3, .int x3), (4, .int x4), (5, .int (Int32.ofNat f))] [] h (kV K) := by
  have t1 : (1 : Int32).toInt = 1 := rfl
  have t0 : (0 : Int32).toInt = 0 := rfl
  have p8 := p2_8 hF
  have jj := i2304 e2 (by omega) p0 (by omega)
  intro n
  induction n with
  | zero =>
    intro f x4 en O
    exact t_X3_fillBest_52 d h I.1 x1 x2 x3 x4 (Int32.ofNat f) K ⟨fun _ => ⟨jj.2.1, O⟩, fun z => absurd (q_le.mpr (by rw [eF, on_j (by omega)]; omega)) z⟩
  | succ n ih =>
    intro f x4 en O
    have ef : (Int32.ofNat f).toInt = (f : Int) := on_j (by omega)
    have j := i64 e2 ef hi (by omega)
    have gh := Gh f (by omega)
    unfold fv at O
    have no : ¬ (((x3 >>> (Int32.ofNat f &&& 31)) &&& 1) = 0 ∧ ¬ G i f < e) → AW (m_X3_fillBest (d + 1) 0 0) 0 0 52 [(0, .ref 19), (1, .int x1), (2, .int x2), (3, .int x3), (4, .int x4), (5, .int (Int32.ofNat f + 1))] [] h (kV K) := fun nn => by
      rw [if_neg nn] at O
      rw [on_s (by omega)]
      exact ih (f + 1) x4 (by omega) O
    refine t_X3_fillBest_52 d h I.1 x1 x2 x3 x4 (Int32.ofNat f) K ⟨fun z => by have := q_le.mp z; rw [eF, ef] at this; omega, fun _ => ?_⟩
    refine t_X3_canJoin d h I.1 x2 (Int32.ofNat f) x3 _ ⟨fun nb => ⟨I.1, fun _ => no (fun w => nb w.1), fun w => absurd rfl w⟩, fun fb => ⟨j.2, fun g0 => ⟨I.1, fun _ => no (fun w => ?_), fun w => absurd rfl w⟩, fun g1 => ⟨I.1, fun w => absurd w (by decide), fun _ => ?_⟩⟩⟩
    · rw [j.1, gh, if_neg w.2] at g0
      have u := q_nlt w.2
      have v := q_le.mp g0
      omega
    · have ng : ¬ G i f < e := fun w => by
        rw [j.1, gh, if_pos w] at g1
        exact g1 (q_le.mpr (by omega))
      have sb := sb_in p0 p1 hF (f := f) (by omega)
      have e21 : (x2 + 1).toInt = ((i + 1 : Nat) : Int) := by rw [tx_add (by rw [t1]; omega) (by rw [t1]; omega), t1]; omega
      have k2 := i2304 (x2 := x2 + 1) (x3 := sbt x3 f) e21 (by omega) sb.1 (by omega)
      have er : h_i h 87 ((x2 * 8) + Int32.ofNat f).toNatClampNeg + h_i h 88 (((x2 + 1) * 256) + (x3 ||| ((1 : Int32) <<< (Int32.ofNat f &&& 31)))).toNatClampNeg = G i f + nx (sbt x3 f) := by
        rw [j.1, gh, if_neg ng]
        have k3 := k2.1
        unfold sbt at k3
        rw [k3]
        have k4 := T (sbt x3 f) sb.1 sb.2
        unfold sbt at k4 ⊢
        rw [k4]
      refine t_X3_sumWith d h I.1 x2 (Int32.ofNat f) x3 _ ⟨j.2, k2.2.1, I.1, ?_⟩
      rw [er, on_s (by omega)]
      rw [if_pos ⟨fb, ng⟩] at O
      exact ih (f + 1) _ (by omega) O
def Tb (G : Nat → Nat → Int32) (e : Int32) (F L : Nat) (c : Nat) (h : Hp_) (i : Nat) : Prop := ∀ (j : Nat) (s : Int32), i ≤ j → j ≤ L → 0 ≤ s.toInt → s.toInt < ((2 ^ F : Nat) : Int) → h_i h c (256 * j + s.toNatClampNeg) = bv G e F (L - j) j s
theorem fb_s (d : Nat) (h0 : Hp_) {G : Nat → Nat → Int32} {e : Int32} {F L i : Nat} (hF : F ≤ 8) (hL : L ≤ 8) (hi : i < L) (he : 1 ≤ e.toInt) (x1 x2 : Int32) (e1 : x1.toInt = ((2 ^ F : Nat) : Int)) (e2 : x2.toInt = (i : Int)) (eF : (h_i h0 19 3).toInt = (F : Int)) (Gh : ∀ i f, i < L → f < F → h_i h0 87 (8 * i + f) = if G i f < e then 0 else G i f) (K : Hp_ → Prop) (O : ∀ h, Iv h → Fr [88999] h0 h → Tb G e F L 88 h i → AW (m_X3_fillBest (d + 1) 0 0) 0 0 22 [(0, .ref 19), (1, .int x1), (2, .int (x2 + (-1)))] [] h (kV K)) :
    ∀ (m : Nat) (x3 : Int32) (h : Hp_), 0 ≤ x3.toInt → x3.toInt + m = ((2 ^ F : Nat) : Int) → Iv h → Fr [88999] h0 h → Tb G e F L 88 h (i + 1) → (∀ s : Int32, 0 ≤ s.toInt → s.toInt < x3.toInt → h_i h 88 (256 * i + s.toNatClampNeg) = bv G e F (L - i) i s) → AW (m_X3_fillBest (d + 1) 0 0) 0 0 28 [(0, .ref 19), (1, .int x1), (2, .int x2), (3, .int x3)] [] h (kV K) := by
  have t1 : (1 : Int32).toInt = 1 := rfl
  have p8 := p2_8 hF
  intro m
  induction m with
  | zero =>
    intro x3 h p0 p1 I Fh T P
    refine t_X3_fillBest_28 d h I.1 x1 x2 x3 K ⟨fun _ => O h I Fh (fun j s hj hL' s0 s1 => ?_), fun z => absurd (q_le.mpr (by omega)) z⟩
    rcases Nat.lt_or_ge i j with u | u
    · exact T j s u hL' s0 s1
    · have ej : j = i := by omega
      rw [ej]
      exact P s s0 (by omega)
  | succ m ih =>
    intro x3 h p0 p1 I Fh T P
    have e3 : (x3 + 1).toInt = x3.toInt + 1 := tx_add (by rw [t1]; omega) (by rw [t1]; omega)
    have e21 : (x2 + 1).toInt = ((i + 1 : Nat) : Int) := by rw [tx_add (by rw [t1]; omega) (by rw [t1]; omega), t1]; omega
    have k1 := i2304 (x2 := x2 + 1) (x3 := x3) e21 (by omega) p0 (by omega)
    have k0 := i2304 (x2 := x2) (x3 := x3) e2 (by omega) p0 (by omega)
    have hb : h_i h 88 (((x2 + 1) * 256) + x3).toNatClampNeg = bv G e F (L - (i + 1)) (i + 1) x3 := by
      rw [k1.1]
      exact T (i + 1) x3 (Nat.le_refl _) (by omega) p0 (by omega)
    have eb : bv G e F (L - i) i x3 = fv (G i) e (bv G e F (L - (i + 1)) (i + 1)) x3 F 0 (bv G e F (L - (i + 1)) (i + 1) x3) := by
      rw [show L - i = (L - (i + 1)) + 1 by omega]
      rfl
    refine t_X3_fillBest_28 d h I.1 x1 x2 x3 K ⟨fun z => by have := q_le.mp z; omega, fun _ => ⟨k1.2.1, ?_⟩⟩
    rw [hb]
    refine fb_f d I (G := G) (e := e) (F := F) (i := i) hF (by omega) he (bv G e F (L - (i + 1)) (i + 1)) x1 x2 x3 e2 p0 (by omega) (by rw [(Fh.2 19 3 (by decide +kernel)).1]; exact eF) (fun f hf => by rw [fr_i Fh (a := 87) (by decide +kernel)]; exact Gh i f hi hf) (fun s s0 s1 => T (i + 1) s (Nat.le_refl _) (by omega) s0 s1) K F 0 _ (by omega) ?_
    rw [← eb, k0.1]
    have n3 := n_nat (x := x3) p0
    refine ih (x3 + 1) _ (by omega) (by omega) (tr_ 88 (by decide +kernel) I _ _ (by decide) (by decide)) (Fh.im (inw_row (by decide +kernel) _)) (fun j s hj hL' s0 s1 => ?_) (fun s s0 s1 => ?_)
    · have ns := n_nat (x := s) s0
      rw [h_i_im, if_neg (fun c => by have := c.2; omega)]
      exact T j s hj hL' s0 s1
    · have ns := n_nat (x := s) s0
      rw [h_i_im]
      by_cases c : s.toInt = x3.toInt
      · have es : s = x3 := Int32.toInt_inj.mp c
        rw [if_pos ⟨rfl, by rw [es]⟩, es]
      · rw [if_neg (fun c' => by have := c'.2; omega)]
        exact P s s0 (by omega)
theorem sh_all : (List.range 9).all (fun F => ((1 : Int32) <<< (Int32.ofNat F &&& 31)).toInt == ((2 ^ F : Nat) : Int)) = true := by decide +kernel
theorem fb_i (d : Nat) (h0 hA : Hp_) {G : Nat → Nat → Int32} {e : Int32} {F L : Nat} (hF : F ≤ 8) (hL : L ≤ 8) (he : 1 ≤ e.toInt) (y1 : Int32) (ex1 : y1.toInt = ((2 ^ F : Nat) : Int)) (eF : (h_i h0 19 3).toInt = (F : Int)) (Gh : ∀ i f, i < L → f < F → h_i h0 87 (8 * i + f) = if G i f < e then 0 else G i f) (FA : Fr [88999] hA h0) :
    ∀ (r : Nat) (x2 : Int32) (h' : Hp_), x2.toInt = (r : Int) - 1 → r ≤ L → Iv h' → Fr [88999] h0 h' → Tb G e F L 88 h' r → AW (m_X3_fillBest (d + 1) 0 0) 0 0 22 [(0, .ref 19), (1, .int y1), (2, .int x2)] [] h' (kV (fun h' => Iv h' ∧ Fr [88999] hA h' ∧ Tb G e F L 88 h' 0))
  | 0, x2, h', ee, _, I', Fh, T => t_X3_fillBest_22 d h' _ x2 _ ⟨fun _ => ⟨I', FA.tr Fh, T⟩, fun z => absurd (q_lt.mpr (show x2.toInt < 0 by rw [ee]; decide)) z⟩
  | r + 1, x2, h', ee, rl, I', Fh, T => by
    have er : x2.toInt = (r : Int) := by rw [ee]; exact (show ((r : Int) + 1) - 1 = (r : Int) from Int.add_sub_cancel _ _)
    have tm : (-1 : Int32).toInt = -1 := rfl
    have lr : (r : Int) ≤ 8 := Int.ofNat_le.mpr (Nat.le_trans (Nat.le_of_succ_le rl) hL)
    have nr : (0 : Int) ≤ (r : Int) := Int.natCast_nonneg r
    have e4 : (x2 + (-1)).toInt = (r : Int) - 1 := by
      rw [tx_add (by rw [tm, er]; exact Int.le_trans (by decide) (Int.add_le_add_right nr (-1))) (by rw [tm, er]; exact Int.lt_of_le_of_lt (Int.add_le_add_right lr (-1)) (by decide)), tm, er]
      rfl
    refine t_X3_fillBest_22 d h' _ x2 _ ⟨fun z => absurd (q_lt.mp z) (by rw [er]; exact Int.not_lt.mpr nr), fun _ => ?_⟩
    exact fb_s d h0 (G := G) (e := e) (F := F) (L := L) (i := r) hF hL rl he y1 x2 ex1 er eF Gh _ (fun h9 I9 F9 T9 => fb_i d h0 hA hF hL he y1 ex1 eF Gh FA r (x2 + (-1)) h9 e4 (Nat.le_of_succ_le rl) I9 F9 T9) (2 ^ F) 0 h' (by decide) (Int.zero_add _) I' Fh T (fun s s0 s1 => absurd s1 (Int.not_lt.mpr s0))
theorem c_fillBest (d : Nat) {h : Hp_} (I : Iv h) {L F : Nat} (hL : L ≤ 8) (hF : F ≤ 8) (he : 1 ≤ (h_i h 19 4).toInt) (eL : (h_i h 19 2).toInt = (L : Int)) (eF : (h_i h 19 3).toInt = (F : Int)) (Gh : Gn (h_i h 19 4) L F h) : Cv (m_X3_fillBest (d + 1) 0 0) [.ref 19] h (fun h' => Iv h' ∧ Fr [88999] h h' ∧ Tb (gG h) (h_i h 19 4) F L 88 h' 0) := by
  have t1 : (1 : Int32).toInt = 1 := rfl
  have tm : (-1 : Int32).toInt = -1 := rfl
  have p8 := p2_8 hF
  refine t_X3_fillBest d h I.1 _ (Cv.mono (s_J7_fill d h 88 2304 0 (ws_88 I.1) (by decide)) (fun h1 q => ?_))
  have I1 : Iv h1 := by rw [q]; exact I.iw (fun k => by rw [tfa_tf (show tfa 88 = some rtop by decide +kernel)]; exact rtop_in _) (by decide) (by decide)
  have F1 : Fr [88999] h h1 := by rw [q]; exact (Fr.rf _ _).iw (by decide +kernel)
  have Z1 : ∀ k, k < 2304 → h_i h1 88 k = 0 := fun k hk => by rw [q, h_i_iw, if_pos rfl]; unfold fl_; rw [if_pos hk]
  have e3 : h_i h1 19 3 = h_i h 19 3 := (F1.2 19 3 (by decide +kernel)).1
  have e2 : h_i h1 19 2 = h_i h 19 2 := (F1.2 19 2 (by decide +kernel)).1
  have e3n : h_i h1 19 3 = Int32.ofNat F := Int32.toInt_inj.mp (by rw [e3, on_j (by omega)]; exact eF)
  have ex1 : ((1 : Int32) <<< ((h_i h1 19 3) &&& 31)).toInt = ((2 ^ F : Nat) : Int) := by
    rw [e3n]
    exact eq_of_beq (List.all_eq_true.mp sh_all F (List.mem_range.mpr (by omega)))
  have e2L : (h_i h1 19 2).toInt = (L : Int) := by rw [e2]; exact eL
  generalize ((1 : Int32) <<< ((h_i h1 19 3) &&& 31)) = y1 at ex1 ⊢
  have ex2 : ((h_i h1 19 2) - 1).toInt = (L : Int) - 1 := by rw [tx_sub (by rw [t1]; omega) (by rw [t1]; omega), t1, e2L]
  refine ⟨I1.1, fb_i d h1 h hF hL he y1 ex1 (by rw [e3]; exact eF) (fun i f hi hf => by rw [fr_i F1 (a := 87) (by decide +kernel)]; exact Gh i f hi hf) F1 L _ h1 ex2 (Nat.le_refl _) I1 (Fr.rf _ _) (fun j s hj hl s0 s1 => ?_)⟩
  have ns := n_nat (x := s) s0
  rw [Z1 _ (by omega), show L - j = 0 by omega]
  rfl
/-! goods: what the class reaches -/
def Upr (i : Nat) (P : Int32 → Prop) (h h' : Hp_) : Prop := (∀ j k, j ≠ i + 1 → k < 256 → h_i h' 89 (256 * j + k) = h_i h 89 (256 * j + k)) ∧ ∀ z : Int32, 0 ≤ z.toInt → z.toInt < 256 → (¬ h_i h' 89 (256 * (i + 1) + z.toNatClampNeg) = 0 ↔ (¬ h_i h 89 (256 * (i + 1) + z.toNatClampNeg) = 0 ∨ P z))
def Cup (i : Nat) (A : Nat → Prop) (h h' : Hp_) : Prop := (∀ j, j ≠ i → h_i h' 90 j = h_i h 90 j) ∧ ∀ P, Mks (h_i h 90 i) P → Mks (h_i h' 90 i) (fun b => P b ∨ A b)
def Spr (i : Nat) (P : Int32 → Prop) (A : Nat → Prop) (h h' : Hp_) : Prop := Iv h' ∧ Fr [89999, 90999] h h' ∧ Upr i P h h' ∧ Cup i A h h'
theorem Spr.rf {i : Nat} {h : Hp_} (I : Iv h) : Spr i (fun _ => False) (fun _ => False) h h := ⟨I, Fr.rf _ _, ⟨fun _ _ _ _ => rfl, fun z _ _ => ⟨Or.inl, fun y => y.elim id False.elim⟩⟩, ⟨fun _ _ => rfl, fun P m => m.cg (fun b _ => ⟨Or.inl, fun y => y.elim id False.elim⟩)⟩⟩
theorem Spr.cg {i : Nat} {P P' : Int32 → Prop} {A A' : Nat → Prop} {h h' : Hp_} (s : Spr i P A h h') (p : ∀ z, P z ↔ P' z) (a : ∀ b, A b ↔ A' b) : Spr i P' A' h h' := ⟨s.1, s.2.1, ⟨s.2.2.1.1, fun z h0 h1 => (s.2.2.1.2 z h0 h1).trans ⟨fun y => y.elim Or.inl (fun y => Or.inr ((p z).mp y)), fun y => y.elim Or.inl (fun y => Or.inr ((p z).mpr y))⟩⟩, ⟨s.2.2.2.1, fun Q m => (s.2.2.2.2 Q m).cg (fun b _ => ⟨fun y => y.elim Or.inl (fun y => Or.inr ((a b).mp y)), fun y => y.elim Or.inl (fun y => Or.inr ((a b).mpr y))⟩)⟩⟩
theorem Spr.st {i : Nat} {P : Int32 → Prop} {A : Nat → Prop} {h h1 : Hp_} (s : Spr i P A h h1) {z0 : Int32} (z1 : 0 ≤ z0.toInt) (z2 : z0.toInt < 256) {b0 : Nat} (hb : b0 < 9) : Spr i (fun z => P z ∨ z = z0) (fun b => A b ∨ b = b0) h (h_im (h_im h1 90 i (h_i h1 90 i ||| ((1 : Int32) <<< (Int32.ofNat b0 &&& 31)))) 89 (256 * (i + 1) + z0.toNatClampNeg) 1) := by
  have n0 := n_nat (x := z0) z1
  refine ⟨(tr_ 90 (by decide +kernel) s.1 _ _ (by decide) (by decide)).im (by rw [tfa_tf (show tfa 89 = some (0, 1) by decide +kernel)]; exact ⟨by decide, by decide⟩) (jw_jr (by decide) (by decide) _), (s.2.1.im (inw_row (by decide +kernel) _)).im (inw_row (by decide +kernel) _), ⟨fun j k hj hk => ?_, fun z h0 h2 => ?_⟩, ⟨fun j hj => ?_, fun Q m => ?_⟩⟩
  · rw [h_i_im, if_neg (fun c => by have := c.2; omega), im_ne (by decide)]
    exact s.2.2.1.1 j k hj hk
  · have nz := n_nat (x := z) h0
    rw [h_i_im]
    by_cases c : z = z0
    · rw [if_pos ⟨rfl, by rw [c]⟩]
      exact ⟨fun _ => Or.inr (Or.inr c), fun _ => by decide⟩
    · have ne : z.toInt ≠ z0.toInt := fun y => c (Int32.toInt_inj.mp y)
      rw [if_neg (fun y => by have := y.2; omega), im_ne (by decide), s.2.2.1.2 z h0 h2]
      exact ⟨fun y => y.elim Or.inl (fun y => Or.inr (Or.inl y)), fun y => y.elim Or.inl (fun y => y.elim Or.inr (fun y => absurd y c))⟩
  · rw [im_ne (by decide), h_i_im, if_neg (fun c => hj c.2)]
    exact s.2.2.2.1 j hj
  · rw [im_ne (by decide), im_at]
    exact ((s.2.2.2.2 Q m).or hb).cg (fun b _ => ⟨fun y => y.elim (fun y => y.elim Or.inl (fun y => Or.inr (Or.inl y))) (fun y => Or.inr (Or.inr y)), fun y => y.elim (fun y => Or.inl (Or.inl y)) (fun y => y.elim (fun y => Or.inl (Or.inr y)) Or.inr)⟩)
def psq (G : Nat → Nat → Int32) (e : Int32) (F L l : Nat) (s : Int32) (f : Nat) (z : Int32) : Prop := (opn G e F L l s ∧ z = s) ∨ ∃ g, g < f ∧ opf G e F L l s g ∧ z = sbt s g
def pch (G : Nat → Nat → Int32) (e : Int32) (F L l : Nat) (s : Int32) (f b : Nat) : Prop := (b = 8 ∧ opn G e F L l s) ∨ (b < f ∧ opf G e F L l s b)
theorem psq_y {G : Nat → Nat → Int32} {e : Int32} {F L l : Nat} {s : Int32} {f : Nat} (o : opf G e F L l s f) (z : Int32) : (psq G e F L l s f z ∨ z = sbt s f) ↔ psq G e F L l s (f + 1) z := ⟨fun y => y.elim (fun y => y.elim Or.inl (fun ⟨g, a, b⟩ => Or.inr ⟨g, by omega, b⟩)) (fun y => Or.inr ⟨f, by omega, o, y⟩), fun y => y.elim (fun y => Or.inl (Or.inl y)) (fun ⟨g, a, b, c⟩ => by
  by_cases q : g = f
  · exact Or.inr (by rw [← q]; exact c)
  · exact Or.inl (Or.inr ⟨g, by omega, b, c⟩))⟩
theorem psq_n {G : Nat → Nat → Int32} {e : Int32} {F L l : Nat} {s : Int32} {f : Nat} (o : ¬ opf G e F L l s f) (z : Int32) : psq G e F L l s f z ↔ psq G e F L l s (f + 1) z := ⟨fun y => y.elim Or.inl (fun ⟨g, a, b⟩ => Or.inr ⟨g, by omega, b⟩), fun y => y.elim Or.inl (fun ⟨g, a, b, c⟩ => by
  by_cases q : g = f
  · exact absurd (q ▸ b) o
  · exact Or.inr ⟨g, by omega, b, c⟩)⟩
theorem pch_y {G : Nat → Nat → Int32} {e : Int32} {F L l : Nat} {s : Int32} {f : Nat} (o : opf G e F L l s f) (b : Nat) : (pch G e F L l s f b ∨ b = f) ↔ pch G e F L l s (f + 1) b := ⟨fun y => y.elim (fun y => y.elim Or.inl (fun ⟨a, c⟩ => Or.inr ⟨by omega, c⟩)) (fun y => Or.inr ⟨by omega, by rw [y]; exact o⟩), fun y => y.elim (fun y => Or.inl (Or.inl y)) (fun ⟨a, c⟩ => by
  by_cases q : b = f
  · exact Or.inr q
  · exact Or.inl (Or.inr ⟨by omega, c⟩))⟩
theorem pch_n {G : Nat → Nat → Int32} {e : Int32} {F L l : Nat} {s : Int32} {f : Nat} (o : ¬ opf G e F L l s f) (b : Nat) : pch G e F L l s f b ↔ pch G e F L l s (f + 1) b := ⟨fun y => y.elim Or.inl (fun ⟨a, c⟩ => Or.inr ⟨by omega, c⟩), fun y => y.elim Or.inl (fun ⟨a, c⟩ => by
  by_cases q : b = f
  · exact absurd (q ▸ c) o
  · exact Or.inr ⟨by omega, c⟩)⟩
theorem sp_f (d : Nat) (h0 : Hp_) {G : Nat → Nat → Int32} {e : Int32} {F L i : Nat} (hF : F ≤ 8) (hL : L ≤ 8) (hi : i < L) (he : 1 ≤ e.toInt) (s : Int32) (p0 : 0 ≤ s.toInt) (p1 : s.toInt < ((2 ^ F : Nat) : Int)) (eF : (h_i h0 19 3).toInt = (F : Int)) (Gh : ∀ f, f < F → h_i h0 87 (8 * i + f) = if G i f < e then 0 else G i f) (T : ∀ s : Int32, 0 ≤ s.toInt → s.toInt < ((2 ^ F : Nat) : Int) → h_i h0 88 (256 * (i + 1) + s.toNatClampNeg) = bl_ G e F L (i + 1) s) (K : Hp_ → Prop) (O : ∀ h', Spr i (stq G e F L i s) (pch G e F L i s F) h0 h' → K h') :
    ∀ (n f : Nat) (h : Hp_), f + n = F → Spr i (psq G e F L i s f) (pch G e F L i s f) h0 h → AW (m_X3_spreadFrom (d + 1) 0 0) 0 0 61 [(0, .ref 19), (1, .int (Int32.ofNat i)), (2, .int s), (3, .int (bl_ G e F L i s)), (4, .int (Int32.ofNat f))] [] h (kV K) := by
  have t1 : (1 : Int32).toInt = 1 := rfl
  have t0 : (0 : Int32).toInt = 0 := rfl
  have p8 := p2_8 hF
  have ei : (Int32.ofNat i).toInt = (i : Int) := on_j (by omega)
  have ki : (Int32.ofNat i).toNatClampNeg = i := on_k (by omega)
  have vi : vp_in (Int32.ofNat i) 8 := on_in (by omega) (by decide)
  intro n
  induction n with
  | zero =>
    intro f h en S
    have ef : f = F := by omega
    have e3 : h_i h 19 3 = h_i h0 19 3 := (S.2.1.2 19 3 (by decide +kernel)).1
    refine t_X3_spreadFrom_61 d h S.1.1 (Int32.ofNat i) s _ (Int32.ofNat f) K ⟨fun _ => O h ?_, fun z => absurd (q_le.mpr (by rw [e3, eF, on_j (by omega)]; omega)) z⟩
    rw [ef] at S
    exact S
  | succ n ih =>
    intro f h en S
    have e3 : h_i h 19 3 = h_i h0 19 3 := (S.2.1.2 19 3 (by decide +kernel)).1
    have ef : (Int32.ofNat f).toInt = (f : Int) := on_j (by omega)
    have j := i64 ei ef (by omega) (by omega)
    have gh : h_i h 87 (8 * i + f) = if G i f < e then 0 else G i f := by
      rw [fr_i S.2.1 (a := 87) (by decide +kernel)]
      exact Gh f (by omega)
    have no : ¬ opf G e F L i s f → AW (m_X3_spreadFrom (d + 1) 0 0) 0 0 61 [(0, .ref 19), (1, .int (Int32.ofNat i)), (2, .int s), (3, .int (bl_ G e F L i s)), (4, .int (Int32.ofNat f + 1))] [] h (kV K) := fun nn => by
      rw [on_s (by omega)]
      exact ih (f + 1) h (by omega) (S.cg (fun z => psq_n nn z) (fun b => pch_n nn b))
    refine t_X3_spreadFrom_61 d h S.1.1 (Int32.ofNat i) s _ (Int32.ofNat f) K ⟨fun z => by have := q_le.mp z; rw [e3, eF, ef] at this; omega, fun _ => ?_⟩
    refine t_X3_canJoin d h S.1.1 (Int32.ofNat i) (Int32.ofNat f) s _ ⟨fun nb => ⟨S.1.1, fun _ => no (fun w => nb w.1.1), fun w => absurd rfl w⟩, fun fb => ⟨j.2, fun g0 => ⟨S.1.1, fun _ => no (fun w => ?_), fun w => absurd rfl w⟩, fun g1 => ⟨S.1.1, fun w => absurd w (by decide), fun _ => ?_⟩⟩⟩
    · rw [j.1, gh, if_neg w.1.2] at g0
      have u := q_nlt w.1.2
      have v := q_le.mp g0
      omega
    · have ng : ¬ G i f < e := fun w => by
        rw [j.1, gh, if_pos w] at g1
        exact g1 (q_le.mpr (by omega))
      have sb := sb_in p0 p1 hF (f := f) (by omega)
      have e21 : (Int32.ofNat i + 1).toInt = ((i + 1 : Nat) : Int) := by rw [tx_add (by rw [t1]; omega) (by rw [t1]; omega), t1]; omega
      have k2 := i2304 (x2 := Int32.ofNat i + 1) (x3 := sbt s f) e21 (by omega) sb.1 (by omega)
      have k3 := k2.1
      have k3v := k2.2.1
      unfold sbt at k3 k3v
      have es : h_i h 87 ((Int32.ofNat i * 8) + Int32.ofNat f).toNatClampNeg + h_i h 88 (((Int32.ofNat i + 1) * 256) + (s ||| ((1 : Int32) <<< (Int32.ofNat f &&& 31)))).toNatClampNeg = G i f + bl_ G e F L (i + 1) (sbt s f) := by
        rw [j.1, gh, if_neg ng, k3, fr_i S.2.1 (a := 88) (by decide +kernel)]
        have k4 := T (sbt s f) sb.1 sb.2
        unfold sbt at k4 ⊢
        rw [k4]
      refine t_X3_sumWith d h S.1.1 (Int32.ofNat i) (Int32.ofNat f) s _ ⟨j.2, k2.2.1, S.1.1, fun ne => no (fun w => ?_), fun eq => ⟨vi, vi, k3v, ?_⟩⟩
      · rw [es] at ne
        exact ne w.2
      · rw [es] at eq
        have o : opf G e F L i s f := ⟨⟨fb, ng⟩, eq⟩
        have S2 := (S.st sb.1 (show (sbt s f).toInt < 256 by omega) (b0 := f) (by omega)).cg (fun z => psq_y o z) (fun b => pch_y o b)
        rw [ki, k3, on_s (by omega)]
        exact ih (f + 1) _ (by omega) S2
theorem c_spread (d : Nat) {h : Hp_} (I : Iv h) {G : Nat → Nat → Int32} {e : Int32} {F L i : Nat} (hF : F ≤ 8) (hL : L ≤ 8) (hi : i < L) (he : 1 ≤ e.toInt) (s : Int32) (p0 : 0 ≤ s.toInt) (p1 : s.toInt < ((2 ^ F : Nat) : Int)) (eF : (h_i h 19 3).toInt = (F : Int)) (Gh : ∀ f, f < F → h_i h 87 (8 * i + f) = if G i f < e then 0 else G i f) (T : ∀ s : Int32, 0 ≤ s.toInt → s.toInt < ((2 ^ F : Nat) : Int) → h_i h 88 (256 * (i + 1) + s.toNatClampNeg) = bl_ G e F L (i + 1) s) (T0 : h_i h 88 (256 * i + s.toNatClampNeg) = bl_ G e F L i s) : Cv (m_X3_spreadFrom (d + 1) 0 0) [.ref 19, .int (Int32.ofNat i), .int s] h (fun h' => Spr i (stq G e F L i s) (pch G e F L i s F) h h') := by
  have t1 : (1 : Int32).toInt = 1 := rfl
  have p8 := p2_8 hF
  have ei : (Int32.ofNat i).toInt = (i : Int) := on_j (by omega)
  have ki : (Int32.ofNat i).toNatClampNeg = i := on_k (by omega)
  have vi : vp_in (Int32.ofNat i) 8 := on_in (by omega) (by decide)
  have e21 : (Int32.ofNat i + 1).toInt = ((i + 1 : Nat) : Int) := by rw [tx_add (by rw [t1]; omega) (by rw [t1]; omega), t1]; omega
  have k0 := i2304 (x2 := Int32.ofNat i) (x3 := s) ei (by omega) p0 (by omega)
  have k1 := i2304 (x2 := Int32.ofNat i + 1) (x3 := s) e21 (by omega) p0 (by omega)
  have S0 : Spr i (fun _ => False) (fun _ => False) h h := Spr.rf I
  refine t_X3_spreadFrom d h I.1 (Int32.ofNat i) s _ ⟨k0.2.1, k1.2.1, fun ne => ?_, fun eq => ⟨vi, vi, k1.2.1, ?_⟩⟩
  · rw [k0.1, k1.1, T s p0 p1, T0] at ne
    rw [k0.1, T0]
    exact sp_f d h hF hL hi he s p0 p1 eF Gh T _ (fun _ k => k) F 0 h (by omega) (S0.cg (fun z => ⟨False.elim, fun y => y.elim (fun y => ne y.1) (fun ⟨g, a, _⟩ => absurd a (by omega))⟩) (fun b => ⟨False.elim, fun y => y.elim (fun y => ne y.2) (fun y => absurd y.1 (by omega))⟩))
  · rw [k0.1, k1.1, T s p0 p1, T0] at eq
    have S1 := (S0.st p0 (show s.toInt < 256 by omega) (b0 := 8) (by omega)).cg (P' := psq G e F L i s 0) (A' := pch G e F L i s 0) (fun z => ⟨fun y => y.elim False.elim (fun y => Or.inl ⟨eq, y⟩), fun y => y.elim (fun y => Or.inr y.2) (fun ⟨g, a, _⟩ => absurd a (by omega))⟩) (fun b => ⟨fun y => y.elim False.elim (fun y => Or.inl ⟨y, eq⟩), fun y => y.elim (fun y => Or.inr y.1) (fun y => absurd y.1 (by omega))⟩)
    rw [k0.1, T0, ki, k1.1]
    exact sp_f d h hF hL hi he s p0 p1 eF Gh T _ (fun _ k => k) F 0 _ (by omega) S1
/-- what is reached and chosen, up to good i -/
def Dn (G : Nat → Nat → Int32) (e : Int32) (F L i : Nat) (h : Hp_) : Prop := (∀ j, j ≤ i → ∀ z : Int32, 0 ≤ z.toInt → z.toInt < ((2 ^ F : Nat) : Int) → (¬ h_i h 89 (256 * j + z.toNatClampNeg) = 0 ↔ rch G e F L j z)) ∧ (∀ j, j < i → Mks (h_i h 90 j) (fun b => ∃ s, rch G e F L j s ∧ pch G e F L j s F b))
def Up0 (i j0 : Nat) (h : Hp_) : Prop := (∀ j k, j0 ≤ j → j ≤ 8 → k < 256 → h_i h 89 (256 * j + k) = 0) ∧ ∀ j, i ≤ j → j < 8 → h_i h 90 j = 0
def Mid (G : Nat → Nat → Int32) (e : Int32) (F L i : Nat) (u : Int) (h : Hp_) : Prop := Dn G e F L i h ∧ Up0 (i + 1) (i + 2) h ∧ (∀ z : Int32, 0 ≤ z.toInt → z.toInt < 256 → (¬ h_i h 89 (256 * (i + 1) + z.toNatClampNeg) = 0 ↔ ∃ s, s.toInt < u ∧ rch G e F L i s ∧ stq G e F L i s z)) ∧ Mks (h_i h 90 i) (fun b => ∃ s, s.toInt < u ∧ rch G e F L i s ∧ pch G e F L i s F b)
theorem Mid.nx {G : Nat → Nat → Int32} {e : Int32} {F L i : Nat} {h : Hp_} (hF : F ≤ 8) (m : Mid G e F L i ((2 ^ F : Nat) : Int) h) : Dn G e F L (i + 1) h ∧ Up0 (i + 1) (i + 2) h := by
  obtain ⟨a, b, c, d⟩ := m
  have p8 := p2_8 hF
  refine ⟨⟨fun j hj z h0 h1 => ?_, fun j hj => ?_⟩, b⟩
  · by_cases q : j = i + 1
    · rw [q, c z h0 (by omega)]
      exact ⟨fun ⟨s, _, x, y⟩ => ⟨s, x, y⟩, fun ⟨s, x, y⟩ => ⟨s, (rch_in hF i s x).2, x, y⟩⟩
    · exact a.1 j (by omega) z h0 h1
  · by_cases q : j = i
    · rw [q]
      exact d.cg (fun b _ => ⟨fun ⟨s, _, x, y⟩ => ⟨s, x, y⟩, fun ⟨s, x, y⟩ => ⟨s, (rch_in hF i s x).2, x, y⟩⟩)
    · exact a.2 j (by omega)
theorem Mid.no {G : Nat → Nat → Int32} {e : Int32} {F L i : Nat} {u : Int32} {h : Hp_} (m : Mid G e F L i u.toInt h) (n : ¬ rch G e F L i u) : Mid G e F L i (u.toInt + 1) h := by
  obtain ⟨a, b, c, d⟩ := m
  have k : ∀ s : Int32, rch G e F L i s → (s.toInt < u.toInt ↔ s.toInt < u.toInt + 1) := fun s r => ⟨fun z => by omega, fun z => by
    rcases Int.lt_or_le s.toInt u.toInt with w | w
    · exact w
    · have : s = u := Int32.toInt_inj.mp (by omega)
      exact absurd (this ▸ r) n⟩
  exact ⟨a, b, fun z h0 h1 => (c z h0 h1).trans ⟨fun ⟨s, x, y, w⟩ => ⟨s, (k s y).mp x, y, w⟩, fun ⟨s, x, y, w⟩ => ⟨s, (k s y).mpr x, y, w⟩⟩, d.cg (fun b _ => ⟨fun ⟨s, x, y, w⟩ => ⟨s, (k s y).mp x, y, w⟩, fun ⟨s, x, y, w⟩ => ⟨s, (k s y).mpr x, y, w⟩⟩)⟩
theorem Mid.ye {G : Nat → Nat → Int32} {e : Int32} {F L i : Nat} {u : Int32} {h h' : Hp_} (hF : F ≤ 8) (hi : i < 8) (m : Mid G e F L i u.toInt h) (r : rch G e F L i u) (S : Spr i (stq G e F L i u) (pch G e F L i u F) h h') : Mid G e F L i (u.toInt + 1) h' := by
  obtain ⟨a, b, c, d⟩ := m
  have p8 := p2_8 hF
  have k : ∀ s : Int32, s.toInt < u.toInt + 1 ↔ (s.toInt < u.toInt ∨ s = u) := fun s => ⟨fun z => by
    rcases Int.lt_or_le s.toInt u.toInt with w | w
    · exact Or.inl w
    · exact Or.inr (Int32.toInt_inj.mp (by omega)), fun z => z.elim (fun z => by omega) (fun z => by rw [z]; omega)⟩
  refine ⟨⟨fun j hj z h0 h1 => ?_, fun j hj => ?_⟩, ⟨fun j q h0 h1 h2 => ?_, fun j h0 h1 => ?_⟩, fun z h0 h1 => ?_, ?_⟩
  · have nz := n_nat (x := z) h0
    rw [S.2.2.1.1 j _ (by omega) (by omega)]
    exact a.1 j hj z h0 h1
  · rw [S.2.2.2.1 j (by omega)]
    exact a.2 j hj
  · rw [S.2.2.1.1 j q (by omega) h2]
    exact b.1 j q h0 h1 h2
  · rw [S.2.2.2.1 j (by omega)]
    exact b.2 j h0 h1
  · rw [S.2.2.1.2 z h0 h1, c z h0 h1]
    exact ⟨fun y => y.elim (fun ⟨s, x, y, w⟩ => ⟨s, (k s).mpr (Or.inl x), y, w⟩) (fun y => ⟨u, (k u).mpr (Or.inr rfl), r, y⟩), fun ⟨s, x, y, w⟩ => ((k s).mp x).elim (fun x => Or.inl ⟨s, x, y, w⟩) (fun x => Or.inr (x ▸ w))⟩
  · exact (S.2.2.2.2 _ d).cg (fun b _ => ⟨fun y => y.elim (fun ⟨s, x, y, w⟩ => ⟨s, (k s).mpr (Or.inl x), y, w⟩) (fun y => ⟨u, (k u).mpr (Or.inr rfl), r, y⟩), fun ⟨s, x, y, w⟩ => ((k s).mp x).elim (fun x => Or.inl ⟨s, x, y, w⟩) (fun x => Or.inr (x ▸ w))⟩)
theorem ch_u (d : Nat) (h0 : Hp_) {G : Nat → Nat → Int32} {e : Int32} {F L i : Nat} (hF : F ≤ 8) (hL : L ≤ 8) (hi : i < L) (he : 1 ≤ e.toInt) (x1 : Int32) (e1 : x1.toInt = ((2 ^ F : Nat) : Int)) (eF : (h_i h0 19 3).toInt = (F : Int)) (Gh : ∀ i f, i < L → f < F → h_i h0 87 (8 * i + f) = if G i f < e then 0 else G i f) (T : Tb G e F L 88 h0 0) (K : Hp_ → Prop) (O : ∀ h, Iv h → Fr [89999, 90999] h0 h → Mid G e F L i ((2 ^ F : Nat) : Int) h → AW (m_X3_fillChoices (d + 2) 0 0) 0 0 48 [(0, .ref 19), (1, .int x1), (2, .int (Int32.ofNat i + 1))] [] h (kV K)) :
    ∀ (m : Nat) (x3 : Int32) (h : Hp_), 0 ≤ x3.toInt → x3.toInt + m = ((2 ^ F : Nat) : Int) → Iv h → Fr [89999, 90999] h0 h → Mid G e F L i x3.toInt h → AW (m_X3_fillChoices (d + 2) 0 0) 0 0 58 [(0, .ref 19), (1, .int x1), (2, .int (Int32.ofNat i)), (3, .int x3)] [] h (kV K) := by
  have t1 : (1 : Int32).toInt = 1 := rfl
  have p8 := p2_8 hF
  have ei : (Int32.ofNat i).toInt = (i : Int) := on_j (by omega)
  intro m
  induction m with
  | zero =>
    intro x3 h q0 q1 I Fh M
    have ex : x3.toInt = ((2 ^ F : Nat) : Int) := by omega
    refine t_X3_fillChoices_58 d h I.1 x1 (Int32.ofNat i) x3 K ⟨fun _ => O h I Fh ?_, fun z => absurd (q_le.mpr (by omega)) z⟩
    rw [ex] at M
    exact M
  | succ m ih =>
    intro x3 h q0 q1 I Fh M
    have e3 : (x3 + 1).toInt = x3.toInt + 1 := tx_add (by rw [t1]; omega) (by rw [t1]; omega)
    have k0 := i2304 (x2 := Int32.ofNat i) (x3 := x3) ei (by omega) q0 (by omega)
    have rr := M.1.1 i (Nat.le_refl _) x3 q0 (by omega)
    refine t_X3_fillChoices_58 d h I.1 x1 (Int32.ofNat i) x3 K ⟨fun z => by have := q_le.mp z; omega, fun _ => ⟨k0.2.1, fun z => ?_, fun n => ?_⟩⟩
    · rw [k0.1] at z
      refine ih (x3 + 1) h (by omega) (by omega) I Fh ?_
      rw [e3]
      exact M.no (fun r => rr.mpr r z)
    · rw [k0.1] at n
      refine Cv.mono (c_spread d I hF hL hi he x3 q0 (by omega) (by rw [(Fh.2 19 3 (by decide +kernel)).1]; exact eF) (fun f hf => by rw [fr_i Fh (a := 87) (by decide +kernel)]; exact Gh i f hi hf) (fun s s0 s1 => by rw [fr_i Fh (a := 88) (by decide +kernel)]; exact T (i + 1) s (Nat.zero_le _) (by omega) s0 s1) (by rw [fr_i Fh (a := 88) (by decide +kernel)]; exact T i x3 (Nat.zero_le _) (by omega) q0 (by omega))) (fun h11 S => ?_)
      refine ⟨S.1.1, ih (x3 + 1) h11 (by omega) (by omega) S.1 (Fh.tr S.2.1) ?_⟩
      rw [e3]
      exact M.ye hF (by omega) (rr.mp n) S
theorem c_fillChoices (d : Nat) {h : Hp_} (I : Iv h) {G : Nat → Nat → Int32} {e : Int32} {L F : Nat} (hL : L ≤ 8) (hF : F ≤ 8) (he : 1 ≤ e.toInt) (eL : (h_i h 19 2).toInt = (L : Int)) (eF : (h_i h 19 3).toInt = (F : Int)) (Gh : ∀ i f, i < L → f < F → h_i h 87 (8 * i + f) = if G i f < e then 0 else G i f) (T : Tb G e F L 88 h 0) : Cv (m_X3_fillChoices (d + 2) 0 0) [.ref 19] h (fun h' => Iv h' ∧ Fr [89999, 90999] h h' ∧ ∀ j, j < L → Mks (h_i h' 90 j) (fun b => ∃ s, rch G e F L j s ∧ pch G e F L j s F b)) := by
  have t1 : (1 : Int32).toInt = 1 := rfl
  have t0 : (0 : Int32).toInt = 0 := rfl
  have tt : (2304 : Int32).toInt = 2304 := rfl
  have p8 := p2_8 hF
  have nb0 : vp_nar .boolean (0 : Int32) = 0 := by decide
  have nb1 : vp_nar .boolean (1 : Int32) = 1 := by decide
  have lp2 : ∀ (x1 : Int32), x1.toInt = ((2 ^ F : Nat) : Int) → ∀ (n i : Nat) (h' : Hp_), i + n = L → Iv h' → Fr [89999, 90999] h h' → Dn G e F L i h' → Up0 i (i + 1) h' → AW (m_X3_fillChoices (d + 2) 0 0) 0 0 48 [(0, .ref 19), (1, .int x1), (2, .int (Int32.ofNat i))] [] h' (kV (fun h' => Iv h' ∧ Fr [89999, 90999] h h' ∧ ∀ j, j < L → Mks (h_i h' 90 j) (fun b => ∃ s, rch G e F L j s ∧ pch G e F L j s F b))) := by
    intro x1 ex1 n
    induction n with
    | zero =>
      intro i h' en I' Fh D U
      have e2 : h_i h' 19 2 = h_i h 19 2 := (Fh.2 19 2 (by decide +kernel)).1
      exact t_X3_fillChoices_48 d h' I'.1 x1 (Int32.ofNat i) _ ⟨fun _ => ⟨I', Fh, fun j hj => D.2 j (by omega)⟩, fun z => absurd (q_le.mpr (by rw [e2, eL, on_j (by omega)]; omega)) z⟩
    | succ n ih =>
      intro i h' en I' Fh D U
      have e2 : h_i h' 19 2 = h_i h 19 2 := (Fh.2 19 2 (by decide +kernel)).1
      refine t_X3_fillChoices_48 d h' I'.1 x1 (Int32.ofNat i) _ ⟨fun z => by have := q_le.mp z; rw [e2, eL, on_j (by omega)] at this; omega, fun _ => ?_⟩
      refine ch_u d h hF hL (i := i) (by omega) he x1 ex1 eF Gh T _ (fun h9 I9 F9 M9 => ?_) (2 ^ F) 0 h' (by decide) (by rw [t0]; omega) I' Fh ?_
      · rw [on_s (by omega)]
        have k := M9.nx hF
        exact ih (i + 1) h9 (by omega) I9 F9 k.1 k.2
      · refine ⟨D, ⟨fun j k h0 h1 h2 => U.1 j k (by omega) h1 h2, fun j h0 h1 => U.2 j (by omega) h1⟩, fun z h0 h1 => ?_, ?_⟩
        · have nz := n_nat (x := z) h0
          rw [U.1 (i + 1) _ (by omega) (by omega) (by omega)]
          exact ⟨fun y => absurd rfl y, fun ⟨s, a, b, _⟩ => absurd (rch_in hF i s b).1 (by rw [t0] at a; omega)⟩
        · rw [U.2 i (by omega) (by omega)]
          exact Mks.z.cg (fun b _ => ⟨False.elim, fun ⟨s, a, y, _⟩ => absurd (rch_in hF i s y).1 (by rw [t0] at a; omega)⟩)
  have lp1 : ∀ (n : Nat) (x1 : Int32) (h' : Hp_), 0 ≤ x1.toInt → x1.toInt + n = 2304 → Iv h' → Fr [89999, 90999] h h' → (∀ k : Nat, (k : Int) < x1.toInt → h_i h' 89 k = 0) → AW (m_X3_fillChoices (d + 2) 0 0) 0 0 2 [(0, .ref 19), (1, .int x1)] [] h' (kV (fun h' => Iv h' ∧ Fr [89999, 90999] h h' ∧ ∀ j, j < L → Mks (h_i h' 90 j) (fun b => ∃ s, rch G e F L j s ∧ pch G e F L j s F b))) := by
    intro n
    induction n with
    | zero =>
      intro x1 h' q0 q1 I' Fh Z
      refine t_X3_fillChoices_2 d h' I'.1 x1 _ ⟨fun _ => Cv.mono (s_J7_fill d h' 90 8 0 (ws_90 I'.1) (by decide)) (fun h2 q => ?_), fun z => absurd (q_le.mpr (by rw [tt]; omega)) z⟩
      have I2 : Iv h2 := by rw [q]; exact I'.iw (fun k => by rw [tfa_tf (show tfa 90 = some rtop by decide +kernel)]; exact rtop_in _) (by decide) (by decide)
      have F2 : Fr [89999, 90999] h h2 := by rw [q]; exact Fh.iw (by decide +kernel)
      have Z2 : ∀ k, k < 8 → h_i h2 90 k = 0 := fun k hk => by rw [q, h_i_iw, if_pos rfl]; unfold fl_; rw [if_pos hk]
      have Z1 : ∀ k : Nat, k < 2304 → h_i h2 89 k = 0 := fun k hk => by rw [q, h_i_iw, if_neg (by decide)]; exact Z k (by omega)
      have e3 : h_i h2 19 3 = h_i h 19 3 := (F2.2 19 3 (by decide +kernel)).1
      have e3n : h_i h2 19 3 = Int32.ofNat F := Int32.toInt_inj.mp (by rw [e3, on_j (by omega)]; exact eF)
      have ex1 : ((1 : Int32) <<< ((h_i h2 19 3) &&& 31)).toInt = ((2 ^ F : Nat) : Int) := by
        rw [e3n]
        exact eq_of_beq (List.all_eq_true.mp sh_all F (List.mem_range.mpr (by omega)))
      have kz : (0 : Int32).toNatClampNeg = 0 := by decide
      refine ⟨I2.1, vin_c (by decide), ?_⟩
      rw [nb1, kz]
      have I3 : Iv (h_im h2 89 0 1) := I2.im (by rw [tfa_tf (show tfa 89 = some (0, 1) by decide +kernel)]; exact ⟨by decide, by decide⟩) (jw_jr (by decide) (by decide) _)
      refine lp2 _ ex1 L 0 _ (by omega) I3 (F2.im (inw_row (by decide +kernel) _)) ⟨fun j hj z h0 h1 => ?_, fun j hj => absurd hj (by omega)⟩ ⟨fun j k a b c => ?_, fun j a b => ?_⟩
      · have ej : j = 0 := by omega
        have nz := n_nat (x := z) h0
        rw [ej, h_i_im]
        show ¬ (if 89 = 89 ∧ 256 * 0 + z.toNatClampNeg = 0 then (1 : Int32) else h_i h2 89 (256 * 0 + z.toNatClampNeg)) = 0 ↔ z = 0
        by_cases c : z = 0
        · rw [if_pos ⟨rfl, by rw [c, kz]⟩]
          exact ⟨fun _ => c, fun _ => by decide⟩
        · rw [if_neg (fun y => c (Int32.toInt_inj.mp (by rw [t0]; have := y.2; omega))), Z1 _ (by omega)]
          exact ⟨fun y => absurd rfl y, fun y => absurd y c⟩
      · rw [h_i_im, if_neg (fun y => by have := y.2; omega)]
        exact Z1 _ (by omega)
      · rw [im_ne (by decide)]
        exact Z2 j b
    | succ n ih =>
      intro x1 h' q0 q1 I' Fh Z
      have e1 : (x1 + 1).toInt = x1.toInt + 1 := tx_add (by rw [t1]; omega) (by rw [t1]; omega)
      have n1 := n_nat (x := x1) q0
      refine t_X3_fillChoices_2 d h' I'.1 x1 _ ⟨fun z => by have := q_le.mp z; rw [tt] at this; omega, fun _ => ⟨dp_in (lo := 0) (hi := 2303) ⟨by show (0 : Int) ≤ _; omega, by show _ ≤ (2303 : Int); omega⟩ (by decide) (by decide), ?_⟩⟩
      rw [nb0]
      refine ih (x1 + 1) _ (by omega) (by omega) (I'.im (by rw [tfa_tf (show tfa 89 = some (0, 1) by decide +kernel)]; exact ⟨by decide, by decide⟩) (jw_jr (by decide) (by decide) _)) (Fh.im (inw_row (by decide +kernel) _)) (fun k hk => ?_)
      rw [h_i_im]
      by_cases c : 89 = 89 ∧ k = x1.toNatClampNeg
      · rw [if_pos c]
      · rw [if_neg c]
        exact Z k (by
          rcases Int.lt_or_le (k : Int) x1.toInt with u | u
          · exact u
          · exact absurd ⟨rfl, by omega⟩ c)
  exact t_X3_fillChoices d h _ (lp1 2304 0 h (by decide) (by decide) I (Fr.rf _ _) (fun k hk => absurd hk (by rw [t0]; omega)))
/-- what is like, on the goods there can be -/
def gH (h : Hp_) : Nat → Nat → Int32 := fun l f => if l < 8 ∧ f < 8 then lkv 5 (h_i h 85 l) (h_i h 86 f) 0 else 0
def gN (h : Hp_) : Nat → Nat → Int32 := fun l f => if l < 8 ∧ f < 8 then lkv 5 (h_i h 278 l) (h_i h 279 f) 0 else 0
theorem gH_in (h : Hp_) (l f : Nat) : 0 ≤ (gH h l f).toInt ∧ (gH h l f).toInt ≤ 5 := by
  have t0 : (0 : Int32).toInt = 0 := rfl
  unfold gH
  by_cases c : l < 8 ∧ f < 8
  · rw [if_pos c]
    have k := lkv_in 5 (h_i h 85 l) (h_i h 86 f) 0 (by rw [t0]; omega) (by rw [t0]; omega)
    rw [t0] at k
    omega
  · rw [if_neg c, t0]
    omega
theorem gN_in (h : Hp_) (l f : Nat) : 0 ≤ (gN h l f).toInt ∧ (gN h l f).toInt ≤ 5 := by
  have t0 : (0 : Int32).toInt = 0 := rfl
  unfold gN
  by_cases c : l < 8 ∧ f < 8
  · rw [if_pos c]
    have k := lkv_in 5 (h_i h 278 l) (h_i h 279 f) 0 (by rw [t0]; omega) (by rw [t0]; omega)
    rw [t0] at k
    omega
  · rw [if_neg c, t0]
    omega
/-- the choices of good l: which found ones, and bit 8 for none -/
def chX (h : Hp_) (l b : Nat) : Prop := ∃ s, rch (gH h) (h_i h 19 4) (h_i h 19 3).toNatClampNeg (h_i h 19 2).toNatClampNeg l s ∧ pch (gH h) (h_i h 19 4) (h_i h 19 3).toNatClampNeg (h_i h 19 2).toNatClampNeg l s (h_i h 19 3).toNatClampNeg b
def Gx (h : Hp_) : Prop := (1 ≤ (h_i h 19 4).toInt) ∧ (h_i h 19 5 = 0 → ∀ l, l < (h_i h 19 2).toNatClampNeg → Mks (h_i h 90 l) (chX h l))
theorem chX_fr {ws : List Nat} {h h' : Hp_} (f : Fr ws h h') (o : (off ws 85 && off ws 86 && (!inw ws 19 2 && !inw ws 19 3 && !inw ws 19 4)) = true) (l : Nat) : chX h' l = chX h l := by
  simp only [Bool.and_eq_true, Bool.not_eq_true'] at o
  unfold chX gH
  rw [(f.2 19 2 o.2.1.1).1, (f.2 19 3 o.2.1.2).1, (f.2 19 4 o.2.2).1, show h_i h' 85 = h_i h 85 from funext (fun k => fr_i f o.1.1 k), show h_i h' 86 = h_i h 86 from funext (fun k => fr_i f o.1.2 k)]
theorem c_solve (d : Nat) {h : Hp_} (I : Iv h) (g : Gx h) : Cv (m_X3_solve (d + 3) 0 0) [.ref 19] h (fun h' => Iv h' ∧ Fr [19005, 87999, 88999, 89999, 90999, 91999] h h' ∧ h_i h' 19 5 = 0 ∧ ∀ l, l < (h_i h 19 2).toNatClampNeg → Mks (h_i h' 90 l) (chX h l)) := by
  have b2 := f_le (c := 19) (f := 2) (n := 8) I (by decide +kernel)
  have b3 := f_le (c := 19) (f := 3) (n := 8) I (by decide +kernel)
  have n2 := n_nat (x := h_i h 19 2) b2.1
  have n3 := n_nat (x := h_i h 19 3) b3.1
  refine t_X3_solve d h I.1 _ ⟨fun z => ⟨I, Fr.rf _ _, z, g.2 z⟩, fun _ => ?_⟩
  refine Cv.mono (c_fillGains d I (L := (h_i h 19 2).toNatClampNeg) (F := (h_i h 19 3).toNatClampNeg) (by omega) (by omega) n2.symm n3.symm) (fun h2 q => ?_)
  obtain ⟨I2, F2, G2⟩ := q
  have e2 : h_i h2 19 2 = h_i h 19 2 := (F2.2 19 2 (by decide +kernel)).1
  have e3 : h_i h2 19 3 = h_i h 19 3 := (F2.2 19 3 (by decide +kernel)).1
  have e4 : h_i h2 19 4 = h_i h 19 4 := (F2.2 19 4 (by decide +kernel)).1
  refine ⟨I2.1, Cv.mono (c_fillBest d I2 (L := (h_i h 19 2).toNatClampNeg) (F := (h_i h 19 3).toNatClampNeg) (by omega) (by omega) (by rw [e4]; exact g.1) (by rw [e2]; exact n2.symm) (by rw [e3]; exact n3.symm) (by rw [e4]; exact G2)) (fun h5 q => ?_)⟩
  obtain ⟨I5, F5, T5⟩ := q
  have gg : gG h2 = gG h := by
    unfold gG
    rw [show h_i h2 85 = h_i h 85 from funext (fun k => fr_i F2 (by decide +kernel) k), show h_i h2 86 = h_i h 86 from funext (fun k => fr_i F2 (by decide +kernel) k)]
  rw [gg, e4] at T5
  have gh : ∀ l f, l < 8 → f < (h_i h 19 3).toNatClampNeg → gG h l f = gH h l f := fun l f hl hf => by
    unfold gG gH
    rw [if_pos ⟨hl, by omega⟩]
  have G5 : ∀ i f, i < (h_i h 19 2).toNatClampNeg → f < (h_i h 19 3).toNatClampNeg → h_i h5 87 (8 * i + f) = if gH h i f < h_i h 19 4 then 0 else gH h i f := fun i f hi hf => by
    rw [← gh i f (by omega) hf, fr_i F5 (a := 87) (by decide +kernel), G2 i f hi hf, ← gg]
    rfl
  have T5' : Tb (gH h) (h_i h 19 4) (h_i h 19 3).toNatClampNeg (h_i h 19 2).toNatClampNeg 88 h5 0 := fun j s h1 h2 h3 h4 => (T5 j s h1 h2 h3 h4).trans (bv_eq (M := 8) gh _ _ _ (by omega))
  have e25 : h_i h5 19 2 = h_i h 19 2 := ((F5.2 19 2 (by decide +kernel)).1).trans e2
  have e35 : h_i h5 19 3 = h_i h 19 3 := ((F5.2 19 3 (by decide +kernel)).1).trans e3
  refine ⟨I5.1, Cv.mono (c_fillChoices d I5 (by omega) (by omega) g.1 (by rw [e25]; exact n2.symm) (by rw [e35]; exact n3.symm) G5 T5') (fun h8 k => ?_)⟩
  obtain ⟨I8, F8, P8⟩ := k
  refine ⟨I8.1, Ct.mono (hc_X3_fillFirst d [.ref 19] h8 ⟨rfl, trivial⟩ I8 (fun _ y => (nomatch y))) (fun v h11 k => ?_)⟩
  obtain ⟨I11, F11, _, e11⟩ := k
  refine ⟨e11, I11.1, I11.im (by rw [show tf 19 5 = (0, 1) by decide +kernel]; exact ⟨by decide, by decide⟩) (by decide), ((((F2.more (b := [19005, 87999, 88999, 89999, 90999, 91999]) (by decide +kernel)).tr (F5.more (by decide +kernel))).tr (F8.more (by decide +kernel))).tr (F11.more (by decide +kernel))).im (by decide +kernel), im_at, fun l hl => ?_⟩
  rw [im_ne (by decide), fr_i F11 (a := 90) (by decide +kernel)]
  exact P8 l hl
theorem Gx.fr {ws : List Nat} {h h' : Hp_} (g : Gx h) (f : Fr ws h h') (o : (off ws 85 && off ws 86 && (!inw ws 19 2 && !inw ws 19 3 && !inw ws 19 4) && (!inw ws 19 5 && off ws 90)) = true) : Gx h' := by
  rw [Bool.and_eq_true] at o
  have o1 := o.1
  have o2 := o.2
  simp only [Bool.and_eq_true, Bool.not_eq_true'] at o1 o2
  refine ⟨by rw [(f.2 19 4 o1.2.2).1]; exact g.1, fun z => ?_⟩
  rw [(f.2 19 5 o2.1).1] at z
  intro l hl
  rw [(f.2 19 2 o1.2.1.1).1] at hl
  rw [fr_i f o2.2 l, chX_fr f o.1 l]
  exact g.2 z l hl
/-! what class and reference keep alike; what the law's loop keeps -/
def rl : List ((Nat × Nat) × Nat) := [((19, 2), 101), ((19, 3), 102), ((19, 4), 103)]
theorem rl_F : Rlf rl HF := fun q hq => by
  have z : rl.all (fun q => h_i HF q.1.1 q.1.2 == h_i HF 1 q.2) = true := by decide +kernel
  exact eq_of_beq (List.all_eq_true.mp z q hq)
/-- the marks of the goods are alike; what the class keeps of its sums is right -/
def Ex (h : Hp_) : Prop := (∀ k : Nat, k < 8 → h_i h 85 k = h_i h 278 k ∧ h_i h 86 k = h_i h 279 k) ∧ Gx h
def exg (ws : List Nat) : Bool := off ws 85 && off ws 86 && off ws 278 && off ws 279
def exo (ws : List Nat) : Bool := exg ws && (off ws 85 && off ws 86 && (!inw ws 19 2 && !inw ws 19 3 && !inw ws 19 4) && (!inw ws 19 5 && off ws 90))
theorem ex_F : Ex HF := ⟨fun k hk => by
  have z : (List.range 8).all (fun k => h_i HF 85 k == h_i HF 278 k && h_i HF 86 k == h_i HF 279 k) = true := by decide +kernel
  have y := List.all_eq_true.mp z k (List.mem_range.mpr hk)
  rw [Bool.and_eq_true] at y
  exact ⟨eq_of_beq y.1, eq_of_beq y.2⟩, by
  refine ⟨?_, fun z => ?_⟩
  · rw [show h_i HF 19 4 = 3 by decide +kernel]
    decide
  · rw [show h_i HF 19 5 = 1 by decide +kernel] at z
    exact absurd z (by decide)⟩
theorem Ex.rows {ws : List Nat} {h h' : Hp_} (e : ∀ k : Nat, k < 8 → h_i h 85 k = h_i h 278 k ∧ h_i h 86 k = h_i h 279 k) (f : Fr ws h h') (o : exg ws = true) : ∀ k : Nat, k < 8 → h_i h' 85 k = h_i h' 278 k ∧ h_i h' 86 k = h_i h' 279 k := fun k hk => by
  unfold exg at o
  simp only [Bool.and_eq_true] at o
  rw [fr_i f o.1.1.1 k, fr_i f o.1.1.2 k, fr_i f o.1.2 k, fr_i f o.2 k]
  exact e k hk
theorem Ex.fr {ws : List Nat} {h h' : Hp_} (e : Ex h) (f : Fr ws h h') (o : exo ws = true) : Ex h' := by
  unfold exo at o
  rw [Bool.and_eq_true] at o
  exact ⟨Ex.rows e.1 f o.1, e.2.fr f o.2⟩
theorem Ex.mf {W : List Nat} {h h' : Hp_} (e : Ex h) (f : Mf W h h') (o : exo W = true) : Ex h' := by
  unfold exo exg at o
  simp only [Bool.and_eq_true, Bool.not_eq_true'] at o
  obtain ⟨⟨⟨⟨a1, a2⟩, _⟩, _⟩, ⟨⟨_, ⟨⟨b2, b3⟩, b4⟩⟩, ⟨b5, b8⟩⟩⟩ := o
  have r5 : h_i h' 85 = h_i h 85 := funext (fun k => (f.2.2.2 85 k (by decide) (off_inw a1 k)).1)
  have r6 : h_i h' 86 = h_i h 86 := funext (fun k => (f.2.2.2 86 k (by decide) (off_inw a2 k)).1)
  refine ⟨fun k hk => ?_, by rw [(f.2.2.2 19 4 (by decide) b4).1]; exact e.2.1, fun z => ?_⟩
  · rw [r5, r6, f.2.1 278 (by decide) (by decide) k, f.2.1 279 (by decide) (by decide) k]
    exact e.1 k hk
  · rw [(f.2.2.2 19 5 (by decide) b5).1] at z
    intro l hl
    rw [(f.2.2.2 19 2 (by decide) b2).1] at hl
    rw [(f.2.2.2 90 l (by decide) (off_inw b8 l)).1]
    have q := e.2.2 z l hl
    unfold chX gH at q ⊢
    rw [(f.2.2.2 19 2 (by decide) b2).1, (f.2.2.2 19 3 (by decide) b3).1, (f.2.2.2 19 4 (by decide) b4).1, r5, r6]
    exact q
/-- the men, and what this row wants besides -/
def Mef (h : Hp_) : Prop := Mn h ∧ Ex h
def Li (N : Nat) (h : Hp_) : Prop := Iv h ∧ J2 h ∧ h_sh h 2 = some (3, 1) ∧ (∃ c, h_r h 0 15 = some c ∧ h_sh h c = some (3, N)) ∧ Rlf rl h ∧ Mef h
theorem Li.z {N : Nat} {h : Hp_} (L : Li N h) : Li0 N h := ⟨L.1, L.2.1, L.2.2.1, L.2.2.2.1⟩
theorem Li0.li {N : Nat} {h : Hp_} (L : Li0 N h) (R : Rlf rl h) (m : Mef h) : Li N h := ⟨L.1, L.2.1, L.2.2.1, L.2.2.2, R, m⟩
theorem Mn.fr {ws : List Nat} {h h' : Hp_} (m : Mn h) (f : Fr ws h h') (o : (!inw ws 0 7 && off ws 15) = true) : Mn h' := fun k hk hm => by
  rw [Bool.and_eq_true, Bool.not_eq_true'] at o
  rw [(f.2 15 k (off_inw o.2 k)).2.2]
  exact m k hk (by rw [(f.2 0 7 o.1).1] at hm; exact hm)
theorem Mef.fr {ws : List Nat} {h h' : Hp_} (m : Mef h) (f : Fr ws h h') (o : (!inw ws 0 7 && off ws 15 && exo ws) = true) : Mef h' := by
  rw [Bool.and_eq_true] at o
  exact ⟨m.1.fr f o.1, m.2.fr f o.2⟩
theorem mn_F : Mn HF := fun k hk hm => by
  rw [show h_i HF 0 7 = 0 by decide +kernel] at hm
  have z : (0 : Int32).toInt = 0 := rfl
  omega
theorem li_F : Li 0 HF := li0_F.li rl_F ⟨mn_F, ex_F⟩
theorem Li.fr {N : Nat} {ws : List Nat} {h h' : Hp_} (L : Li N h) (I : Iv h') (f : Fr ws h h') (o : ((jso ws && !inw ws 0 15) && rl.all (fun q => !inw ws q.1.1 q.1.2 && !inw ws 1 q.2) && (!inw ws 0 7 && off ws 15 && exo ws)) = true) : Li N h' := by
  rw [Bool.and_eq_true, Bool.and_eq_true (jso ws && !inw ws 0 15)] at o
  exact (L.z.fr I f o.1.1).li (L.2.2.2.2.1.fr f o.1.2) (L.2.2.2.2.2.fr f o.2)
theorem Li.sr {N : Nat} {h h' : Hp_} (L : Li N h) (I : Iv h') (J : J2 h') (s : Sr h h') : Li N h' := (L.z.sn I J s.sn).li (L.2.2.2.2.1.fr s (by decide +kernel)) (L.2.2.2.2.2.fr s (by decide +kernel))
theorem Mn.mf {h h' : Hp_} (m : Mn h) (f : Mf wsX h h') : Mn h' := fun k hk hm => by
  rw [(f.2.2.2 15 k (by decide) (off_inw (by decide +kernel) k)).2]
  exact m k hk (by rw [(f.2.2.2 0 7 (by decide) (by decide +kernel)).1] at hm; exact hm)
theorem Mef.mf {h h' : Hp_} (m : Mef h) (f : Mf wsX h h') : Mef h' := ⟨m.1.mf f, m.2.mf f (by decide +kernel)⟩
theorem Mef.con {h h' : Hp_} {x1 x2 x3 r : Int32} (m : Mef h) (k : Cy x1 x2 x3 h r h') : Mef h' := ⟨k.2.2.1 m.1, m.2.mf k.1.2.1 (by decide +kernel)⟩
theorem Li.con2 {N : Nat} {h h1 h2 : Hp_} {x1 x2 x3 r1 r2 : Int32} (L : Li N h) (k1 : Cy x1 x2 x3 h r1 h1) (k2 : Iv h2 ∧ J2 h2 ∧ Sn h1 h2 ∧ ocm (h_i h1 1 7) x1 x2 x3 r2 (h_i h2 1 7) ∧ Cw (okm (h_i h1 1 7) x1 x2 x3) (h_i h1 1 7) x1 h1 h2) : Li N h2 := ((L.z.con k1.1).sn k2.1 k2.2.1 k2.2.2.1).li ((L.2.2.2.2.1.mf k1.1.2.1 (by decide +kernel)).fr k2.2.2.1 (by decide +kernel)) ((L.2.2.2.2.2.con k1).fr k2.2.2.1 (by decide +kernel))
theorem Li.tick2 {N N' : Nat} {h h1 h2 : Hp_} {x r1 r2 : Int32} (L : Li N h) (k1 : Iv h1 ∧ Mf wsX h h1 ∧ (∃ c', h_r h1 0 15 = some c' ∧ h_sh h1 c' = some (3, N')) ∧ otk (h_i h 0 0) x r1 (h_i h1 0 0)) (k2 : Iv h2 ∧ J2 h2 ∧ Fr wsT h1 h2 ∧ otk (h_i h1 1 0) x r2 (h_i h2 1 0)) : Li N' h2 := ((L.z.tick k1).st k2.1 k2.2.1 k2.2.2.1).li ((L.2.2.2.2.1.mf k1.2.1 (by decide +kernel)).fr k2.2.2.1 (by decide +kernel)) ((L.2.2.2.2.2.mf k1.2.1).fr k2.2.2.1 (by decide +kernel))
