/-! goods: how many marks are like, and the greatest sum -/
def lkv : Nat → Int32 → Int32 → Int32 → Int32
  | 0, _, _, n => n
  | r + 1, a, b, n => lkv r (a / 10) (b / 10) (if a - a / 10 * 10 = b - b / 10 * 10 then n + 1 else n)
def sbt (s : Int32) (f : Nat) : Int32 := s ||| ((1 : Int32) <<< (Int32.ofNat f &&& 31))
/-- the best of b and what the goods found from f on give -/
def fv (g : Nat → Int32) (e : Int32) (nx : Int32 → Int32) (s : Int32) : Nat → Nat → Int32 → Int32
  | 0, _, b => b
  | n + 1, f, b => fv g e nx s n (f + 1) (if ((s >>> (Int32.ofNat f &&& 31)) &&& 1) = 0 ∧ ¬ g f < e then (if b < g f + nx (sbt s f) then g f + nx (sbt s f) else b) else b)
def bv (G : Nat → Nat → Int32) (e : Int32) (F : Nat) : Nat → Nat → Int32 → Int32
  | 0, _, _ => 0
  | r + 1, l, s => fv (G l) e (bv G e F r (l + 1)) s F 0 (bv G e F r (l + 1) s)
/-- equal on what is looked at -/
theorem fv_eq {g g' : Nat → Int32} {e : Int32} {nx nx' : Int32 → Int32} {s : Int32} {F : Nat} (hg : ∀ f, f < F → g f = g' f) (hn : ∀ f, f < F → nx (sbt s f) = nx' (sbt s f)) : ∀ (n f : Nat) (b : Int32), f + n ≤ F → fv g e nx s n f b = fv g' e nx' s n f b
  | 0, _, _, _ => rfl
  | n + 1, f, b, l => by
    unfold fv
    rw [hg f (by omega), hn f (by omega)]
    exact fv_eq hg hn n (f + 1) _ (by omega)
theorem bv_eq {G G' : Nat → Nat → Int32} {e : Int32} {F M : Nat} (hG : ∀ l f, l < M → f < F → G l f = G' l f) : ∀ (r l : Nat) (s : Int32), l + r ≤ M → bv G e F r l s = bv G' e F r l s
  | 0, _, _, _ => rfl
  | r + 1, l, s, h => by
    unfold bv
    rw [bv_eq hG r (l + 1) s (by omega)]
    exact fv_eq (F := F) (fun f hf => hG l f (by omega) hf) (fun f _ => bv_eq hG r (l + 1) _ (by omega)) F 0 _ (by omega)
/-- the first good found that keeps the sum, from f on -/
def ffx (g : Nat → Int32) (e : Int32) (nx : Int32 → Int32) (s b : Int32) : Nat → Nat → Int32
  | 0, _ => -1
  | n + 1, f => if (((s >>> (Int32.ofNat f &&& 31)) &&& 1) = 0 ∧ ¬ g f < e) ∧ g f + nx (sbt s f) = b then Int32.ofNat f else ffx g e nx s b n (f + 1)
def jt (G : Nat → Nat → Int32) (e : Int32) (F L : Nat) (l : Nat) (s : Int32) : Int32 := ffx (G l) e (bv G e F (L - (l + 1)) (l + 1)) s (bv G e F (L - l) l s) F 0
def jn (s t : Int32) : Int32 := if t = -1 then s else s ||| ((1 : Int32) <<< (t &&& 31))
def js (G : Nat → Nat → Int32) (e : Int32) (F L : Nat) : Nat → Int32
  | 0 => 0
  | l + 1 => jn (js G e F L l) (jt G e F L l (js G e F L l))
theorem on_ne {j : Nat} (h : j ≤ 1000000) : ¬ Int32.ofNat j = -1 := fun z => by
  have k := on_j h
  have t : (-1 : Int32).toInt = -1 := rfl
  rw [z] at k
  omega
theorem ffx_in {g : Nat → Int32} {e : Int32} {nx : Int32 → Int32} {s b : Int32} : ∀ (n f : Nat), ffx g e nx s b n f = -1 ∨ ∃ j, f ≤ j ∧ j < f + n ∧ ffx g e nx s b n f = Int32.ofNat j
  | 0, _ => Or.inl rfl
  | n + 1, f => by
    unfold ffx
    by_cases c : (((s >>> (Int32.ofNat f &&& 31)) &&& 1) = 0 ∧ ¬ g f < e) ∧ g f + nx (sbt s f) = b
    · rw [if_pos c]
      exact Or.inr ⟨f, Nat.le_refl _, by omega, rfl⟩
    · rw [if_neg c]
      rcases ffx_in (g := g) (e := e) (nx := nx) (s := s) (b := b) n (f + 1) with h | ⟨j, h1, h2, h3⟩
      · exact Or.inl h
      · exact Or.inr ⟨j, by omega, by omega, h3⟩
theorem ffx_eq {g g' : Nat → Int32} {e : Int32} {nx nx' : Int32 → Int32} {s b : Int32} {F : Nat} (hg : ∀ f, f < F → g f = g' f) (hn : ∀ f, f < F → nx (sbt s f) = nx' (sbt s f)) : ∀ (n f : Nat), f + n ≤ F → ffx g e nx s b n f = ffx g' e nx' s b n f
  | 0, _, _ => rfl
  | n + 1, f, l => by
    unfold ffx
    rw [hg f (by omega), hn f (by omega), ffx_eq hg hn n (f + 1) (by omega)]
theorem jt_eq {G G' : Nat → Nat → Int32} {e : Int32} {F L M : Nat} (hG : ∀ l f, l < M → f < F → G l f = G' l f) (hL : L ≤ M) (l : Nat) (hl : l < L) (s : Int32) : jt G e F L l s = jt G' e F L l s := by
  unfold jt
  rw [bv_eq hG (L - l) l s (by omega)]
  exact ffx_eq (F := F) (fun f hf => hG l f (by omega) hf) (fun f _ => bv_eq hG (L - (l + 1)) (l + 1) _ (by omega)) F 0 (by omega)
theorem js_eq {G G' : Nat → Nat → Int32} {e : Int32} {F L M : Nat} (hG : ∀ l f, l < M → f < F → G l f = G' l f) (hL : L ≤ M) : ∀ l, l ≤ L → js G e F L l = js G' e F L l
  | 0, _ => rfl
  | l + 1, h => by
    unfold js
    rw [js_eq hG hL l (by omega), jt_eq hG hL l (by omega)]
theorem sb_all : (List.range 256).all (fun s => (List.range 8).all (fun f => sbt (Int32.ofNat s) f == Int32.ofNat (s ||| 2 ^ f))) = true := by decide +kernel
theorem sb_in {s : Int32} {F f : Nat} (h0 : 0 ≤ s.toInt) (hs : s.toInt < ((2 ^ F : Nat) : Int)) (hF : F ≤ 8) (hf : f < F) : 0 ≤ (sbt s f).toInt ∧ (sbt s f).toInt < ((2 ^ F : Nat) : Int) := by
  have p8 : 2 ^ F ≤ 2 ^ 8 := Nat.pow_le_pow_right (by omega) hF
  have p8e : 2 ^ 8 = 256 := by decide
  have n := n_nat h0
  have es : s = Int32.ofNat s.toNatClampNeg := Int32.toInt_inj.mp (by rw [on_j (by omega)]; omega)
  have a := List.all_eq_true.mp sb_all s.toNatClampNeg (List.mem_range.mpr (by omega))
  have b := eq_of_beq (List.all_eq_true.mp a f (List.mem_range.mpr (by omega)))
  rw [← es] at b
  have o : s.toNatClampNeg ||| 2 ^ f < 2 ^ F := Nat.or_lt_two_pow (by omega) (Nat.pow_lt_pow_right (by omega) hf)
  rw [b, on_j (by omega)]
  omega
theorem js_in {G : Nat → Nat → Int32} {e : Int32} {F L : Nat} (hF : F ≤ 8) : ∀ l, 0 ≤ (js G e F L l).toInt ∧ (js G e F L l).toInt < ((2 ^ F : Nat) : Int)
  | 0 => by
    have p := (Nat.pos_of_ne_zero (by simp) : 0 < 2 ^ F)
    have z : (js G e F L 0).toInt = 0 := rfl
    rw [z]
    omega
  | l + 1 => by
    have ih := js_in (G := G) (e := e) (L := L) hF l
    show 0 ≤ (jn (js G e F L l) (jt G e F L l (js G e F L l))).toInt ∧ (jn (js G e F L l) (jt G e F L l (js G e F L l))).toInt < ((2 ^ F : Nat) : Int)
    generalize js G e F L l = s at ih ⊢
    rcases ffx_in (g := G l) (e := e) (nx := bv G e F (L - (l + 1)) (l + 1)) (s := s) (b := bv G e F (L - l) l s) F 0 with h | ⟨j, _, h2, h3⟩
    · have h' : jt G e F L l s = -1 := h
      rw [h']
      exact ih
    · have h' : jt G e F L l s = Int32.ofNat j := h3
      rw [h']
      unfold jn
      rw [if_neg (on_ne (by omega))]
      exact sb_in ih.1 ih.2 hF (by omega)
theorem c_alike (d : Nat) (h : Hp_) (x0 x1 : Int32) : Ci (m_X3_alike (d + 0) 0 0) [.int x0, .int x1] h (fun r h' => r = lkv 5 x0 x1 0 ∧ h' = h) := by
  have t1 : (1 : Int32).toInt = 1 := rfl
  have t5 : (5 : Int32).toInt = 5 := rfl
  have lp : ∀ (r : Nat) (x2 x3 x4 x5 : Int32), x5.toInt + r = 5 → 0 ≤ x5.toInt → AW (m_X3_alike (d + 0) 0 0) 0 0 10 [(2, .int x2), (3, .int x3), (4, .int x4), (5, .int x5)] [] h (kI (fun v h' => v = lkv r x3 x4 x2 ∧ h' = h)) := by
    intro r
    induction r with
    | zero =>
      intro x2 x3 x4 x5 e p
      exact t_X3_alike_10 d h x2 x3 x4 x5 _ ⟨fun _ => ⟨rfl, rfl⟩, fun z => absurd (q_le.mpr (by omega)) z⟩
    | succ r ih =>
      intro x2 x3 x4 x5 e p
      have e1 : (x5 + 1).toInt = x5.toInt + 1 := tx_add (by rw [t1]; omega) (by rw [t1]; omega)
      refine t_X3_alike_10 d h x2 x3 x4 x5 _ ⟨fun z => by have := q_le.mp z; omega, fun _ => ⟨fun n => ?_, fun y => ?_⟩⟩
      · have k := ih x2 (x3 / 10) (x4 / 10) (x5 + 1) (by omega) (by omega)
        unfold lkv
        rw [if_neg n]
        exact k
      · have k := ih (x2 + 1) (x3 / 10) (x4 / 10) (x5 + 1) (by omega) (by omega)
        unfold lkv
        rw [if_pos y]
        exact k
  exact t_X3_alike d h x0 x1 _ (lp 5 0 x0 x1 0 (by decide) (by decide))
theorem c_likeM (d : Nat) {h : Hp_} (w : Wf h) (x1 x2 : Int32) (v1 : vp_in x1 8) (v2 : vp_in x2 8) : Ci (m_X12_like (d + 0) 0 0) [.ref 1, .int x1, .int x2] h (fun r h' => r = lkv 5 (h_i h 278 x1.toNatClampNeg) (h_i h 279 x2.toNatClampNeg) 0 ∧ h' = h) := by
  have t1 : (1 : Int32).toInt = 1 := rfl
  have t5 : (5 : Int32).toInt = 5 := rfl
  have lp : ∀ (r : Nat) (x3 x4 x5 x6 : Int32), x6.toInt + r = 5 → 0 ≤ x6.toInt → AW (m_X12_like (d + 0) 0 0) 0 0 21 [(3, .int x3), (4, .int x4), (5, .int x5), (6, .int x6)] [] h (kI (fun v h' => v = lkv r x3 x4 x5 ∧ h' = h)) := by
    intro r
    induction r with
    | zero =>
      intro x3 x4 x5 x6 e p
      exact t_X12_like_21 d h x3 x4 x5 x6 _ ⟨fun _ => ⟨rfl, rfl⟩, fun z => absurd (q_le.mpr (by omega)) z⟩
    | succ r ih =>
      intro x3 x4 x5 x6 e p
      have e1 : (x6 + 1).toInt = x6.toInt + 1 := tx_add (by rw [t1]; omega) (by rw [t1]; omega)
      refine t_X12_like_21 d h x3 x4 x5 x6 _ ⟨fun z => by have := q_le.mp z; omega, fun _ => ⟨fun n => ?_, fun y => ?_⟩⟩
      · have k := ih (x3 / 10) (x4 / 10) x5 (x6 + 1) (by omega) (by omega)
        unfold lkv
        rw [if_neg n, Int32.add_zero]
        exact k
      · have k := ih (x3 / 10) (x4 / 10) (x5 + 1) (x6 + 1) (by omega) (by omega)
        unfold lkv
        rw [if_pos y]
        exact k
  exact t_X12_like d h w x1 x2 _ ⟨v1, v2, lp 5 _ _ 0 0 (by decide) (by decide)⟩
/-- the gains of the class -/
def Gn (e : Int32) (L F : Nat) (h : Hp_) : Prop := ∀ i f, i < L → f < F → h_i h 87 (8 * i + f) = if lkv 5 (h_i h 85 i) (h_i h 86 f) 0 < e then 0 else lkv 5 (h_i h 85 i) (h_i h 86 f) 0
theorem i64 {x1 x2 : Int32} {i f : Nat} (e1 : x1.toInt = (i : Int)) (e2 : x2.toInt = (f : Int)) (h1 : i < 8) (h2 : f < 8) : ((x1 * 8) + x2).toNatClampNeg = 8 * i + f ∧ vp_in ((x1 * 8) + x2) 64 := by
  have t8 : (8 : Int32).toInt = 8 := rfl
  have a : (x1 * 8).toInt = x1.toInt * 8 := by rw [tx_mul (by rw [t8]; omega) (by rw [t8]; omega), t8]
  have b : (x1 * 8 + x2).toInt = x1.toInt * 8 + x2.toInt := by rw [tx_add (by omega) (by omega), a]
  have n := n_nat (x := x1 * 8 + x2) (by omega)
  exact ⟨by omega, dp_in (lo := 0) (hi := 63) ⟨by show (0 : Int) ≤ _; omega, by show _ ≤ (63 : Int); omega⟩ (by decide) (by decide)⟩
theorem fg_in (d : Nat) (h0 : Hp_) (L F : Nat) (hL : L ≤ 8) (hF : F ≤ 8) (i : Nat) (hi : i < L) (x1 : Int32) (e1 : x1.toInt = (i : Int)) (K : Hp_ → Prop)
    (O : ∀ h, Iv h → Fr [87999] h0 h → (∀ j f, j < i + 1 → f < F → h_i h 87 (8 * j + f) = if lkv 5 (h_i h0 85 j) (h_i h0 86 f) 0 < h_i h0 19 4 then 0 else lkv 5 (h_i h0 85 j) (h_i h0 86 f) 0) → AW (m_X3_fillGains (d + 1) 0 0) 0 0 2 [(0, .ref 19), (1, .int (x1 + 1))] [] h (kV K)) (eF : (h_i h0 19 3).toInt = (F : Int)) :
    ∀ (n f : Nat) (x2 : Int32) (h : Hp_), x2.toInt = (f : Int) → f + n = F → Iv h → Fr [87999] h0 h → (∀ j g, (j < i ∧ g < F) ∨ (j = i ∧ g < f) → h_i h 87 (8 * j + g) = if lkv 5 (h_i h0 85 j) (h_i h0 86 g) 0 < h_i h0 19 4 then 0 else lkv 5 (h_i h0 85 j) (h_i h0 86 g) 0) → AW (m_X3_fillGains (d + 1) 0 0) 0 0 12 [(0, .ref 19), (1, .int x1), (2, .int x2)] [] h (kV K) := by
  have t1 : (1 : Int32).toInt = 1 := rfl
  intro n
  induction n with
  | zero =>
    intro f x2 h e2 en I Fh P
    have e3 : h_i h 19 3 = h_i h0 19 3 := (Fh.2 19 3 (by decide +kernel)).1
    refine t_X3_fillGains_12 d h I.1 x1 x2 K ⟨fun _ => O h I Fh (fun j g hj hg => P j g ?_), fun z => absurd (q_le.mpr (by rw [e3]; omega)) z⟩
    rcases Nat.lt_or_ge j i with u | u
    · exact Or.inl ⟨u, hg⟩
    · exact Or.inr ⟨by omega, by omega⟩
  | succ n ih =>
    intro f x2 h e2 en I Fh P
    have e3 : h_i h 19 3 = h_i h0 19 3 := (Fh.2 19 3 (by decide +kernel)).1
    have e4 : h_i h 19 4 = h_i h0 19 4 := (Fh.2 19 4 (by decide +kernel)).1
    have a5 : ∀ k, h_i h 85 k = h_i h0 85 k := fun k => fr_i Fh (by decide +kernel) k
    have a6 : ∀ k, h_i h 86 k = h_i h0 86 k := fun k => fr_i Fh (by decide +kernel) k
    have e5 : (x2 + 1).toInt = ((f + 1 : Nat) : Int) := by rw [tx_add (by rw [t1]; omega) (by rw [t1]; omega), t1]; omega
    have n1 := n_nat (x := x1) (by omega)
    have n2 := n_nat (x := x2) (by omega)
    have m1 : x1.toNatClampNeg = i := by omega
    have m2 : x2.toNatClampNeg = f := by omega
    have j := i64 e1 e2 (by omega) (by omega)
    have v1 : vp_in x1 8 := dp_in (lo := 0) (hi := 7) ⟨by show (0 : Int) ≤ _; omega, by show _ ≤ (7 : Int); omega⟩ (by decide) (by decide)
    have v2 : vp_in x2 8 := dp_in (lo := 0) (hi := 7) ⟨by show (0 : Int) ≤ _; omega, by show _ ≤ (7 : Int); omega⟩ (by decide) (by decide)
    refine t_X3_fillGains_12 d h I.1 x1 x2 K ⟨fun z => by have := q_le.mp z; rw [e3] at this; omega, fun _ => ⟨v1, v2, Ci.mono (c_alike d h _ _) (fun r h5 q => ?_)⟩⟩
    obtain ⟨er, eh⟩ := q
    subst eh
    rw [m1, m2, a5, a6] at er
    have st : ∀ v, v = (if lkv 5 (h_i h0 85 i) (h_i h0 86 f) 0 < h_i h0 19 4 then 0 else lkv 5 (h_i h0 85 i) (h_i h0 86 f) 0) → AW (m_X3_fillGains (d + 1) 0 0) 0 0 12 [(0, .ref 19), (1, .int x1), (2, .int (x2 + 1))] [] (h_im h5 87 ((x1 * 8) + x2).toNatClampNeg v) (kV K) := by
      intro v ev
      refine ih (f + 1) (x2 + 1) _ e5 (by omega) (tr_ 87 (by decide +kernel) I _ _ (by decide) (by decide)) (Fh.im (inw_row (by decide +kernel) _)) (fun jj g hg => ?_)
      rw [j.1, h_i_im]
      by_cases c : 87 = 87 ∧ 8 * jj + g = 8 * i + f
      · rw [if_pos c]
        have u : jj = i ∧ g = f := by omega
        rw [u.1, u.2]
        exact ev
      · rw [if_neg c]
        refine P jj g ?_
        rcases hg with u | u
        · exact Or.inl u
        · exact Or.inr ⟨u.1, by
            rcases Nat.lt_or_ge g f with w | w
            · exact w
            · exact absurd ⟨rfl, by omega⟩ c⟩
    refine ⟨I.1, fun z => ⟨j.2, st 0 ?_⟩, fun z => ⟨j.2, st r ?_⟩⟩
    · rw [er, e4] at z
      rw [if_pos z]
    · rw [er, e4] at z
      rw [if_neg z]
      exact er
theorem c_fillGains (d : Nat) {h : Hp_} (I : Iv h) {L F : Nat} (hL : L ≤ 8) (hF : F ≤ 8) (eL : (h_i h 19 2).toInt = (L : Int)) (eF : (h_i h 19 3).toInt = (F : Int)) : Cv (m_X3_fillGains (d + 1) 0 0) [.ref 19] h (fun h' => Iv h' ∧ Fr [87999] h h' ∧ Gn (h_i h 19 4) L F h') := by
  have t1 : (1 : Int32).toInt = 1 := rfl
  have fin : ∀ h', Fr [87999] h h' → (∀ j f, j < L → f < F → h_i h' 87 (8 * j + f) = if lkv 5 (h_i h 85 j) (h_i h 86 f) 0 < h_i h 19 4 then 0 else lkv 5 (h_i h 85 j) (h_i h 86 f) 0) → Gn (h_i h 19 4) L F h' := fun h' f P i g hi hg => by
    rw [fr_i f (a := 85) (by decide +kernel) i, fr_i f (a := 86) (by decide +kernel) g]
    exact P i g hi hg
  have lp : ∀ (n i : Nat) (x1 : Int32) (h' : Hp_), x1.toInt = (i : Int) → i + n = L → Iv h' → Fr [87999] h h' → (∀ j f, j < i → f < F → h_i h' 87 (8 * j + f) = if lkv 5 (h_i h 85 j) (h_i h 86 f) 0 < h_i h 19 4 then 0 else lkv 5 (h_i h 85 j) (h_i h 86 f) 0) → AW (m_X3_fillGains (d + 1) 0 0) 0 0 2 [(0, .ref 19), (1, .int x1)] [] h' (kV (fun h' => Iv h' ∧ Fr [87999] h h' ∧ Gn (h_i h 19 4) L F h')) := by
    intro n
    induction n with
    | zero =>
      intro i x1 h' e1 en I' Fh P
      have e3 : h_i h' 19 2 = h_i h 19 2 := (Fh.2 19 2 (by decide +kernel)).1
      exact t_X3_fillGains_2 d h' I'.1 x1 _ ⟨fun _ => ⟨I', Fh, fin h' Fh (fun j f hj hf => P j f (by omega) hf)⟩, fun z => absurd (q_le.mpr (by rw [e3]; omega)) z⟩
    | succ n ih =>
      intro i x1 h' e1 en I' Fh P
      have e3 : h_i h' 19 2 = h_i h 19 2 := (Fh.2 19 2 (by decide +kernel)).1
      have e5 : (x1 + 1).toInt = ((i + 1 : Nat) : Int) := by rw [tx_add (by rw [t1]; omega) (by rw [t1]; omega), t1]; omega
      refine t_X3_fillGains_2 d h' I'.1 x1 _ ⟨fun z => by have := q_le.mp z; rw [e3] at this; omega, fun _ => ?_⟩
      refine fg_in d h L F hL hF i (by omega) x1 e1 _ (fun h9 I9 F9 P9 => ih (i + 1) (x1 + 1) h9 e5 (by omega) I9 F9 P9) eF F 0 0 h' rfl (by omega) I' Fh (fun j g hg => ?_)
      rcases hg with u | u
      · exact P j g u.1 u.2
      · exact absurd u.2 (by omega)
  exact t_X3_fillGains d h _ (lp L 0 0 h rfl (by omega) I (Fr.rf _ _) (fun j f hj _ => absurd hj (by omega)))
theorem f_le {h : Hp_} {c f : Nat} {n : Int} (I : Iv h) (e : tf c f = (0, n)) : 0 ≤ (h_i h c f).toInt ∧ (h_i h c f).toInt ≤ n := by
  have rg := I.2.1 c f
  rw [e] at rg
  exact ⟨rg.1, rg.2⟩
def gG (h : Hp_) : Nat → Nat → Int32 := fun l f => lkv 5 (h_i h 85 l) (h_i h 86 f) 0
theorem i2304 {x2 x3 : Int32} {i : Nat} (e : x2.toInt = (i : Int)) (hi : i ≤ 8) (h0 : 0 ≤ x3.toInt) (h1 : x3.toInt < 256) : ((x2 * 256) + x3).toNatClampNeg = 256 * i + x3.toNatClampNeg ∧ vp_in ((x2 * 256) + x3) 2304 ∧ ((256 * x2) + x3).toNatClampNeg = 256 * i + x3.toNatClampNeg ∧ vp_in ((256 * x2) + x3) 2304 := by
  have t : (256 : Int32).toInt = 256 := rfl
  have a : (x2 * 256).toInt = x2.toInt * 256 := by rw [tx_mul (by rw [t]; omega) (by rw [t]; omega), t]
  have a' : (256 * x2).toInt = 256 * x2.toInt := by rw [tx_mul (by rw [t]; omega) (by rw [t]; omega), t]
  have b : (x2 * 256 + x3).toInt = x2.toInt * 256 + x3.toInt := by rw [tx_add (by omega) (by omega), a]
  have b' : (256 * x2 + x3).toInt = 256 * x2.toInt + x3.toInt := by rw [tx_add (by omega) (by omega), a']
  have n := n_nat (x := x2 * 256 + x3) (by omega)
  have n' := n_nat (x := 256 * x2 + x3) (by omega)
  have m := n_nat (x := x3) h0
  exact ⟨by omega, dp_in (lo := 0) (hi := 2303) ⟨by show (0 : Int) ≤ _; omega, by show _ ≤ (2303 : Int); omega⟩ (by decide) (by decide), by omega, dp_in (lo := 0) (hi := 2303) ⟨by show (0 : Int) ≤ _; omega, by show _ ≤ (2303 : Int); omega⟩ (by decide) (by decide)⟩
theorem p2_8 {F : Nat} (h : F ≤ 8) : 2 ^ F ≤ 256 ∧ 1 ≤ 2 ^ F := by
  have a : 2 ^ F ≤ 2 ^ 8 := Nat.pow_le_pow_right (by omega) h
  have b : 2 ^ 8 = 256 := by decide
  have c : 0 < 2 ^ F := Nat.pos_of_ne_zero (by simp)
  omega
theorem fb_f (d : Nat) {h : Hp_} (I : Iv h) {G : Nat → Nat → Int32} {e : Int32} {F i : Nat} (hF : F ≤ 8) (hi : i < 8) (he : 1 ≤ e.toInt) (nx : Int32 → Int32) (x1 x2 x3 : Int32) (e2 : x2.toInt = (i : Int)) (p0 : 0 ≤ x3.toInt) (p1 : x3.toInt < ((2 ^ F : Nat) : Int)) (eF : (h_i h 19 3).toInt = (F : Int)) (Gh : ∀ f, f < F → h_i h 87 (8 * i + f) = if G i f < e then 0 else G i f) (T : ∀ s : Int32, 0 ≤ s.toInt → s.toInt < ((2 ^ F : Nat) : Int) → h_i h 88 (256 * (i + 1) + s.toNatClampNeg) = nx s) (K : Hp_ → Prop) :
    ∀ (n f : Nat) (x4 : Int32), f + n = F → AW (m_X3_fillBest (d + 1) 0 0) 0 0 28 [(0, .ref 19), (1, .int x1), (2, .int x2), (3, .int (x3 + 1))] [] (h_im h 88 ((x2 * 256) + x3).toNatClampNeg (fv (G i) e nx x3 n f x4)) (kV K) → AW (m_X3_fillBest (d + 1) 0 0) 0 0 52 [(0, .ref 19), (1, .int x1), (2, .int x2), (3, .int x3), (4, .int x4), (5, .int (Int32.ofNat f))] [] h (kV K) := by
  have t1 : (1 : Int32).toInt = 1 := rfl
  have t0 : (0 : Int32).toInt = 0 := rfl
  have p8 := p2_8 hF
  have jj := i2304 e2 (by omega) p0 (by omega)
  intro n
  induction n with
  | zero =>
    intro f x4 en O
    exact t_X3_fillBest_52 d h I.1 x1 x2 x3 x4 (Int32.ofNat f) K ⟨fun _ => ⟨jj.2.1, O⟩, fun z => absurd (q_le.mpr (by rw [eF, on_j (by omega)]; omega)) z⟩
  | succ n ih =>
    intro f x4 en O
    have ef : (Int32.ofNat f).toInt = (f : Int) := on_j (by omega)
    have j := i64 e2 ef hi (by omega)
    have gh := Gh f (by omega)
    unfold fv at O
    have no : ¬ (((x3 >>> (Int32.ofNat f &&& 31)) &&& 1) = 0 ∧ ¬ G i f < e) → AW (m_X3_fillBest (d + 1) 0 0) 0 0 52 [(0, .ref 19), (1, .int x1), (2, .int x2), (3, .int x3), (4, .int x4), (5, .int (Int32.ofNat f + 1))] [] h (kV K) := fun nn => by
      rw [if_neg nn] at O
      rw [on_s (by omega)]
      exact ih (f + 1) x4 (by omega) O
    refine t_X3_fillBest_52 d h I.1 x1 x2 x3 x4 (Int32.ofNat f) K ⟨fun z => by have := q_le.mp z; rw [eF, ef] at this; omega, fun _ => ?_⟩
    refine t_X3_canJoin d h I.1 x2 (Int32.ofNat f) x3 _ ⟨fun nb => ⟨I.1, fun _ => no (fun w => nb w.1), fun w => absurd rfl w⟩, fun fb => ⟨j.2, fun g0 => ⟨I.1, fun _ => no (fun w => ?_), fun w => absurd rfl w⟩, fun g1 => ⟨I.1, fun w => absurd w (by decide), fun _ => ?_⟩⟩⟩
    · rw [j.1, gh, if_neg w.2] at g0
      have u := q_nlt w.2
      have v := q_le.mp g0
      omega
    · have ng : ¬ G i f < e := fun w => by
        rw [j.1, gh, if_pos w] at g1
        exact g1 (q_le.mpr (by omega))
      have sb := sb_in p0 p1 hF (f := f) (by omega)
      have e21 : (x2 + 1).toInt = ((i + 1 : Nat) : Int) := by rw [tx_add (by rw [t1]; omega) (by rw [t1]; omega), t1]; omega
      have k2 := i2304 (x2 := x2 + 1) (x3 := sbt x3 f) e21 (by omega) sb.1 (by omega)
      have er : h_i h 87 ((x2 * 8) + Int32.ofNat f).toNatClampNeg + h_i h 88 (((x2 + 1) * 256) + (x3 ||| ((1 : Int32) <<< (Int32.ofNat f &&& 31)))).toNatClampNeg = G i f + nx (sbt x3 f) := by
        rw [j.1, gh, if_neg ng]
        have k3 := k2.1
        unfold sbt at k3
        rw [k3]
        have k4 := T (sbt x3 f) sb.1 sb.2
        unfold sbt at k4 ⊢
        rw [k4]
      refine t_X3_sumWith d h I.1 x2 (Int32.ofNat f) x3 _ ⟨j.2, k2.2.1, I.1, ?_⟩
      rw [er, on_s (by omega)]
      rw [if_pos ⟨fb, ng⟩] at O
      exact ih (f + 1) _ (by omega) O
def Tb (G : Nat → Nat → Int32) (e : Int32) (F L : Nat) (c : Nat) (h : Hp_) (i : Nat) : Prop := ∀ (j : Nat) (s : Int32), i ≤ j → j ≤ L → 0 ≤ s.toInt → s.toInt < ((2 ^ F : Nat) : Int) → h_i h c (256 * j + s.toNatClampNeg) = bv G e F (L - j) j s
theorem fb_s (d : Nat) (h0 : Hp_) {G : Nat → Nat → Int32} {e : Int32} {F L i : Nat} (hF : F ≤ 8) (hL : L ≤ 8) (hi : i < L) (he : 1 ≤ e.toInt) (x1 x2 : Int32) (e1 : x1.toInt = ((2 ^ F : Nat) : Int)) (e2 : x2.toInt = (i : Int)) (eF : (h_i h0 19 3).toInt = (F : Int)) (Gh : ∀ i f, i < L → f < F → h_i h0 87 (8 * i + f) = if G i f < e then 0 else G i f) (K : Hp_ → Prop) (O : ∀ h, Iv h → Fr [88999] h0 h → Tb G e F L 88 h i → AW (m_X3_fillBest (d + 1) 0 0) 0 0 22 [(0, .ref 19), (1, .int x1), (2, .int (x2 + (-1)))] [] h (kV K)) :
    ∀ (m : Nat) (x3 : Int32) (h : Hp_), 0 ≤ x3.toInt → x3.toInt + m = ((2 ^ F : Nat) : Int) → Iv h → Fr [88999] h0 h → Tb G e F L 88 h (i + 1) → (∀ s : Int32, 0 ≤ s.toInt → s.toInt < x3.toInt → h_i h 88 (256 * i + s.toNatClampNeg) = bv G e F (L - i) i s) → AW (m_X3_fillBest (d + 1) 0 0) 0 0 28 [(0, .ref 19), (1, .int x1), (2, .int x2), (3, .int x3)] [] h (kV K) := by
  have t1 : (1 : Int32).toInt = 1 := rfl
  have p8 := p2_8 hF
  intro m
  induction m with
  | zero =>
    intro x3 h p0 p1 I Fh T P
    refine t_X3_fillBest_28 d h I.1 x1 x2 x3 K ⟨fun _ => O h I Fh (fun j s hj hL' s0 s1 => ?_), fun z => absurd (q_le.mpr (by omega)) z⟩
    rcases Nat.lt_or_ge i j with u | u
    · exact T j s u hL' s0 s1
    · have ej : j = i := by omega
      rw [ej]
      exact P s s0 (by omega)
  | succ m ih =>
    intro x3 h p0 p1 I Fh T P
    have e3 : (x3 + 1).toInt = x3.toInt + 1 := tx_add (by rw [t1]; omega) (by rw [t1]; omega)
    have e21 : (x2 + 1).toInt = ((i + 1 : Nat) : Int) := by rw [tx_add (by rw [t1]; omega) (by rw [t1]; omega), t1]; omega
    have k1 := i2304 (x2 := x2 + 1) (x3 := x3) e21 (by omega) p0 (by omega)
    have k0 := i2304 (x2 := x2) (x3 := x3) e2 (by omega) p0 (by omega)
    have hb : h_i h 88 (((x2 + 1) * 256) + x3).toNatClampNeg = bv G e F (L - (i + 1)) (i + 1) x3 := by
      rw [k1.1]
      exact T (i + 1) x3 (Nat.le_refl _) (by omega) p0 (by omega)
    have eb : bv G e F (L - i) i x3 = fv (G i) e (bv G e F (L - (i + 1)) (i + 1)) x3 F 0 (bv G e F (L - (i + 1)) (i + 1) x3) := by
      rw [show L - i = (L - (i + 1)) + 1 by omega]
      rfl
    refine t_X3_fillBest_28 d h I.1 x1 x2 x3 K ⟨fun z => by have := q_le.mp z; omega, fun _ => ⟨k1.2.1, ?_⟩⟩
    rw [hb]
    refine fb_f d I (G := G) (e := e) (F := F) (i := i) hF (by omega) he (bv G e F (L - (i + 1)) (i + 1)) x1 x2 x3 e2 p0 (by omega) (by rw [(Fh.2 19 3 (by decide +kernel)).1]; exact eF) (fun f hf => by rw [fr_i Fh (a := 87) (by decide +kernel)]; exact Gh i f hi hf) (fun s s0 s1 => T (i + 1) s (Nat.le_refl _) (by omega) s0 s1) K F 0 _ (by omega) ?_
    rw [← eb, k0.1]
    have n3 := n_nat (x := x3) p0
    refine ih (x3 + 1) _ (by omega) (by omega) (tr_ 88 (by decide +kernel) I _ _ (by decide) (by decide)) (Fh.im (inw_row (by decide +kernel) _)) (fun j s hj hL' s0 s1 => ?_) (fun s s0 s1 => ?_)
    · have ns := n_nat (x := s) s0
      rw [h_i_im, if_neg (fun c => by have := c.2; omega)]
      exact T j s hj hL' s0 s1
    · have ns := n_nat (x := s) s0
      rw [h_i_im]
      by_cases c : s.toInt = x3.toInt
      · have es : s = x3 := Int32.toInt_inj.mp c
        rw [if_pos ⟨rfl, by rw [es]⟩, es]
      · rw [if_neg (fun c' => by have := c'.2; omega)]
        exact P s s0 (by omega)
theorem sh_all : (List.range 9).all (fun F => ((1 : Int32) <<< (Int32.ofNat F &&& 31)).toInt == ((2 ^ F : Nat) : Int)) = true := by decide +kernel
theorem fb_i (d : Nat) (h0 hA : Hp_) {G : Nat → Nat → Int32} {e : Int32} {F L : Nat} (hF : F ≤ 8) (hL : L ≤ 8) (he : 1 ≤ e.toInt) (y1 : Int32) (ex1 : y1.toInt = ((2 ^ F : Nat) : Int)) (eF : (h_i h0 19 3).toInt = (F : Int)) (Gh : ∀ i f, i < L → f < F → h_i h0 87 (8 * i + f) = if G i f < e then 0 else G i f) (FA : Fr [88999] hA h0) :
    ∀ (r : Nat) (x2 : Int32) (h' : Hp_), x2.toInt = (r : Int) - 1 → r ≤ L → Iv h' → Fr [88999] h0 h' → Tb G e F L 88 h' r → AW (m_X3_fillBest (d + 1) 0 0) 0 0 22 [(0, .ref 19), (1, .int y1), (2, .int x2)] [] h' (kV (fun h' => Iv h' ∧ Fr [88999] hA h' ∧ Tb G e F L 88 h' 0))
  | 0, x2, h', ee, _, I', Fh, T => t_X3_fillBest_22 d h' _ x2 _ ⟨fun _ => ⟨I', FA.tr Fh, T⟩, fun z => absurd (q_lt.mpr (show x2.toInt < 0 by rw [ee]; decide)) z⟩
  | r + 1, x2, h', ee, rl, I', Fh, T => by
    have er : x2.toInt = (r : Int) := by rw [ee]; exact (show ((r : Int) + 1) - 1 = (r : Int) from Int.add_sub_cancel _ _)
    have tm : (-1 : Int32).toInt = -1 := rfl
    have lr : (r : Int) ≤ 8 := Int.ofNat_le.mpr (Nat.le_trans (Nat.le_of_succ_le rl) hL)
    have nr : (0 : Int) ≤ (r : Int) := Int.natCast_nonneg r
    have e4 : (x2 + (-1)).toInt = (r : Int) - 1 := by
      rw [tx_add (by rw [tm, er]; exact Int.le_trans (by decide) (Int.add_le_add_right nr (-1))) (by rw [tm, er]; exact Int.lt_of_le_of_lt (Int.add_le_add_right lr (-1)) (by decide)), tm, er]
      rfl
    refine t_X3_fillBest_22 d h' _ x2 _ ⟨fun z => absurd (q_lt.mp z) (by rw [er]; exact Int.not_lt.mpr nr), fun _ => ?_⟩
    exact fb_s d h0 (G := G) (e := e) (F := F) (L := L) (i := r) hF hL rl he y1 x2 ex1 er eF Gh _ (fun h9 I9 F9 T9 => fb_i d h0 hA hF hL he y1 ex1 eF Gh FA r (x2 + (-1)) h9 e4 (Nat.le_of_succ_le rl) I9 F9 T9) (2 ^ F) 0 h' (by decide) (Int.zero_add _) I' Fh T (fun s s0 s1 => absurd s1 (Int.not_lt.mpr s0))
theorem c_fillBest (d : Nat) {h : Hp_} (I : Iv h) {L F : Nat} (hL : L ≤ 8) (hF : F ≤ 8) (he : 1 ≤ (h_i h 19 4).toInt) (eL : (h_i h 19 2).toInt = (L : Int)) (eF : (h_i h 19 3).toInt = (F : Int)) (Gh : Gn (h_i h 19 4) L F h) : Cv (m_X3_fillBest (d + 1) 0 0) [.ref 19] h (fun h' => Iv h' ∧ Fr [88999] h h' ∧ Tb (gG h) (h_i h 19 4) F L 88 h' 0) := by
  have t1 : (1 : Int32).toInt = 1 := rfl
  have tm : (-1 : Int32).toInt = -1 := rfl
  have p8 := p2_8 hF
  refine t_X3_fillBest d h I.1 _ (Cv.mono (s_J7_fill d h 88 2304 0 (ws_88 I.1) (by decide)) (fun h1 q => ?_))
  have I1 : Iv h1 := by rw [q]; exact I.iw (fun k => by rw [tfa_tf (show tfa 88 = some rtop by decide +kernel)]; exact rtop_in _) (by decide) (by decide)
  have F1 : Fr [88999] h h1 := by rw [q]; exact (Fr.rf _ _).iw (by decide +kernel)
  have Z1 : ∀ k, k < 2304 → h_i h1 88 k = 0 := fun k hk => by rw [q, h_i_iw, if_pos rfl]; unfold fl_; rw [if_pos hk]
  have e3 : h_i h1 19 3 = h_i h 19 3 := (F1.2 19 3 (by decide +kernel)).1
  have e2 : h_i h1 19 2 = h_i h 19 2 := (F1.2 19 2 (by decide +kernel)).1
  have e3n : h_i h1 19 3 = Int32.ofNat F := Int32.toInt_inj.mp (by rw [e3, on_j (by omega)]; exact eF)
  have ex1 : ((1 : Int32) <<< ((h_i h1 19 3) &&& 31)).toInt = ((2 ^ F : Nat) : Int) := by
    rw [e3n]
    exact eq_of_beq (List.all_eq_true.mp sh_all F (List.mem_range.mpr (by omega)))
  have e2L : (h_i h1 19 2).toInt = (L : Int) := by rw [e2]; exact eL
  generalize ((1 : Int32) <<< ((h_i h1 19 3) &&& 31)) = y1 at ex1 ⊢
  have ex2 : ((h_i h1 19 2) - 1).toInt = (L : Int) - 1 := by rw [tx_sub (by rw [t1]; omega) (by rw [t1]; omega), t1, e2L]
  refine ⟨I1.1, fb_i d h1 h hF hL he y1 ex1 (by rw [e3]; exact eF) (fun i f hi hf => by rw [fr_i F1 (a := 87) (by decide +kernel)]; exact Gh i f hi hf) F1 L _ h1 ex2 (Nat.le_refl _) I1 (Fr.rf _ _) (fun j s hj hl s0 s1 => ?_)⟩
  have ns := n_nat (x := s) s0
  rw [Z1 _ (by omega), show L - j = 0 by omega]
  rfl
theorem fi_f (d : Nat) {h : Hp_} (I : Iv h) {G : Nat → Nat → Int32} {e : Int32} {F i : Nat} (hF : F ≤ 8) (hi : i < 8) (he : 1 ≤ e.toInt) (nx : Int32 → Int32) (x1 b r : Int32) (p0 : 0 ≤ x1.toInt) (p1 : x1.toInt < ((2 ^ F : Nat) : Int)) (eF : (h_i h 19 3).toInt = (F : Int)) (Gh : ∀ f, f < F → h_i h 87 (8 * i + f) = if G i f < e then 0 else G i f) (T : ∀ s : Int32, 0 ≤ s.toInt → s.toInt < ((2 ^ F : Nat) : Int) → h_i h 88 (256 * (i + 1) + s.toNatClampNeg) = nx s) (eb : h_i h 88 (256 * i + x1.toNatClampNeg) = b) (n1 : h_i h 91 i = -1) (K : Hp_ → Prop)
    (O : ∀ h', Iv h' → Fr [91999] h h' → (∀ k, k ≠ i → h_i h' 91 k = h_i h 91 k) → h_i h' 91 i = r → AW (m_X3_fillFirst (d + 1) 0 0) 0 0 4 [(0, .ref 19), (1, .int (jn x1 r)), (2, .int (Int32.ofNat i + 1))] [] h' (kV K)) :
    ∀ (n f : Nat), f + n = F → ffx (G i) e nx x1 b n f = r → AW (m_X3_fillFirst (d + 1) 0 0) 0 0 21 [(0, .ref 19), (1, .int x1), (2, .int (Int32.ofNat i)), (3, .int (Int32.ofNat f))] [] h (kV K) := by
  have t1 : (1 : Int32).toInt = 1 := rfl
  have t0 : (0 : Int32).toInt = 0 := rfl
  have p8 := p2_8 hF
  have ei : (Int32.ofNat i).toInt = (i : Int) := on_j (by omega)
  have ki : (Int32.ofNat i).toNatClampNeg = i := on_k (by omega)
  have vi : vp_in (Int32.ofNat i) 8 := on_in (by omega) (by decide)
  have jj := i2304 ei (by omega) p0 (by omega)
  intro n
  induction n with
  | zero =>
    intro f en er
    have er' : (-1 : Int32) = r := er
    refine t_X3_fillFirst_21 d h I.1 x1 (Int32.ofNat i) (Int32.ofNat f) K ⟨fun _ => ⟨vi, fun _ => ?_, fun z => absurd (by rw [ki]; exact n1) z⟩, fun z => absurd (q_le.mpr (by rw [eF, on_j (by omega)]; omega)) z⟩
    have k := O h I (Fr.rf _ _) (fun _ _ => rfl) (by rw [n1]; exact er')
    rw [← er'] at k
    exact k
  | succ n ih =>
    intro f en er
    have ef : (Int32.ofNat f).toInt = (f : Int) := on_j (by omega)
    have j := i64 ei ef hi (by omega)
    have gh := Gh f (by omega)
    unfold ffx at er
    have no : ¬ ((((x1 >>> (Int32.ofNat f &&& 31)) &&& 1) = 0 ∧ ¬ G i f < e) ∧ G i f + nx (sbt x1 f) = b) → AW (m_X3_fillFirst (d + 1) 0 0) 0 0 21 [(0, .ref 19), (1, .int x1), (2, .int (Int32.ofNat i)), (3, .int (Int32.ofNat f + 1))] [] h (kV K) := fun nn => by
      rw [if_neg nn] at er
      rw [on_s (by omega)]
      exact ih (f + 1) (by omega) er
    refine t_X3_fillFirst_21 d h I.1 x1 (Int32.ofNat i) (Int32.ofNat f) K ⟨fun z => by have := q_le.mp z; rw [eF, ef] at this; omega, fun _ => ⟨vi, fun z => absurd (by rw [ki]; exact n1) z, fun _ => ?_⟩⟩
    refine t_X3_canJoin d h I.1 (Int32.ofNat i) (Int32.ofNat f) x1 _ ⟨fun nb => ⟨I.1, fun _ => no (fun w => nb w.1.1), fun w => absurd rfl w⟩, fun fb => ⟨j.2, fun g0 => ⟨I.1, fun _ => no (fun w => ?_), fun w => absurd rfl w⟩, fun g1 => ⟨I.1, fun w => absurd w (by decide), fun _ => ?_⟩⟩⟩
    · rw [j.1, gh, if_neg w.1.2] at g0
      have u := q_nlt w.1.2
      have v := q_le.mp g0
      omega
    · have ng : ¬ G i f < e := fun w => by
        rw [j.1, gh, if_pos w] at g1
        exact g1 (q_le.mpr (by omega))
      have sb := sb_in p0 p1 hF (f := f) (by omega)
      have e21 : (Int32.ofNat i + 1).toInt = ((i + 1 : Nat) : Int) := by rw [tx_add (by rw [t1]; omega) (by rw [t1]; omega), t1]; omega
      have k2 := i2304 (x2 := Int32.ofNat i + 1) (x3 := sbt x1 f) e21 (by omega) sb.1 (by omega)
      have es : h_i h 87 ((Int32.ofNat i * 8) + Int32.ofNat f).toNatClampNeg + h_i h 88 (((Int32.ofNat i + 1) * 256) + (x1 ||| ((1 : Int32) <<< (Int32.ofNat f &&& 31)))).toNatClampNeg = G i f + nx (sbt x1 f) := by
        rw [j.1, gh, if_neg ng]
        have k3 := k2.1
        unfold sbt at k3
        rw [k3]
        have k4 := T (sbt x1 f) sb.1 sb.2
        unfold sbt at k4 ⊢
        rw [k4]
      refine t_X3_sumWith d h I.1 (Int32.ofNat i) (Int32.ofNat f) x1 _ ⟨j.2, k2.2.1, I.1, jj.2.1, fun ne => no (fun w => ?_), fun eq => ⟨vi, ?_⟩⟩
      · rw [jj.1, eb, es] at ne
        exact ne w.2
      · rw [jj.1, eb, es] at eq
        rw [if_pos ⟨⟨fb, ng⟩, eq⟩] at er
        rw [ki]
        have nf : ¬ Int32.ofNat f = -1 := on_ne (by omega)
        have h' : Iv (h_im h 91 i (Int32.ofNat f)) := I.im (by rw [tfa_tf (show tfa 91 = some ((-1), 7) by decide +kernel)]; exact ⟨by show (-1 : Int) ≤ _; omega, by show _ ≤ (7 : Int); omega⟩) (jw_jr (by decide) (by decide) _)
        have a1 : h_i (h_im h 91 i (Int32.ofNat f)) 91 (Int32.ofNat i).toNatClampNeg = Int32.ofNat f := by rw [ki]; exact im_at
        have k := O (h_im h 91 i (Int32.ofNat f)) h' ((Fr.rf _ _).im (inw_row (by decide +kernel) _)) (fun k hk => by rw [h_i_im, if_neg (fun c => hk c.2)]) (by rw [im_at]; exact er)
        rw [← er] at k
        have k' : AW (m_X3_fillFirst (d + 1) 0 0) 0 0 4 [(0, .ref 19), (1, .int (x1 ||| ((1 : Int32) <<< ((h_i (h_im h 91 i (Int32.ofNat f)) 91 (Int32.ofNat i).toNatClampNeg) &&& 31)))), (2, .int (Int32.ofNat i + 1))] [] (h_im h 91 i (Int32.ofNat f)) (kV K) := by
          rw [a1]
          unfold jn at k
          rw [if_neg nf] at k
          exact k
        exact t_X3_fillFirst_21 d (h_im h 91 i (Int32.ofNat f)) h'.1 x1 (Int32.ofNat i) (Int32.ofNat f + 1) K ⟨fun _ => ⟨vi, fun z => absurd (a1.symm.trans z) nf, fun _ => ⟨vi, k'⟩⟩, fun _ => ⟨vi, fun _ => ⟨vi, fun z => absurd (a1.symm.trans z) nf, fun _ => ⟨vi, k'⟩⟩, fun z => absurd (a1.symm.trans z) nf⟩⟩
theorem c_fillFirst (d : Nat) {h : Hp_} (I : Iv h) {G : Nat → Nat → Int32} {e : Int32} {L F : Nat} (hL : L ≤ 8) (hF : F ≤ 8) (he : 1 ≤ e.toInt) (eL : (h_i h 19 2).toInt = (L : Int)) (eF : (h_i h 19 3).toInt = (F : Int)) (Gh : ∀ i f, i < L → f < F → h_i h 87 (8 * i + f) = if G i f < e then 0 else G i f) (T : Tb G e F L 88 h 0) : Cv (m_X3_fillFirst (d + 1) 0 0) [.ref 19] h (fun h' => Iv h' ∧ Fr [91999] h h' ∧ ∀ l, l < L → h_i h' 91 l = jt G e F L l (js G e F L l)) := by
  have t1 : (1 : Int32).toInt = 1 := rfl
  have lp : ∀ (n i : Nat) (h' : Hp_), i + n = L → Iv h' → Fr [91999] h h' → (∀ l, l < i → h_i h' 91 l = jt G e F L l (js G e F L l)) → AW (m_X3_fillFirst (d + 1) 0 0) 0 0 4 [(0, .ref 19), (1, .int (js G e F L i)), (2, .int (Int32.ofNat i))] [] h' (kV (fun h' => Iv h' ∧ Fr [91999] h h' ∧ ∀ l, l < L → h_i h' 91 l = jt G e F L l (js G e F L l))) := by
    intro n
    induction n with
    | zero =>
      intro i h' en I' Fh P
      have e2 : h_i h' 19 2 = h_i h 19 2 := (Fh.2 19 2 (by decide +kernel)).1
      exact t_X3_fillFirst_4 d h' I'.1 (js G e F L i) (Int32.ofNat i) _ ⟨fun _ => ⟨I', Fh, fun l hl => P l (by omega)⟩, fun z => absurd (q_le.mpr (by rw [e2, eL, on_j (by omega)]; omega)) z⟩
    | succ n ih =>
      intro i h' en I' Fh P
      have e2 : h_i h' 19 2 = h_i h 19 2 := (Fh.2 19 2 (by decide +kernel)).1
      have ki : (Int32.ofNat i).toNatClampNeg = i := on_k (by omega)
      refine t_X3_fillFirst_4 d h' I'.1 (js G e F L i) (Int32.ofNat i) _ ⟨fun z => by have := q_le.mp z; rw [e2, eL, on_j (by omega)] at this; omega, fun _ => ⟨on_in (by omega) (by decide), ?_⟩⟩
      rw [ki]
      have I2 : Iv (h_im h' 91 i (-1)) := I'.im (by rw [tfa_tf (show tfa 91 = some ((-1), 7) by decide +kernel)]; exact ⟨by decide, by decide⟩) (jw_jr (by decide) (by decide) _)
      have F2 : Fr [91999] h (h_im h' 91 i (-1)) := Fh.im (inw_row (by decide +kernel) _)
      have sb := js_in (G := G) (e := e) (L := L) hF i
      refine fi_f d I2 (G := G) (e := e) (F := F) (i := i) hF (by omega) he (bv G e F (L - (i + 1)) (i + 1)) (js G e F L i) (bv G e F (L - i) i (js G e F L i)) (jt G e F L i (js G e F L i)) sb.1 sb.2 (by rw [(F2.2 19 3 (by decide +kernel)).1]; exact eF) (fun f hf => by rw [fr_i F2 (a := 87) (by decide +kernel)]; exact Gh i f (by omega) hf) (fun s s0 s1 => by rw [fr_i F2 (a := 88) (by decide +kernel)]; exact T (i + 1) s (Nat.zero_le _) (by omega) s0 s1) (by rw [fr_i F2 (a := 88) (by decide +kernel)]; exact T i _ (Nat.zero_le _) (by omega) sb.1 sb.2) im_at _ (fun h9 I9 F9 A9 B9 => ?_) F 0 (by omega) rfl
      rw [on_s (by omega)]
      refine ih (i + 1) h9 (by omega) I9 (F2.tr F9) (fun l hl => ?_)
      by_cases c : l = i
      · rw [c]
        exact B9
      · rw [A9 l c, h_i_im, if_neg (fun y => c y.2)]
        exact P l (by omega)
  exact t_X3_fillFirst d h _ (lp L 0 h (by omega) I (Fr.rf _ _) (fun l hl => absurd hl (by omega)))
/-- what good l is joined to, by the class's goods -/
def jX (h : Hp_) (l : Nat) : Int32 := jt (gG h) (h_i h 19 4) (h_i h 19 3).toNatClampNeg (h_i h 19 2).toNatClampNeg l (js (gG h) (h_i h 19 4) (h_i h 19 3).toNatClampNeg (h_i h 19 2).toNatClampNeg l)
/-- the greatest sum, by the class's goods -/
def bX (h : Hp_) : Int32 := bv (gG h) (h_i h 19 4) (h_i h 19 3).toNatClampNeg (h_i h 19 2).toNatClampNeg 0 0
def Gx (h : Hp_) : Prop := (1 ≤ (h_i h 19 4).toInt) ∧ (h_i h 19 5 = 0 → h_i h 88 0 = bX h ∧ ∀ l, l < (h_i h 19 2).toNatClampNeg → h_i h 91 l = jX h l)
theorem bX_fr {ws : List Nat} {h h' : Hp_} (f : Fr ws h h') (o : (off ws 85 && off ws 86 && (!inw ws 19 2 && !inw ws 19 3 && !inw ws 19 4)) = true) : bX h' = bX h := by
  simp only [Bool.and_eq_true, Bool.not_eq_true'] at o
  unfold bX gG
  rw [(f.2 19 2 o.2.1.1).1, (f.2 19 3 o.2.1.2).1, (f.2 19 4 o.2.2).1, show h_i h' 85 = h_i h 85 from funext (fun k => fr_i f o.1.1 k), show h_i h' 86 = h_i h 86 from funext (fun k => fr_i f o.1.2 k)]
theorem jX_fr {ws : List Nat} {h h' : Hp_} (f : Fr ws h h') (o : (off ws 85 && off ws 86 && (!inw ws 19 2 && !inw ws 19 3 && !inw ws 19 4)) = true) (l : Nat) : jX h' l = jX h l := by
  simp only [Bool.and_eq_true, Bool.not_eq_true'] at o
  unfold jX gG
  rw [(f.2 19 2 o.2.1.1).1, (f.2 19 3 o.2.1.2).1, (f.2 19 4 o.2.2).1, show h_i h' 85 = h_i h 85 from funext (fun k => fr_i f o.1.1 k), show h_i h' 86 = h_i h 86 from funext (fun k => fr_i f o.1.2 k)]
theorem c_solve (d : Nat) {h : Hp_} (I : Iv h) (g : Gx h) : Cv (m_X3_solve (d + 3) 0 0) [.ref 19] h (fun h' => Iv h' ∧ Fr [19005, 87999, 88999, 89999, 90999, 91999] h h' ∧ h_i h' 19 5 = 0 ∧ h_i h' 88 0 = bX h ∧ ∀ l, l < (h_i h 19 2).toNatClampNeg → h_i h' 91 l = jX h l) := by
  have b2 := f_le (c := 19) (f := 2) (n := 8) I (by decide +kernel)
  have b3 := f_le (c := 19) (f := 3) (n := 8) I (by decide +kernel)
  have n2 := n_nat (x := h_i h 19 2) b2.1
  have n3 := n_nat (x := h_i h 19 3) b3.1
  refine t_X3_solve d h I.1 _ ⟨fun z => ⟨I, Fr.rf _ _, z, g.2 z⟩, fun _ => ?_⟩
  refine Cv.mono (c_fillGains d I (L := (h_i h 19 2).toNatClampNeg) (F := (h_i h 19 3).toNatClampNeg) (by omega) (by omega) n2.symm n3.symm) (fun h2 q => ?_)
  obtain ⟨I2, F2, G2⟩ := q
  have e2 : h_i h2 19 2 = h_i h 19 2 := (F2.2 19 2 (by decide +kernel)).1
  have e3 : h_i h2 19 3 = h_i h 19 3 := (F2.2 19 3 (by decide +kernel)).1
  have e4 : h_i h2 19 4 = h_i h 19 4 := (F2.2 19 4 (by decide +kernel)).1
  refine ⟨I2.1, Cv.mono (c_fillBest d I2 (L := (h_i h 19 2).toNatClampNeg) (F := (h_i h 19 3).toNatClampNeg) (by omega) (by omega) (by rw [e4]; exact g.1) (by rw [e2]; exact n2.symm) (by rw [e3]; exact n3.symm) (by rw [e4]; exact G2)) (fun h5 q => ?_)⟩
  obtain ⟨I5, F5, T5⟩ := q
  have gg : gG h2 = gG h := by
    unfold gG
    rw [show h_i h2 85 = h_i h 85 from funext (fun k => fr_i F2 (by decide +kernel) k), show h_i h2 86 = h_i h 86 from funext (fun k => fr_i F2 (by decide +kernel) k)]
  rw [gg, e4] at T5
  have z5 : h_i h5 88 0 = bX h := T5 0 0 (Nat.le_refl _) (Nat.zero_le _) (by decide) (by have p := (p2_8 (F := (h_i h 19 3).toNatClampNeg) (by omega)).2; show (0 : Int) < _; omega)
  have G5 : ∀ i f, i < (h_i h 19 2).toNatClampNeg → f < (h_i h 19 3).toNatClampNeg → h_i h5 87 (8 * i + f) = if gG h i f < h_i h 19 4 then 0 else gG h i f := fun i f hi hf => by
    rw [fr_i F5 (a := 87) (by decide +kernel), G2 i f hi hf, ← gg]
    rfl
  refine ⟨I5.1, Ct.mono (hc_X3_fillChoices d [.ref 19] h5 ⟨rfl, trivial⟩ I5 (fun _ y => (nomatch y))) (fun v h8 k => ?_)⟩
  obtain ⟨I8, F8, _, e8⟩ := k
  have G8 : ∀ i f, i < (h_i h 19 2).toNatClampNeg → f < (h_i h 19 3).toNatClampNeg → h_i h8 87 (8 * i + f) = if gG h i f < h_i h 19 4 then 0 else gG h i f := fun i f hi hf => by
    rw [fr_i F8 (a := 87) (by decide +kernel)]
    exact G5 i f hi hf
  have T8 : Tb (gG h) (h_i h 19 4) (h_i h 19 3).toNatClampNeg (h_i h 19 2).toNatClampNeg 88 h8 0 := fun j s h1 h2 h3 h4 => by
    rw [fr_i F8 (a := 88) (by decide +kernel)]
    exact T5 j s h1 h2 h3 h4
  have e28 : h_i h8 19 2 = h_i h 19 2 := ((F8.2 19 2 (by decide +kernel)).1.trans (F5.2 19 2 (by decide +kernel)).1).trans e2
  have e38 : h_i h8 19 3 = h_i h 19 3 := ((F8.2 19 3 (by decide +kernel)).1.trans (F5.2 19 3 (by decide +kernel)).1).trans e3
  refine ⟨e8, I8.1, Cv.mono (c_fillFirst d I8 (by omega) (by omega) g.1 (by rw [e28]; exact n2.symm) (by rw [e38]; exact n3.symm) G8 T8) (fun h11 k => ?_)⟩
  obtain ⟨I11, F11, P11⟩ := k
  refine ⟨I11.1, I11.im (by rw [show tf 19 5 = (0, 1) by decide +kernel]; exact ⟨by decide, by decide⟩) (by decide), ((((F2.more (b := [19005, 87999, 88999, 89999, 90999, 91999]) (by decide +kernel)).tr (F5.more (by decide +kernel))).tr (F8.more (by decide +kernel))).tr (F11.more (by decide +kernel))).im (by decide +kernel), im_at, ?_, fun l hl => ?_⟩
  · rw [im_ne (by decide), fr_i F11 (a := 88) (by decide +kernel), fr_i F8 (a := 88) (by decide +kernel)]
    exact z5
  · rw [im_ne (by decide)]
    exact P11 l hl
theorem Gx.fr {ws : List Nat} {h h' : Hp_} (g : Gx h) (f : Fr ws h h') (o : (off ws 85 && off ws 86 && (!inw ws 19 2 && !inw ws 19 3 && !inw ws 19 4) && (!inw ws 19 5 && off ws 88 && off ws 91)) = true) : Gx h' := by
  rw [Bool.and_eq_true] at o
  have u := bX_fr f o.1
  have o1 := o.1
  have o2 := o.2
  simp only [Bool.and_eq_true, Bool.not_eq_true'] at o1 o2
  refine ⟨by rw [(f.2 19 4 o1.2.2).1]; exact g.1, fun z => ?_⟩
  rw [(f.2 19 5 o2.1.1).1] at z
  refine ⟨by rw [fr_i f o2.1.2 0, u]; exact (g.2 z).1, fun l hl => ?_⟩
  rw [(f.2 19 2 o1.2.1.1).1] at hl
  rw [fr_i f o2.2 l, jX_fr f o.1 l]
  exact (g.2 z).2 l hl
/-! what class and reference keep alike; what the law's loop keeps -/
def rl : List ((Nat × Nat) × Nat) := [((19, 2), 101), ((19, 3), 102), ((19, 4), 103)]
theorem rl_F : Rlf rl HF := fun q hq => by
  have z : rl.all (fun q => h_i HF q.1.1 q.1.2 == h_i HF 1 q.2) = true := by decide +kernel
  exact eq_of_beq (List.all_eq_true.mp z q hq)
/-- the marks of the goods are alike; what the class keeps of its sums is right -/
def Ex (h : Hp_) : Prop := (∀ k : Nat, k < 8 → h_i h 85 k = h_i h 278 k ∧ h_i h 86 k = h_i h 279 k) ∧ Gx h
def exg (ws : List Nat) : Bool := off ws 85 && off ws 86 && off ws 278 && off ws 279
def exo (ws : List Nat) : Bool := exg ws && (off ws 85 && off ws 86 && (!inw ws 19 2 && !inw ws 19 3 && !inw ws 19 4) && (!inw ws 19 5 && off ws 88 && off ws 91))
theorem ex_F : Ex HF := ⟨fun k hk => by
  have z : (List.range 8).all (fun k => h_i HF 85 k == h_i HF 278 k && h_i HF 86 k == h_i HF 279 k) = true := by decide +kernel
  have y := List.all_eq_true.mp z k (List.mem_range.mpr hk)
  rw [Bool.and_eq_true] at y
  exact ⟨eq_of_beq y.1, eq_of_beq y.2⟩, by
  refine ⟨?_, fun z => ?_⟩
  · rw [show h_i HF 19 4 = 3 by decide +kernel]
    decide
  · rw [show h_i HF 19 5 = 1 by decide +kernel] at z
    exact absurd z (by decide)⟩
theorem Ex.rows {ws : List Nat} {h h' : Hp_} (e : ∀ k : Nat, k < 8 → h_i h 85 k = h_i h 278 k ∧ h_i h 86 k = h_i h 279 k) (f : Fr ws h h') (o : exg ws = true) : ∀ k : Nat, k < 8 → h_i h' 85 k = h_i h' 278 k ∧ h_i h' 86 k = h_i h' 279 k := fun k hk => by
  unfold exg at o
  simp only [Bool.and_eq_true] at o
  rw [fr_i f o.1.1.1 k, fr_i f o.1.1.2 k, fr_i f o.1.2 k, fr_i f o.2 k]
  exact e k hk
theorem Ex.fr {ws : List Nat} {h h' : Hp_} (e : Ex h) (f : Fr ws h h') (o : exo ws = true) : Ex h' := by
  unfold exo at o
  rw [Bool.and_eq_true] at o
  exact ⟨Ex.rows e.1 f o.1, e.2.fr f o.2⟩
theorem Ex.mf {W : List Nat} {h h' : Hp_} (e : Ex h) (f : Mf W h h') (o : exo W = true) : Ex h' := by
  unfold exo exg at o
  simp only [Bool.and_eq_true, Bool.not_eq_true'] at o
  obtain ⟨⟨⟨⟨a1, a2⟩, _⟩, _⟩, ⟨⟨_, ⟨⟨b2, b3⟩, b4⟩⟩, ⟨⟨b5, b8⟩, b9⟩⟩⟩ := o
  have r5 : h_i h' 85 = h_i h 85 := funext (fun k => (f.2.2.2 85 k (by decide) (off_inw a1 k)).1)
  have r6 : h_i h' 86 = h_i h 86 := funext (fun k => (f.2.2.2 86 k (by decide) (off_inw a2 k)).1)
  have u : bX h' = bX h := by
    unfold bX gG
    rw [(f.2.2.2 19 2 (by decide) b2).1, (f.2.2.2 19 3 (by decide) b3).1, (f.2.2.2 19 4 (by decide) b4).1, r5, r6]
  refine ⟨fun k hk => ?_, by rw [(f.2.2.2 19 4 (by decide) b4).1]; exact e.2.1, fun z => ?_⟩
  · rw [r5, r6, f.2.1 278 (by decide) (by decide) k, f.2.1 279 (by decide) (by decide) k]
    exact e.1 k hk
  · rw [(f.2.2.2 19 5 (by decide) b5).1] at z
    refine ⟨by rw [(f.2.2.2 88 0 (by decide) (off_inw b8 0)).1, u]; exact (e.2.2 z).1, fun l hl => ?_⟩
    rw [(f.2.2.2 19 2 (by decide) b2).1] at hl
    rw [(f.2.2.2 91 l (by decide) (off_inw b9 l)).1, (e.2.2 z).2 l hl]
    unfold jX gG
    rw [(f.2.2.2 19 2 (by decide) b2).1, (f.2.2.2 19 3 (by decide) b3).1, (f.2.2.2 19 4 (by decide) b4).1, r5, r6]
/-- the men, and what this row wants besides -/
def Mef (h : Hp_) : Prop := Mn h ∧ Ex h
def Li (N : Nat) (h : Hp_) : Prop := Iv h ∧ J2 h ∧ h_sh h 2 = some (3, 1) ∧ (∃ c, h_r h 0 15 = some c ∧ h_sh h c = some (3, N)) ∧ Rlf rl h ∧ Mef h
theorem Li.z {N : Nat} {h : Hp_} (L : Li N h) : Li0 N h := ⟨L.1, L.2.1, L.2.2.1, L.2.2.2.1⟩
theorem Li0.li {N : Nat} {h : Hp_} (L : Li0 N h) (R : Rlf rl h) (m : Mef h) : Li N h := ⟨L.1, L.2.1, L.2.2.1, L.2.2.2, R, m⟩
theorem Mn.fr {ws : List Nat} {h h' : Hp_} (m : Mn h) (f : Fr ws h h') (o : (!inw ws 0 7 && off ws 15) = true) : Mn h' := fun k hk hm => by
  rw [Bool.and_eq_true, Bool.not_eq_true'] at o
  rw [(f.2 15 k (off_inw o.2 k)).2.2]
  exact m k hk (by rw [(f.2 0 7 o.1).1] at hm; exact hm)
theorem Mef.fr {ws : List Nat} {h h' : Hp_} (m : Mef h) (f : Fr ws h h') (o : (!inw ws 0 7 && off ws 15 && exo ws) = true) : Mef h' := by
  rw [Bool.and_eq_true] at o
  exact ⟨m.1.fr f o.1, m.2.fr f o.2⟩
theorem mn_F : Mn HF := fun k hk hm => by
  rw [show h_i HF 0 7 = 0 by decide +kernel] at hm
  have z : (0 : Int32).toInt = 0 := rfl
  omega
theorem li_F : Li 0 HF := li0_F.li rl_F ⟨mn_F, ex_F⟩
theorem Li.fr {N : Nat} {ws : List Nat} {h h' : Hp_} (L : Li N h) (I : Iv h') (f : Fr ws h h') (o : ((jso ws && !inw ws 0 15) && rl.all (fun q => !inw ws q.1.1 q.1.2 && !inw ws 1 q.2) && (!inw ws 0 7 && off ws 15 && exo ws)) = true) : Li N h' := by
  rw [Bool.and_eq_true, Bool.and_eq_true (jso ws && !inw ws 0 15)] at o
  exact (L.z.fr I f o.1.1).li (L.2.2.2.2.1.fr f o.1.2) (L.2.2.2.2.2.fr f o.2)
theorem Li.sr {N : Nat} {h h' : Hp_} (L : Li N h) (I : Iv h') (J : J2 h') (s : Sr h h') : Li N h' := (L.z.sn I J s.sn).li (L.2.2.2.2.1.fr s (by decide +kernel)) (L.2.2.2.2.2.fr s (by decide +kernel))
theorem Mn.mf {h h' : Hp_} (m : Mn h) (f : Mf wsX h h') : Mn h' := fun k hk hm => by
  rw [(f.2.2.2 15 k (by decide) (off_inw (by decide +kernel) k)).2]
  exact m k hk (by rw [(f.2.2.2 0 7 (by decide) (by decide +kernel)).1] at hm; exact hm)
theorem Mef.mf {h h' : Hp_} (m : Mef h) (f : Mf wsX h h') : Mef h' := ⟨m.1.mf f, m.2.mf f (by decide +kernel)⟩
theorem Mef.con {h h' : Hp_} {x1 x2 x3 r : Int32} (m : Mef h) (k : Cy x1 x2 x3 h r h') : Mef h' := ⟨k.2.2.1 m.1, m.2.mf k.1.2.1 (by decide +kernel)⟩
theorem Li.con2 {N : Nat} {h h1 h2 : Hp_} {x1 x2 x3 r1 r2 : Int32} (L : Li N h) (k1 : Cy x1 x2 x3 h r1 h1) (k2 : Iv h2 ∧ J2 h2 ∧ Sn h1 h2 ∧ ocm (h_i h1 1 7) x1 x2 x3 r2 (h_i h2 1 7) ∧ Cw (okm (h_i h1 1 7) x1 x2 x3) (h_i h1 1 7) x1 h1 h2) : Li N h2 := ((L.z.con k1.1).sn k2.1 k2.2.1 k2.2.2.1).li ((L.2.2.2.2.1.mf k1.1.2.1 (by decide +kernel)).fr k2.2.2.1 (by decide +kernel)) ((L.2.2.2.2.2.con k1).fr k2.2.2.1 (by decide +kernel))
theorem Li.tick2 {N N' : Nat} {h h1 h2 : Hp_} {x r1 r2 : Int32} (L : Li N h) (k1 : Iv h1 ∧ Mf wsX h h1 ∧ (∃ c', h_r h1 0 15 = some c' ∧ h_sh h1 c' = some (3, N')) ∧ otk (h_i h 0 0) x r1 (h_i h1 0 0)) (k2 : Iv h2 ∧ J2 h2 ∧ Fr wsT h1 h2 ∧ otk (h_i h1 1 0) x r2 (h_i h2 1 0)) : Li N' h2 := ((L.z.tick k1).st k2.1 k2.2.1 k2.2.2.1).li ((L.2.2.2.2.1.mf k1.2.1 (by decide +kernel)).fr k2.2.2.1 (by decide +kernel)) ((L.2.2.2.2.2.mf k1.2.1).fr k2.2.2.1 (by decide +kernel))
