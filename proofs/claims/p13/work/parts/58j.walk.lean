/-! ints as whole numbers: for index bounds -/
theorem ti_le {x y : Int32} : x ≤ y ↔ x.toInt ≤ y.toInt := Int32.le_iff_toInt_le
theorem ti_lt {x y : Int32} : x < y ↔ x.toInt < y.toInt := Int32.lt_iff_toInt_lt
theorem ti_eq {x y : Int32} : x = y ↔ x.toInt = y.toInt := Int32.toInt_inj.symm
theorem ti_add {x y : Int32} (l : -2147483648 ≤ x.toInt + y.toInt) (u : x.toInt + y.toInt < 2147483648) : (x + y).toInt = x.toInt + y.toInt := by
  rw [Int32.toInt_add, Int.bmod_eq_of_le (by omega) (by omega)]
theorem ti_sub {x y : Int32} (l : -2147483648 ≤ x.toInt - y.toInt) (u : x.toInt - y.toInt < 2147483648) : (x - y).toInt = x.toInt - y.toInt := by
  rw [Int32.toInt_sub, Int.bmod_eq_of_le (by omega) (by omega)]
theorem ti_mul {x y : Int32} (l : -2147483648 ≤ x.toInt * y.toInt) (u : x.toInt * y.toInt < 2147483648) : (x * y).toInt = x.toInt * y.toInt := by
  rw [Int32.toInt_mul, Int.bmod_eq_of_le (by omega) (by omega)]
theorem ti_n {i : Int32} : (i.toNatClampNeg : Int) = if 0 ≤ i.toInt then i.toInt else 0 := by
  show ((i.toInt.toNat : Nat) : Int) = _
  split <;> omega
theorem vin_ti {i : Int32} {n : Nat} (l : 0 ≤ i.toInt) (u : i.toInt < n) : vp_in i n := by
  have a : (0 : Int32).toInt = 0 := rfl
  have b : (i.toNatClampNeg : Int) = i.toInt := by rw [ti_n, if_pos l]
  rintro (z | z)
  · have z := ti_lt.mp z
    omega
  · omega
/-- a bound on a field -/
def bd (h : Hp_) (a k : Nat) (lo hi : Int) : Prop := lo ≤ (h_i h a k).toInt ∧ (h_i h a k).toInt ≤ hi
theorem bd_s {h : Hp_} {a k : Nat} {x : Int32} {lo hi : Int} (l : lo ≤ x.toInt) (u : x.toInt ≤ hi) : bd (h_im h a k x) a k lo hi := by
  unfold bd
  rw [h_i_im, if_pos ⟨rfl, rfl⟩]
  exact ⟨l, u⟩
theorem bd_o {h : Hp_} {a k b j : Nat} {x : Int32} {lo hi : Int} (n : ¬ (b = a ∧ j = k)) (c : bd h b j lo hi) : bd (h_im h a k x) b j lo hi := by
  unfold bd
  rw [h_i_im, if_neg n]
  exact c
theorem bd_r {h : Hp_} {a k : Nat} {x : Option Nat} {b j : Nat} {lo hi : Int} (c : bd h b j lo hi) : bd (h_rm h a k x) b j lo hi := by
  unfold bd
  rw [h_i_rm]
  exact c
theorem bd_l {h : Hp_} {a k : Nat} {x : Int64} {b j : Nat} {lo hi : Int} (c : bd h b j lo hi) : bd (h_lm h a k x) b j lo hi := by
  unfold bd
  rw [h_i_lm]
  exact c
theorem pl_i {x : Int32} (h : 0 ≤ x ∧ x < 16) : 0 ≤ x.toInt ∧ x.toInt < 16 := ⟨ti_le.mp h.1, ti_lt.mp h.2⟩
theorem vin_16 {x y : Int32} (hx : 0 ≤ x ∧ x < 16) (hy : 0 ≤ y ∧ y < 16) : vp_in ((x * 16) + y) 256 := by
  have a := pl_i hx
  have b := pl_i hy
  have m : (x * 16).toInt = x.toInt * 16 := ti_mul (y := 16) (show _ ≤ x.toInt * 16 by omega) (show x.toInt * 16 < _ by omega)
  have s : (x * 16 + y).toInt = x.toInt * 16 + y.toInt := by rw [ti_add (by omega) (by omega), m]
  exact vin_ti (by omega) (by omega)
def only (L : List Nat) (h h' : Hp_) : Prop := Wf h' ∧ (∀ b, b ∉ L → h_i h' b = h_i h b) ∧ h_l h' = h_l h ∧ h_r h' = h_r h ∧ h_sh h' = h_sh h
theorem only.rf {L : List Nat} {h : Hp_} (w : Wf h) : only L h h := ⟨w, fun _ _ => rfl, rfl, rfl, rfl⟩
theorem only.im {L : List Nat} {h h' : Hp_} {a k : Nat} {x : Int32} (o : only L h h') (ha : a ∈ L) : only L h (h_im h' a k x) := by
  refine ⟨o.1.im a k x, fun b hb => ?_, ?_, ?_, ?_⟩
  · funext j
    have n : ¬ (b = a ∧ j = k) := fun z => hb (by rw [z.1]; exact ha)
    rw [h_i_im, if_neg n, o.2.1 b hb]
  · rw [h_l_im]; exact o.2.2.1
  · rw [h_r_im]; exact o.2.2.2.1
  · rw [h_sh_im]; exact o.2.2.2.2
theorem only.tr {L : List Nat} {h h' h2 : Hp_} (o : only L h h') (q : only L h' h2) : only L h h2 :=
  ⟨q.1, fun b hb => (q.2.1 b hb).trans (o.2.1 b hb), q.2.2.1.trans o.2.2.1, q.2.2.2.1.trans o.2.2.2.1, q.2.2.2.2.trans o.2.2.2.2⟩
theorem only.more {L M : List Nat} {h h' : Hp_} (o : only L h h') (hs : ∀ b ∈ L, b ∈ M) : only M h h' := ⟨o.1, fun b hb => o.2.1 b (fun z => hb (hs b z)), o.2.2⟩
theorem ti_suc {x : Int32} (u : x.toInt < 2147483647) : (x + 1).toInt = x.toInt + 1 := ti_add (y := 1) (show _ ≤ x.toInt + 1 by have := Int32.le_toInt x; omega) (show x.toInt + 1 < _ by omega)
/-! the reference's walkOf: safe, and it ends -/
def fsn (h : Hp_) : Nat → Nat
  | 0 => 0
  | n + 1 => fsn h n + (h_i h 203 n).toInt.toNat
theorem fsn_le {h : Hp_} {p : Nat} {x : Int32} (l : x.toInt ≤ (h_i h 203 p).toInt) (z : 0 ≤ x.toInt) : ∀ n, fsn (h_im h 203 p x) n ≤ fsn h n ∧ (p < n → fsn (h_im h 203 p x) n + ((h_i h 203 p).toInt - x.toInt).toNat ≤ fsn h n)
  | 0 => ⟨Nat.le_refl _, fun h => absurd h (Nat.not_lt_zero p)⟩
  | n + 1 => by
    obtain ⟨a, b⟩ := fsn_le l z n
    have e : fsn (h_im h 203 p x) (n + 1) = fsn (h_im h 203 p x) n + (h_i (h_im h 203 p x) 203 n).toInt.toNat := rfl
    have e2 : fsn h (n + 1) = fsn h n + (h_i h 203 n).toInt.toNat := rfl
    rw [e, e2, h_i_im]
    by_cases c : n = p
    · subst c
      rw [if_pos ⟨rfl, rfl⟩]
      omega
    · rw [if_neg (fun z => c z.2)]
      refine ⟨by omega, fun hp => ?_⟩
      have := b (by omega)
      omega
/-- paths of the reference in their bounds; far in its -/
def RdI (h : Hp_) : Prop := bd h 1 6 0 40 ∧ (∀ k, k < 40 → bd h 200 k 0 15 ∧ bd h 201 k 0 15 ∧ bd h 202 k 0 60)
def FaI (h : Hp_) : Prop := ∀ p, p < 16 → bd h 203 p 0 100000
theorem RdI.on {h h' : Hp_} (i : RdI h) (o : only [203] h h') : RdI h' := by
  have e1 := o.2.1 1 (by decide)
  have e2 := o.2.1 200 (by decide)
  have e3 := o.2.1 201 (by decide)
  have e4 := o.2.1 202 (by decide)
  unfold RdI bd at *
  rw [e1, e2, e3, e4]
  exact i
theorem FaI.im {h : Hp_} (i : FaI h) {p : Nat} {x : Int32} (l : 0 ≤ x.toInt) (u : x.toInt ≤ 100000) : FaI (h_im h 203 p x) := fun q hq => by
  by_cases c : q = p
  · subst c
    exact bd_s l u
  · exact bd_o (fun z => c z.2) (i q hq)
theorem vin_bd {h : Hp_} {a k : Nat} {hi : Int} {n : Nat} (b : bd h a k 0 hi) (u : hi < n) : vp_in (h_i h a k) n := vin_ti b.1 (by have := b.2; omega)
theorem tn_bd {h : Hp_} {a k : Nat} {hi : Int} {n : Nat} (b : bd h a k 0 hi) (u : hi < n) : (h_i h a k).toNatClampNeg < n := by
  have e := @ti_n (h_i h a k)
  rw [if_pos b.1] at e
  have := b.2
  omega
theorem tn_ti {x : Int32} {n : Nat} (l : 0 ≤ x.toInt) (u : x.toInt < n) : x.toNatClampNeg < n := by
  have e := @ti_n x
  rw [if_pos l] at e
  omega
theorem fa_put {h0 h : Hp_} {N : Nat} (o : only [203] h0 h) (i : RdI h) (f : FaI h) (hN : fsn h 16 ≤ N) {p : Nat} {x : Int32} (hp : p < 16) (l : 0 ≤ x.toInt) (u : x.toInt < (h_i h 203 p).toInt) :
    only [203] h0 (h_im h 203 p x) ∧ RdI (h_im h 203 p x) ∧ FaI (h_im h 203 p x) ∧ fsn (h_im h 203 p x) 16 < N := by
  have b := f p hp
  have b2 := b.2
  have s := (fsn_le (h := h) (p := p) (x := x) (by omega) l 16).2 hp
  exact ⟨o.im (by decide), i.on ((only.rf o.1).im (by decide)), f.im l (by omega), by omega⟩
theorem sf_wo_43 (d : Nat) (h0 : Hp_) (x2 : Int32) (K : Int32 → Hp_ → Prop) (N : Nat)
    (k : ∀ (h : Hp_) (x3 : Int32), only [203] h0 h → RdI h → FaI h → ((x3 = 0 ∧ fsn h 16 ≤ N) ∨ (x3 = 1 ∧ fsn h 16 < N)) → AW (m_X12_walkOf (d + 0) 0 0) 0 0 34 [(0, .ref 1), (2, .int x2), (3, .int x3)] [] h (kI K)) :
    ∀ (r : Nat) (x3 x4 : Int32), 0 ≤ x4.toInt → x4.toInt + r = 40 → ∀ h, only [203] h0 h → RdI h → FaI h → ((x3 = 0 ∧ fsn h 16 ≤ N) ∨ (x3 = 1 ∧ fsn h 16 < N)) → AW (m_X12_walkOf (d + 0) 0 0) 0 0 43 [(0, .ref 1), (2, .int x2), (3, .int x3), (4, .int x4)] [] h (kI K) := by
  intro r
  induction r with
  | zero =>
    intro x3 x4 l e h o i f c
    have b := i.1.2
    exact t_X12_walkOf_43 d h o.1 x2 x3 x4 K ⟨fun _ => k h x3 o i f c, fun z => absurd (ti_le.mpr (by omega)) z⟩
  | succ r ih =>
    intro x3 x4 l e h o i f c
    have hN : fsn h 16 ≤ N := by rcases c with c | c <;> omega
    have s4 := ti_suc (x := x4) (by omega)
    have v4 : vp_in x4 40 := vin_ti l (by omega)
    have n4 : x4.toNatClampNeg < 40 := tn_ti l (by omega)
    have q := i.2 _ n4
    have va := vin_bd (n := 16) q.1 (by decide)
    have vb := vin_bd (n := 16) q.2.1 (by decide)
    have na := tn_bd (n := 16) q.1 (by decide)
    have nb := tn_bd (n := 16) q.2.1 (by decide)
    have ql := q.2.2.1
    have qu := q.2.2.2
    have fa := f _ na
    have fb := f _ nb
    have fa1 := fa.1
    have fa2 := fa.2
    have fb1 := fb.1
    have fb2 := fb.2
    have nx : ∀ (h' : Hp_) (y : Int32), only [203] h0 h' → RdI h' → FaI h' → ((y = 0 ∧ fsn h' 16 ≤ N) ∨ (y = 1 ∧ fsn h' 16 < N)) → AW (m_X12_walkOf (d + 0) 0 0) 0 0 43 [(0, .ref 1), (2, .int x2), (3, .int y), (4, .int (x4 + 1))] [] h' (kI K) := fun h' y o' i' f' c' => ih y (x4 + 1) (by omega) (by omega) h' o' i' f' c'
    refine t_X12_walkOf_43 d h o.1 x2 x3 x4 K ⟨fun _ => k h x3 o i f c, fun _ => ⟨v4, v4, va, v4, vb, fun e1 => ⟨vb, v4, va, fun e2 => nx h x3 o i f c, fun e2 => ⟨vb, v4, va, ?_⟩⟩, fun e1 => ⟨va, v4, vb, vb, v4, va, ?_⟩⟩⟩
    · have s := ti_add (x := h_i h 203 (h_i h 201 x4.toNatClampNeg).toNatClampNeg) (y := h_i h 202 x4.toNatClampNeg) (by omega) (by omega)
      have u := ti_lt.mp (Int32.not_le.mp e2)
      obtain ⟨z1, z2, z3, z4⟩ := fa_put o i f hN na (x := h_i h 203 (h_i h 201 x4.toNatClampNeg).toNatClampNeg + h_i h 202 x4.toNatClampNeg) (by omega) u
      exact nx _ 1 z1 z2 z3 (Or.inr ⟨rfl, z4⟩)
    · have s := ti_add (x := h_i h 203 (h_i h 200 x4.toNatClampNeg).toNatClampNeg) (y := h_i h 202 x4.toNatClampNeg) (by omega) (by omega)
      have u := ti_lt.mp (Int32.not_le.mp e1)
      obtain ⟨z1, z2, z3, z4⟩ := fa_put o i f hN nb (x := h_i h 203 (h_i h 200 x4.toNatClampNeg).toNatClampNeg + h_i h 202 x4.toNatClampNeg) (by omega) u
      have s2 := ti_add (x := h_i h 203 (h_i h 200 x4.toNatClampNeg).toNatClampNeg + h_i h 202 x4.toNatClampNeg) (y := h_i h 202 x4.toNatClampNeg) (by omega) (by omega)
      refine ⟨fun e2 => nx _ 1 z1 z2 z3 (Or.inr ⟨rfl, z4⟩), fun e2 => ⟨vb, v4, va, ?_⟩⟩
      have u2 := ti_lt.mp (Int32.not_le.mp e2)
      obtain ⟨y1, y2, y3, y4⟩ := fa_put z1 z2 z3 (Nat.le_of_lt z4) na (x := h_i h 203 (h_i h 200 x4.toNatClampNeg).toNatClampNeg + h_i h 202 x4.toNatClampNeg + h_i h 202 x4.toNatClampNeg) (by omega) u2
      exact nx _ 1 y1 y2 y3 (Or.inr ⟨rfl, y4⟩)
theorem sf_wo_34 (d : Nat) (h0 : Hp_) (x2 : Int32) (p2 : 0 ≤ x2.toInt ∧ x2.toInt < 16) (K : Int32 → Hp_ → Prop) (k : ∀ h v, only [203] h0 h → v = -1 ∨ (0 ≤ v.toInt ∧ v.toInt < 100000) → K v h) :
    ∀ N : Nat, ∀ (h : Hp_) (x3 : Int32), fsn h 16 < N → x3 = 0 ∨ x3 = 1 → only [203] h0 h → RdI h → FaI h → AW (m_X12_walkOf (d + 0) 0 0) 0 0 34 [(0, .ref 1), (2, .int x2), (3, .int x3)] [] h (kI K) := by
  have fin : ∀ h : Hp_, only [203] h0 h → FaI h → ∀ z : AW (m_X12_walkOf (d + 0) 0 0) 0 0 43 [(0, .ref 1), (2, .int x2), (3, .int 0), (4, .int 0)] [] h (kI K) ∨ True, AW (m_X12_walkOf (d + 0) 0 0) 0 0 34 [(0, .ref 1), (2, .int x2), (3, .int 0)] [] h (kI K) := fun h o f _ => by
    have t : (100000 : Int32).toInt = 100000 := rfl
    have v := vin_ti (n := 16) p2.1 (by omega)
    have b := f _ (tn_ti (n := 16) p2.1 (by omega))
    have b1 := b.1
    exact t_X12_walkOf_34 d h o.1 x2 0 K ⟨fun _ => ⟨v, fun c => ⟨v, k h _ o (Or.inr ⟨b1, by have := ti_lt.mp c; omega⟩)⟩, fun _ => k h _ o (Or.inl rfl)⟩, fun c => absurd rfl c⟩
  intro N
  induction N with
  | zero => intro h x3 c; omega
  | succ N ih =>
    intro h x3 c cx o i f
    rcases cx with rfl | rfl
    · exact fin h o f (Or.inr trivial)
    · refine t_X12_walkOf_34 d h o.1 x2 1 K ⟨fun z => absurd z (by decide), fun _ => ?_⟩
      refine sf_wo_43 d h0 x2 K (fsn h 16) (fun h' y o' i' f' c' => ?_) 40 0 0 (by decide) (by decide) h o i f (Or.inl ⟨rfl, Nat.le_refl _⟩)
      rcases c' with ⟨rfl, c'⟩ | ⟨rfl, c'⟩
      · exact fin h' o' f' (Or.inr trivial)
      · exact ih h' 1 (by omega) (Or.inr rfl) o' i' f'
theorem sf_wo_2 (d : Nat) (h0 : Hp_) (x1 x2 : Int32) (p2 : 0 ≤ x2.toInt ∧ x2.toInt < 16) (K : Int32 → Hp_ → Prop) (k : ∀ h v, only [203] h0 h → v = -1 ∨ (0 ≤ v.toInt ∧ v.toInt < 100000) → K v h) :
    ∀ (r : Nat) (x3 : Int32), 0 ≤ x3.toInt → x3.toInt + r = 16 → ∀ h, only [203] h0 h → RdI h → (∀ p : Nat, (p : Int) < x3.toInt → bd h 203 p 0 100000) → AW (m_X12_walkOf (d + 0) 0 0) 0 0 2 [(0, .ref 1), (1, .int x1), (2, .int x2), (3, .int x3)] [] h (kI K) := by
  have t16 : (16 : Int32).toInt = 16 := rfl
  intro r
  induction r with
  | zero =>
    intro x3 l e h o i f
    exact t_X12_walkOf_2 d h o.1 x1 x2 x3 K ⟨fun _ => sf_wo_34 d h0 x2 p2 K k (fsn h 16 + 1) h 1 (Nat.lt_succ_self _) (Or.inr rfl) o i (fun p hp => f p (by omega)), fun c => absurd (ti_le.mpr (by omega)) c⟩
  | succ r ih =>
    intro x3 l e h o i f
    have s3 := ti_suc (x := x3) (by omega)
    have v : vp_in x3 16 := vin_ti l (by omega)
    have tn : (x3.toNatClampNeg : Int) = x3.toInt := by rw [ti_n, if_pos l]
    have go : ∀ y : Int32, 0 ≤ y.toInt → y.toInt ≤ 100000 → AW (m_X12_walkOf (d + 0) 0 0) 0 0 2 [(0, .ref 1), (1, .int x1), (2, .int x2), (3, .int (x3 + 1))] [] (h_im h 203 x3.toNatClampNeg y) (kI K) := fun y yl yu => by
      refine ih (x3 + 1) (by omega) (by omega) _ (o.im (by decide)) (i.on ((only.rf o.1).im (by decide))) (fun p hp => ?_)
      by_cases c : p = x3.toNatClampNeg
      · subst c
        exact bd_s yl yu
      · exact bd_o (fun z => c z.2) (f p (by omega))
    exact t_X12_walkOf_2 d h o.1 x1 x2 x3 K ⟨fun c => absurd (ti_le.mp c) (by omega), fun _ => ⟨fun _ => ⟨v, go 100000 (by decide) (by decide)⟩, fun _ => ⟨v, go 0 (by decide) (by decide)⟩⟩⟩
/-- the reference's walkOf, to a place: it ends; only far is written -/
theorem sf_X12_walkOf (d : Nat) (h : Hp_) (w : Wf h) (i : RdI h) (x1 x2 : Int32) (p2 : 0 ≤ x2.toInt ∧ x2.toInt < 16) : Ci (m_X12_walkOf (d + 0) 0 0) [.ref 1, .int x1, .int x2] h (fun v h' => only [203] h h' ∧ (v = -1 ∨ (0 ≤ v.toInt ∧ v.toInt < 100000))) :=
  t_X12_walkOf d h x1 x2 _ (sf_wo_2 d h x1 x2 p2 _ (fun _ _ o c => ⟨o, c⟩) 16 0 (by decide) (by decide) h (only.rf w) i (fun p hp => absurd hp (by have : (0 : Int32).toInt = 0 := rfl; omega)))
