section
/-! the tape read: what is found from a place on -/
noncomputable def skb (b : Nat → Int32) (n : Nat) : Nat → Nat → Nat
  | 0, a => a
  | k + 1, a => if a < n ∧ b a = 32 then skb b n k (a + 1) else a
noncomputable def ska (b : Nat → Int32) (n a : Nat) : Nat := skb b n (n - a) a
noncomputable def skv (b : Nat → Int32) (n a : Nat) : Int32 := if ska b n a < n then b (ska b n a) else -1
theorem ska_s {b : Nat → Int32} {n a : Nat} (h : a < n ∧ b a = 32) : ska b n a = ska b n (a + 1) := by
  unfold ska
  rw [show n - a = (n - (a + 1)) + 1 by omega]
  show (if a < n ∧ b a = 32 then skb b n (n - (a + 1)) (a + 1) else a) = _
  rw [if_pos h]
theorem ska_n {b : Nat → Int32} {n a : Nat} (h : ¬ (a < n ∧ b a = 32)) : ska b n a = a := by
  unfold ska
  cases n - a with
  | zero => rfl
  | succ k =>
    show (if a < n ∧ b a = 32 then skb b n k (a + 1) else a) = _
    rw [if_neg h]
theorem ska_p {b : Nat → Int32} {n : Nat} : ∀ (k a : Nat), n - a ≤ k → a ≤ ska b n a ∧ (a ≤ n → ska b n a ≤ n) ∧ (ska b n a < n → ¬ b (ska b n a) = 32) ∧ ska b n (ska b n a) = ska b n a
  | 0, a, h => by
    have e : ska b n a = a := ska_n (fun c => by have := c.1; omega)
    rw [e]
    exact ⟨Nat.le_refl _, fun h => h, fun c => by omega, e⟩
  | k + 1, a, h => by
    by_cases c : a < n ∧ b a = 32
    · have ih := ska_p (b := b) (n := n) k (a + 1) (by omega)
      rw [ska_s c]
      exact ⟨by omega, fun _ => ih.2.1 (by omega), ih.2.2.1, ih.2.2.2⟩
    · have e : ska b n a = a := ska_n c
      rw [e]
      exact ⟨Nat.le_refl _, fun h => h, fun l y => c ⟨l, y⟩, e⟩
theorem ska_ge {b : Nat → Int32} {n a : Nat} : a ≤ ska b n a := (ska_p (n - a) a (Nat.le_refl _)).1
theorem ska_le {b : Nat → Int32} {n a : Nat} (h : a ≤ n) : ska b n a ≤ n := (ska_p (n - a) a (Nat.le_refl _)).2.1 h
theorem ska_i {b : Nat → Int32} {n a : Nat} : ska b n (ska b n a) = ska b n a := (ska_p (n - a) a (Nat.le_refl _)).2.2.2
theorem skv_i {b : Nat → Int32} {n a : Nat} : skv b n (ska b n a) = skv b n a := by
  unfold skv
  rw [ska_i]
theorem skv_l {b : Nat → Int32} {n a : Nat} (h : ¬ skv b n a = -1) : ska b n a < n := by
  by_cases c : ska b n a < n
  · exact c
  · exact absurd (if_neg c) h
/-- what a reader finds: whether it goes through, and the place behind it or that of the fault -/
noncomputable abbrev Rcg := Nat → Bool × Nat
noncomputable def Cnr (b : Nat → Int32) (n : Nat) (f : Rcg) : Prop := ∀ a, f (ska b n a) = f a
/-- the place behind lies further on, and no sign but blanks stands ahead of it -/
noncomputable def Fwd (b : Nat → Int32) (n : Nat) (f : Rcg) : Prop := ∀ a, (f a).1 = true → ska b n a < (f a).2 ∧ (f a).2 ≤ n ∧ ska b n (f a).2 = (f a).2
noncomputable def sqr (f g : Rcg) : Rcg := fun a => if (f a).1 = true then g (f a).2 else f a
noncomputable def lpr (b : Nat → Int32) (n : Nat) (sp : Int32 → Bool) (f : Rcg) : Nat → Rcg
  | 0, a => (true, ska b n a)
  | k + 1, a => if sp (skv b n a) = true then (if (f (ska b n a + 1)).1 = true then lpr b n sp f k (f (ska b n a + 1)).2 else f (ska b n a + 1)) else (true, ska b n a)
theorem sqr_c {b : Nat → Int32} {n : Nat} {f g : Rcg} (h : Cnr b n f) : Cnr b n (sqr f g) := fun a => by
  unfold sqr
  rw [h a]
theorem sqr_a (f g k : Rcg) : sqr (sqr f g) k = sqr f (sqr g k) := funext (fun a => by
  unfold sqr
  by_cases c : (f a).1 = true
  · rw [if_pos c, if_pos c]
  · rw [if_neg c, if_neg c, if_neg c])
theorem sqr_f {b : Nat → Int32} {n : Nat} {f g : Rcg} (hf : Fwd b n f) (hg : ∀ p, ska b n p = p → p ≤ n → (g p).1 = true → p ≤ (g p).2 ∧ (g p).2 ≤ n ∧ ska b n (g p).2 = (g p).2) : Fwd b n (sqr f g) := fun a h => by
  unfold sqr at h ⊢
  by_cases c : (f a).1 = true
  · rw [if_pos c] at h ⊢
    have q := hf a c
    have r := hg _ q.2.2 q.2.1 h
    exact ⟨by omega, r.2.1, r.2.2⟩
  · rw [if_neg c] at h
    exact absurd h c
theorem lpr_c {b : Nat → Int32} {n : Nat} {sp : Int32 → Bool} {f : Rcg} (k : Nat) : Cnr b n (lpr b n sp f k) := fun a => by
  cases k with
  | zero =>
    show (true, ska b n (ska b n a)) = (true, ska b n a)
    rw [ska_i]
  | succ k =>
    show (if sp (skv b n (ska b n a)) = true then (if (f (ska b n (ska b n a) + 1)).1 = true then lpr b n sp f k (f (ska b n (ska b n a) + 1)).2 else f (ska b n (ska b n a) + 1)) else (true, ska b n (ska b n a))) = _
    rw [ska_i, skv_i]
    rfl
theorem lpr_f {b : Nat → Int32} {n : Nat} {sp : Int32 → Bool} {f : Rcg} (hf : Fwd b n f) : ∀ (k p : Nat), ska b n p = p → p ≤ n → (lpr b n sp f k p).1 = true → p ≤ (lpr b n sp f k p).2 ∧ (lpr b n sp f k p).2 ≤ n ∧ ska b n (lpr b n sp f k p).2 = (lpr b n sp f k p).2
  | 0, p, e, l, _ => by
    show p ≤ ska b n p ∧ ska b n p ≤ n ∧ ska b n (ska b n p) = ska b n p
    rw [e]
    exact ⟨Nat.le_refl _, l, e⟩
  | k + 1, p, e, l, h => by
    unfold lpr at h ⊢
    by_cases c : sp (skv b n p) = true
    · rw [if_pos c] at h ⊢
      by_cases d : (f (ska b n p + 1)).1 = true
      · rw [if_pos d] at h ⊢
        have q := hf _ d
        have g := ska_ge (b := b) (n := n) (a := ska b n p + 1)
        have r := lpr_f hf k _ q.2.2 q.2.1 h
        have g2 := ska_ge (b := b) (n := n) (a := p)
        exact ⟨by omega, r.2⟩
      · rw [if_neg d] at h
        exact absurd h d
    · rw [if_neg c]
      show p ≤ ska b n p ∧ ska b n p ≤ n ∧ ska b n (ska b n p) = ska b n p
      rw [e]
      exact ⟨Nat.le_refl _, l, e⟩
noncomputable def exr (b : Nat → Int32) (n : Nat) (c : Int32) : Rcg := fun a => if skv b n a = c then (true, ska b n (ska b n a + 1)) else (false, ska b n a)
theorem exr_c {b : Nat → Int32} {n : Nat} {c : Int32} : Cnr b n (exr b n c) := fun a => by
  unfold exr
  rw [skv_i, ska_i]
/-- one sign of a set -/
noncomputable def onr (b : Nat → Int32) (n : Nat) (sp : Int32 → Bool) : Rcg := fun a => if sp (skv b n a) = true then (true, ska b n (ska b n a + 1)) else (false, ska b n a)
theorem onr_c {b : Nat → Int32} {n : Nat} {sp : Int32 → Bool} : Cnr b n (onr b n sp) := fun a => by
  unfold onr
  rw [skv_i, ska_i]
theorem nxt_f {b : Nat → Int32} {n a : Nat} (h : ska b n a < n) : ska b n a < ska b n (ska b n a + 1) ∧ ska b n (ska b n a + 1) ≤ n ∧ ska b n (ska b n (ska b n a + 1)) = ska b n (ska b n a + 1) := by
  have g := ska_ge (b := b) (n := n) (a := ska b n a + 1)
  exact ⟨by omega, ska_le (by omega), ska_i⟩
theorem exr_f {b : Nat → Int32} {n : Nat} {c : Int32} (hc : ¬ c = -1) : Fwd b n (exr b n c) := fun a h => by
  unfold exr at h ⊢
  by_cases q : skv b n a = c
  · rw [if_pos q] at h ⊢
    exact nxt_f (skv_l (by rw [q]; exact hc))
  · rw [if_neg q] at h
    exact absurd h (by simp)
theorem onr_f {b : Nat → Int32} {n : Nat} {sp : Int32 → Bool} (hc : sp (-1) = false) : Fwd b n (onr b n sp) := fun a h => by
  unfold onr at h ⊢
  by_cases q : sp (skv b n a) = true
  · rw [if_pos q] at h ⊢
    refine nxt_f (skv_l (fun e => ?_))
    rw [e, hc] at q
    exact absurd q (by decide)
  · rw [if_neg q] at h
    exact absurd h (by simp)
theorem Fwd.w {b : Nat → Int32} {n : Nat} {f : Rcg} (hf : Fwd b n f) (p : Nat) (_ : ska b n p = p) (_ : p ≤ n) (h : (f p).1 = true) : p ≤ (f p).2 ∧ (f p).2 ≤ n ∧ ska b n (f p).2 = (f p).2 := by
  have q := hf p h
  have g := ska_ge (b := b) (n := n) (a := p)
  exact ⟨by omega, q.2⟩
/-- numbers of at most four digits -/
noncomputable def dgb (x : Int32) : Bool := decide (¬ x < 48 ∧ ¬ 57 < x)
noncomputable def nml (b : Nat → Int32) (n : Nat) : Nat → Int32 → Nat → Bool × Nat × Int32
  | 0, v, a => if a < n ∧ dgb (b a) = true then (false, a, v) else (true, a, v)
  | k + 1, v, a => if a < n ∧ dgb (b a) = true then nml b n k (((v * 10) + b a) - 48) (a + 1) else (true, a, v)
theorem nml_p {b : Nat → Int32} {n : Nat} : ∀ (k : Nat) (v : Int32) (a : Nat), a ≤ n → a ≤ (nml b n k v a).2.1 ∧ (nml b n k v a).2.1 ≤ n ∧ (a < n ∧ dgb (b a) = true ∧ (nml b n k v a).1 = true → a < (nml b n k v a).2.1)
  | 0, v, a, h => by
    unfold nml
    by_cases c : a < n ∧ dgb (b a) = true
    · rw [if_pos c]
      exact ⟨Nat.le_refl _, h, fun z => absurd z.2.2 (by simp)⟩
    · rw [if_neg c]
      exact ⟨Nat.le_refl _, h, fun z => absurd ⟨z.1, z.2.1⟩ c⟩
  | k + 1, v, a, h => by
    unfold nml
    by_cases c : a < n ∧ dgb (b a) = true
    · rw [if_pos c]
      have ih := nml_p (b := b) (n := n) k (((v * 10) + b a) - 48) (a + 1) (by omega)
      exact ⟨by omega, ih.2.1, fun _ => by omega⟩
    · rw [if_neg c]
      exact ⟨Nat.le_refl _, h, fun z => absurd ⟨z.1, z.2.1⟩ c⟩
theorem nml_v {b : Nat → Int32} {n : Nat} : ∀ (k : Nat) (v : Int32) (a m : Nat), 0 ≤ v.toInt → v.toInt ≤ (m : Int) → (m + 1) * 10 ^ k ≤ 100000 → (nml b n k v a).1 = true → 0 ≤ (nml b n k v a).2.2.toInt ∧ (nml b n k v a).2.2.toInt + 1 ≤ (((m + 1) * 10 ^ k : Nat) : Int)
  | 0, v, a, m, h0, h1, h2, h => by
    unfold nml at h ⊢
    by_cases c : a < n ∧ dgb (b a) = true
    · rw [if_pos c] at h
      exact absurd h (by simp)
    · rw [if_neg c]
      show 0 ≤ v.toInt ∧ v.toInt + 1 ≤ (((m + 1) * 10 ^ 0 : Nat) : Int)
      rw [Nat.pow_zero, Nat.mul_one]
      omega
  | k + 1, v, a, m, h0, h1, h2, h => by
    unfold nml at h ⊢
    have pk : 1 ≤ 10 ^ k := Nat.pow_pos (by decide)
    have e10 : (m + 1) * 10 ^ (k + 1) = (10 * m + 9 + 1) * 10 ^ k := by
      rw [Nat.pow_succ, Nat.mul_comm (10 ^ k) 10, ← Nat.mul_assoc]
      congr 1
      omega
    by_cases c : a < n ∧ dgb (b a) = true
    · rw [if_pos c] at h ⊢
      have cb := of_decide_eq_true c.2
      have b0 := q_nlt cb.1
      have b1 := q_nlt cb.2
      have t48 : (48 : Int32).toInt = 48 := rfl
      have t57 : (57 : Int32).toInt = 57 := rfl
      have t10 : (10 : Int32).toInt = 10 := rfl
      rw [t48] at b0
      rw [t57] at b1
      have lm : m + 1 ≤ 100000 := Nat.le_trans (Nat.le_mul_of_pos_right _ (Nat.pow_pos (by decide))) h2
      have e1 : (v * 10).toInt = v.toInt * 10 := by rw [tx_mul (by rw [t10]; omega) (by rw [t10]; omega), t10]
      have e2 : (v * 10 + b a).toInt = v.toInt * 10 + (b a).toInt := by rw [tx_add (by omega) (by omega), e1]
      have e3 : (v * 10 + b a - 48).toInt = v.toInt * 10 + (b a).toInt - 48 := by rw [tx_sub (by rw [t48]; omega) (by rw [t48]; omega), t48, e2]
      have ih := nml_v (b := b) (n := n) k (((v * 10) + b a) - 48) (a + 1) (10 * m + 9) (by omega) (by omega) (by rw [← e10]; exact h2) h
      rw [← e10] at ih
      exact ih
    · rw [if_neg c]
      show 0 ≤ v.toInt ∧ v.toInt + 1 ≤ (((m + 1) * 10 ^ (k + 1) : Nat) : Int)
      have l : m + 1 ≤ (m + 1) * 10 ^ (k + 1) := Nat.le_mul_of_pos_right _ (Nat.pow_pos (by decide))
      omega
noncomputable def nmr (b : Nat → Int32) (n : Nat) (lo hi : Int32) : Nat → Bool × Nat × Int32 := fun a => if dgb (skv b n a) = true then (if (nml b n 4 0 (ska b n a)).1 = true then (if lo ≤ (nml b n 4 0 (ska b n a)).2.2 ∧ (nml b n 4 0 (ska b n a)).2.2 ≤ hi then (true, ska b n (nml b n 4 0 (ska b n a)).2.1, (nml b n 4 0 (ska b n a)).2.2) else (false, (nml b n 4 0 (ska b n a)).2.1 - 1, -1)) else (false, (nml b n 4 0 (ska b n a)).2.1, -1)) else (false, ska b n a, -1)
noncomputable def nm0 (b : Nat → Int32) (n : Nat) : Rcg := fun a => if dgb (skv b n a) = true then (if (nml b n 4 0 (ska b n a)).1 = true then (true, ska b n (nml b n 4 0 (ska b n a)).2.1) else (false, (nml b n 4 0 (ska b n a)).2.1)) else (false, ska b n a)
theorem dgb_l {b : Nat → Int32} {n a : Nat} (h : dgb (skv b n a) = true) : ska b n a < n ∧ dgb (b (ska b n a)) = true := by
  have l : ska b n a < n := skv_l (fun e => by rw [e] at h; exact absurd h (by decide))
  refine ⟨l, ?_⟩
  unfold skv at h
  rw [if_pos l] at h
  exact h
theorem nmr_0 {b : Nat → Int32} {n a : Nat} : (nmr b n 0 9999 a).1 = (nm0 b n a).1 ∧ (nmr b n 0 9999 a).2.1 = (nm0 b n a).2 := by
  unfold nmr nm0
  by_cases c : dgb (skv b n a) = true
  · rw [if_pos c, if_pos c]
    by_cases d : (nml b n 4 0 (ska b n a)).1 = true
    · rw [if_pos d, if_pos d]
      have v := nml_v (b := b) (n := n) 4 0 (ska b n a) 0 (by decide) (by decide) (by decide) d
      have p : (((0 + 1) * 10 ^ 4 : Nat) : Int) = 10000 := by decide
      rw [p] at v
      have t0 : (0 : Int32).toInt = 0 := rfl
      have t9 : (9999 : Int32).toInt = 9999 := rfl
      rw [if_pos ⟨q_le.mpr (by rw [t0]; exact v.1), q_le.mpr (by rw [t9]; omega)⟩]
      exact ⟨rfl, rfl⟩
    · rw [if_neg d, if_neg d]
      exact ⟨rfl, rfl⟩
  · rw [if_neg c, if_neg c]
    exact ⟨rfl, rfl⟩
theorem nm0_c {b : Nat → Int32} {n : Nat} : Cnr b n (nm0 b n) := fun a => by
  unfold nm0
  rw [skv_i, ska_i]
theorem nm0_f {b : Nat → Int32} {n : Nat} : Fwd b n (nm0 b n) := fun a h => by
  unfold nm0 at h ⊢
  by_cases c : dgb (skv b n a) = true
  · rw [if_pos c] at h ⊢
    by_cases d : (nml b n 4 0 (ska b n a)).1 = true
    · rw [if_pos d] at h ⊢
      have l := dgb_l c
      have q := nml_p (b := b) (n := n) 4 0 (ska b n a) (Nat.le_of_lt l.1)
      have g := ska_ge (b := b) (n := n) (a := (nml b n 4 0 (ska b n a)).2.1)
      have k := q.2.2 ⟨l.1, l.2, d⟩
      exact ⟨by show ska b n a < ska b n (nml b n 4 0 (ska b n a)).2.1; omega, ska_le q.2.1, ska_i⟩
    · rw [if_neg d] at h
      exact absurd h (by simp)
  · rw [if_neg c] at h
    exact absurd h (by simp)
/-! sums, conditions, clauses -/
noncomputable def isq (c x : Int32) : Bool := decide (x = c)
noncomputable def atm (b : Nat → Int32) (n : Nat) (lt : Int32 → Bool) (z : Bool) (f : Rcg) : Rcg := fun a => if dgb (skv b n a) = true then nm0 b n a else if skv b n a = 91 then (if z = true then (false, ska b n a) else sqr f (exr b n 93) (ska b n a + 1)) else onr b n lt a
noncomputable def trm (b : Nat → Int32) (n : Nat) (f : Rcg) : Rcg := sqr f (lpr b n (isq 42) f 160)
noncomputable def pmb (x : Int32) : Bool := decide (x = 43 ∨ x = 45)
noncomputable def smm (b : Nat → Int32) (n : Nat) (f : Rcg) : Rcg := sqr (trm b n f) (lpr b n pmb (trm b n f) 160)
noncomputable def sms (b : Nat → Int32) (n : Nat) (lt : Int32 → Bool) : Nat → Rcg
  | 0 => smm b n (atm b n lt true (fun a => (false, a)))
  | r + 1 => smm b n (atm b n lt false (sms b n lt r))
noncomputable def sgb (x : Int32) : Bool := decide (x = 61 ∨ x = 60 ∨ x = 62)
noncomputable def cmq (b : Nat → Int32) (n : Nat) (f : Rcg) : Rcg := fun a => if sgb (skv b n a) = true then f (ska b n a + 1) else (false, ska b n a)
noncomputable def mun (b : Nat → Int32) (n : Nat) (u : Rcg) : Rcg := lpr b n (isq 38) u 160
noncomputable def prt (b : Nat → Int32) (n : Nat) (u : Rcg) : Rcg := sqr u (mun b n u)
noncomputable def mpt (b : Nat → Int32) (n : Nat) (u : Rcg) : Rcg := sqr (mun b n u) (lpr b n (isq 124) (prt b n u) 160)
noncomputable def cnd (b : Nat → Int32) (n : Nat) (u : Rcg) : Rcg := sqr u (mpt b n u)
noncomputable def unt (b : Nat → Int32) (n : Nat) (lt : Int32 → Bool) : Nat → Rcg
  | 0 => fun a => if skv b n a = 33 ∨ skv b n a = 40 then (false, ska b n a) else sqr (sms b n lt 0) (cmq b n (sms b n lt 0)) a
  | r + 1 => fun a => if skv b n a = 33 then unt b n lt r (ska b n a + 1) else if skv b n a = 40 then sqr (cnd b n (unt b n lt r)) (exr b n 41) (ska b n a + 1) else sqr (sms b n lt (r + 1)) (cmq b n (sms b n lt (r + 1))) a
noncomputable def vdb (x : Int32) : Bool := decide (x = 120 ∨ x = 110 ∨ x = 114 ∨ x = 116)
noncomputable def lta (x : Int32) : Bool := decide (x = 107 ∨ x = 119 ∨ x = 112 ∨ x = 104 ∨ x = 100 ∨ x = 99 ∨ x = 110 ∨ x = 101 ∨ x = 116)
noncomputable def ltp (x : Int32) : Bool := decide (x = 99 ∨ x = 121 ∨ x = 109 ∨ x = 120 ∨ x = 116 ∨ x = 97)
noncomputable def ltb (s : Nat) : Int32 → Bool := if s = 1 then lta else ltp
noncomputable def acl (b : Nat → Int32) (n : Nat) : Rcg := sqr (cnd b n (unt b n lta 6)) (sqr (exr b n 63) (onr b n vdb))
noncomputable def pan (b : Nat → Int32) (n : Nat) : Rcg := sqr (exr b n 63) (sms b n ltp 6)
noncomputable def pcl_ (b : Nat → Int32) (n : Nat) : Rcg := fun a => if skv b n a = 33 ∨ skv b n a = 40 then sqr (cnd b n (unt b n ltp 6)) (pan b n) a else sqr (sms b n ltp 6) (fun p => if sgb (skv b n p) = true then sqr (cmq b n (sms b n ltp 6)) (sqr (mpt b n (unt b n ltp 6)) (pan b n)) p else (true, p)) a
noncomputable def ruq (b : Nat → Int32) (n : Nat) (cl : Rcg) : Rcg := sqr cl (lpr b n (isq 59) cl 160)
/-- all of the tape: none left over -/
noncomputable def enq (b : Nat → Int32) (n : Nat) (f : Rcg) : Int32 := if (f 0).1 = true then (if (f 0).2 < n then Int32.ofNat (f 0).2 else -1) else Int32.ofNat (f 0).2
theorem atm_c {b : Nat → Int32} {n : Nat} {lt : Int32 → Bool} {z : Bool} {f : Rcg} : Cnr b n (atm b n lt z f) := fun a => by
  unfold atm
  rw [skv_i, ska_i, nm0_c a, onr_c a]
theorem sqr_x {b : Nat → Int32} {n : Nat} {f : Rcg} {c : Int32} (hf : Fwd b n f) (hc : ¬ c = -1) : Fwd b n (sqr f (exr b n c)) := sqr_f hf (exr_f hc).w
theorem Fwd.st {b : Nat → Int32} {n : Nat} {f : Rcg} (hf : Fwd b n f) {a : Nat} (h : (f (ska b n a + 1)).1 = true) : ska b n a < (f (ska b n a + 1)).2 ∧ (f (ska b n a + 1)).2 ≤ n ∧ ska b n (f (ska b n a + 1)).2 = (f (ska b n a + 1)).2 := by
  have q := hf _ h
  have g := ska_ge (b := b) (n := n) (a := ska b n a + 1)
  exact ⟨by omega, q.2⟩
theorem atm_f {b : Nat → Int32} {n : Nat} {lt : Int32 → Bool} {z : Bool} {f : Rcg} (hl : lt (-1) = false) (hf : z = true ∨ Fwd b n f) : Fwd b n (atm b n lt z f) := fun a h => by
  unfold atm at h ⊢
  by_cases c : dgb (skv b n a) = true
  · rw [if_pos c] at h ⊢
    exact nm0_f a h
  · rw [if_neg c] at h ⊢
    by_cases d : skv b n a = 91
    · rw [if_pos d] at h ⊢
      by_cases e : z = true
      · rw [if_pos e] at h
        exact absurd h (by simp)
      · rw [if_neg e] at h ⊢
        rcases hf with hf | hf
        · exact absurd hf e
        · exact (sqr_x hf (by decide)).st h
    · rw [if_neg d] at h ⊢
      exact onr_f hl a h
theorem trm_c {b : Nat → Int32} {n : Nat} {f : Rcg} (h : Cnr b n f) : Cnr b n (trm b n f) := sqr_c h
theorem trm_f {b : Nat → Int32} {n : Nat} {f : Rcg} (h : Fwd b n f) : Fwd b n (trm b n f) := sqr_f h (fun p e l q => lpr_f h 160 p e l q)
theorem smm_c {b : Nat → Int32} {n : Nat} {f : Rcg} (h : Cnr b n f) : Cnr b n (smm b n f) := sqr_c (trm_c h)
theorem smm_f {b : Nat → Int32} {n : Nat} {f : Rcg} (h : Fwd b n f) : Fwd b n (smm b n f) := sqr_f (trm_f h) (fun p e l q => lpr_f (trm_f h) 160 p e l q)
theorem sms_c {b : Nat → Int32} {n : Nat} {lt : Int32 → Bool} (r : Nat) : Cnr b n (sms b n lt r) := by
  cases r with
  | zero => exact smm_c atm_c
  | succ r => exact smm_c atm_c
theorem sms_f {b : Nat → Int32} {n : Nat} {lt : Int32 → Bool} (hl : lt (-1) = false) : ∀ (r : Nat), Fwd b n (sms b n lt r)
  | 0 => smm_f (atm_f hl (Or.inl rfl))
  | r + 1 => smm_f (atm_f hl (Or.inr (sms_f hl r)))
theorem cmq_c {b : Nat → Int32} {n : Nat} {f : Rcg} : Cnr b n (cmq b n f) := fun a => by
  unfold cmq
  rw [skv_i, ska_i]
theorem cmq_f {b : Nat → Int32} {n : Nat} {f : Rcg} (hf : Fwd b n f) : Fwd b n (cmq b n f) := fun a h => by
  unfold cmq at h ⊢
  by_cases c : sgb (skv b n a) = true
  · rw [if_pos c] at h ⊢
    exact hf.st h
  · rw [if_neg c] at h
    exact absurd h (by simp)
theorem mun_c {b : Nat → Int32} {n : Nat} {u : Rcg} : Cnr b n (mun b n u) := lpr_c 160
theorem mun_w {b : Nat → Int32} {n : Nat} {u : Rcg} (hu : Fwd b n u) (p : Nat) (e : ska b n p = p) (l : p ≤ n) (h : (mun b n u p).1 = true) : p ≤ (mun b n u p).2 ∧ (mun b n u p).2 ≤ n ∧ ska b n (mun b n u p).2 = (mun b n u p).2 := lpr_f hu 160 p e l h
theorem prt_f {b : Nat → Int32} {n : Nat} {u : Rcg} (h : Fwd b n u) : Fwd b n (prt b n u) := sqr_f h (mun_w h)
theorem mpt_c {b : Nat → Int32} {n : Nat} {u : Rcg} : Cnr b n (mpt b n u) := sqr_c mun_c
theorem sqr_w {b : Nat → Int32} {n : Nat} {f g : Rcg} (hf : ∀ p, ska b n p = p → p ≤ n → (f p).1 = true → p ≤ (f p).2 ∧ (f p).2 ≤ n ∧ ska b n (f p).2 = (f p).2) (hg : ∀ p, ska b n p = p → p ≤ n → (g p).1 = true → p ≤ (g p).2 ∧ (g p).2 ≤ n ∧ ska b n (g p).2 = (g p).2) (p : Nat) (e : ska b n p = p) (l : p ≤ n) (h : (sqr f g p).1 = true) : p ≤ (sqr f g p).2 ∧ (sqr f g p).2 ≤ n ∧ ska b n (sqr f g p).2 = (sqr f g p).2 := by
  unfold sqr at h ⊢
  by_cases c : (f p).1 = true
  · rw [if_pos c] at h ⊢
    have q := hf p e l c
    have r := hg _ q.2.2 q.2.1 h
    exact ⟨by omega, r.2⟩
  · rw [if_neg c] at h
    exact absurd h c
theorem mpt_w {b : Nat → Int32} {n : Nat} {u : Rcg} (hu : Fwd b n u) (p : Nat) (e : ska b n p = p) (l : p ≤ n) (h : (mpt b n u p).1 = true) : p ≤ (mpt b n u p).2 ∧ (mpt b n u p).2 ≤ n ∧ ska b n (mpt b n u p).2 = (mpt b n u p).2 := sqr_w (mun_w hu) (fun p e l q => lpr_f (prt_f hu) 160 p e l q) p e l h
theorem cnd_c {b : Nat → Int32} {n : Nat} {u : Rcg} (h : Cnr b n u) : Cnr b n (cnd b n u) := sqr_c h
theorem cnd_f {b : Nat → Int32} {n : Nat} {u : Rcg} (h : Fwd b n u) : Fwd b n (cnd b n u) := sqr_f h (mpt_w h)
theorem unt_c {b : Nat → Int32} {n : Nat} {lt : Int32 → Bool} (r : Nat) : Cnr b n (unt b n lt r) := fun a => by
  cases r with
  | zero =>
    show (if skv b n (ska b n a) = 33 ∨ skv b n (ska b n a) = 40 then (false, ska b n (ska b n a)) else sqr (sms b n lt 0) (cmq b n (sms b n lt 0)) (ska b n a)) = _
    rw [skv_i, ska_i, sqr_c (sms_c 0) a]
    rfl
  | succ r =>
    show (if skv b n (ska b n a) = 33 then unt b n lt r (ska b n (ska b n a) + 1) else if skv b n (ska b n a) = 40 then sqr (cnd b n (unt b n lt r)) (exr b n 41) (ska b n (ska b n a) + 1) else sqr (sms b n lt (r + 1)) (cmq b n (sms b n lt (r + 1))) (ska b n a)) = _
    rw [skv_i, ska_i, sqr_c (sms_c (r + 1)) a]
    rfl
theorem unt_f {b : Nat → Int32} {n : Nat} {lt : Int32 → Bool} (hl : lt (-1) = false) : ∀ (r : Nat), Fwd b n (unt b n lt r)
  | 0 => fun a h => by
    unfold unt at h ⊢
    by_cases c : skv b n a = 33 ∨ skv b n a = 40
    · rw [if_pos c] at h
      exact absurd h (by simp)
    · rw [if_neg c] at h ⊢
      exact sqr_f (sms_f hl 0) (cmq_f (sms_f hl 0)).w a h
  | r + 1 => fun a h => by
    unfold unt at h ⊢
    by_cases c : skv b n a = 33
    · rw [if_pos c] at h ⊢
      exact (unt_f hl r).st h
    · rw [if_neg c] at h ⊢
      by_cases d : skv b n a = 40
      · rw [if_pos d] at h ⊢
        exact (sqr_x (cnd_f (unt_f hl r)) (by decide)).st h
      · rw [if_neg d] at h ⊢
        exact sqr_f (sms_f hl (r + 1)) (cmq_f (sms_f hl (r + 1))).w a h
theorem acl_f {b : Nat → Int32} {n : Nat} : Fwd b n (acl b n) := sqr_f (cnd_f (unt_f (by decide) 6)) (sqr_w (exr_f (by decide)).w (onr_f (by decide)).w)
theorem pan_w {b : Nat → Int32} {n : Nat} : ∀ p, ska b n p = p → p ≤ n → (pan b n p).1 = true → p ≤ (pan b n p).2 ∧ (pan b n p).2 ≤ n ∧ ska b n (pan b n p).2 = (pan b n p).2 := sqr_w (exr_f (by decide)).w (sms_f (by decide) 6).w
theorem pcl_f {b : Nat → Int32} {n : Nat} : Fwd b n (pcl_ b n) := fun a h => by
  unfold pcl_ at h ⊢
  by_cases c : skv b n a = 33 ∨ skv b n a = 40
  · rw [if_pos c] at h ⊢
    exact sqr_f (cnd_f (unt_f (by decide) 6)) pan_w a h
  · rw [if_neg c] at h ⊢
    refine sqr_f (sms_f (by decide) 6) (fun p e l q => ?_) a h
    by_cases d : sgb (skv b n p) = true
    · rw [if_pos d] at q ⊢
      exact sqr_w (cmq_f (sms_f (by decide) 6)).w (sqr_w (mpt_w (unt_f (by decide) 6)) pan_w) p e l q
    · rw [if_neg d]
      exact ⟨Nat.le_refl _, l, e⟩
/-! the reference's reader, by what stands on the tape -/
noncomputable abbrev tn (h : Hp_) : Nat := (h_i h 1 32).toNatClampNeg
noncomputable abbrev ta (h : Hp_) : Nat := (h_i h 1 33).toNatClampNeg
theorem ta_i {h : Hp_} (I : Iv h) : (ta h : Int) = pa h := n_nat (pa_in I).1
theorem tn_i {h : Hp_} (I : Iv h) : (tn h : Int) = pz h := n_nat (pz_in I).1
noncomputable def Tp (b : Nat → Int32) (n : Nat) (h : Hp_) : Prop := (∀ k, k < n → h_i h 225 k = b k) ∧ tn h = n
theorem Tp.fr {b : Nat → Int32} {n : Nat} {ws : List Nat} {h h' : Hp_} (t : Tp b n h) (f : Fr ws h h') (o : (off ws 225 && !inw ws 1 32) = true) : Tp b n h' := by
  rw [Bool.and_eq_true, Bool.not_eq_true'] at o
  exact ⟨fun k hk => (fr_i f o.1 k).trans (t.1 k hk), by show (h_i h' 1 32).toNatClampNeg = n; rw [(f.2 1 32 o.2).1]; exact t.2⟩
/-- what was found, as place and fault say it -/
noncomputable def Ft (b : Nat → Int32) (n : Nat) (R : Bool × Nat) (h : Hp_) : Prop := (h_i h 1 34 = -1 ∧ R.1 = true ∧ ska b n (ta h) = R.2) ∨ (¬ h_i h 1 34 = -1 ∧ R.1 = false ∧ h_i h 1 34 = Int32.ofNat R.2)
theorem Ft.mv {b : Nat → Int32} {n : Nat} {R : Bool × Nat} {h h' : Hp_} (F : Ft b n R h) (e4 : h_i h' 1 34 = h_i h 1 34) (e3 : h_i h' 1 33 = h_i h 1 33) : Ft b n R h' := by
  unfold Ft ta
  rw [e4, e3]
  exact F
theorem Ft.fr {b : Nat → Int32} {n : Nat} {R : Bool × Nat} {ws : List Nat} {h h' : Hp_} (F : Ft b n R h) (f : Fr ws h h') (o : (!inw ws 1 34 && !inw ws 1 33) = true) : Ft b n R h' := by
  rw [Bool.and_eq_true, Bool.not_eq_true', Bool.not_eq_true'] at o
  exact F.mv (f.2 1 34 o.1).1 (f.2 1 33 o.2).1
theorem Ft.ok {b : Nat → Int32} {n : Nat} {R : Bool × Nat} {h : Hp_} (F : Ft b n R h) (w : h_i h 1 34 = -1) : R.1 = true ∧ ska b n (ta h) = R.2 := by
  rcases F with F | F
  · exact F.2
  · exact absurd w F.1
theorem Ft.no {b : Nat → Int32} {n : Nat} {R : Bool × Nat} {h : Hp_} (F : Ft b n R h) (w : ¬ h_i h 1 34 = -1) : R.1 = false ∧ h_i h 1 34 = Int32.ofNat R.2 := by
  rcases F with F | F
  · exact absurd F.1 w
  · exact F.2
theorem Ft.ne {b : Nat → Int32} {n : Nat} {R : Bool × Nat} {h : Hp_} (w : ¬ h_i h 1 34 = -1) (e : h_i h 1 34 = Int32.ofNat R.2) (f : R.1 = false) : Ft b n R h := Or.inr ⟨w, f, e⟩
noncomputable def Lkf (b : Nat → Int32) (n : Nat) (h : Hp_) (r : Int32) (h' : Hp_) : Prop := Lk h r h' ∧ ta h' = ska b n (ta h) ∧ r = skv b n (ta h)
theorem Lkf.i {b : Nat → Int32} {n : Nat} {h h' : Hp_} {r : Int32} (L : Lkf b n h r h') : ska b n (ta h') = ta h' := by rw [L.2.1, ska_i]
theorem Ft.lk {b : Nat → Int32} {n : Nat} {R : Bool × Nat} {h h' : Hp_} {r : Int32} (F : Ft b n R h) (L : Lkf b n h r h') : Ft b n R h' := by
  have e4 : h_i h' 1 34 = h_i h 1 34 := (L.1.2.1.2 1 34 (by decide +kernel)).1
  unfold Ft
  rw [e4, L.i, L.2.1]
  exact F
theorem Lkf.t {b : Nat → Int32} {n : Nat} {h h' : Hp_} {r : Int32} (L : Lkf b n h r h') (t : Tp b n h) : Tp b n h' := t.fr L.1.2.1 (by decide +kernel)
theorem c_lookf (d : Nat) {b : Nat → Int32} {n : Nat} {h : Hp_} (I : Iv h) (t : Tp b n h) : Ci (m_X12_look (d + 0) 0 0) [.ref 1] h (fun r h' => Lkf b n h r h') := by
  have t1 : (1 : Int32).toInt = 1 := rfl
  have ni := tn_i I
  rw [t.2] at ni
  have ni' : (n : Int) = (h_i h 1 32).toInt := ni
  have z1 : (h_i h 1 32).toInt ≤ 160 := (pz_in I).2
  have fin1 : ∀ h2, Iv h2 → Fr [1033] h h2 → pa h ≤ pa h2 → (pa h2 ≤ pa h ∨ pa h2 ≤ pz h) → ska b n (ta h2) = ska b n (ta h) → h_i h2 1 32 ≤ h_i h2 1 33 → Lkf b n h (-1) h2 := fun h2 I2 F2 l1 l2 sk y => by
    have ai := ta_i I2
    rw [(F2.2 1 32 (by decide +kernel)).1] at y
    have y' : pz h ≤ pa h2 := q_le.mp y
    have e : ska b n (ta h2) = ta h2 := ska_n (fun c => by have := c.1; omega)
    have e' : ska b n (ta h) = ta h2 := sk.symm.trans e
    refine ⟨⟨I2, F2, l1, l2, Or.inl ⟨rfl, y'⟩⟩, e'.symm, ?_⟩
    unfold skv
    rw [e', if_neg (by omega)]
  have fin2 : ∀ h2, Iv h2 → Fr [1033] h h2 → pa h ≤ pa h2 → (pa h2 ≤ pa h ∨ pa h2 ≤ pz h) → ska b n (ta h2) = ska b n (ta h) → ¬ h_i h2 1 32 ≤ h_i h2 1 33 → ¬ h_i h2 225 (ta h2) = 32 → Lkf b n h (h_i h2 225 (h_i h2 1 33).toNatClampNeg) h2 := fun h2 I2 F2 l1 l2 sk y nb => by
    have ai := ta_i I2
    have et : ∀ k, k < n → h_i h2 225 k = b k := (t.fr F2 (by decide +kernel)).1
    rw [(F2.2 1 32 (by decide +kernel)).1] at y
    have y' : pa h2 < pz h := q_nle y
    have e : ska b n (ta h2) = ta h2 := ska_n (fun c => nb ((et _ c.1).trans c.2))
    have e' : ska b n (ta h) = ta h2 := sk.symm.trans e
    refine ⟨⟨I2, F2, l1, l2, Or.inr ⟨y', fr_i F2 (by decide +kernel) _⟩⟩, e'.symm, ?_⟩
    unfold skv
    rw [e', if_pos (by omega)]
    exact et (ta h2) (by omega)
  have lp : ∀ (q : Nat) (h2 : Hp_), Iv h2 → Fr [1033] h h2 → pa h ≤ pa h2 → (pa h2 ≤ pa h ∨ pa h2 ≤ pz h) → ska b n (ta h2) = ska b n (ta h) → pz h - pa h2 ≤ q → AW (m_X12_look (d + 0) 0 0) 0 0 0 [(0, .ref 1)] [] h2 (kI (fun r h' => Lkf b n h r h')) := by
    intro q
    induction q with
    | zero =>
      intro h2 I2 F2 l1 l2 sk m
      refine t_X12_look_0 d h2 I2.1 _ ⟨fun y => ⟨fun _ => fin1 h2 I2 F2 l1 l2 sk y, fun z => absurd y z⟩, fun z => ?_⟩
      rw [(F2.2 1 32 (by decide +kernel)).1] at z
      have z := q_nle z
      have m' : (h_i h 1 32).toInt - (h_i h2 1 33).toInt ≤ 0 := m
      omega
    | succ q ih =>
      intro h2 I2 F2 l1 l2 sk m
      have ez : h_i h2 1 32 = h_i h 1 32 := (F2.2 1 32 (by decide +kernel)).1
      have et : ∀ k, k < n → h_i h2 225 k = b k := (t.fr F2 (by decide +kernel)).1
      have ai : (ta h2 : Int) = (h_i h2 1 33).toInt := ta_i I2
      have p0 : 0 ≤ (h_i h2 1 33).toInt := (pa_in I2).1
      have m' : (h_i h 1 32).toInt - (h_i h2 1 33).toInt ≤ (q + 1 : Nat) := m
      refine t_X12_look_0 d h2 I2.1 _ ⟨fun y => ⟨fun _ => fin1 h2 I2 F2 l1 l2 sk y, fun z => absurd y z⟩, fun z => ?_⟩
      have z' := z
      rw [ez] at z'
      have z' := q_nle z'
      have v : vp_in (h_i h2 1 33) 160 := dp_in (lo := 0) (hi := 159) ⟨p0, by show _ ≤ (159 : Int); omega⟩ (by decide) (by decide)
      refine ⟨v, fun nb => ⟨fun y => absurd y z, fun _ => ⟨v, fin2 h2 I2 F2 l1 l2 sk z nb⟩⟩, fun yb => ?_⟩
      have ex : (h_i h2 1 33 + 1).toInt = (h_i h2 1 33).toInt + 1 := tx_add (by rw [t1]; omega) (by rw [t1]; omega)
      have l1' : (h_i h 1 33).toInt ≤ (h_i h2 1 33).toInt := l1
      have I3 := i33 I2 (x := h_i h2 1 33 + 1) ⟨by show (0 : Int) ≤ _; omega, by show _ ≤ (180 : Int); omega⟩
      have F3 : Fr [1033] h (h_im h2 1 33 (h_i h2 1 33 + 1)) := F2.im (by decide +kernel)
      have pe : pa (h_im h2 1 33 (h_i h2 1 33 + 1)) = (h_i h2 1 33).toInt + 1 := by
        show (h_i (h_im h2 1 33 _) 1 33).toInt = _
        rw [im_at, ex]
      have a3 : ta (h_im h2 1 33 (h_i h2 1 33 + 1)) = ta h2 + 1 := by
        have k := ta_i I3
        omega
      have sk3 : ska b n (ta (h_im h2 1 33 (h_i h2 1 33 + 1))) = ska b n (ta h) := by
        rw [a3, ← ska_s ⟨by omega, by rw [← et _ (by omega)]; exact yb⟩]
        exact sk
      exact ih _ I3 F3 (by rw [pe]; show (h_i h 1 33).toInt ≤ _; omega) (Or.inr (by rw [pe]; show _ ≤ (h_i h 1 32).toInt; omega)) sk3 (by rw [pe]; show (h_i h 1 32).toInt - _ ≤ _; omega)
  refine Ct.of (fun _ _ _ => trivial) pn_X12 (Nat.le_of_ble_eq_true rfl) ?_
  have z0 : 0 ≤ (h_i h 1 32).toInt := (pz_in I).1
  have p0 : 0 ≤ (h_i h 1 33).toInt := (pa_in I).1
  exact lp 160 h I (Fr.rf _ _) (Int.le_refl _) (Or.inl (Int.le_refl _)) rfl (by show (h_i h 1 32).toInt - (h_i h 1 33).toInt ≤ 160; omega)
theorem c_badf (d : Nat) {h : Hp_} (I : Iv h) (w : h_i h 1 34 = -1) : Cv (m_X12_bad (d + 0) 0 0) [.ref 1] h (fun h' => Iv h' ∧ Fr [1034] h h' ∧ ¬ h_i h' 1 34 = -1 ∧ h_i h' 1 34 = Int32.ofNat (ta h)) := by
  have p0 : 0 ≤ (h_i h 1 33).toInt := (pa_in I).1
  refine t_X12_bad d h I.1 _ ⟨fun z => absurd w z, fun _ => ⟨i34 I _, (Fr.rf _ _).im (by decide +kernel), ?_, ?_⟩⟩
  · rw [im_at]
    intro e
    rw [e] at p0
    exact absurd p0 (by decide)
  · rw [im_at]
    exact (of_nat32 p0).symm
/-- a number read -/
noncomputable def Nmf (b : Nat → Int32) (n : Nat) (h : Hp_) (r : Int32) (h' : Hp_) : Prop := Nu h h' ∧ Ft b n (nm0 b n (ta h)) h' ∧ (h_i h' 1 34 = -1 → dgb (skv b n (ta h)) = true ∧ nml b n 4 0 (ska b n (ta h)) = (true, ta h', r))
theorem dg_eq (x : Int32) : dgb x = true ↔ (¬ x < 48 ∧ ¬ 57 < x) := decide_eq_true_iff
theorem nu_loopf (d : Nat) {b : Nat → Int32} {n : Nat} (h : Hp_) (I : Iv h) (t : Tp b n h) (c0 : dgb (skv b n (ta h)) = true) : ∀ (k : Nat) (x1 x2 : Int32) (h2 : Hp_), x2.toInt + k = 4 ∧ k ≤ 4 → Iv h2 → Fr [1033, 1034] h h2 → h_i h2 1 34 = -1 → pa h ≤ pa h2 → pa h2 ≤ pz h → nml b n 4 0 (ska b n (ta h)) = nml b n k x1 (ta h2) → ((pa h < pa h2) ∨ (ta h2 = ska b n (ta h))) →
    AW (m_X12_number (d + 1) 0 0) 0 0 20 [(0, .ref 1), (1, .int x1), (2, .int x2)] [] h2 (kI (fun r h' => Nmf b n h r h')) := by
  have t1 : (1 : Int32).toInt = 1 := rfl
  have t4 : (4 : Int32).toInt = 4 := rfl
  have z1 : (h_i h 1 32).toInt ≤ 160 := (pz_in I).2
  have ni := tn_i I
  rw [t.2] at ni
  have ni' : (n : Int) = (h_i h 1 32).toInt := ni
  have nm : ∀ q, nml b n 4 0 (ska b n (ta h)) = (true, q) → (nm0 b n (ta h)) = (true, ska b n q.1) := fun q e => by
    unfold nm0
    rw [if_pos c0, e]
    exact if_pos rfl
  have nf : ∀ q, nml b n 4 0 (ska b n (ta h)) = (false, q) → (nm0 b n (ta h)) = (false, q.1) := fun q e => by
    unfold nm0
    rw [if_pos c0, e]
    exact if_neg (by simp)
  have l0 := dgb_l c0
  have fin : ∀ (k : Nat) (x1 : Int32) (h2 : Hp_), Iv h2 → Fr [1033, 1034] h h2 → h_i h2 1 34 = -1 → pa h ≤ pa h2 → pa h2 ≤ pz h → nml b n 4 0 (ska b n (ta h)) = nml b n k x1 (ta h2) → ((pa h < pa h2) ∨ (ta h2 = ska b n (ta h))) → ¬ (ta h2 < n ∧ dgb (b (ta h2)) = true) → Nmf b n h x1 h2 := fun k x1 h2 I2 F2 w l1 l2 e c nn => by
    have e2 : nml b n k x1 (ta h2) = (true, ta h2, x1) := by
      cases k with
      | zero =>
        unfold nml
        exact if_neg nn
      | succ k =>
        unfold nml
        exact if_neg nn
    rw [e2] at e
    refine ⟨⟨I2, F2, l1, l2, fun _ => ?_⟩, Or.inl ⟨w, ?_, ?_⟩, fun _ => ⟨c0, e⟩⟩
    · rcases c with c | c
      · exact c
      · rw [← c] at l0
        exact absurd l0 nn
    · rw [nm _ e]
    · rw [nm _ e]
  intro k
  induction k with
  | zero =>
    intro x1 x2 h2 ek I2 F2 w l1 l2 e c
    have ez : h_i h2 1 32 = h_i h 1 32 := (F2.2 1 32 (by decide +kernel)).1
    have et : ∀ k, k < n → h_i h2 225 k = b k := (t.fr F2 (by decide +kernel)).1
    have ai : (ta h2 : Int) = (h_i h2 1 33).toInt := ta_i I2
    have p0 : 0 ≤ (h_i h2 1 33).toInt := (pa_in I2).1
    have x4 : x2 = 4 := Int32.toInt_inj.mp (by rw [t4]; omega)
    refine t_X12_number_20 d h2 I2.1 x1 x2 _ ⟨fun z => fin 0 x1 h2 I2 F2 w l1 l2 e c (fun y => ?_), fun z => ?_⟩
    · rw [ez] at z
      have z := q_le.mp z
      have := y.1
      omega
    · rw [ez] at z
      have z := q_nle z
      have v : vp_in (h_i h2 1 33) 160 := dp_in (lo := 0) (hi := 159) ⟨p0, by show _ ≤ (159 : Int); omega⟩ (by decide) (by decide)
      refine ⟨v, Ci.mono (c_isDigit d h2 _) (fun r h3 q => ?_)⟩
      obtain ⟨e3, q⟩ := q
      subst e3
      refine ⟨I2.1, fun r0 => fin 0 x1 h3 I2 F2 w l1 l2 e c (fun y => ?_), fun r1 => ⟨fun n4 => absurd x4 n4, fun _ => ?_⟩⟩
      · rcases q with q | q
        · rw [r0] at q
          exact absurd q.1 (by decide)
        · have y2 := (dg_eq _).mp y.2
          rw [← et _ y.1] at y2
          exact q.2 y2
      · have dg : ta h3 < n ∧ dgb (b (ta h3)) = true := by
          refine ⟨by omega, (dg_eq _).mpr ?_⟩
          rcases q with q | q
          · rw [← et _ (by omega)]
            exact q.2
          · exact absurd q.1 r1
        have e2 : nml b n 0 x1 (ta h3) = (false, ta h3, x1) := by
          unfold nml
          exact if_pos dg
        rw [e2] at e
        refine Cv.mono (c_badf d I2 w) (fun h4 k4 => ⟨k4.1.1, ⟨k4.1, F2.tr (k4.2.1.more (by decide +kernel)), ?_, ?_, fun y => absurd y k4.2.2.1⟩, Or.inr ⟨k4.2.2.1, ?_, ?_⟩, fun y => absurd y k4.2.2.1⟩)
        · show (h_i h 1 33).toInt ≤ (h_i h4 1 33).toInt
          rw [(k4.2.1.2 1 33 (by decide +kernel)).1]; exact l1
        · show (h_i h4 1 33).toInt ≤ (h_i h 1 32).toInt
          rw [(k4.2.1.2 1 33 (by decide +kernel)).1]; exact l2
        · rw [nf _ e]
        · rw [nf _ e]
          exact k4.2.2.2
  | succ k ih =>
    intro x1 x2 h2 ek I2 F2 w l1 l2 e c
    have ez : h_i h2 1 32 = h_i h 1 32 := (F2.2 1 32 (by decide +kernel)).1
    have et : ∀ k, k < n → h_i h2 225 k = b k := (t.fr F2 (by decide +kernel)).1
    have ai : (ta h2 : Int) = (h_i h2 1 33).toInt := ta_i I2
    have p0 : 0 ≤ (h_i h2 1 33).toInt := (pa_in I2).1
    have l1' : (h_i h 1 33).toInt ≤ (h_i h2 1 33).toInt := l1
    refine t_X12_number_20 d h2 I2.1 x1 x2 _ ⟨fun z => fin (k + 1) x1 h2 I2 F2 w l1 l2 e c (fun y => ?_), fun z => ?_⟩
    · rw [ez] at z
      have z := q_le.mp z
      have := y.1
      omega
    · rw [ez] at z
      have z := q_nle z
      have v : vp_in (h_i h2 1 33) 160 := dp_in (lo := 0) (hi := 159) ⟨p0, by show _ ≤ (159 : Int); omega⟩ (by decide) (by decide)
      refine ⟨v, Ci.mono (c_isDigit d h2 _) (fun r h3 q => ?_)⟩
      obtain ⟨e3, q⟩ := q
      subst e3
      refine ⟨I2.1, fun r0 => fin (k + 1) x1 h3 I2 F2 w l1 l2 e c (fun y => ?_), fun r1 => ⟨fun n4 => ⟨v, ?_⟩, fun y4 => ?_⟩⟩
      · rcases q with q | q
        · rw [r0] at q
          exact absurd q.1 (by decide)
        · have y2 := (dg_eq _).mp y.2
          rw [← et _ y.1] at y2
          exact q.2 y2
      · have dg : ta h3 < n ∧ dgb (b (ta h3)) = true := by
          refine ⟨by omega, (dg_eq _).mpr ?_⟩
          rcases q with q | q
          · rw [← et _ (by omega)]
            exact q.2
          · exact absurd q.1 r1
        have ex : (h_i h3 1 33 + 1).toInt = (h_i h3 1 33).toInt + 1 := tx_add (by rw [t1]; omega) (by rw [t1]; omega)
        have I3 := i33 I2 (x := h_i h3 1 33 + 1) ⟨by show (0 : Int) ≤ _; omega, by show _ ≤ (180 : Int); omega⟩
        have pe : pa (h_im h3 1 33 (h_i h3 1 33 + 1)) = (h_i h3 1 33).toInt + 1 := by
          show (h_i (h_im h3 1 33 _) 1 33).toInt = _
          rw [im_at, ex]
        have a3 : ta (h_im h3 1 33 (h_i h3 1 33 + 1)) = ta h3 + 1 := by
          have kk := ta_i I3
          omega
        have ex2 : (x2 + 1).toInt = x2.toInt + 1 := tx_add (by rw [t1]; omega) (by rw [t1]; omega)
        refine ih _ _ _ ⟨by omega, by omega⟩ I3 (F2.im (by decide +kernel)) (by rw [f_ne (by decide)]; exact w) (by rw [pe]; show (h_i h 1 33).toInt ≤ _; omega) (by rw [pe]; show _ ≤ (h_i h 1 32).toInt; omega) ?_ (Or.inl (by rw [pe]; show (h_i h 1 33).toInt < _; omega))
        rw [e, a3, et _ dg.1]
        show (if ta h3 < n ∧ dgb (b (ta h3)) = true then nml b n k (((x1 * 10) + b (ta h3)) - 48) (ta h3 + 1) else (true, ta h3, x1)) = _
        rw [if_pos dg, Int32.mul_comm]
      · rw [y4, t4] at ek
        omega
theorem c_numberf (d : Nat) {b : Nat → Int32} {n : Nat} {h : Hp_} (I : Iv h) (t : Tp b n h) (w : h_i h 1 34 = -1) (l : pa h ≤ pz h) : Ci (m_X12_number (d + 1) 0 0) [.ref 1] h (fun r h' => Nmf b n h r h') := by
  have z1 : (h_i h 1 32).toInt ≤ 160 := (pz_in I).2
  refine t_X12_number d h I.1 _ (Ci.mono (c_lookf d I t) (fun r h2 LL => ?_))
  obtain ⟨L, ea, er⟩ := LL
  obtain ⟨I2, F2, l1, l2, lr⟩ := L
  have l2' : (h_i h2 1 33).toInt ≤ (h_i h 1 32).toInt := by
    have l' : (h_i h 1 33).toInt ≤ (h_i h 1 32).toInt := l
    rcases l2 with u | u
    · have u' : (h_i h2 1 33).toInt ≤ (h_i h 1 33).toInt := u
      omega
    · exact u
  have F2' : Fr [1033, 1034] h h2 := F2.more (by decide +kernel)
  have w2 : h_i h2 1 34 = -1 := by rw [(F2.2 1 34 (by decide +kernel)).1]; exact w
  refine ⟨I2.1, Ci.mono (c_isDigit d h2 r) (fun r6 h4 k => ?_)⟩
  obtain ⟨e4, k⟩ := k
  subst e4
  refine ⟨I2.1, fun n0 => ?_, fun y0 => ?_⟩
  · rcases k with k | k
    · exact nu_loopf d h I t ((dg_eq _).mpr (er ▸ k.2)) 4 0 0 h4 ⟨by decide, by decide⟩ I2 F2' w2 l1 l2' (by rw [ea]) (Or.inr ea)
    · exact absurd k.1 n0
  · have nd : ¬ dgb (skv b n (ta h)) = true := fun z => by
      rcases k with k | k
      · rw [y0] at k
        exact absurd k.1 (by decide)
      · have z := (dg_eq _).mp z
        rw [← er] at z
        exact k.2 z
    have nn : nm0 b n (ta h) = (false, ska b n (ta h)) := by
      unfold nm0
      exact if_neg nd
    refine Cv.mono (c_badf d I2 w2) (fun h5 k5 => ⟨k5.1.1, ⟨k5.1, F2'.tr (k5.2.1.more (by decide +kernel)), ?_, ?_, fun y => absurd y k5.2.2.1⟩, Or.inr ⟨k5.2.2.1, ?_, ?_⟩, fun y => absurd y k5.2.2.1⟩)
    · show (h_i h 1 33).toInt ≤ (h_i h5 1 33).toInt
      rw [(k5.2.1.2 1 33 (by decide +kernel)).1]; exact l1
    · show (h_i h5 1 33).toInt ≤ (h_i h 1 32).toInt
      rw [(k5.2.1.2 1 33 (by decide +kernel)).1]; exact l2'
    · rw [nn]
    · rw [nn]
      show h_i h5 1 34 = Int32.ofNat (ska b n (ta h))
      rw [← ea]
      exact k5.2.2.2
/-! the reference: sums and conditions, by what stands on the tape -/
theorem Pe.tp {b : Nat → Int32} {n s : Nat} {h h' : Hp_} (P : Pe s h h') (t : Tp b n h) : Tp b n h' := t.fr P.2.1 (by decide +kernel)
/-- what is still to be found behind this place, or it was found -/
noncomputable def Sf (b : Nat → Int32) (n : Nat) (T : Bool × Nat) (g : Rcg) (h : Hp_) : Prop := (h_i h 1 34 = -1 → T = g (ta h)) ∧ (¬ h_i h 1 34 = -1 → Ft b n T h)
theorem Sf.mv {b : Nat → Int32} {n : Nat} {T : Bool × Nat} {g : Rcg} {h h' : Hp_} (F : Sf b n T g h) (e4 : h_i h' 1 34 = h_i h 1 34) (e3 : h_i h' 1 33 = h_i h 1 33) : Sf b n T g h' := by
  refine ⟨fun w => ?_, fun w => ?_⟩
  · rw [e4] at w
    show T = g (h_i h' 1 33).toNatClampNeg
    rw [e3]
    exact F.1 w
  · rw [e4] at w
    exact (F.2 w).mv e4 e3
theorem Sf.fr {b : Nat → Int32} {n : Nat} {T : Bool × Nat} {g : Rcg} {ws : List Nat} {h h' : Hp_} (F : Sf b n T g h) (f : Fr ws h h') (o : (!inw ws 1 34 && !inw ws 1 33) = true) : Sf b n T g h' := by
  rw [Bool.and_eq_true, Bool.not_eq_true', Bool.not_eq_true'] at o
  exact F.mv (f.2 1 34 o.1).1 (f.2 1 33 o.2).1
theorem Sf.lk {b : Nat → Int32} {n : Nat} {T : Bool × Nat} {g : Rcg} {h h' : Hp_} {r : Int32} (F : Sf b n T g h) (c : Cnr b n g) (L : Lkf b n h r h') : Sf b n T g h' := by
  have e4 : h_i h' 1 34 = h_i h 1 34 := (L.1.2.1.2 1 34 (by decide +kernel)).1
  refine ⟨fun w => ?_, fun w => ?_⟩
  · rw [e4] at w
    rw [L.2.1, c]
    exact F.1 w
  · rw [e4] at w
    exact (F.2 w).lk L
theorem sqf {b : Nat → Int32} {n : Nat} {f g : Rcg} {a : Nat} {h : Hp_} (c : Cnr b n g) (F : Ft b n (f a) h) : Sf b n (sqr f g a) g h := by
  refine ⟨fun w => ?_, fun w => ?_⟩
  · have k := F.ok w
    unfold sqr
    rw [if_pos k.1, ← k.2, c]
  · have k := F.no w
    have e : sqr f g a = f a := by
      unfold sqr
      exact if_neg (by rw [k.1]; decide)
    rw [e]
    exact F
theorem Sf.sq {b : Nat → Int32} {n : Nat} {T : Bool × Nat} {f g : Rcg} {h h2 : Hp_} (F : Sf b n T (sqr f g) h) (w : h_i h 1 34 = -1) (c : Cnr b n g) (G : Ft b n (f (ta h)) h2) : Sf b n T g h2 := by
  have k := sqf (f := f) c G
  rw [← F.1 w] at k
  exact k
theorem Sf.ft {b : Nat → Int32} {n : Nat} {T : Bool × Nat} {g : Rcg} {h h2 : Hp_} (F : Sf b n T g h) (w : h_i h 1 34 = -1) (G : Ft b n (g (ta h)) h2) : Ft b n T h2 := by
  rw [F.1 w]
  exact G
theorem lp0 {b : Nat → Int32} {n : Nat} {T : Bool × Nat} {sp : Int32 → Bool} {f : Rcg} {h h5 : Hp_} {r : Int32} (F : Sf b n T (lpr b n sp f 0) h) (w : h_i h 1 34 = -1) (L : Lkf b n h r h5) : Ft b n T h5 := by
  have e4 : h_i h5 1 34 = h_i h 1 34 := (L.1.2.1.2 1 34 (by decide +kernel)).1
  rw [F.1 w]
  exact Or.inl ⟨by rw [e4]; exact w, rfl, by rw [L.i, L.2.1]; rfl⟩
theorem lpx {b : Nat → Int32} {n k : Nat} {T : Bool × Nat} {sp : Int32 → Bool} {f : Rcg} {h h5 : Hp_} {r : Int32} (F : Sf b n T (lpr b n sp f (k + 1)) h) (w : h_i h 1 34 = -1) (L : Lkf b n h r h5) (ns : sp r = false) : Ft b n T h5 := by
  have e4 : h_i h5 1 34 = h_i h 1 34 := (L.1.2.1.2 1 34 (by decide +kernel)).1
  have e : lpr b n sp f (k + 1) (ta h) = (true, ska b n (ta h)) := by
    unfold lpr
    exact if_neg (by rw [← L.2.2, ns]; decide)
  rw [F.1 w, e]
  exact Or.inl ⟨by rw [e4]; exact w, rfl, by rw [L.i, L.2.1]⟩
theorem lps {b : Nat → Int32} {n k : Nat} {T : Bool × Nat} {sp : Int32 → Bool} {f : Rcg} {h h9 : Hp_} {r : Int32} (F : Sf b n T (lpr b n sp f (k + 1)) h) (w : h_i h 1 34 = -1) (er : r = skv b n (ta h)) (ys : sp r = true) (G : Ft b n (f (ska b n (ta h) + 1)) h9) : Sf b n T (lpr b n sp f k) h9 := by
  have e : T = sqr (fun _ => f (ska b n (ta h) + 1)) (lpr b n sp f k) (ta h) := by
    rw [F.1 w]
    unfold sqr
    show (if sp (skv b n (ta h)) = true then (if (f (ska b n (ta h) + 1)).1 = true then lpr b n sp f k (f (ska b n (ta h) + 1)).2 else f (ska b n (ta h) + 1)) else (true, ska b n (ta h))) = _
    rw [if_pos (by rw [← er]; exact ys)]
  rw [e]
  exact sqf (f := fun _ => f (ska b n (ta h) + 1)) (lpr_c k) G
/-- one sign further, behind a look -/
theorem nxa {b : Nat → Int32} {n : Nat} {h h5 h6 : Hp_} {r : Int32} (L : Lkf b n h r h5) (I6 : Iv h6) (e : pa h6 = pa h5 + 1) : ta h6 = ska b n (ta h) + 1 := by
  have a := ta_i I6
  have c := ta_i L.1.1
  have d := L.2.1
  omega
theorem c_badw (d : Nat) {h : Hp_} (I : Iv h) (w : ¬ h_i h 1 34 = -1) : Cv (m_X12_bad (d + 0) 0 0) [.ref 1] h (fun h' => Iv h' ∧ Fr [1034] h h' ∧ h_i h' 1 34 = h_i h 1 34) :=
  t_X12_bad d h I.1 _ ⟨fun _ => ⟨i34 I _, (Fr.rf _ _).im (by decide +kernel), im_at⟩, fun z => absurd z w⟩
theorem c_isSignf (d : Nat) (h : Hp_) (x : Int32) : Ci (m_X12_isSign (d + 0) 0 0) [.int x] h (fun r h' => h' = h ∧ ((r = 1 ∧ sgb x = true ∧ opc x = true ∧ ¬ x = -1) ∨ (r = 0 ∧ sgb x = false))) :=
  t_X12_isSign d h x _ ⟨fun e => ⟨rfl, Or.inl ⟨rfl, by rw [e]; decide, by rw [e]; decide, by rw [e]; decide⟩⟩, fun n1 => ⟨fun e => ⟨rfl, Or.inl ⟨rfl, by rw [e]; decide, by rw [e]; decide, by rw [e]; decide⟩⟩, fun n2 => ⟨fun n3 => ⟨rfl, Or.inr ⟨rfl, decide_eq_false (fun z => z.elim n1 (fun y => y.elim n2 n3))⟩⟩, fun e => ⟨rfl, Or.inl ⟨rfl, by rw [e]; decide, by rw [e]; decide, by rw [e]; decide⟩⟩⟩⟩⟩
end
section
/-! the reference: brackets, letters, atoms, conditions, by what stands on the tape -/
theorem c_isLetterf (d : Nat) (h : Hp_) (x : Int32) {s : Nat} (hs : s = 1 ∨ s = 2) : Ci (m_X12_isLetter (d + 0) 0 0) [.int x, .int (Int32.ofNat s)] h (fun r h' => h' = h ∧ ((r = 0 ∧ ltb s x = false) ∨ (¬ r = 0 ∧ ltb s x = true ∧ ¬ x = -1 ∧ okl s x = true))) := by
  rcases hs with u | u <;> subst u
  · exact t_X12_isLetter d h x (Int32.ofNat 1) _ ⟨fun e => ⟨fun _ => ⟨rfl, Or.inl ⟨rfl, by rw [e]; decide⟩⟩, fun f => absurd f (by decide)⟩,
      fun e => ⟨rfl, Or.inr ⟨by decide, by rw [e]; decide, by rw [e]; decide, by rw [e]; decide⟩⟩,
      fun e => ⟨fun n => absurd (by decide) n, fun _ => ⟨rfl, Or.inr ⟨by decide, by rw [e]; decide, by rw [e]; decide, by rw [e]; decide⟩⟩⟩,
      fun e => ⟨fun n => absurd (by decide) n, fun _ => ⟨rfl, Or.inr ⟨by decide, by rw [e]; decide, by rw [e]; decide, by rw [e]; decide⟩⟩⟩,
      fun e => ⟨fun n => absurd (by decide) n, fun _ => ⟨rfl, Or.inr ⟨by decide, by rw [e]; decide, by rw [e]; decide, by rw [e]; decide⟩⟩⟩,
      fun e => ⟨fun n => absurd (by decide) n, fun _ => ⟨rfl, Or.inr ⟨by decide, by rw [e]; decide, by rw [e]; decide, by rw [e]; decide⟩⟩⟩,
      fun e => ⟨fun _ => ⟨rfl, Or.inl ⟨rfl, by rw [e]; decide⟩⟩, fun f => absurd f (by decide)⟩,
      fun e => ⟨fun n => absurd (by decide) n, fun _ => ⟨rfl, Or.inr ⟨by decide, by rw [e]; decide, by rw [e]; decide, by rw [e]; decide⟩⟩⟩,
      fun e => ⟨fun n => absurd (by decide) n, fun _ => ⟨rfl, Or.inr ⟨by decide, by rw [e]; decide, by rw [e]; decide, by rw [e]; decide⟩⟩⟩,
      fun e => ⟨rfl, Or.inr ⟨by decide, by rw [e]; decide, by rw [e]; decide, by rw [e]; decide⟩⟩,
      fun e => ⟨fun n => absurd (by decide) n, fun _ => ⟨rfl, Or.inr ⟨by decide, by rw [e]; decide, by rw [e]; decide, by rw [e]; decide⟩⟩⟩,
      fun e => ⟨fun _ => ⟨rfl, Or.inl ⟨rfl, by rw [e]; decide⟩⟩, fun f => absurd f (by decide)⟩,
      fun e => ⟨fun _ => ⟨rfl, Or.inl ⟨rfl, by rw [e]; decide⟩⟩, fun f => absurd f (by decide)⟩,
      fun ⟨n97, n99, n100, n101, n104, n107, n109, n110, n112, n116, n119, n120, n121⟩ => ⟨rfl, Or.inl ⟨rfl, decide_eq_false (fun z => z.elim n107 (fun z => z.elim n119 (fun z => z.elim n112 (fun z => z.elim n104 (fun z => z.elim n100 (fun z => z.elim n99 (fun z => z.elim n110 (fun z => z.elim n101 n116))))))))⟩⟩⟩
  · exact t_X12_isLetter d h x (Int32.ofNat 2) _ ⟨fun e => ⟨fun n => absurd (by decide) n, fun _ => ⟨rfl, Or.inr ⟨by decide, by rw [e]; decide, by rw [e]; decide, by rw [e]; decide⟩⟩⟩,
      fun e => ⟨rfl, Or.inr ⟨by decide, by rw [e]; decide, by rw [e]; decide, by rw [e]; decide⟩⟩,
      fun e => ⟨fun _ => ⟨rfl, Or.inl ⟨rfl, by rw [e]; decide⟩⟩, fun f => absurd f (by decide)⟩,
      fun e => ⟨fun _ => ⟨rfl, Or.inl ⟨rfl, by rw [e]; decide⟩⟩, fun f => absurd f (by decide)⟩,
      fun e => ⟨fun _ => ⟨rfl, Or.inl ⟨rfl, by rw [e]; decide⟩⟩, fun f => absurd f (by decide)⟩,
      fun e => ⟨fun _ => ⟨rfl, Or.inl ⟨rfl, by rw [e]; decide⟩⟩, fun f => absurd f (by decide)⟩,
      fun e => ⟨fun n => absurd (by decide) n, fun _ => ⟨rfl, Or.inr ⟨by decide, by rw [e]; decide, by rw [e]; decide, by rw [e]; decide⟩⟩⟩,
      fun e => ⟨fun _ => ⟨rfl, Or.inl ⟨rfl, by rw [e]; decide⟩⟩, fun f => absurd f (by decide)⟩,
      fun e => ⟨fun _ => ⟨rfl, Or.inl ⟨rfl, by rw [e]; decide⟩⟩, fun f => absurd f (by decide)⟩,
      fun e => ⟨rfl, Or.inr ⟨by decide, by rw [e]; decide, by rw [e]; decide, by rw [e]; decide⟩⟩,
      fun e => ⟨fun _ => ⟨rfl, Or.inl ⟨rfl, by rw [e]; decide⟩⟩, fun f => absurd f (by decide)⟩,
      fun e => ⟨fun n => absurd (by decide) n, fun _ => ⟨rfl, Or.inr ⟨by decide, by rw [e]; decide, by rw [e]; decide, by rw [e]; decide⟩⟩⟩,
      fun e => ⟨fun n => absurd (by decide) n, fun _ => ⟨rfl, Or.inr ⟨by decide, by rw [e]; decide, by rw [e]; decide, by rw [e]; decide⟩⟩⟩,
      fun ⟨n97, n99, n100, n101, n104, n107, n109, n110, n112, n116, n119, n120, n121⟩ => ⟨rfl, Or.inl ⟨rfl, decide_eq_false (fun z => z.elim n99 (fun z => z.elim n121 (fun z => z.elim n109 (fun z => z.elim n120 (fun z => z.elim n116 n97)))))⟩⟩⟩
theorem c_opensf (d : Nat) {b : Nat → Int32} {n : Nat} {h : Hp_} (I : Iv h) (w : h_i h 1 34 = -1) (l : pa h < pz h) (dl : (h_i h 1 35).toInt ≤ 6) : Ci (m_X12_opens (d + 1) 0 0) [.ref 1] h (fun r h' => Iv h' ∧ Fr [1033, 1034, 1035] h h' ∧ ((r = 1 ∧ h_i h' 1 34 = h_i h 1 34 ∧ pa h' = pa h + 1 ∧ (h_i h' 1 35).toInt = (h_i h 1 35).toInt + 1 ∧ (h_i h 1 35).toInt ≤ 5) ∨ (r = 0 ∧ ¬ h_i h' 1 34 = -1 ∧ h_i h' 1 33 = h_i h 1 33 ∧ h_i h' 1 35 = h_i h 1 35 ∧ h_i h' 1 34 = Int32.ofNat (ta h) ∧ (h_i h 1 35).toInt = 6))) := by
  have t1 : (1 : Int32).toInt = 1 := rfl
  have t6 : (6 : Int32).toInt = 6 := rfl
  have p0 : 0 ≤ (h_i h 1 33).toInt := (pa_in I).1
  have z1 : (h_i h 1 32).toInt ≤ 160 := (pz_in I).2
  have l' : (h_i h 1 33).toInt < (h_i h 1 32).toInt := l
  have d0 : 0 ≤ (h_i h 1 35).toInt := (dp_in7 I).1
  have e33 : (h_i h 1 33 + 1).toInt = (h_i h 1 33).toInt + 1 := tx_add (by rw [t1]; omega) (by rw [t1]; omega)
  have e35 : (h_i h 1 35 + 1).toInt = (h_i h 1 35).toInt + 1 := tx_add (by rw [t1]; omega) (by rw [t1]; omega)
  refine t_X12_opens d h I.1 _ ⟨fun n6 => ?_, fun e6 => ?_⟩
  · have d5 : (h_i h 1 35).toInt ≤ 5 := by
      rcases Int.lt_or_le (h_i h 1 35).toInt 6 with u | u
      · omega
      · exact absurd (Int32.toInt_inj.mp (by rw [t6]; omega)) n6
    refine ⟨i33 (i35 I ⟨by show (0 : Int) ≤ _; omega, by show _ ≤ (7 : Int); omega⟩) ⟨by show (0 : Int) ≤ _; omega, by show _ ≤ (180 : Int); omega⟩, ((Fr.rf _ _).im (by decide +kernel)).im (by decide +kernel), Or.inl ⟨rfl, ?_, ?_, ?_, d5⟩⟩
    · rw [f_ne (by decide), f_ne (by decide)]
    · show (h_i (h_im _ 1 33 _) 1 33).toInt = _
      rw [im_at]; exact e33
    · rw [f_ne (by decide), im_at]; exact e35
  · exact Cv.mono (c_badf d I w) (fun h2 k => ⟨k.1.1, k.1, k.2.1.more (by decide +kernel), Or.inr ⟨rfl, k.2.2.1, (k.2.1.2 1 33 (by decide +kernel)).1, (k.2.1.2 1 35 (by decide +kernel)).1, k.2.2.2, by rw [e6, t6]⟩⟩)
theorem lt_dg {s : Nat} (hs : s = 1 ∨ s = 2) {x : Int32} (h : ltb s x = true) : ¬ dgb x = true ∧ ¬ x = 91 := by
  have key : ∀ y : Int32, (y = 107 ∨ y = 119 ∨ y = 112 ∨ y = 104 ∨ y = 100 ∨ y = 99 ∨ y = 110 ∨ y = 101 ∨ y = 116 ∨ y = 121 ∨ y = 109 ∨ y = 120 ∨ y = 97) → ¬ dgb y = true ∧ ¬ y = 91 := by
    rintro y (u | u | u | u | u | u | u | u | u | u | u | u | u) <;> rw [u] <;> decide
  rcases hs with u | u <;> subst u
  · have h' := of_decide_eq_true (show decide (x = 107 ∨ x = 119 ∨ x = 112 ∨ x = 104 ∨ x = 100 ∨ x = 99 ∨ x = 110 ∨ x = 101 ∨ x = 116) = true from h)
    rcases h' with u | u | u | u | u | u | u | u | u <;> exact key x (by rw [u]; decide)
  · have h' := of_decide_eq_true (show decide (x = 99 ∨ x = 121 ∨ x = 109 ∨ x = 120 ∨ x = 116 ∨ x = 97) = true from h)
    rcases h' with u | u | u | u | u | u <;> exact key x (by rw [u]; decide)
/-! the reference: clauses and whole texts, by what stands on the tape -/
theorem Ft.wr {b : Nat → Int32} {n : Nat} {R : Bool × Nat} {h h' : Hp_} (F : Ft b n R h) (w : ¬ h_i h 1 34 = -1) (e : h_i h' 1 34 = h_i h 1 34) : Ft b n R h' := Or.inr ⟨by rw [e]; exact w, (F.no w).1, by rw [e]; exact (F.no w).2⟩
noncomputable def clq (b : Nat → Int32) (n s : Nat) : Rcg := if s = 1 then acl b n else pcl_ b n
theorem clq_f {b : Nat → Int32} {n : Nat} (s : Nat) : Fwd b n (clq b n s) := by
  unfold clq
  split
  · exact acl_f
  · exact pcl_f
end
section
/-! fault of the reference for clauses, by what stands on the tape -/
theorem ska_0 {b : Nat → Int32} {n a : Nat} (h : skv b n a = -1) (bb : ∀ k, k < n → ¬ b k = -1) : ¬ ska b n a < n := fun l => by
  unfold skv at h
  rw [if_pos l] at h
  exact bb _ l h
theorem Pc.tp {b : Nat → Int32} {n s : Nat} {h h' : Hp_} (P : Pc s h h') (t : Tp b n h) : Tp b n h' := t.fr P.2.1 (by decide +kernel)
theorem enq_n {b : Nat → Int32} {n : Nat} {f : Rcg} {h : Hp_} (F : Ft b n (f 0) h) (w : ¬ h_i h 1 34 = -1) : h_i h 1 34 = enq b n f := by
  have k := F.no w
  unfold enq
  rw [if_neg (by rw [k.1]; decide)]
  exact k.2
theorem enq_y {b : Nat → Int32} {n : Nat} {f : Rcg} {h h5 : Hp_} {r : Int32} (bb : ∀ k, k < n → ¬ b k = -1) (F : Ft b n (f 0) h) (w : h_i h 1 34 = -1) (L : Lkf b n h r h5) : (r = -1 → h_i h5 1 34 = enq b n f) ∧ (¬ r = -1 → Int32.ofNat (ta h5) = enq b n f) := by
  have k := F.ok w
  refine ⟨fun e => ?_, fun ne => ?_⟩
  · have nl := ska_0 (L.2.2.symm.trans e) bb
    unfold enq
    rw [if_pos k.1, ← k.2, if_neg nl, f34 L.1.2.1 (by decide +kernel)]
    exact w
  · have l := skv_l (by rw [← L.2.2]; exact ne)
    unfold enq
    rw [if_pos k.1, ← k.2, if_pos l, L.2.1]
/-! the class's reader, by what stands on the tape -/
noncomputable abbrev xn (h : Hp_) : Nat := (h_i h 11 1).toNatClampNeg
noncomputable abbrev xa (h : Hp_) : Nat := (h_i h 11 2).toNatClampNeg
theorem x1_in {h : Hp_} (I : Iv h) : 0 ≤ (h_i h 11 1).toInt ∧ (h_i h 11 1).toInt ≤ 160 := by
  have rg := I.2.1 11 1
  rw [show tf 11 1 = (0, 160) by decide +kernel] at rg
  exact ⟨rg.1, rg.2⟩
theorem x2_in {h : Hp_} (I : Iv h) : 0 ≤ (h_i h 11 2).toInt ∧ (h_i h 11 2).toInt ≤ 160 := by
  have rg := I.2.1 11 2
  rw [show tf 11 2 = (0, 160) by decide +kernel] at rg
  exact ⟨rg.1, rg.2⟩
theorem xn_i {h : Hp_} (I : Iv h) : (xn h : Int) = (h_i h 11 1).toInt := n_nat (x1_in I).1
theorem xa_i {h : Hp_} (I : Iv h) : (xa h : Int) = (h_i h 11 2).toInt := n_nat (x2_in I).1
noncomputable def Tx (b : Nat → Int32) (n s : Nat) (h : Hp_) : Prop := h_i h 31 = b ∧ xn h = n ∧ h_r h 11 4 = some (1000 + s)
theorem Tx.fr {b : Nat → Int32} {n s : Nat} {ws : List Nat} {h h' : Hp_} (t : Tx b n s h) (f : Fr ws h h') (o : (off ws 31 && !inw ws 11 1 && !inw ws 11 4) = true) : Tx b n s h' := by
  simp only [Bool.and_eq_true, Bool.not_eq_true'] at o
  exact ⟨(funext (fun k => fr_i f o.1.1 k)).trans t.1, by show (h_i h' 11 1).toNatClampNeg = n; rw [(f.2 11 1 o.1.2).1]; exact t.2.1, by rw [(f.2 11 4 o.2).2.2]; exact t.2.2⟩
theorem y2 {h : Hp_} (I : Iv h) {x : Int32} (b : 0 ≤ x.toInt ∧ x.toInt ≤ 160) : Iv (h_im h 11 2 x) := I.im (by rw [show tf 11 2 = (0, 160) by decide +kernel]; exact b) (by decide)
theorem y3 {h : Hp_} (I : Iv h) (x : Int32) : Iv (h_im h 11 3 x) := I.im (by rw [show tf 11 3 = rtop by decide +kernel]; exact rtop_in _) (by decide)
theorem g_ne {h : Hp_} {k j : Nat} {x : Int32} (n : j ≠ k) : h_i (h_im h 11 k x) 11 j = h_i h 11 j := by rw [h_i_im, if_neg (fun e => n e.2)]
noncomputable def Pk (b : Nat → Int32) (n : Nat) (h : Hp_) (r : Int32) (h' : Hp_) : Prop := Iv h' ∧ Fr [11002] h h' ∧ xa h' = ska b n (xa h) ∧ r = skv b n (xa h)
theorem Pk.i {b : Nat → Int32} {n : Nat} {h h' : Hp_} {r : Int32} (L : Pk b n h r h') : ska b n (xa h') = xa h' := by rw [L.2.2.1, ska_i]
theorem c_pk (d : Nat) {b : Nat → Int32} {n s : Nat} {h : Hp_} (I : Iv h) (t : Tx b n s h) : Ci (m_X8_peek (d + 0) 0 0) [.ref 11] h (fun r h' => Pk b n h r h') := by
  have t1 : (1 : Int32).toInt = 1 := rfl
  have ni := xn_i I
  rw [t.2.1] at ni
  have z1 := (x1_in I).2
  have fin1 : ∀ h2, Iv h2 → Fr [11002] h h2 → ska b n (xa h2) = ska b n (xa h) → h_i h2 11 1 ≤ h_i h2 11 2 → Pk b n h (-1) h2 := fun h2 I2 F2 sk y => by
    have ai := xa_i I2
    rw [(F2.2 11 1 (by decide +kernel)).1] at y
    have y' := q_le.mp y
    have e : ska b n (xa h2) = xa h2 := ska_n (fun c => by have := c.1; omega)
    have e' : ska b n (xa h) = xa h2 := sk.symm.trans e
    refine ⟨I2, F2, e'.symm, ?_⟩
    unfold skv
    rw [e', if_neg (by omega)]
  have fin2 : ∀ h2, Iv h2 → Fr [11002] h h2 → ska b n (xa h2) = ska b n (xa h) → ¬ h_i h2 11 1 ≤ h_i h2 11 2 → ¬ h_i h2 31 (xa h2) = 32 → Pk b n h (h_i h2 31 (h_i h2 11 2).toNatClampNeg) h2 := fun h2 I2 F2 sk y nb => by
    have ai := xa_i I2
    have et : h_i h2 31 = b := (t.fr F2 (by decide +kernel)).1
    rw [et] at nb
    rw [(F2.2 11 1 (by decide +kernel)).1] at y
    have y' := q_nle y
    have e : ska b n (xa h2) = xa h2 := ska_n (fun c => nb c.2)
    have e' : ska b n (xa h) = xa h2 := sk.symm.trans e
    refine ⟨I2, F2, e'.symm, ?_⟩
    unfold skv
    rw [e', if_pos (by omega), et]
  have lp : ∀ (q : Nat) (h2 : Hp_), Iv h2 → Fr [11002] h h2 → ska b n (xa h2) = ska b n (xa h) → (h_i h 11 1).toInt - (h_i h2 11 2).toInt ≤ q → AW (m_X8_peek (d + 0) 0 0) 0 0 0 [(0, .ref 11)] [] h2 (kI (fun r h' => Pk b n h r h')) := by
    intro q
    induction q with
    | zero =>
      intro h2 I2 F2 sk m
      refine t_X8_peek_0 d h2 I2.1 _ ⟨fun y => ⟨fun _ => fin1 h2 I2 F2 sk y, fun z => absurd y z⟩, fun z => ?_⟩
      rw [(F2.2 11 1 (by decide +kernel)).1] at z
      have z := q_nle z
      omega
    | succ q ih =>
      intro h2 I2 F2 sk m
      have ez : h_i h2 11 1 = h_i h 11 1 := (F2.2 11 1 (by decide +kernel)).1
      have et : h_i h2 31 = b := (t.fr F2 (by decide +kernel)).1
      have ai := xa_i I2
      have p0 := (x2_in I2).1
      refine t_X8_peek_0 d h2 I2.1 _ ⟨fun y => ⟨fun _ => fin1 h2 I2 F2 sk y, fun z => absurd y z⟩, fun z => ?_⟩
      have z' := z
      rw [ez] at z'
      have z' := q_nle z'
      have v : vp_in (h_i h2 11 2) 160 := dp_in (lo := 0) (hi := 159) ⟨p0, by show _ ≤ (159 : Int); omega⟩ (by decide) (by decide)
      refine ⟨v, fun nb => ⟨fun y => absurd y z, fun _ => ⟨v, fin2 h2 I2 F2 sk z nb⟩⟩, fun yb => ?_⟩
      have ex : (h_i h2 11 2 + 1).toInt = (h_i h2 11 2).toInt + 1 := tx_add (by rw [t1]; omega) (by rw [t1]; omega)
      have I3 := y2 I2 (x := h_i h2 11 2 + 1) ⟨by omega, by omega⟩
      have pe : (h_i (h_im h2 11 2 (h_i h2 11 2 + 1)) 11 2).toInt = (h_i h2 11 2).toInt + 1 := by rw [im_at, ex]
      have a3 : xa (h_im h2 11 2 (h_i h2 11 2 + 1)) = xa h2 + 1 := by
        have k := xa_i I3
        omega
      refine ih _ I3 (F2.im (by decide +kernel)) ?_ (by rw [pe]; omega)
      rw [a3, ← ska_s ⟨by omega, by rw [← et]; exact yb⟩]
      exact sk
  refine Ct.of (fun _ _ _ => trivial) pn_X8 (Nat.le_of_ble_eq_true rfl) ?_
  have p0 := (x2_in I).1
  exact lp 160 h I (Fr.rf _ _) rfl (by omega)
noncomputable def wzx : List Nat := [11002, 11003, 11009, 33999]
/-- what the class found: whether it goes through, place or fault -/
noncomputable def Fxq (b : Nat → Int32) (n : Nat) (T : Bool × Nat) (h0 : Hp_) (r : Int32) (h : Hp_) : Prop := (r = 1 ∧ T.1 = true ∧ ska b n (xa h) = T.2 ∧ h_i h 11 3 = h_i h0 11 3) ∨ (r = 0 ∧ T.1 = false ∧ h_i h 11 3 = Int32.ofNat T.2)
noncomputable def Sx (b : Nat → Int32) (n : Nat) (T : Bool × Nat) (g : Rcg) (h0 : Hp_) (x : Int32) (h : Hp_) : Prop := (x = 1 ∧ T = g (xa h) ∧ h_i h 11 3 = h_i h0 11 3) ∨ (x = 0 ∧ T.1 = false ∧ h_i h 11 3 = Int32.ofNat T.2)
noncomputable def Xr (b : Nat → Int32) (n : Nat) (T : Bool × Nat) (h : Hp_) (r : Int32) (h' : Hp_) : Prop := Iv h' ∧ Fr wzx h h' ∧ Fxq b n T h r h'
theorem Fxq.z {b : Nat → Int32} {n : Nat} {T : Bool × Nat} {h0 : Hp_} {r : Int32} {h : Hp_} (F : Fxq b n T h0 r h) : r = 0 ∨ r = 1 := F.elim (fun y => Or.inr y.1) (fun y => Or.inl y.1)
theorem Fxq.n {b : Nat → Int32} {n : Nat} {T : Bool × Nat} {h0 : Hp_} {r : Int32} {h : Hp_} (F : Fxq b n T h0 r h) (e : r = 0) : Fxq b n T h0 0 h := by
  rcases F with F | F
  · rw [e] at F
    exact absurd F.1 (by decide)
  · exact Or.inr ⟨rfl, F.2⟩
theorem Fxq.y {b : Nat → Int32} {n : Nat} {T : Bool × Nat} {h0 : Hp_} {r : Int32} {h : Hp_} (F : Fxq b n T h0 r h) (e : ¬ r = 0) : Fxq b n T h0 1 h := by
  rcases F with F | F
  · exact Or.inl ⟨rfl, F.2⟩
  · exact absurd F.1 e
theorem Fxq.ok {b : Nat → Int32} {n : Nat} {T : Bool × Nat} {h0 : Hp_} {r : Int32} {h : Hp_} (F : Fxq b n T h0 r h) (e : ¬ r = 0) : T.1 = true ∧ ska b n (xa h) = T.2 ∧ h_i h 11 3 = h_i h0 11 3 := by
  rcases F with F | F
  · exact F.2
  · exact absurd F.1 e
theorem Fxq.mv {b : Nat → Int32} {n : Nat} {T : Bool × Nat} {h0 : Hp_} {r : Int32} {h h' : Hp_} (F : Fxq b n T h0 r h) {ws : List Nat} (f : Fr ws h h') (o : (!inw ws 11 2 && !inw ws 11 3) = true) : Fxq b n T h0 r h' := by
  rw [Bool.and_eq_true, Bool.not_eq_true', Bool.not_eq_true'] at o
  have e2 : h_i h' 11 2 = h_i h 11 2 := (f.2 11 2 o.1).1
  have e3 : h_i h' 11 3 = h_i h 11 3 := (f.2 11 3 o.2).1
  unfold Fxq xa
  rw [e2, e3]
  exact F
theorem sqx {b : Nat → Int32} {n : Nat} {f g : Rcg} {a : Nat} {h0 : Hp_} {r : Int32} {h : Hp_} (c : Cnr b n g) (F : Fxq b n (f a) h0 r h) : Sx b n (sqr f g a) g h0 r h := by
  rcases F with F | F
  · refine Or.inl ⟨F.1, ?_, F.2.2.2⟩
    unfold sqr
    rw [if_pos F.2.1, ← F.2.2.1, c]
  · have e : sqr f g a = f a := by
      unfold sqr
      exact if_neg (by rw [F.2.1]; decide)
    rw [e]
    exact Or.inr F
/-- a second reader behind the first -/
theorem sqx2 {b : Nat → Int32} {n : Nat} {f g : Rcg} {a : Nat} {h0 : Hp_} {r r2 : Int32} {h h2 : Hp_} (c : Cnr b n g) (F : Fxq b n (f a) h0 r h) (e : ¬ r = 0) (G : Fxq b n (g (xa h)) h r2 h2) : Fxq b n (sqr f g a) h0 r2 h2 := by
  have k := F.ok e
  have e1 : sqr f g a = g (xa h) := by
    unfold sqr
    rw [if_pos k.1, ← k.2.1, c]
  rw [e1]
  rcases G with G | G
  · exact Or.inl ⟨G.1, G.2.1, G.2.2.1, G.2.2.2.trans k.2.2⟩
  · exact Or.inr G
theorem sqxn {b : Nat → Int32} {n : Nat} {f g : Rcg} {a : Nat} {h0 : Hp_} {r : Int32} {h : Hp_} (F : Fxq b n (f a) h0 r h) (e : r = 0) : Fxq b n (sqr f g a) h0 0 h := by
  have k := F.n e
  rcases k with k | k
  · exact absurd k.1 (by decide)
  · have e1 : sqr f g a = f a := by
      unfold sqr
      exact if_neg (by rw [k.2.1]; decide)
    rw [e1]
    exact Or.inr k
theorem Sx.z {b : Nat → Int32} {n : Nat} {T : Bool × Nat} {g : Rcg} {h0 : Hp_} {x : Int32} {h : Hp_} (F : Sx b n T g h0 x h) : x = 0 ∨ x = 1 := F.elim (fun y => Or.inr y.1) (fun y => Or.inl y.1)
theorem Sx.n {b : Nat → Int32} {n : Nat} {T : Bool × Nat} {g : Rcg} {h0 : Hp_} {x : Int32} {h : Hp_} (F : Sx b n T g h0 x h) (e : x = 0) : Fxq b n T h0 x h := by
  rcases F with F | F
  · rw [e] at F
    exact absurd F.1 (by decide)
  · exact Or.inr F
theorem Sx.ok {b : Nat → Int32} {n : Nat} {T : Bool × Nat} {g : Rcg} {h0 : Hp_} {x : Int32} {h : Hp_} (F : Sx b n T g h0 x h) (e : ¬ x = 0) : x = 1 ∧ T = g (xa h) ∧ h_i h 11 3 = h_i h0 11 3 := by
  rcases F with F | F
  · exact F
  · exact absurd F.1 e
theorem lx0 {b : Nat → Int32} {n : Nat} {T : Bool × Nat} {sp : Int32 → Bool} {f : Rcg} {h0 : Hp_} {x : Int32} {h : Hp_} (F : Sx b n T (lpr b n sp f 0) h0 x h) : Fxq b n T h0 x h := by
  rcases F with F | F
  · exact Or.inl ⟨F.1, by rw [F.2.1]; rfl, by rw [F.2.1]; rfl, F.2.2⟩
  · exact Or.inr F
theorem lxx {b : Nat → Int32} {n k : Nat} {T : Bool × Nat} {sp : Int32 → Bool} {f : Rcg} {h0 : Hp_} {x r : Int32} {h h5 : Hp_} (F : Sx b n T (lpr b n sp f (k + 1)) h0 x h) (w : ¬ x = 0) (L : Pk b n h r h5) (ns : sp r = false) : Fxq b n T h0 x h5 := by
  have q := F.ok w
  have e : lpr b n sp f (k + 1) (xa h) = (true, ska b n (xa h)) := by
    unfold lpr
    exact if_neg (by rw [← L.2.2.2, ns]; decide)
  rw [q.2.1, e]
  exact Or.inl ⟨q.1, rfl, by rw [L.i, L.2.2.1], by rw [(L.2.1.2 11 3 (by decide +kernel)).1]; exact q.2.2⟩
theorem lxs {b : Nat → Int32} {n k : Nat} {T : Bool × Nat} {sp : Int32 → Bool} {f : Rcg} {h0 : Hp_} {x r r9 : Int32} {h h6 h9 : Hp_} (F : Sx b n T (lpr b n sp f (k + 1)) h0 x h) (w : ¬ x = 0) (er : r = skv b n (xa h)) (ys : sp r = true) (e6 : h_i h6 11 3 = h_i h 11 3) (G : Fxq b n (f (ska b n (xa h) + 1)) h6 r9 h9) : Sx b n T (lpr b n sp f k) h0 r9 h9 := by
  have q := F.ok w
  have e : T = sqr (fun _ => f (ska b n (xa h) + 1)) (lpr b n sp f k) (xa h) := by
    rw [q.2.1]
    unfold sqr
    show (if sp (skv b n (xa h)) = true then (if (f (ska b n (xa h) + 1)).1 = true then lpr b n sp f k (f (ska b n (xa h) + 1)).2 else f (ska b n (xa h) + 1)) else (true, ska b n (xa h))) = _
    rw [if_pos (by rw [← er]; exact ys)]
  rw [e]
  refine sqx (f := fun _ => f (ska b n (xa h) + 1)) (lpr_c k) ?_
  rcases G with G | G
  · exact Or.inl ⟨G.1, G.2.1, G.2.2.1, (G.2.2.2.trans e6).trans q.2.2⟩
  · exact Or.inr G
theorem Sx.mv {b : Nat → Int32} {n : Nat} {T : Bool × Nat} {g : Rcg} {h0 : Hp_} {x : Int32} {h h' : Hp_} (F : Sx b n T g h0 x h) {ws : List Nat} (f : Fr ws h h') (o : (!inw ws 11 2 && !inw ws 11 3) = true) : Sx b n T g h0 x h' := by
  rw [Bool.and_eq_true, Bool.not_eq_true', Bool.not_eq_true'] at o
  have e2 : h_i h' 11 2 = h_i h 11 2 := (f.2 11 2 o.1).1
  have e3 : h_i h' 11 3 = h_i h 11 3 := (f.2 11 3 o.2).1
  unfold Sx xa
  rw [e2, e3]
  exact F
/-- one sign further, behind a look -/
theorem nxx {b : Nat → Int32} {n s : Nat} {h h5 : Hp_} {r : Int32} (I : Iv h) (t : Tx b n s h) (L : Pk b n h r h5) (nr : ¬ r = -1) : Iv (h_im h5 11 2 ((h_i h5 11 2) + 1)) ∧ Fr [11002] h (h_im h5 11 2 ((h_i h5 11 2) + 1)) ∧ xa (h_im h5 11 2 ((h_i h5 11 2) + 1)) = ska b n (xa h) + 1 := by
  have t1 : (1 : Int32).toInt = 1 := rfl
  have l : ska b n (xa h) < n := skv_l (by rw [← L.2.2.2]; exact nr)
  have ni := xn_i I
  rw [t.2.1] at ni
  have z1 := (x1_in I).2
  have ai := xa_i L.1
  have e := L.2.2.1
  have ex : (h_i h5 11 2 + 1).toInt = (h_i h5 11 2).toInt + 1 := tx_add (by rw [t1]; omega) (by rw [t1]; omega)
  have I6 := y2 L.1 (x := h_i h5 11 2 + 1) ⟨by omega, by omega⟩
  refine ⟨I6, L.2.1.im (by decide +kernel), ?_⟩
  have k := xa_i I6
  rw [im_at] at k
  omega
theorem c_fl (d : Nat) {h : Hp_} (I : Iv h) : Ci (m_X8_fail (d + 0) 0 0) [.ref 11] h (fun r h' => r = 0 ∧ Iv h' ∧ Fr [11003] h h' ∧ h_i h' 11 3 = Int32.ofNat (xa h)) :=
  t_X8_fail d h I.1 _ ⟨rfl, y3 I _, (Fr.rf _ _).im (by decide +kernel), by rw [im_at]; exact (of_nat32 (x2_in I).1).symm⟩
theorem c_ex (d : Nat) {b : Nat → Int32} {n s : Nat} {h : Hp_} (I : Iv h) (t : Tx b n s h) (x : Int32) (hx : ¬ x = -1) : Ci (m_X8_expect (d + 1) 0 0) [.ref 11, .int x] h (fun r h' => Xr b n (exr b n x (xa h)) h r h') := by
  refine t_X8_expect d h I.1 x _ (Ci.mono (c_pk d I t) (fun r h1 L => ⟨L.1.1, fun er => ?_, fun nr => ?_⟩))
  · obtain ⟨I6, F6, a6⟩ := nxx I t L (by rw [er]; exact hx)
    refine ⟨I6, F6.more (by decide +kernel), Or.inl ⟨rfl, ?_, ?_, ?_⟩⟩
    · unfold exr
      rw [if_pos (by rw [← L.2.2.2]; exact er)]
    · unfold exr
      rw [if_pos (by rw [← L.2.2.2]; exact er), a6]
    · exact (F6.2 11 3 (by decide +kernel)).1
  · refine Ci.mono (c_fl d L.1) (fun r2 h2 k => ⟨k.2.1.1, Or.inl k.1, k.2.1, (L.2.1.more (by decide +kernel)).tr (k.2.2.1.more (by decide +kernel)), Or.inr ⟨k.1, ?_, ?_⟩⟩)
    · unfold exr
      rw [if_neg (by rw [← L.2.2.2]; exact nr)]
    · unfold exr
      rw [if_neg (by rw [← L.2.2.2]; exact nr), k.2.2.2, L.2.2.1]
theorem c_dgx (d : Nat) (h : Hp_) (x : Int32) : Ci (m_X8_isDigit (d + 0) 0 0) [.int x] h (fun r h' => h' = h ∧ ((r = 1 ∧ dgb x = true) ∨ (r = 0 ∧ ¬ dgb x = true))) :=
  t_X8_isDigit d h x _ ⟨fun z => ⟨rfl, Or.inr ⟨rfl, fun y => ((dg_eq x).mp y).1 z⟩⟩, fun z => ⟨fun y => ⟨rfl, Or.inr ⟨rfl, fun u => ((dg_eq x).mp u).2 y⟩⟩, fun y => ⟨rfl, Or.inl ⟨rfl, (dg_eq x).mpr ⟨z, y⟩⟩⟩⟩⟩
/-- a number within bounds -/
noncomputable def Nx (b : Nat → Int32) (n : Nat) (lo hi : Int32) (h : Hp_) (r : Int32) (h' : Hp_) : Prop := Iv h' ∧ Fr [11002, 11003] h h' ∧ (((nmr b n lo hi (xa h)).1 = true ∧ r = (nmr b n lo hi (xa h)).2.2 ∧ ska b n (xa h') = (nmr b n lo hi (xa h)).2.1 ∧ h_i h' 11 3 = h_i h 11 3) ∨ ((nmr b n lo hi (xa h)).1 = false ∧ r = -1 ∧ h_i h' 11 3 = Int32.ofNat (nmr b n lo hi (xa h)).2.1))
theorem c_rn (d : Nat) {b : Nat → Int32} {n s : Nat} {h : Hp_} (I : Iv h) (t : Tx b n s h) (lo hi : Int32) : Ci (m_X8_readNumber (d + 1) 0 0) [.ref 11, .int lo, .int hi] h (fun r h' => Nx b n lo hi h r h') := by
  have t1 : (1 : Int32).toInt = 1 := rfl
  have t4 : (4 : Int32).toInt = 4 := rfl
  have ni := xn_i I
  rw [t.2.1] at ni
  have z1 := (x1_in I).2
  have lp : dgb (skv b n (xa h)) = true → ∀ (k : Nat) (x3 x4 : Int32) (h2 : Hp_), x4.toInt + k = 4 ∧ k ≤ 4 → Iv h2 → Fr [11002, 11003] h h2 → h_i h2 11 3 = h_i h 11 3 → nml b n 4 0 (ska b n (xa h)) = nml b n k x3 (xa h2) → xa h2 + k = ska b n (xa h) + 4 → AW (m_X8_readNumber (d + 1) 0 0) 0 0 14 [(0, .ref 11), (1, .int lo), (2, .int hi), (3, .int x3), (4, .int x4), (5, .int 1)] [] h2 (kI (fun r h' => Nx b n lo hi h r h')) := by
    intro c0 k
    have l0 := dgb_l c0
    have fin : ∀ (k : Nat) (x3 : Int32) (h2 : Hp_), k ≤ 4 → Iv h2 → Fr [11002, 11003] h h2 → h_i h2 11 3 = h_i h 11 3 → nml b n 4 0 (ska b n (xa h)) = nml b n k x3 (xa h2) → xa h2 + k = ska b n (xa h) + 4 → ¬ (xa h2 < n ∧ dgb (b (xa h2)) = true) → ((lo ≤ x3 ∧ x3 ≤ hi) → Nx b n lo hi h x3 h2) ∧ (¬ (lo ≤ x3 ∧ x3 ≤ hi) → Nx b n lo hi h (-1) (h_im h2 11 3 ((h_i h2 11 2) - 1))) := fun k x3 h2 hk I2 F2 e3 e ek nn => by
      have e2 : nml b n k x3 (xa h2) = (true, xa h2, x3) := by
        cases k with
        | zero =>
          unfold nml
          exact if_neg nn
        | succ k =>
          unfold nml
          exact if_neg nn
      rw [e2] at e
      have k4 : ¬ k = 4 := fun y => by
        have : xa h2 = ska b n (xa h) := by omega
        rw [this] at nn
        exact nn l0
      refine ⟨fun c => ⟨I2, F2, Or.inl ?_⟩, fun c => ⟨y3 I2 _, F2.im (by decide +kernel), Or.inr ?_⟩⟩
      · unfold nmr
        rw [if_pos c0, e, if_pos rfl, if_pos c]
        exact ⟨rfl, rfl, rfl, e3⟩
      · unfold nmr
        rw [if_pos c0, e, if_pos rfl, if_neg c]
        refine ⟨rfl, rfl, ?_⟩
        rw [im_at]
        have ai := xa_i I2
        have b2 := x2_in I2
        refine Int32.toInt_inj.mp ?_
        rw [tx_sub (by rw [t1]; omega) (by rw [t1]; omega), t1, on_j (by show xa h2 - 1 ≤ _; omega)]
        show (h_i h2 11 2).toInt - 1 = ((xa h2 - 1 : Nat) : Int)
        omega
    induction k with
    | zero =>
      intro x3 x4 h2 hk I2 F2 e3 e ek
      have ez : h_i h2 11 1 = h_i h 11 1 := (F2.2 11 1 (by decide +kernel)).1
      have et : h_i h2 31 = b := (t.fr F2 (by decide +kernel)).1
      have ai := xa_i I2
      have p0 := (x2_in I2).1
      have e4 : x4 = 4 := Int32.toInt_inj.mp (by rw [t4]; omega)
      refine t_X8_readNumber_14 d h2 I2.1 lo hi x3 x4 1 _ ⟨fun y => absurd y (by decide), fun _ => ⟨fun z => ⟨fun _ => ?_, fun y => absurd y (by decide)⟩, fun z => ?_⟩⟩
      · refine fin 0 x3 h2 (by decide) I2 F2 e3 e ek (fun y => ?_)
        rw [ez] at z
        have z := q_le.mp z
        have := y.1
        omega
      · rw [ez] at z
        have z := q_nle z
        have v : vp_in (h_i h2 11 2) 160 := dp_in (lo := 0) (hi := 159) ⟨p0, by show _ ≤ (159 : Int); omega⟩ (by decide) (by decide)
        refine ⟨v, Ci.mono (c_dgx d h2 _) (fun r h3 q => ?_)⟩
        obtain ⟨eh, q⟩ := q
        subst eh
        refine ⟨I2.1, fun r0 => ⟨fun _ => ?_, fun y => absurd y (by decide)⟩, fun r1 => ⟨fun n4 => absurd e4 n4, fun _ => ?_⟩⟩
        · refine fin 0 x3 h3 (by decide) I2 F2 e3 e ek (fun y => ?_)
          rcases q with q | q
          · rw [r0] at q
            exact absurd q.1 (by decide)
          · rw [et] at q
            exact q.2 y.2
        · have dg : xa h3 < n ∧ dgb (b (xa h3)) = true := by
            refine ⟨by omega, ?_⟩
            rcases q with q | q
            · rw [← et]
              exact q.2
            · exact absurd q.1 r1
          have e2 : nml b n 0 x3 (xa h3) = (false, xa h3, x3) := by
            unfold nml
            exact if_pos dg
          rw [e2] at e
          refine ⟨y3 I2 _, F2.im (by decide +kernel), Or.inr ?_⟩
          unfold nmr
          rw [if_pos c0, e, if_neg (by simp)]
          exact ⟨rfl, rfl, by rw [im_at]; exact (of_nat32 p0).symm⟩
    | succ k ih =>
      intro x3 x4 h2 hk I2 F2 e3 e ek
      have ez : h_i h2 11 1 = h_i h 11 1 := (F2.2 11 1 (by decide +kernel)).1
      have et : h_i h2 31 = b := (t.fr F2 (by decide +kernel)).1
      have ai := xa_i I2
      have p0 := (x2_in I2).1
      refine t_X8_readNumber_14 d h2 I2.1 lo hi x3 x4 1 _ ⟨fun y => absurd y (by decide), fun _ => ⟨fun z => ⟨fun _ => ?_, fun y => absurd y (by decide)⟩, fun z => ?_⟩⟩
      · refine fin (k + 1) x3 h2 hk.2 I2 F2 e3 e ek (fun y => ?_)
        rw [ez] at z
        have z := q_le.mp z
        have := y.1
        omega
      · rw [ez] at z
        have z := q_nle z
        have v : vp_in (h_i h2 11 2) 160 := dp_in (lo := 0) (hi := 159) ⟨p0, by show _ ≤ (159 : Int); omega⟩ (by decide) (by decide)
        refine ⟨v, Ci.mono (c_dgx d h2 _) (fun r h3 q => ?_)⟩
        obtain ⟨eh, q⟩ := q
        subst eh
        refine ⟨I2.1, fun r0 => ⟨fun _ => ?_, fun y => absurd y (by decide)⟩, fun r1 => ⟨fun n4 => ⟨v, ?_⟩, fun y4 => ?_⟩⟩
        · refine fin (k + 1) x3 h3 hk.2 I2 F2 e3 e ek (fun y => ?_)
          rcases q with q | q
          · rw [r0] at q
            exact absurd q.1 (by decide)
          · rw [et] at q
            exact q.2 y.2
        · have dg : xa h3 < n ∧ dgb (b (xa h3)) = true := by
            refine ⟨by omega, ?_⟩
            rcases q with q | q
            · rw [← et]
              exact q.2
            · exact absurd q.1 r1
          have ex : (h_i h3 11 2 + 1).toInt = (h_i h3 11 2).toInt + 1 := tx_add (by rw [t1]; omega) (by rw [t1]; omega)
          have I3 := y2 I2 (x := h_i h3 11 2 + 1) ⟨by omega, by omega⟩
          have a3 : xa (h_im h3 11 2 (h_i h3 11 2 + 1)) = xa h3 + 1 := by
            have kk := xa_i I3
            rw [im_at] at kk
            omega
          have ex4 : (x4 + 1).toInt = x4.toInt + 1 := tx_add (by rw [t1]; omega) (by rw [t1]; omega)
          refine ih _ _ _ ⟨by omega, by omega⟩ I3 (F2.im (by decide +kernel)) (by rw [g_ne (by decide)]; exact e3) ?_ (by omega)
          rw [e, a3, et]
          show (if xa h3 < n ∧ dgb (b (xa h3)) = true then nml b n k (((x3 * 10) + b (xa h3)) - 48) (xa h3 + 1) else (true, xa h3, x3)) = _
          rw [if_pos dg]
        · rw [y4, t4] at hk
          omega
  refine t_X8_readNumber d h I.1 lo hi _ (Ci.mono (c_pk d I t) (fun r h1 L => ⟨L.1.1, Ci.mono (c_dgx d h1 r) (fun r6 h4 q => ?_)⟩))
  obtain ⟨eh, q⟩ := q
  subst eh
  have F1 : Fr [11002, 11003] h h4 := L.2.1.more (by decide +kernel)
  have e3 : h_i h4 11 3 = h_i h 11 3 := (L.2.1.2 11 3 (by decide +kernel)).1
  refine ⟨L.1.1, ?_⟩
  rcases q with q | q
  · rw [q.1]
    exact lp (by rw [← L.2.2.2]; exact q.2) 4 0 0 h4 ⟨by decide, by decide⟩ L.1 F1 e3 (by rw [L.2.2.1]) (by rw [L.2.2.1])
  · rw [q.1]
    have nd : ¬ dgb (skv b n (xa h)) = true := by rw [← L.2.2.2]; exact q.2
    refine t_X8_readNumber_14 d h4 L.1.1 lo hi 0 0 0 _ ⟨fun _ => ⟨fun y => absurd rfl y, fun _ => ⟨y3 L.1 _, F1.im (by decide +kernel), Or.inr ?_⟩⟩, fun y => absurd rfl y⟩
    unfold nmr
    rw [if_neg nd]
    refine ⟨rfl, rfl, ?_⟩
    rw [im_at]
    show _ = Int32.ofNat (ska b n (xa h))
    rw [← L.2.2.1]
    exact (of_nat32 (x2_in L.1).1).symm
/-! the class: letters looked up in a text -/
noncomputable def ixl (c : Int32) : List Int32 → Nat → Int32
  | [], _ => -1
  | y :: ys, k => if y = c then Int32.ofNat k else ixl c ys (k + 1)
noncomputable def ixq (i : Nat) (c : Int32) : Int32 := if ¬ c < 0 ∧ ¬ 255 < c then ixl (c.toInt8.toInt32) (tby i) 0 else -1
theorem tb_all : (List.range 4).all (fun i => (List.range 9).all (fun k => decide (k < tln i → (tby i).drop k = (tby i).getD k 0 :: (tby i).drop (k + 1)))) = true := by decide +kernel
theorem tb_e : (List.range 4).all (fun i => decide ((tby i).drop (tln i) = [] ∧ (Int32.ofNat (tln i) >>> ((0 : Int32) &&& 31)) = Int32.ofNat (tln i) ∧ (¬ (0 : Int32) < Int32.ofNat (tln i) → tby i = []))) = true := by decide +kernel
theorem tb_d {i k : Nat} (hi : i < 4) (hk : k < tln i) : (tby i).drop k = (tby i).getD k 0 :: (tby i).drop (k + 1) := by
  have l := tln_le hi
  exact of_decide_eq_true (List.all_eq_true.mp (List.all_eq_true.mp tb_all i (List.mem_range.mpr hi)) k (List.mem_range.mpr (by omega))) hk
theorem tb_q {i : Nat} (hi : i < 4) : (tby i).drop (tln i) = [] ∧ (Int32.ofNat (tln i) >>> ((0 : Int32) &&& 31)) = Int32.ofNat (tln i) ∧ (¬ (0 : Int32) < Int32.ofNat (tln i) → tby i = []) :=
  of_decide_eq_true (List.all_eq_true.mp tb_e i (List.mem_range.mpr hi))
theorem l_ixf (d i : Nat) (hi : i < 4) (h : Hp_) (c f b : Int32) : ∀ (N k : Nat), k + N = tln i →
    AW (m_J1_indexOfChar_4cfef (d + 0) 0 0) 0 0 7 [(0, .ref (2000 + i)), (1, .int c), (2, .int f), (3, .int (Int32.ofNat (tln i))), (4, .int b), (5, .int (Int32.ofNat k))] [] h (kI (fun r h' => r = ixl b ((tby i).drop k) k ∧ h' = h)) := by
  have l9 := tln_le hi
  have en : (Int32.ofNat (tln i)).toInt = (tln i : Int) := Int32.toInt_ofNat_of_lt (by omega)
  intro N
  induction N with
  | zero =>
    intro k e
    have ek : (Int32.ofNat k).toInt = (k : Int) := Int32.toInt_ofNat_of_lt (by omega)
    refine aw_iload d_J1_indexOfChar_4cfef_7 5 rfl ?_
    refine aw_iload_n (i := 3) rfl d_J1_indexOfChar_4cfef_9 3 rfl ?_
    refine aw_icmp_ge (tgt := 31) d_J1_indexOfChar_4cfef_10 rfl (fun _ => ?_) (fun z => ?_)
    · refine aw_iconst (v := -1) d_J1_indexOfChar_4cfef_31 ic_m1 ?_
      refine aw_iret rfl d_J1_indexOfChar_4cfef_32 ⟨Nat.le_refl _, Nat.le_refl _⟩ ⟨_, rfl, ?_, rfl⟩
      rw [show k = tln i by omega, (tb_q hi).1]
      rfl
    · have z := q_nle z
      omega
  | succ N ih =>
    intro k e
    have ek : (Int32.ofNat k).toInt = (k : Int) := Int32.toInt_ofNat_of_lt (by omega)
    have nk : (Int32.ofNat k).toNatClampNeg = k := by have := n_nat (x := Int32.ofNat k) (by omega); omega
    refine aw_iload d_J1_indexOfChar_4cfef_7 5 rfl ?_
    refine aw_iload_n (i := 3) rfl d_J1_indexOfChar_4cfef_9 3 rfl ?_
    refine aw_icmp_ge (tgt := 31) d_J1_indexOfChar_4cfef_10 rfl (fun z => ?_) (fun z => ?_)
    · have z := q_le.mp z
      omega
    · refine aw_aload_n (i := 0) rfl d_J1_indexOfChar_4cfef_13 0 rfl ?_
      refine aw_iload d_J1_indexOfChar_4cfef_14 5 rfl ?_
      refine aw_tb hi (vp_tln (by omega) (by omega)) d_J1_indexOfChar_4cfef_16 ?_
      rw [nk]
      refine aw_iload d_J1_indexOfChar_4cfef_17 4 rfl ?_
      refine aw_icmp_ne (tgt := 25) d_J1_indexOfChar_4cfef_19 rfl (fun ne => ?_) (fun eq => ?_)
      · have e1 : Int32.ofNat k + 1 = Int32.ofNat (k + 1) := by
          refine Int32.toInt_inj.mp ?_
          have o1 : (1 : Int32).toInt = 1 := rfl
          rw [tx_add (by rw [o1]; omega) (by rw [o1]; omega), o1, ek, Int32.toInt_ofNat_of_lt (by omega)]
          omega
        refine aw_iinc (v := Int32.ofNat k + 1) [(0, .ref (2000 + i)), (1, .int c), (2, .int f), (3, .int (Int32.ofNat (tln i))), (4, .int b), (5, .int (Int32.ofNat k + 1))] d_J1_indexOfChar_4cfef_25 5 rfl rfl (Nat.le_of_ble_eq_true rfl) rfl rfl ?_
        refine aw_goto (tgt := 7) d_J1_indexOfChar_4cfef_28 rfl ?_
        rw [e1, tb_d hi (show k < tln i by omega)]
        have ee : ixl b ((tby i).getD k 0 :: (tby i).drop (k + 1)) k = ixl b ((tby i).drop (k + 1)) (k + 1) := by
          show (if (tby i).getD k 0 = b then Int32.ofNat k else ixl b ((tby i).drop (k + 1)) (k + 1)) = _
          exact if_neg ne
        rw [ee]
        exact ih (k + 1) (by omega)
      · refine aw_iload d_J1_indexOfChar_4cfef_22 5 rfl ?_
        refine aw_iret rfl d_J1_indexOfChar_4cfef_24 ⟨Nat.le_refl _, Nat.le_refl _⟩ ⟨_, rfl, ?_, rfl⟩
        rw [tb_d hi (show k < tln i by omega)]
        show Int32.ofNat k = if (tby i).getD k 0 = b then Int32.ofNat k else ixl b ((tby i).drop (k + 1)) (k + 1)
        exact (if_pos eq).symm
theorem c_ixCf (d i : Nat) (hi : i < 4) (h : Hp_) (c : Int32) : Ci (m_J1_indexOfChar_4cfef (d + 0) 0 0) [.ref (2000 + i), .int c, .int 0, .int (Int32.ofNat (tln i))] h (fun r h' => r = ixl (c.toInt8.toInt32) (tby i) 0 ∧ h' = h) := by
  refine Ct.of (fun _ _ _ => trivial) rfl (Nat.le_of_ble_eq_true rfl) ?_
  show AW (m_J1_indexOfChar_4cfef (d + 0) 0 0) 0 0 0 [(0, .ref (2000 + i)), (1, .int c), (2, .int 0), (3, .int (Int32.ofNat (tln i)))] [] h (kI _)
  refine aw_iload_n (i := 1) rfl d_J1_indexOfChar_4cfef_0 1 rfl ?_
  refine aw_i2b d_J1_indexOfChar_4cfef_1 ?_
  refine aw_istore (i := 4) [(0, .ref (2000 + i)), (1, .int c), (2, .int 0), (3, .int (Int32.ofNat (tln i))), (4, .int (c.toInt8.toInt32))] d_J1_indexOfChar_4cfef_2 (Nat.le_of_ble_eq_true rfl) rfl rfl ?_
  refine aw_iload_n (i := 2) rfl d_J1_indexOfChar_4cfef_4 2 rfl ?_
  refine aw_istore (i := 5) [(0, .ref (2000 + i)), (1, .int c), (2, .int 0), (3, .int (Int32.ofNat (tln i))), (4, .int (c.toInt8.toInt32)), (5, .int 0)] d_J1_indexOfChar_4cfef_5 (Nat.le_of_ble_eq_true rfl) rfl rfl ?_
  exact l_ixf d i hi h c 0 _ (tln i) 0 (by omega)
theorem c_lenf (d i : Nat) (hi : i < 4) (h : Hp_) : Ci (m_J0_length_8abf5 (d + 1) 0 0) [.ref (1000 + i)] h (fun r h' => r = Int32.ofNat (tln i) ∧ h' = h) := by
  refine Ct.of (fun _ _ _ => trivial) rfl (Nat.le_of_ble_eq_true rfl) ?_
  show AW (m_J0_length_8abf5 (d + 1) 0 0) 0 0 0 [(0, .ref (1000 + i))] [] h (kI _)
  refine aw_aload_n (i := 0) rfl d_J0_length_8abf5_0 0 rfl ?_
  refine aw_tval hi tw_2711 d_J0_length_8abf5_1 ?_
  refine aw_tlen hi d_J0_length_8abf5_4 ?_
  refine aw_aload_n (i := 0) rfl d_J0_length_8abf5_5 0 rfl ?_
  refine aw_Ti [] [.int (Int32.ofNat (tln i))] hi d_J0_length_8abf5_6 rfl (cV_J0_coder_7d493 (d + 0) 0 0) tw_778 rfl (rr0 (Nat.le_of_ble_eq_true rfl) (Nat.le_of_ble_eq_true rfl)) (Nat.le_of_ble_eq_true rfl) xs0 (c_coder d i hi h) (fun r h1 kk => ?_)
  obtain ⟨e0, e⟩ := kk
  rw [e, e0]
  refine aw_ishr d_J0_length_8abf5_9 ?_
  exact aw_iret rfl d_J0_length_8abf5_10 ⟨Nat.le_refl _, Nat.le_refl _⟩ ⟨_, rfl, (tb_q hi).2.1, rfl⟩
theorem c_canf (d : Nat) (x : Int32) (h : Hp_) : Ci (m_J1_canEncode_9a6ad (d + 0) 0 0) [.int x] h (fun r h' => h' = h ∧ ((r = 1 ∧ (¬ x < 0 ∧ ¬ 255 < x)) ∨ (r = 0 ∧ ¬ (¬ x < 0 ∧ ¬ 255 < x)))) := by
  refine Ct.of (fun _ _ _ => trivial) rfl (Nat.le_of_ble_eq_true rfl) ?_
  show AW (m_J1_canEncode_9a6ad (d + 0) 0 0) 0 0 0 [(0, .int x)] [] h (kI _)
  have z : ¬ (¬ x < 0 ∧ ¬ 255 < x) → AW (m_J1_canEncode_9a6ad (d + 0) 0 0) 0 0 15 [(0, .int x)] [] h (kI (fun r h' => h' = h ∧ ((r = 1 ∧ (¬ x < 0 ∧ ¬ 255 < x)) ∨ (r = 0 ∧ ¬ (¬ x < 0 ∧ ¬ 255 < x))))) := fun n => by
    refine aw_iconst (v := 0) d_J1_canEncode_9a6ad_15 ic_0 ?_
    exact aw_zret rfl rfl d_J1_canEncode_9a6ad_16 ⟨Nat.le_refl _, Nat.le_refl _⟩ ⟨_, rfl, rfl, Or.inr ⟨rfl, n⟩⟩
  refine aw_iload_n (i := 0) rfl d_J1_canEncode_9a6ad_0 0 rfl ?_
  refine aw_if_lt (tgt := 15) d_J1_canEncode_9a6ad_1 rfl (fun c => z (fun y => y.1 c)) (fun c1 => ?_)
  refine aw_iload_n (i := 0) rfl d_J1_canEncode_9a6ad_4 0 rfl ?_
  refine aw_sipush (v := 255) d_J1_canEncode_9a6ad_5 (by decide) ?_
  refine aw_icmp_gt (tgt := 15) d_J1_canEncode_9a6ad_8 rfl (fun c => z (fun y => y.2 c)) (fun c2 => ?_)
  refine aw_iconst (v := 1) d_J1_canEncode_9a6ad_11 ic_1 ?_
  refine aw_goto (tgt := 16) d_J1_canEncode_9a6ad_12 rfl ?_
  exact aw_zret rfl rfl d_J1_canEncode_9a6ad_16 ⟨Nat.le_refl _, Nat.le_refl _⟩ ⟨_, rfl, rfl, Or.inl ⟨rfl, c1, c2⟩⟩
theorem c_ixLf (d i : Nat) (hi : i < 4) (h : Hp_) (c : Int32) : Ci (m_J1_indexOf_4cfef (d + 1) 0 0) [.ref (2000 + i), .int c, .int 0, .int (Int32.ofNat (tln i))] h (fun r h' => r = ixq i c ∧ h' = h) := by
  refine Ct.of (fun _ _ _ => trivial) rfl (Nat.le_of_ble_eq_true rfl) ?_
  show AW (m_J1_indexOf_4cfef (d + 1) 0 0) 0 0 0 [(0, .ref (2000 + i)), (1, .int c), (2, .int 0), (3, .int (Int32.ofNat (tln i)))] [] h (kI _)
  refine aw_iload_n (i := 1) rfl d_J1_indexOf_4cfef_0 1 rfl ?_
  refine aw_Si [.int c] [] d_J1_indexOf_4cfef_1 (cS_J1_canEncode_9a6ad (d + 0) 0 0) tw_785 rfl (rr0 (Nat.le_of_ble_eq_true rfl) (Nat.le_of_ble_eq_true rfl)) (Nat.le_of_ble_eq_true rfl) xs0 (c_canf d c h) (fun r h1 kk => ?_)
  obtain ⟨eh, kk⟩ := kk
  rw [eh]
  refine aw_if_ne (tgt := 9) d_J1_indexOf_4cfef_4 rfl (fun nr => ?_) (fun yr => ?_)
  · have cc : ¬ c < 0 ∧ ¬ 255 < c := by
      rcases kk with q | q
      · exact q.2
      · exact absurd q.1 nr
    have eq : ixq i c = ixl (c.toInt8.toInt32) (tby i) 0 := by
      unfold ixq
      exact if_pos cc
    rw [eq]
    refine aw_iload_n (i := 2) rfl d_J1_indexOf_4cfef_9 2 rfl ?_
    refine aw_iconst (v := 0) d_J1_indexOf_4cfef_10 ic_0 ?_
    refine aw_mmax d_J1_indexOf_4cfef_11 tw_788 (show 1 ≤ (d + 1) by omega) (Nat.le_trans (Nat.le_of_ble_eq_true rfl) (show 100 ≤ 100 * (d + 1) by omega)) ⟨Nat.le_refl _, Nat.le_refl _⟩ ?_
    rw [ite_self]
    refine aw_istore_n (i := 2) rfl [(0, .ref (2000 + i)), (1, .int c), (2, .int 0), (3, .int (Int32.ofNat (tln i)))] d_J1_indexOf_4cfef_14 (Nat.le_of_ble_eq_true rfl) rfl rfl ?_
    refine aw_iload_n (i := 3) rfl d_J1_indexOf_4cfef_15 3 rfl ?_
    refine aw_aload_n (i := 0) rfl d_J1_indexOf_4cfef_16 0 rfl ?_
    refine aw_tlen hi d_J1_indexOf_4cfef_17 ?_
    refine aw_mmin d_J1_indexOf_4cfef_18 tw_791 (show 1 ≤ (d + 1) by omega) (Nat.le_trans (Nat.le_of_ble_eq_true rfl) (show 100 ≤ 100 * (d + 1) by omega)) ⟨Nat.le_refl _, Nat.le_refl _⟩ ?_
    rw [ite_self]
    refine aw_istore_n (i := 3) rfl [(0, .ref (2000 + i)), (1, .int c), (2, .int 0), (3, .int (Int32.ofNat (tln i)))] d_J1_indexOf_4cfef_21 (Nat.le_of_ble_eq_true rfl) rfl rfl ?_
    refine aw_iload_n (i := 2) rfl d_J1_indexOf_4cfef_22 2 rfl ?_
    refine aw_iload_n (i := 3) rfl d_J1_indexOf_4cfef_23 3 rfl ?_
    refine aw_icmp_lt (tgt := 29) d_J1_indexOf_4cfef_24 rfl (fun _ => ?_) (fun nl => ?_)
    · refine aw_aload_n (i := 0) rfl d_J1_indexOf_4cfef_29 0 rfl ?_
      refine aw_iload_n (i := 1) rfl d_J1_indexOf_4cfef_30 1 rfl ?_
      refine aw_iload_n (i := 2) rfl d_J1_indexOf_4cfef_31 2 rfl ?_
      refine aw_iload_n (i := 3) rfl d_J1_indexOf_4cfef_32 3 rfl ?_
      refine aw_Si [.ref (2000 + i), .int c, .int 0, .int (Int32.ofNat (tln i))] [] d_J1_indexOf_4cfef_33 (cS_J1_indexOfChar_4cfef (d + 0) 0 0) tw_792 rfl (rr0 (Nat.le_of_ble_eq_true rfl) (Nat.le_of_ble_eq_true rfl)) (Nat.le_of_ble_eq_true rfl) xs0 (c_ixCf d i hi h c) (fun r h1 kk => ?_)
      exact aw_iret rfl d_J1_indexOf_4cfef_36 ⟨Nat.le_refl _, Nat.le_refl _⟩ ⟨_, rfl, kk⟩
    · refine aw_iconst (v := -1) d_J1_indexOf_4cfef_27 ic_m1 ?_
      refine aw_iret rfl d_J1_indexOf_4cfef_28 ⟨Nat.le_refl _, Nat.le_refl _⟩ ⟨_, rfl, ?_, rfl⟩
      rw [(tb_q hi).2.2 nl]
      rfl
  · refine aw_iconst (v := -1) d_J1_indexOf_4cfef_7 ic_m1 ?_
    refine aw_iret rfl d_J1_indexOf_4cfef_8 ⟨Nat.le_refl _, Nat.le_refl _⟩ ⟨_, rfl, ?_, rfl⟩
    unfold ixq
    rcases kk with q | q
    · rw [yr] at q
      exact absurd q.1 (by decide)
    · exact (if_neg q.2).symm
theorem c_ix2f (d i : Nat) (hi : i < 4) (h : Hp_) (c : Int32) : Ci (m_J0_indexOf_7cf53 (d + 2) 0 0) [.ref (1000 + i), .int c, .int 0] h (fun r h' => r = ixq i c ∧ h' = h) := by
  refine Ct.of (fun _ _ _ => trivial) rfl (Nat.le_of_ble_eq_true rfl) ?_
  show AW (m_J0_indexOf_7cf53 (d + 2) 0 0) 0 0 0 [(0, .ref (1000 + i)), (1, .int c), (2, .int 0)] [] h (kI _)
  refine aw_aload_n (i := 0) rfl d_J0_indexOf_7cf53_0 0 rfl ?_
  refine aw_Ti [] [] hi d_J0_indexOf_7cf53_1 rfl (cV_J0_isLatin1_aae02 (d + 0) 0 0) tw_768 rfl (rr0 (Nat.le_of_ble_eq_true rfl) (Nat.le_of_ble_eq_true rfl)) (Nat.le_of_ble_eq_true rfl) xs0 (c_isLatin1 d i hi h) (fun r h1 kk => ?_)
  obtain ⟨e1, e2⟩ := kk
  rw [e2, e1]
  refine aw_if_eq (tgt := 23) d_J0_indexOf_7cf53_4 rfl (fun c => absurd c (by decide)) (fun _ => ?_)
  refine aw_aload_n (i := 0) rfl d_J0_indexOf_7cf53_7 0 rfl ?_
  refine aw_tval hi tw_2711 d_J0_indexOf_7cf53_8 ?_
  refine aw_iload_n (i := 1) rfl d_J0_indexOf_7cf53_11 1 rfl ?_
  refine aw_iload_n (i := 2) rfl d_J0_indexOf_7cf53_12 2 rfl ?_
  refine aw_aload_n (i := 0) rfl d_J0_indexOf_7cf53_13 0 rfl ?_
  refine aw_Ti [] [.int 0, .int c, .ref (2000 + i)] hi d_J0_indexOf_7cf53_14 rfl (cV_J0_length_8abf5 (d + 1) 0 0) tw_774 rfl (rr0 (Nat.le_of_ble_eq_true rfl) (Nat.le_of_ble_eq_true rfl)) (Nat.le_of_ble_eq_true rfl) xs0 (c_lenf d i hi h) (fun t h1 kk => ?_)
  obtain ⟨e3, e4⟩ := kk
  rw [e4, e3]
  refine aw_Si [.ref (2000 + i), .int c, .int 0, .int (Int32.ofNat (tln i))] [] d_J0_indexOf_7cf53_17 (cS_J1_indexOf_4cfef (d + 1) 0 0) tw_782 rfl (rr0 (Nat.le_of_ble_eq_true rfl) (Nat.le_of_ble_eq_true rfl)) (Nat.le_of_ble_eq_true rfl) xs0 (c_ixLf d i hi h c) (fun r h1 kk => ?_)
  refine aw_goto (tgt := 36) d_J0_indexOf_7cf53_20 rfl ?_
  exact aw_iret rfl d_J0_indexOf_7cf53_36 ⟨Nat.le_refl _, Nat.le_refl _⟩ ⟨_, rfl, kk⟩
theorem c_ix1f (d i : Nat) (hi : i < 4) (h : Hp_) (c : Int32) : Ci (m_J0_indexOf_0f7a4 (d + 3) 0 0) [.ref (1000 + i), .int c] h (fun r h' => r = ixq i c ∧ h' = h) := by
  refine Ct.of (fun _ _ _ => trivial) rfl (Nat.le_of_ble_eq_true rfl) ?_
  show AW (m_J0_indexOf_0f7a4 (d + 3) 0 0) 0 0 0 [(0, .ref (1000 + i)), (1, .int c)] [] h (kI _)
  refine aw_aload_n (i := 0) rfl d_J0_indexOf_0f7a4_0 0 rfl ?_
  refine aw_iload_n (i := 1) rfl d_J0_indexOf_0f7a4_1 1 rfl ?_
  refine aw_iconst (v := 0) d_J0_indexOf_0f7a4_2 ic_0 ?_
  refine aw_Ti [.int c, .int 0] [] hi d_J0_indexOf_0f7a4_3 rfl (cV_J0_indexOf_7cf53 (d + 2) 0 0) tw_764 rfl (rr0 (Nat.le_of_ble_eq_true rfl) (Nat.le_of_ble_eq_true rfl)) (Nat.le_of_ble_eq_true rfl) xs0 (c_ix2f d i hi h c) (fun r h1 kk => ?_)
  exact aw_iret rfl d_J0_indexOf_0f7a4_6 ⟨Nat.le_refl _, Nat.le_refl _⟩ ⟨_, rfl, kk⟩
/-- a sign of the tape -/
noncomputable def xch (x : Int32) : Int32 := ((x : Int32).toUInt32 % 65536).toInt32
theorem ix_all : (List.range 256).all (fun j => decide (((0 ≤ ixq 1 (xch (Int32.ofNat j))) ↔ ltb 1 (Int32.ofNat j) = true) ∧ ((0 ≤ ixq 2 (xch (Int32.ofNat j))) ↔ ltb 2 (Int32.ofNat j) = true) ∧ ((0 ≤ ixq 3 (xch (Int32.ofNat j))) ↔ vdb (Int32.ofNat j) = true))) = true := by decide +kernel
theorem ix_bnd : (List.range 256).all (fun j => (List.range 4).all (fun i => decide (-1 ≤ (ixq i (xch (Int32.ofNat j))).toInt ∧ (ixq i (xch (Int32.ofNat j))).toInt ≤ 8))) = true := by decide +kernel
theorem ix_let {x : Int32} (b : 0 ≤ x.toInt ∧ x.toInt ≤ 255) : ((0 ≤ ixq 1 (xch x)) ↔ ltb 1 x = true) ∧ ((0 ≤ ixq 2 (xch x)) ↔ ltb 2 x = true) ∧ ((0 ≤ ixq 3 (xch x)) ↔ vdb x = true) := by
  have e := of_nat32 b.1
  have k := n_nat b.1
  rw [← e]
  exact of_decide_eq_true (List.all_eq_true.mp ix_all _ (List.mem_range.mpr (by omega)))
theorem ix_rng {x : Int32} (b : 0 ≤ x.toInt ∧ x.toInt ≤ 255) {i : Nat} (hi : i < 4) : -1 ≤ (ixq i (xch x)).toInt ∧ (ixq i (xch x)).toInt ≤ 8 := by
  have e := of_nat32 b.1
  have k := n_nat b.1
  rw [← e]
  exact of_decide_eq_true (List.all_eq_true.mp (List.all_eq_true.mp ix_bnd _ (List.mem_range.mpr (by omega))) i (List.mem_range.mpr hi))
theorem b31_in {h : Hp_} (I : Iv h) (k : Nat) : 0 ≤ (h_i h 31 k).toInt ∧ (h_i h 31 k).toInt ≤ 255 := by
  have rg := I.2.1 31 k
  rw [show tf 31 k = (0, 255) from rfl] at rg
  exact ⟨rg.1, rg.2⟩
theorem Pk.in {b : Nat → Int32} {n s : Nat} {h h' : Hp_} {r : Int32} (L : Pk b n h r h') (I : Iv h) (t : Tx b n s h) (nr : ¬ r = -1) : 0 ≤ r.toInt ∧ r.toInt ≤ 255 := by
  rw [L.2.2.2] at nr ⊢
  have l := skv_l nr
  unfold skv
  rw [if_pos l, ← t.1]
  exact b31_in I _
theorem Pk.tr {b : Nat → Int32} {n : Nat} {h h1 h2 : Hp_} {r r' : Int32} (L : Pk b n h r h1) (M : Pk b n h1 r' h2) : Pk b n h r h2 ∧ r' = r := by
  refine ⟨⟨M.1, L.2.1.tr M.2.1, by rw [M.2.2.1, L.2.2.1, ska_i], L.2.2.2⟩, ?_⟩
  rw [M.2.2.2, L.2.2.1, skv_i]
  exact L.2.2.2.symm
theorem c_em (d : Nat) {h : Hp_} (I : Iv h) (x1 x2 : Int32) (b1 : 0 ≤ x1.toInt ∧ x1.toInt ≤ 12) (b2 : -1 ≤ x2.toInt ∧ x2.toInt ≤ 9999) : Ci (m_X8_emit (d + 1) 0 0) [.ref 11, .int x1, .int x2] h (fun r h' => Iv h' ∧ Fr [11009, 33999] h h' ∧ -1 ≤ r.toInt ∧ r.toInt ≤ 163) := by
  refine Ct.mono (hc_X8_emit d [.int x2, .int x1, .ref 11] h ⟨⟨x2, rfl, ⟨b2.1, b2.2⟩, fun _ z => (nomatch z)⟩, ⟨x1, rfl, ⟨b1.1, b1.2⟩, fun _ z => (nomatch z)⟩, rfl, trivial⟩ I (fun _ z => (nomatch z))) (fun v h' k => ?_)
  obtain ⟨k1, k2, _, w, ew, r, er, rb, _⟩ := k
  subst er
  exact ⟨r, ew, k1, k2, rb.1, rb.2⟩
theorem Fxq.b {b : Nat → Int32} {n : Nat} {T : Bool × Nat} {h0 h1 : Hp_} {r : Int32} {h : Hp_} (F : Fxq b n T h0 r h) (e : h_i h0 11 3 = h_i h1 11 3) : Fxq b n T h1 r h := by
  rcases F with F | F
  · exact Or.inl ⟨F.1, F.2.1, F.2.2.1, F.2.2.2.trans e⟩
  · exact Or.inr F
theorem nmr_b {b : Nat → Int32} {n a : Nat} {lo hi : Int32} (h : (nmr b n lo hi a).1 = true) : lo ≤ (nmr b n lo hi a).2.2 ∧ (nmr b n lo hi a).2.2 ≤ hi := by
  unfold nmr at h ⊢
  by_cases c : dgb (skv b n a) = true
  · rw [if_pos c] at h ⊢
    by_cases d : (nml b n 4 0 (ska b n a)).1 = true
    · rw [if_pos d] at h ⊢
      by_cases e : lo ≤ (nml b n 4 0 (ska b n a)).2.2 ∧ (nml b n 4 0 (ska b n a)).2.2 ≤ hi
      · rw [if_pos e]
        exact e
      · rw [if_neg e] at h
        exact absurd h (by simp)
    · rw [if_neg d] at h
      exact absurd h (by simp)
  · rw [if_neg c] at h
    exact absurd h (by simp)
/-! the class: sums and conditions, by what stands on the tape -/
noncomputable def Rx (b : Nat → Int32) (n s : Nat) (S : Rcg) (C : Nat → Hp_ → (Int32 → Hp_ → Prop) → Prop) : Prop := ∀ (d : Nat) (h : Hp_), Iv h → Tx b n s h → C d h (fun r h' => Xr b n (S (xa h)) h r h')
theorem Xr.t {b : Nat → Int32} {n s : Nat} {T : Bool × Nat} {h h' : Hp_} {r : Int32} (X : Xr b n T h r h') (t : Tx b n s h) : Tx b n s h' := t.fr X.2.1 (by decide +kernel)
theorem fw3 {h h' : Hp_} {ws : List Nat} (f : Fr ws h h') (o : inw ws 11 3 = false) : h_i h' 11 3 = h_i h 11 3 := (f.2 11 3 o).1
theorem c_flx {b : Nat → Int32} {n : Nat} (d : Nat) {h h4 : Hp_} {r3 : Int32} (L : Pk b n h r3 h4) {T : Bool × Nat} (e : T = (false, ska b n (xa h))) : Ci (m_X8_fail (d + 0) 0 0) [.ref 11] h4 (fun r h' => Wf h' ∧ ((r = 0 ∨ r = 1) ∧ Xr b n T h r h')) := by
  refine Ci.mono (c_fl d L.1) (fun r2 h2 k => ⟨k.2.1.1, Or.inl k.1, k.2.1, (L.2.1.more (by decide +kernel)).tr (k.2.2.1.more (by decide +kernel)), Or.inr ⟨k.1, ?_, ?_⟩⟩)
  · rw [e]
  · rw [e, k.2.2.2, L.2.2.1]
theorem c_ratom {b : Nat → Int32} {n s : Nat} (hs : s = 1 ∨ s = 2) (e : Nat) (x1 : Int32) (z : Bool) (f : Rcg) (hz : z = true ↔ ¬ x1 < 6) (B : x1 < 6 → Rx b n s f (fun d h K => Ci (m_X8_readSum (d + e + 53) 0 0) [.ref 11, .int (x1 + 1)] h K)) : Rx b n s (atm b n (ltb s) z f) (fun d h K => Ci (m_X8_readAtom (d + e + 61) 0 0) [.ref 11, .int x1] h K) := by
  intro d h I t
  have s4 : s < 4 := by omega
  refine t_X8_readAtom (d + e) h I.1 x1 _ (Ci.mono (c_pk (d + e) I t) (fun r3 h1 L => ⟨L.1.1, Ci.mono (c_dgx (d + e) h1 r3) (fun r6 h4 q => ?_)⟩))
  obtain ⟨eh, q⟩ := q
  subst eh
  have t4 : Tx b n s h4 := t.fr L.2.1 (by decide +kernel)
  have F4 : Fr wzx h h4 := L.2.1.more (by decide +kernel)
  have e3 : h_i h4 11 3 = h_i h 11 3 := fw3 L.2.1 (by decide +kernel)
  refine ⟨L.1.1, fun r0 => ?_, fun r1 => ?_⟩
  · have nd : ¬ dgb (skv b n (xa h)) = true := by
      rw [← L.2.2.2]
      rcases q with q | q
      · rw [r0] at q
        exact absurd q.1 (by decide)
      · exact q.2
    refine ⟨fun n91 => ⟨fun nm => ?_, fun em => c_flx (d + e) L ?_⟩, fun e91 => ⟨fun lt => ?_, fun nlt => c_flx (d + e) L ?_⟩⟩
    · have bb := L.in I t nm
      have il := ix_let bb
      have ir := ix_rng bb s4
      have lt : (0 ≤ ixq s (xch r3)) ↔ ltb s r3 = true := by
        rcases hs with u | u <;> subst u
        · exact il.1
        · exact il.2.1
      have ea : atm b n (ltb s) z f (xa h) = onr b n (ltb s) (xa h) := by
        unfold atm
        rw [if_neg nd, if_neg (by rw [← L.2.2.2]; exact n91)]
      refine ⟨s, s4, t4.2.2, Ci.mono (c_ix1f (d + e) s s4 h4 (xch r3)) (fun r15 h13 k => ?_)⟩
      obtain ⟨er, eh⟩ := k
      subst eh
      subst er
      refine ⟨L.1.1, fun p => ?_, fun np => c_flx (d + e) L ?_⟩
      · obtain ⟨I6, F6, a6⟩ := nxx I t L nm
        have G : Fxq b n (atm b n (ltb s) z f (xa h)) h 1 (h_im h13 11 2 ((h_i h13 11 2) + 1)) := by
          rw [ea]
          unfold onr
          rw [if_pos (by rw [← L.2.2.2]; exact lt.mp p)]
          exact Or.inl ⟨rfl, rfl, by rw [a6], fw3 F6 (by decide +kernel)⟩
        exact Ci.mono (c_em (d + e) I6 1 _ (by decide) ⟨ir.1, by omega⟩) (fun r19 h17 k => ⟨k.1.1, k.1, (F6.more (by decide +kernel)).tr (k.2.1.more (by decide +kernel)), G.mv k.2.1 (by decide +kernel)⟩)
      · rw [ea]
        unfold onr
        exact if_neg (by rw [← L.2.2.2]; exact fun y => np (lt.mpr y))
    · unfold atm
      rw [if_neg nd, if_neg (by rw [← L.2.2.2]; exact n91)]
      unfold onr
      refine if_neg ?_
      rw [← L.2.2.2, em]
      rcases hs with u | u <;> subst u <;> decide
    · have ea : atm b n (ltb s) z f (xa h) = sqr f (exr b n 93) (ska b n (xa h) + 1) := by
        unfold atm
        rw [if_neg nd, if_pos (by rw [← L.2.2.2]; exact e91), if_neg (fun y => hz.mp y lt)]
      obtain ⟨I6, F6, a6⟩ := nxx I t L (by rw [e91]; decide)
      refine Ci.mono (B lt d _ I6 (t.fr F6 (by decide +kernel))) (fun r32 h30 X => ?_)
      have G := X.2.2
      rw [a6] at G
      have g3 := fw3 F6 (by decide +kernel)
      have FX : Fr wzx h h30 := (F6.more (by decide +kernel)).tr X.2.1
      have t30 : Tx b n s h30 := t.fr FX (by decide +kernel)
      refine ⟨X.1.1, fun y0 => ⟨X.1, FX, ?_⟩, fun y1 => Ci.mono (c_ex (d + e) X.1 t30 93 (by decide)) (fun r36 h34 Y => ⟨Y.1.1, fun w0 => ⟨Y.1, FX.tr Y.2.1, ?_⟩, fun w1 => ⟨Y.1, FX.tr Y.2.1, ?_⟩⟩)⟩
      · rw [ea]
        exact (sqxn (g := exr b n 93) G y0).b g3
      · rw [ea]
        exact ((sqx2 exr_c G y1 Y.2.2).n w0).b g3
      · rw [ea]
        exact ((sqx2 exr_c G y1 Y.2.2).y w1).b g3
    · unfold atm
      rw [if_neg nd, if_pos (by rw [← L.2.2.2]; exact e91), if_pos (hz.mpr nlt)]
  · have yd : dgb (skv b n (xa h)) = true := by
      rw [← L.2.2.2]
      rcases q with q | q
      · exact q.2
      · exact absurd q.1 r1
    have ea : atm b n (ltb s) z f (xa h) = nm0 b n (xa h) := by
      unfold atm
      rw [if_pos yd]
    have n0 := nmr_0 (b := b) (n := n) (a := xa h4)
    have nc : nm0 b n (xa h4) = nm0 b n (xa h) := by rw [L.2.2.1, nm0_c]
    rw [nc] at n0
    refine Ci.mono (c_rn (d + e) L.1 t4 0 9999) (fun r44 h42 N => ?_)
    have bd : -1 ≤ r44.toInt ∧ r44.toInt ≤ 9999 := by
      rcases N.2.2 with N | N
      · have v := nmr_b N.1
        rw [← N.2.1] at v
        have v0 := q_le.mp v.1
        have v1 := q_le.mp v.2
        have o0 : (0 : Int32).toInt = 0 := rfl
        have o9 : (9999 : Int32).toInt = 9999 := rfl
        omega
      · rw [N.2.1]
        decide
    have FX : Fr wzx h h42 := F4.tr (N.2.1.more (by decide +kernel))
    refine ⟨N.1.1, Ci.mono (c_em (d + e) N.1 0 r44 (by decide) bd) (fun r47 h45 k => ⟨k.1.1, fun em => ⟨k.1, FX.tr (k.2.1.more (by decide +kernel)), ?_⟩, fun nm => ⟨k.1, FX.tr (k.2.1.more (by decide +kernel)), ?_⟩⟩)⟩
    · refine Fxq.mv ?_ k.2.1 (by decide +kernel)
      rw [ea]
      rcases N.2.2 with N | N
      · have v := nmr_b N.1
        rw [← N.2.1, em] at v
        exact absurd v.1 (by decide)
      · exact Or.inr ⟨rfl, by rw [← n0.1]; exact N.1, by rw [← n0.2]; exact N.2.2⟩
    · refine Fxq.mv ?_ k.2.1 (by decide +kernel)
      rw [ea]
      rcases N.2.2 with N | N
      · exact Or.inl ⟨rfl, by rw [← n0.1]; exact N.1, by rw [← n0.2]; exact N.2.2.1, N.2.2.2.trans e3⟩
      · exact absurd N.2.1 nm
theorem x160 {x3 : Int32} {k : Nat} (e : x3.toInt + k = 160) : (k = 0 → 160 ≤ x3) ∧ (k ≠ 0 → ¬ 160 ≤ x3) := by
  have o : (160 : Int32).toInt = 160 := rfl
  refine ⟨fun z => q_le.mpr (by rw [o]; omega), fun z y => ?_⟩
  have y := q_le.mp y
  omega
theorem x161 {x3 : Int32} {k : Nat} (e : x3.toInt + (k + 1 : Nat) = 160) : (x3 + 1).toInt + k = 160 := by
  have o1 : (1 : Int32).toInt = 1 := rfl
  have b := Int32.le_toInt x3
  have b : -2147483648 ≤ x3.toInt := b
  rw [tx_add (by rw [o1]; omega) (by rw [o1]; omega), o1]
  omega
theorem c_rterm {b : Nat → Int32} {n s : Nat} (e : Nat) (x1 : Int32) (f : Rcg) (A : Rx b n s f (fun d h K => Ci (m_X8_readAtom (d + e + 51) 0 0) [.ref 11, .int x1] h K)) : Rx b n s (trm b n f) (fun d h K => Ci (m_X8_readTerm (d + e + 52) 0 0) [.ref 11, .int x1] h K) := by
  intro d h I t
  have lp : ∀ (k : Nat) (x2 x3 : Int32) (h2 : Hp_), x3.toInt + k = 160 → Iv h2 → Fr wzx h h2 → Sx b n (trm b n f (xa h)) (lpr b n (isq 42) f k) h x2 h2 → AW (m_X8_readTerm (d + e + 52) 0 0) 0 0 8 [(0, .ref 11), (1, .int x1), (2, .int x2), (3, .int x3)] [] h2 (kI (fun r h' => Xr b n (trm b n f (xa h)) h r h')) := by
    intro k
    induction k with
    | zero =>
      intro x2 x3 h2 m I2 F2 S
      exact t_X8_readTerm_8 (d + e) h2 I2.1 x1 x2 x3 _ ⟨fun _ => ⟨S.z, I2, F2, lx0 S⟩, fun z => absurd ((x160 m).1 rfl) z⟩
    | succ k ih =>
      intro x2 x3 h2 m I2 F2 S
      have t2 : Tx b n s h2 := t.fr F2 (by decide +kernel)
      refine t_X8_readTerm_8 (d + e) h2 I2.1 x1 x2 x3 _ ⟨fun z => absurd z ((x160 m).2 (by omega)), fun _ => ⟨fun y0 => ⟨S.z, I2, F2, S.n y0⟩, fun y1 => Ci.mono (c_pk (d + e) I2 t2) (fun r h5 L => ⟨L.1.1, fun nr => ⟨S.z, L.1, F2.tr (L.2.1.more (by decide +kernel)), lxx S y1 L (decide_eq_false nr)⟩, fun er => ?_⟩)⟩⟩
      obtain ⟨I6, F6, a6⟩ := nxx I2 t2 L (by rw [er]; decide)
      refine Ci.mono (A d _ I6 (t2.fr F6 (by decide +kernel))) (fun r15 h13 X => ⟨X.1.1, Ci.mono (c_em (d + e) X.1 7 0 (by decide) (by decide)) (fun r18 h16 k2 => ⟨k2.1.1, ?_⟩)⟩)
      have G := X.2.2
      rw [a6] at G
      exact ih r15 (x3 + 1) h16 (x161 m) k2.1 ((F2.tr ((F6.more (by decide +kernel)).tr X.2.1)).tr (k2.2.1.more (by decide +kernel))) ((lxs S y1 L.2.2.2 (decide_eq_true er) (fw3 F6 (by decide +kernel)) G).mv k2.2.1 (by decide +kernel))
  exact t_X8_readTerm (d + e) h I.1 x1 _ (Ci.mono (A d h I t) (fun r3 h1 X => ⟨X.1.1, lp 160 r3 0 h1 (by decide) X.1 X.2.1 (sqx (f := f) (lpr_c 160) X.2.2)⟩))
theorem c_rsum {b : Nat → Int32} {n s : Nat} (e : Nat) (x1 : Int32) (f : Rcg) (A : Rx b n s (trm b n f) (fun d h K => Ci (m_X8_readTerm (d + e + 52) 0 0) [.ref 11, .int x1] h K)) : Rx b n s (smm b n f) (fun d h K => Ci (m_X8_readSum (d + e + 53) 0 0) [.ref 11, .int x1] h K) := by
  intro d h I t
  have lp : ∀ (k : Nat) (x2 x3 : Int32) (h2 : Hp_), x3.toInt + k = 160 → Iv h2 → Fr wzx h h2 → Sx b n (smm b n f (xa h)) (lpr b n pmb (trm b n f) k) h x2 h2 → AW (m_X8_readSum (d + e + 53) 0 0) 0 0 8 [(0, .ref 11), (1, .int x1), (2, .int x2), (3, .int x3)] [] h2 (kI (fun r h' => Xr b n (smm b n f (xa h)) h r h')) := by
    intro k
    induction k with
    | zero =>
      intro x2 x3 h2 m I2 F2 S
      exact t_X8_readSum_8 (d + e) h2 I2.1 x1 x2 x3 _ ⟨fun _ => ⟨S.z, I2, F2, lx0 S⟩, fun z => absurd ((x160 m).1 rfl) z⟩
    | succ k ih =>
      intro x2 x3 h2 m I2 F2 S
      have t2 : Tx b n s h2 := t.fr F2 (by decide +kernel)
      have go : ¬ x2 = 0 → ∀ (o : Int32) (r : Int32) (h5 : Hp_), 0 ≤ o.toInt ∧ o.toInt ≤ 12 → Pk b n h2 r h5 → pmb r = true → ¬ r = -1 → Ci (m_X8_readTerm (d + e + 52) 0 0) [.ref 11, .int x1] (h_im h5 11 2 ((h_i h5 11 2) + 1)) (fun r18 h16 => Wf h16 ∧ (Ci (m_X8_emit (d + e + 1) 0 0) [.ref 11, .int o, .int 0] h16 (fun _ h19 => Wf h19 ∧ (AW (m_X8_readSum (d + e + 53) 0 0) 0 0 8 [(0, .ref 11), (1, .int x1), (2, .int r18), (3, .int (x3 + 1))] [] h19 (kI (fun r h' => Xr b n (smm b n f (xa h)) h r h')))))) := fun y1 o r h5 ob L pr nr => by
        obtain ⟨I6, F6, a6⟩ := nxx I2 t2 L nr
        refine Ci.mono (A d _ I6 (t2.fr F6 (by decide +kernel))) (fun r15 h13 X => ⟨X.1.1, Ci.mono (c_em (d + e) X.1 o 0 ob (by decide)) (fun r18 h16 k2 => ⟨k2.1.1, ?_⟩)⟩)
        have G := X.2.2
        rw [a6] at G
        exact ih r15 (x3 + 1) h16 (x161 m) k2.1 ((F2.tr ((F6.more (by decide +kernel)).tr X.2.1)).tr (k2.2.1.more (by decide +kernel))) ((lxs S y1 L.2.2.2 pr (fw3 F6 (by decide +kernel)) G).mv k2.2.1 (by decide +kernel))
      refine t_X8_readSum_8 (d + e) h2 I2.1 x1 x2 x3 _ ⟨fun z => absurd z ((x160 m).2 (by omega)), fun _ => ⟨fun y0 => ⟨S.z, I2, F2, S.n y0⟩, fun y1 => Ci.mono (c_pk (d + e) I2 t2) (fun r h5 L => ⟨L.1.1, fun e43 => ?_, fun n43 => ?_⟩)⟩⟩
      · refine Ci.mono (c_pk (d + e) L.1 (t2.fr L.2.1 (by decide +kernel))) (fun r14 h12 M => ?_)
        have LM := L.tr M
        exact ⟨M.1.1, fun ne => absurd (LM.2.trans e43) ne, fun _ => go y1 5 r h12 (by decide) LM.1 (by rw [e43]; decide) (by rw [e43]; decide)⟩
      · refine Ci.mono (c_pk (d + e) L.1 (t2.fr L.2.1 (by decide +kernel))) (fun r14 h12 M => ?_)
        have LM := L.tr M
        refine ⟨M.1.1, fun n45 => ⟨S.z, M.1, F2.tr (LM.1.2.1.more (by decide +kernel)), lxx S y1 LM.1 (decide_eq_false (fun y => y.elim n43 (fun z => n45 (LM.2.trans z))))⟩, fun e45 => ?_⟩
        refine Ci.mono (c_pk (d + e) M.1 (t2.fr LM.1.2.1 (by decide +kernel))) (fun r35 h33 N => ?_)
        have LN := LM.1.tr N
        have e45' : r = 45 := LM.2.symm.trans e45
        exact ⟨N.1.1, fun _ => go y1 6 r h33 (by decide) LN.1 (by rw [e45']; decide) (by rw [e45']; decide), fun y => absurd (LN.2.symm.trans y) n43⟩
  exact t_X8_readSum (d + e) h I.1 x1 _ (Ci.mono (A d h I t) (fun r3 h1 X => ⟨X.1.1, lp 160 r3 0 h1 (by decide) X.1 X.2.1 (sqx (f := trm b n f) (lpr_c 160) X.2.2)⟩))
theorem ltb_m {s : Nat} (hs : s = 1 ∨ s = 2) : ltb s (-1) = false := by
  rcases hs with u | u <;> subst u <;> decide
/-- sums at every depth -/
theorem x_sums {b : Nat → Int32} {n s : Nat} (hs : s = 1 ∨ s = 2) : ∀ (r : Nat), r ≤ 6 → Rx b n s (sms b n (ltb s) r) (fun d h K => Ci (m_X8_readSum (d + 10 * (r + 1) + 53) 0 0) [.ref 11, .int (Int32.ofNat (6 - r))] h K)
  | 0, _ => fun d h I t => c_rsum 10 (Int32.ofNat (6 - 0)) (atm b n (ltb s) true (fun a => (false, a))) (c_rterm 10 (Int32.ofNat (6 - 0)) (atm b n (ltb s) true (fun a => (false, a))) (fun d h I t => by
      have q : Ci (m_X8_readAtom (d + 0 + 61) 0 0) [.ref 11, .int (Int32.ofNat (6 - 0))] h (fun r h' => Xr b n (atm b n (ltb s) true (fun a => (false, a)) (xa h)) h r h') := c_ratom (b := b) (n := n) hs 0 (Int32.ofNat (6 - 0)) true (fun a => (false, a)) (by decide) (fun y => absurd y (by decide)) d h I t
      rw [show d + 0 + 61 = d + 10 + 51 by omega] at q
      exact q)) d h I t
  | r + 1, hr => fun d h I t => by
    have o : (Int32.ofNat (6 - (r + 1))).toInt = ((6 - (r + 1) : Nat) : Int) := on_j (by omega)
    have o6 : (6 : Int32).toInt = 6 := rfl
    have o1 : (1 : Int32).toInt = 1 := rfl
    have ex : Int32.ofNat (6 - (r + 1)) + 1 = Int32.ofNat (6 - r) := by
      refine Int32.toInt_inj.mp ?_
      rw [tx_add (by rw [o1]; omega) (by rw [o1]; omega), o1, o, on_j (by omega)]
      omega
    have lt : Int32.ofNat (6 - (r + 1)) < 6 := q_lt.mpr (by rw [o, o6]; omega)
    have B : Rx b n s (sms b n (ltb s) r) (fun d h K => Ci (m_X8_readSum (d + 10 * (r + 1) + 53) 0 0) [.ref 11, .int (Int32.ofNat (6 - (r + 1)) + 1)] h K) := by
      rw [ex]
      exact x_sums hs r (by omega)
    have k := c_rsum (10 * (r + 1 + 1)) (Int32.ofNat (6 - (r + 1))) (atm b n (ltb s) false (sms b n (ltb s) r)) (c_rterm (10 * (r + 1 + 1)) (Int32.ofNat (6 - (r + 1))) (atm b n (ltb s) false (sms b n (ltb s) r)) (fun d h I t => by
      have q : Ci (m_X8_readAtom (d + 10 * (r + 1) + 61) 0 0) [.ref 11, .int (Int32.ofNat (6 - (r + 1)))] h (fun q h' => Xr b n (atm b n (ltb s) false (sms b n (ltb s) r) (xa h)) h q h') := c_ratom hs (10 * (r + 1)) (Int32.ofNat (6 - (r + 1))) false _ ⟨fun y => absurd y (by decide), fun y => absurd lt y⟩ (fun _ => B) d h I t
      rw [show d + 10 * (r + 1) + 61 = d + 10 * (r + 1 + 1) + 51 by omega] at q
      exact q)) d h I t
    exact k
theorem c_cpx (d : Nat) (h : Hp_) (x : Int32) : Ci (m_X8_isComparison (d + 0) 0 0) [.int x] h (fun r h' => h' = h ∧ ((¬ r = 0 ∧ sgb x = true ∧ ¬ x = -1) ∨ (r = 0 ∧ sgb x = false))) :=
  t_X8_isComparison d h x _ ⟨fun e => ⟨rfl, Or.inl ⟨by decide, by rw [e]; decide, by rw [e]; decide⟩⟩, fun n1 => ⟨fun e => ⟨rfl, Or.inl ⟨by decide, by rw [e]; decide, by rw [e]; decide⟩⟩, fun n2 => ⟨fun n3 => ⟨rfl, Or.inr ⟨rfl, decide_eq_false (fun z => z.elim n1 (fun y => y.elim n2 n3))⟩⟩, fun e => ⟨rfl, Or.inl ⟨by decide, by rw [e]; decide, by rw [e]; decide⟩⟩⟩⟩⟩
theorem c_rcmp {b : Nat → Int32} {n s : Nat} (e : Nat) (x1 : Int32) (f : Rcg) (A : Rx b n s f (fun d h K => Ci (m_X8_readSum (d + e + 53) 0 0) [.ref 11, .int x1] h K)) : Rx b n s (cmq b n f) (fun d h K => Ci (m_X8_readComparison (d + e + 54) 0 0) [.ref 11, .int x1] h K) := by
  intro d h I t
  refine t_X8_readComparison (d + e) h I.1 x1 _ (Ci.mono (c_pk (d + e) I t) (fun r3 h1 L => ⟨L.1.1, Ci.mono (c_cpx (d + e) h1 r3) (fun r6 h4 q => ?_)⟩))
  obtain ⟨eh, q⟩ := q
  subst eh
  refine ⟨L.1.1, fun r1 => ?_, fun r0 => c_flx (d + e) L ?_⟩
  · have q : sgb r3 = true ∧ ¬ r3 = -1 := by
      rcases q with q | q
      · exact q.2
      · exact absurd q.1 r1
    obtain ⟨I6, F6, a6⟩ := nxx I t L q.2
    refine Ci.mono (A d _ I6 (t.fr F6 (by decide +kernel))) (fun r10 h8 X => ?_)
    have G := X.2.2
    rw [a6] at G
    have ea : cmq b n f (xa h) = f (ska b n (xa h) + 1) := by
      unfold cmq
      exact if_pos (by rw [← L.2.2.2]; exact q.1)
    rw [← ea] at G
    have G := G.b (fw3 F6 (by decide +kernel))
    have FX : Fr wzx h h8 := (F6.more (by decide +kernel)).tr X.2.1
    have go : ∀ o : Int32, 0 ≤ o.toInt ∧ o.toInt ≤ 12 → Ci (m_X8_emit (d + e + 1) 0 0) [.ref 11, .int o, .int 0] h8 (fun _ h13 => Wf h13 ∧ ((r10 = 0 ∨ r10 = 1) ∧ (Xr b n (cmq b n f (xa h)) h r10 h13))) := fun o ob => Ci.mono (c_em (d + e) X.1 o 0 ob (by decide)) (fun _ h13 k => ⟨k.1.1, G.z, k.1, FX.tr (k.2.1.more (by decide +kernel)), G.mv k.2.1 (by decide +kernel)⟩)
    exact ⟨X.1.1, fun _ => ⟨fun _ => go 10 (by decide), fun _ => go 9 (by decide)⟩, fun _ => go 8 (by decide)⟩
  · unfold cmq
    refine if_neg ?_
    rw [← L.2.2.2]
    rcases q with q | q
    · exact absurd r0 q.1
    · rw [q.2]
      decide
theorem c_rmu {b : Nat → Int32} {n s : Nat} (e : Nat) (x1 : Int32) (u : Rcg) (A : Rx b n s u (fun d h K => Ci (m_X8_readUnit (d + e + 55) 0 0) [.ref 11, .int x1] h K)) : Rx b n s (mun b n u) (fun d h K => Ci (m_X8_readMoreUnits (d + e + 56) 0 0) [.ref 11, .int x1] h K) := by
  intro d h I t
  have lp : ∀ (k : Nat) (x2 x3 : Int32) (h2 : Hp_), x3.toInt + k = 160 → Iv h2 → Fr wzx h h2 → Sx b n (mun b n u (xa h)) (lpr b n (isq 38) u k) h x2 h2 → AW (m_X8_readMoreUnits (d + e + 56) 0 0) 0 0 4 [(0, .ref 11), (1, .int x1), (2, .int x2), (3, .int x3)] [] h2 (kI (fun r h' => Xr b n (mun b n u (xa h)) h r h')) := by
    intro k
    induction k with
    | zero =>
      intro x2 x3 h2 m I2 F2 S
      exact t_X8_readMoreUnits_4 (d + e) h2 I2.1 x1 x2 x3 _ ⟨fun _ => ⟨S.z, I2, F2, lx0 S⟩, fun z => absurd ((x160 m).1 rfl) z⟩
    | succ k ih =>
      intro x2 x3 h2 m I2 F2 S
      have t2 : Tx b n s h2 := t.fr F2 (by decide +kernel)
      refine t_X8_readMoreUnits_4 (d + e) h2 I2.1 x1 x2 x3 _ ⟨fun z => absurd z ((x160 m).2 (by omega)), fun _ => ⟨fun y0 => ⟨S.z, I2, F2, S.n y0⟩, fun y1 => Ci.mono (c_pk (d + e) I2 t2) (fun r h5 L => ⟨L.1.1, fun nr => ⟨S.z, L.1, F2.tr (L.2.1.more (by decide +kernel)), lxx S y1 L (decide_eq_false nr)⟩, fun er => ?_⟩)⟩⟩
      obtain ⟨I6, F6, a6⟩ := nxx I2 t2 L (by rw [er]; decide)
      refine Ci.mono (A d _ I6 (t2.fr F6 (by decide +kernel))) (fun r15 h13 X => ⟨X.1.1, Ci.mono (c_em (d + e) X.1 11 0 (by decide) (by decide)) (fun r18 h16 k2 => ⟨k2.1.1, ?_⟩)⟩)
      have G := X.2.2
      rw [a6] at G
      exact ih r15 (x3 + 1) h16 (x161 m) k2.1 ((F2.tr ((F6.more (by decide +kernel)).tr X.2.1)).tr (k2.2.1.more (by decide +kernel))) ((lxs S y1 L.2.2.2 (decide_eq_true er) (fw3 F6 (by decide +kernel)) G).mv k2.2.1 (by decide +kernel))
  exact t_X8_readMoreUnits (d + e) h x1 _ (lp 160 1 0 h (by decide) I (Fr.rf _ _) (Or.inl ⟨rfl, rfl, rfl⟩))
theorem c_rmp {b : Nat → Int32} {n s : Nat} (e : Nat) (x1 : Int32) (u : Rcg) (A : Rx b n s u (fun d h K => Ci (m_X8_readUnit (d + e + 55) 0 0) [.ref 11, .int x1] h K)) : Rx b n s (mpt b n u) (fun d h K => Ci (m_X8_readMoreParts (d + e + 57) 0 0) [.ref 11, .int x1] h K) := by
  intro d h I t
  have M := c_rmu e x1 u A
  have lp : ∀ (k : Nat) (x2 x3 : Int32) (h2 : Hp_), x3.toInt + k = 160 → Iv h2 → Fr wzx h h2 → Sx b n (mpt b n u (xa h)) (lpr b n (isq 124) (prt b n u) k) h x2 h2 → AW (m_X8_readMoreParts (d + e + 57) 0 0) 0 0 8 [(0, .ref 11), (1, .int x1), (2, .int x2), (3, .int x3)] [] h2 (kI (fun r h' => Xr b n (mpt b n u (xa h)) h r h')) := by
    intro k
    induction k with
    | zero =>
      intro x2 x3 h2 m I2 F2 S
      exact t_X8_readMoreParts_8 (d + e) h2 I2.1 x1 x2 x3 _ ⟨fun _ => ⟨S.z, I2, F2, lx0 S⟩, fun z => absurd ((x160 m).1 rfl) z⟩
    | succ k ih =>
      intro x2 x3 h2 m I2 F2 S
      have t2 : Tx b n s h2 := t.fr F2 (by decide +kernel)
      refine t_X8_readMoreParts_8 (d + e) h2 I2.1 x1 x2 x3 _ ⟨fun z => absurd z ((x160 m).2 (by omega)), fun _ => ⟨fun y0 => ⟨S.z, I2, F2, S.n y0⟩, fun y1 => Ci.mono (c_pk (d + e) I2 t2) (fun r h5 L => ⟨L.1.1, fun nr => ⟨S.z, L.1, F2.tr (L.2.1.more (by decide +kernel)), lxx S y1 L (decide_eq_false nr)⟩, fun er => ?_⟩)⟩⟩
      obtain ⟨I6, F6, a6⟩ := nxx I2 t2 L (by rw [er]; decide)
      have t6 : Tx b n s (h_im h5 11 2 ((h_i h5 11 2) + 1)) := t2.fr F6 (by decide +kernel)
      have em : ∀ (w : Int32) (h13 : Hp_), Iv h13 → Fr wzx h2 h13 → Fxq b n (prt b n u (ska b n (xa h2) + 1)) (h_im h5 11 2 ((h_i h5 11 2) + 1)) w h13 → Ci (m_X8_emit (d + e + 1) 0 0) [.ref 11, .int 12, .int 0] h13 (fun _ h17 => Wf h17 ∧ (AW (m_X8_readMoreParts (d + e + 57) 0 0) 0 0 8 [(0, .ref 11), (1, .int x1), (2, .int w), (3, .int (x3 + 1))] [] h17 (kI (fun r h' => Xr b n (mpt b n u (xa h)) h r h')))) := fun w h13 I13 F13 G => Ci.mono (c_em (d + e) I13 12 0 (by decide) (by decide)) (fun r18 h16 k2 => ⟨k2.1.1, ih w (x3 + 1) h16 (x161 m) k2.1 ((F2.tr F13).tr (k2.2.1.more (by decide +kernel))) ((lxs S y1 L.2.2.2 (decide_eq_true er) (fw3 F6 (by decide +kernel)) G).mv k2.2.1 (by decide +kernel))⟩)
      refine Ci.mono (A d _ I6 t6) (fun r15 h13 X => ?_)
      have G := X.2.2
      rw [a6] at G
      have F13 : Fr wzx h2 h13 := (F6.more (by decide +kernel)).tr X.2.1
      refine ⟨X.1.1, fun y => em 0 h13 X.1 F13 (sqxn (g := mun b n u) G y), fun ny => Ci.mono (M d h13 X.1 (X.t t6)) (fun r22 h20 Y => ⟨Y.1.1, fun w0 => em 0 h20 Y.1 (F13.tr Y.2.1) ((sqx2 mun_c G ny Y.2.2).n w0), fun w1 => em 1 h20 Y.1 (F13.tr Y.2.1) ((sqx2 mun_c G ny Y.2.2).y w1)⟩)⟩
  exact t_X8_readMoreParts (d + e) h I.1 x1 _ (Ci.mono (M d h I t) (fun r3 h1 X => ⟨X.1.1, lp 160 r3 0 h1 (by decide) X.1 X.2.1 (sqx (f := mun b n u) (lpr_c 160) X.2.2)⟩))
theorem c_rcnd {b : Nat → Int32} {n s : Nat} (e : Nat) (x1 : Int32) (u : Rcg) (A : Rx b n s u (fun d h K => Ci (m_X8_readUnit (d + e + 55) 0 0) [.ref 11, .int x1] h K)) : Rx b n s (cnd b n u) (fun d h K => Ci (m_X8_readCondition (d + e + 58) 0 0) [.ref 11, .int x1] h K) := by
  intro d h I t
  exact t_X8_readCondition (d + e) h I.1 x1 _ (Ci.mono (A d h I t) (fun r3 h1 X => ⟨X.1.1, fun y0 => ⟨X.1, X.2.1, sqxn (g := mpt b n u) X.2.2 y0⟩, fun y1 => Ci.mono (c_rmp e x1 u A d h1 X.1 (X.t t)) (fun r7 h5 Y => ⟨Y.1.1, fun w0 => ⟨Y.1, X.2.1.tr Y.2.1, (sqx2 mpt_c X.2.2 y1 Y.2.2).n w0⟩, fun w1 => ⟨Y.1, X.2.1.tr Y.2.1, (sqx2 mpt_c X.2.2 y1 Y.2.2).y w1⟩⟩)⟩))
/-- units at every depth -/
theorem x_units {b : Nat → Int32} {n s : Nat} (hs : s = 1 ∨ s = 2) : ∀ (r : Nat), r ≤ 6 → Rx b n s (unt b n (ltb s) r) (fun d h K => Ci (m_X8_readUnit (d + 10 * (r + 2) + 55) 0 0) [.ref 11, .int (Int32.ofNat (6 - r))] h K) := by
  intro r
  induction r with
  | zero =>
    intro _ d h I t
    have S := x_sums (b := b) (n := n) hs 0 (by omega)
    have C := c_rcmp 10 _ _ S
    have tree := t_X8_readUnit (d + 10) h I.1 (Int32.ofNat (6 - 0)) (fun q h' => Xr b n (unt b n (ltb s) 0 (xa h)) h q h') (Ci.mono (c_pk (d + 10) I t) (fun r3 h1 L => ?_))
    · rw [show d + 10 + 65 = d + 10 * (0 + 2) + 55 by omega] at tree
      exact tree
    have bad : (r3 = 33 ∨ r3 = 40) → unt b n (ltb s) 0 (xa h) = (false, ska b n (xa h)) := fun y => by
      unfold unt
      exact if_pos (by rw [← L.2.2.2]; exact y)
    refine ⟨L.1.1, fun e33 => ⟨fun y => absurd y (by decide), fun _ => c_flx (d + 10) L (bad (Or.inl e33))⟩, fun n33 => ⟨fun e40 => ⟨fun y => absurd y (by decide), fun _ => c_flx (d + 10) L (bad (Or.inr e40))⟩, fun n40 => ?_⟩⟩
    have ea : unt b n (ltb s) 0 (xa h) = sqr (sms b n (ltb s) 0) (cmq b n (sms b n (ltb s) 0)) (xa h1) := by
      unfold unt
      rw [if_neg (by rw [← L.2.2.2]; exact fun y => y.elim n33 n40), L.2.2.1, sqr_c (sms_c 0)]
    have t1 : Tx b n s h1 := t.fr L.2.1 (by decide +kernel)
    have g3 : h_i h1 11 3 = h_i h 11 3 := fw3 L.2.1 (by decide +kernel)
    have F1 : Fr wzx h h1 := L.2.1.more (by decide +kernel)
    rw [ea]
    exact Ci.mono (S d h1 L.1 t1) (fun r50 h48 X => ⟨X.1.1, fun y0 => ⟨X.1, F1.tr X.2.1, (sqxn (g := cmq b n (sms b n (ltb s) 0)) X.2.2 y0).b g3⟩, fun y1 => Ci.mono (C d h48 X.1 (X.t t1)) (fun r54 h52 Y => ⟨Y.1.1, fun w0 => ⟨Y.1, (F1.tr X.2.1).tr Y.2.1, ((sqx2 cmq_c X.2.2 y1 Y.2.2).n w0).b g3⟩, fun w1 => ⟨Y.1, (F1.tr X.2.1).tr Y.2.1, ((sqx2 cmq_c X.2.2 y1 Y.2.2).y w1).b g3⟩⟩)⟩)
  | succ r ih =>
    intro hr d h I t
    have o : (Int32.ofNat (6 - (r + 1))).toInt = ((6 - (r + 1) : Nat) : Int) := on_j (by omega)
    have o6 : (6 : Int32).toInt = 6 := rfl
    have o1 : (1 : Int32).toInt = 1 := rfl
    have ex : Int32.ofNat (6 - (r + 1)) + 1 = Int32.ofNat (6 - r) := by
      refine Int32.toInt_inj.mp ?_
      rw [tx_add (by rw [o1]; omega) (by rw [o1]; omega), o1, o, on_j (by omega)]
      omega
    have lt : Int32.ofNat (6 - (r + 1)) < 6 := q_lt.mpr (by rw [o, o6]; omega)
    have S := x_sums (b := b) (n := n) hs (r + 1) hr
    have C := c_rcmp _ _ _ S
    have U : Rx b n s (unt b n (ltb s) r) (fun d h K => Ci (m_X8_readUnit (d + 10 * (r + 2) + 55) 0 0) [.ref 11, .int (Int32.ofNat (6 - (r + 1)) + 1)] h K) := by
      rw [ex]
      exact ih (by omega)
    have D := c_rcnd _ _ _ U
    have tree := t_X8_readUnit (d + 10 * (r + 2)) h I.1 (Int32.ofNat (6 - (r + 1))) (fun q h' => Xr b n (unt b n (ltb s) (r + 1) (xa h)) h q h') (Ci.mono (c_pk (d + 10 * (r + 2)) I t) (fun r3 h1 L => ?_))
    · rw [show d + 10 * (r + 2) + 65 = d + 10 * (r + 1 + 2) + 55 by omega] at tree
      exact tree
    have F1 : Fr wzx h h1 := L.2.1.more (by decide +kernel)
    refine ⟨L.1.1, fun e33 => ⟨fun _ => ⟨fun _ => ?_, fun e40 => absurd (e33.symm.trans e40) (by decide)⟩, fun y => absurd lt y⟩, fun n33 => ⟨fun e40 => ⟨fun _ => ⟨fun n40 => absurd e40 n40, fun _ => ?_⟩, fun y => absurd lt y⟩, fun n40 => ?_⟩⟩
    · have ea : unt b n (ltb s) (r + 1) (xa h) = unt b n (ltb s) r (ska b n (xa h) + 1) := by
        show (if skv b n (xa h) = 33 then unt b n (ltb s) r (ska b n (xa h) + 1) else _) = _
        exact if_pos (by rw [← L.2.2.2]; exact e33)
      obtain ⟨I6, F6, a6⟩ := nxx I t L (by rw [e33]; decide)
      refine Ci.mono (U d _ I6 (t.fr F6 (by decide +kernel))) (fun r9 h7 X => ?_)
      have G := X.2.2
      rw [a6, ← ea] at G
      have G := G.b (fw3 F6 (by decide +kernel))
      exact ⟨X.1.1, Ci.mono (c_em (d + 10 * (r + 2)) X.1 2 0 (by decide) (by decide)) (fun _ h10 k => ⟨k.1.1, G.z, k.1, ((F6.more (by decide +kernel)).tr X.2.1).tr (k.2.1.more (by decide +kernel)), G.mv k.2.1 (by decide +kernel)⟩)⟩
    · have ea : unt b n (ltb s) (r + 1) (xa h) = sqr (cnd b n (unt b n (ltb s) r)) (exr b n 41) (ska b n (xa h) + 1) := by
        show (if skv b n (xa h) = 33 then unt b n (ltb s) r (ska b n (xa h) + 1) else if skv b n (xa h) = 40 then sqr (cnd b n (unt b n (ltb s) r)) (exr b n 41) (ska b n (xa h) + 1) else _) = _
        rw [if_neg (by rw [← L.2.2.2]; exact n33), if_pos (by rw [← L.2.2.2]; exact e40)]
      obtain ⟨I6, F6, a6⟩ := nxx I t L (by rw [e40]; decide)
      refine Ci.mono (D d _ I6 (t.fr F6 (by decide +kernel))) (fun r16 h14 X => ?_)
      have G := X.2.2
      rw [a6] at G
      have g3 := fw3 F6 (by decide +kernel)
      have FX : Fr wzx h h14 := (F6.more (by decide +kernel)).tr X.2.1
      rw [ea]
      exact ⟨X.1.1, fun y0 => ⟨X.1, FX, (sqxn (g := exr b n 41) G y0).b g3⟩, fun y1 => Ci.mono (c_ex (d + 10 * (r + 2)) X.1 (t.fr FX (by decide +kernel)) 41 (by decide)) (fun r20 h18 Y => ⟨Y.1.1, fun w0 => ⟨Y.1, FX.tr Y.2.1, ((sqx2 exr_c G y1 Y.2.2).n w0).b g3⟩, fun w1 => ⟨Y.1, FX.tr Y.2.1, ((sqx2 exr_c G y1 Y.2.2).y w1).b g3⟩⟩)⟩
    · have ea : unt b n (ltb s) (r + 1) (xa h) = sqr (sms b n (ltb s) (r + 1)) (cmq b n (sms b n (ltb s) (r + 1))) (xa h1) := by
        show (if skv b n (xa h) = 33 then unt b n (ltb s) r (ska b n (xa h) + 1) else if skv b n (xa h) = 40 then sqr (cnd b n (unt b n (ltb s) r)) (exr b n 41) (ska b n (xa h) + 1) else sqr (sms b n (ltb s) (r + 1)) (cmq b n (sms b n (ltb s) (r + 1))) (xa h)) = _
        rw [if_neg (by rw [← L.2.2.2]; exact n33), if_neg (by rw [← L.2.2.2]; exact n40), L.2.2.1, sqr_c (sms_c (r + 1))]
      have t1 : Tx b n s h1 := t.fr L.2.1 (by decide +kernel)
      have g3 : h_i h1 11 3 = h_i h 11 3 := fw3 L.2.1 (by decide +kernel)
      rw [ea]
      exact Ci.mono (S d h1 L.1 t1) (fun r50 h48 X => ⟨X.1.1, fun y0 => ⟨X.1, F1.tr X.2.1, (sqxn (g := cmq b n (sms b n (ltb s) (r + 1))) X.2.2 y0).b g3⟩, fun y1 => Ci.mono (C d h48 X.1 (X.t t1)) (fun r54 h52 Y => ⟨Y.1.1, fun w0 => ⟨Y.1, (F1.tr X.2.1).tr Y.2.1, ((sqx2 cmq_c X.2.2 y1 Y.2.2).n w0).b g3⟩, fun w1 => ⟨Y.1, (F1.tr X.2.1).tr Y.2.1, ((sqx2 cmq_c X.2.2 y1 Y.2.2).y w1).b g3⟩⟩)⟩)
end
section
/-! the class: clauses and rules, by what stands on the tape -/
theorem c_ec (d : Nat) {h : Hp_} (I : Iv h) (x1 : Int32) (b1 : -1 ≤ x1.toInt ∧ x1.toInt ≤ 163) : Cv (m_X8_endClause (d + 2) 0 0) [.ref 11, .int x1] h (fun h' => Iv h' ∧ Fr [11009, 33999] h h') := by
  refine Ct.mono (hc_X8_endClause d [.int x1, .ref 11] h ⟨⟨x1, rfl, ⟨b1.1, b1.2⟩, fun _ z => (nomatch z)⟩, rfl, trivial⟩ I (fun _ z => (nomatch z))) (fun v h' k => ?_)
  exact ⟨k.2.2.2, k.1, k.2.1⟩
theorem c_rpa {b : Nat → Int32} {n : Nat} : Rx b n 2 (pan b n) (fun d h K => Ci (m_X8_readPayAnswer (d + 80 + 54) 0 0) [.ref 11] h K) := by
  intro d h I t
  have S := x_sums (b := b) (n := n) (s := 2) (Or.inr rfl) 6 (by omega)
  refine t_X8_readPayAnswer (d + 80) h I.1 _ (Ci.mono (c_ex (d + 80) I t 63 (by decide)) (fun r3 h1 X => ⟨X.1.1, fun y1 => ?_, fun y0 => ⟨X.1, X.2.1, sqxn (g := sms b n ltp 6) X.2.2 y0⟩⟩))
  refine Ci.mono (c_em (d + 80) X.1 3 0 (by decide) (by decide)) (fun r7 h5 k => ⟨k.1.1, ?_⟩)
  have F5 : Fr wzx h h5 := X.2.1.tr (k.2.1.more (by decide +kernel))
  have G := X.2.2.mv k.2.1 (by decide +kernel)
  have s6 : Ci (m_X8_readSum (d + 10 + 10 * (6 + 1) + 53) 0 0) [.ref 11, .int (Int32.ofNat (6 - 6))] h5 (fun q h' => Xr b n (sms b n (ltb 2) 6 (xa h5)) h5 q h') := S (d + 10) h5 k.1 (t.fr F5 (by decide +kernel))
  rw [show d + 10 + 10 * (6 + 1) + 53 = d + 80 + 53 by omega] at s6
  exact Ci.mono s6 (fun r10 h8 Y => ⟨Y.1.1, fun w1 => Cv.mono (c_ec (d + 80) Y.1 r7 k.2.2) (fun h12 k2 => ⟨k2.1.1, k2.1, (F5.tr Y.2.1).tr (k2.2.more (by decide +kernel)), ((sqx2 (sms_c 6) G y1 Y.2.2).y w1).mv k2.2 (by decide +kernel)⟩), fun w0 => ⟨Y.1, F5.tr Y.2.1, (sqx2 (sms_c 6) G y1 Y.2.2).n w0⟩⟩)
theorem c_rac {b : Nat → Int32} {n : Nat} : Rx b n 1 (acl b n) (fun d h K => Ci (m_X8_readActClause (d + 80 + 59) 0 0) [.ref 11] h K) := by
  intro d h I t
  have U := x_units (b := b) (n := n) (s := 1) (Or.inl rfl) 6 (by omega)
  have C := c_rcnd _ _ _ U
  refine t_X8_readActClause (d + 80) h I.1 _ (Ci.mono (C d h I t) (fun r3 h1 X => ⟨X.1.1, fun y0 => ⟨X.1, X.2.1, sqxn (g := sqr (exr b n 63) (onr b n vdb)) X.2.2 y0⟩, fun y1 => ?_⟩))
  refine Ci.mono (c_ex (d + 80) X.1 (X.t t) 63 (by decide)) (fun r7 h5 Y => ?_)
  have F5 : Fr wzx h h5 := X.2.1.tr Y.2.1
  refine ⟨Y.1.1, fun w1 => ?_, fun w0 => ⟨Y.1, F5, ?_⟩⟩
  · refine Ci.mono (c_em (d + 80) Y.1 3 0 (by decide) (by decide)) (fun r11 h9 k => ⟨k.1.1, ?_⟩)
    have F9 : Fr wzx h h9 := F5.tr (k.2.1.more (by decide +kernel))
    have t9 : Tx b n 1 h9 := t.fr F9 (by decide +kernel)
    have GY := Y.2.2.mv k.2.1 (by decide +kernel)
    have up : ∀ (r : Int32) (h' : Hp_), Fxq b n (onr b n vdb (xa h9)) h9 r h' → Fxq b n (acl b n (xa h)) h r h' := fun r h' G => sqx2 (g := sqr (exr b n 63) (onr b n vdb)) (sqr_c exr_c) X.2.2 y1 (sqx2 onr_c GY w1 G)
    have fl : ∀ (h12 : Hp_) (r14 : Int32), Pk b n h9 r14 h12 → ¬ vdb r14 = true → Ci (m_X8_fail (d + 80 + 0) 0 0) [.ref 11] h12 (fun r h' => Wf h' ∧ ((r = 0 ∨ r = 1) ∧ Xr b n (acl b n (xa h)) h r h')) := fun h12 r14 L nv => by
      refine Ci.mono (c_flx (d + 80) L (T := onr b n vdb (xa h9)) ?_) (fun r h' q => ⟨q.1, q.2.1, q.2.2.1, F9.tr q.2.2.2.1, up r h' q.2.2.2.2⟩)
      unfold onr
      exact if_neg (by rw [← L.2.2.2]; exact nv)
    refine Ci.mono (c_pk (d + 80) k.1 t9) (fun r14 h12 L => ⟨L.1.1, fun nm => ?_, fun em => fl h12 r14 L (by rw [em]; decide)⟩)
    have bb := L.in k.1 t9 nm
    have il := (ix_let bb).2.2
    have ir := ix_rng bb (i := 3) (by decide)
    refine Ci.mono (c_ix1f (d + 80) 3 (by decide) h12 (xch r14)) (fun r18 h16 q => ?_)
    obtain ⟨er, eh⟩ := q
    subst eh
    subst er
    refine ⟨L.1.1, fun p => ?_, fun np => fl h16 r14 L (fun y => np (il.mpr y))⟩
    obtain ⟨I6, F6, a6⟩ := nxx k.1 t9 L nm
    have G : Fxq b n (onr b n vdb (xa h9)) h9 1 (h_im h16 11 2 ((h_i h16 11 2) + 1)) := by
      unfold onr
      rw [if_pos (by rw [← L.2.2.2]; exact il.mp p)]
      exact Or.inl ⟨rfl, rfl, by rw [a6], fw3 F6 (by decide +kernel)⟩
    refine Ci.mono (c_em (d + 80) I6 0 _ (by decide) ⟨ir.1, by omega⟩) (fun r22 h20 k2 => ⟨k2.1.1, Cv.mono (c_ec (d + 80) k2.1 r11 k.2.2) (fun h23 k3 => ⟨k3.1.1, k3.1, ((F9.tr (F6.more (by decide +kernel))).tr (k2.2.1.more (by decide +kernel))).tr (k3.2.more (by decide +kernel)), up 1 h23 ((G.mv k2.2.1 (by decide +kernel)).mv k3.2 (by decide +kernel))⟩)⟩)
  · exact sqx2 (g := sqr (exr b n 63) (onr b n vdb)) (sqr_c exr_c) X.2.2 y1 (sqxn (g := onr b n vdb) Y.2.2 w0)
theorem c_rpc {b : Nat → Int32} {n : Nat} : Rx b n 2 (pcl_ b n) (fun d h K => Ci (m_X8_readPayClause (d + 80 + 59) 0 0) [.ref 11] h K) := by
  intro d h I t
  have S0 := x_sums (b := b) (n := n) (s := 2) (Or.inr rfl) 6 (by omega)
  have S : Rx b n 2 (sms b n ltp 6) (fun d h K => Ci (m_X8_readSum (d + 80 + 53) 0 0) [.ref 11, .int 0] h K) := fun d h I t => by
    have s6 : Ci (m_X8_readSum (d + 10 + 10 * (6 + 1) + 53) 0 0) [.ref 11, .int (Int32.ofNat (6 - 6))] h (fun q h' => Xr b n (sms b n (ltb 2) 6 (xa h)) h q h') := S0 (d + 10) h I t
    rw [show d + 10 + 10 * (6 + 1) + 53 = d + 80 + 53 by omega] at s6
    exact s6
  have U := x_units (b := b) (n := n) (s := 2) (Or.inr rfl) 6 (by omega)
  have C := c_rcnd _ _ _ U
  have MP := c_rmp _ _ _ U
  have CM := c_rcmp 80 0 _ S
  refine t_X8_readPayClause (d + 80) h I.1 _ (Ci.mono (c_pk (d + 80) I t) (fun r3 h1 L => ?_))
  have t1 : Tx b n 2 h1 := t.fr L.2.1 (by decide +kernel)
  have F1 : Fr wzx h h1 := L.2.1.more (by decide +kernel)
  have g3 : h_i h1 11 3 = h_i h 11 3 := fw3 L.2.1 (by decide +kernel)
  have cond : (r3 = 33 ∨ r3 = 40) → Ci (m_X8_readCondition (d + 80 + 58) 0 0) [.ref 11, .int 0] h1 (fun r7 h5 => Wf h5 ∧ ((r7 = 0 → Xr b n (pcl_ b n (xa h)) h 0 h5) ∧ (¬ r7 = 0 → Ci (m_X8_readPayAnswer (d + 80 + 54) 0 0) [.ref 11] h5 (fun r11 h9 => Wf h9 ∧ ((r11 = 0 → Xr b n (pcl_ b n (xa h)) h 0 h9) ∧ (¬ r11 = 0 → Xr b n (pcl_ b n (xa h)) h 1 h9)))))) := fun c => by
    have ea : pcl_ b n (xa h) = sqr (cnd b n (unt b n ltp 6)) (pan b n) (xa h1) := by
      unfold pcl_
      rw [if_pos (by rw [← L.2.2.2]; exact c), L.2.2.1, sqr_c (cnd_c (unt_c 6))]
    rw [ea]
    exact Ci.mono (C d h1 L.1 t1) (fun r7 h5 X => ⟨X.1.1, fun y0 => ⟨X.1, F1.tr X.2.1, (sqxn (g := pan b n) X.2.2 y0).b g3⟩, fun y1 => Ci.mono (c_rpa d h5 X.1 (X.t t1)) (fun r11 h9 Y => ⟨Y.1.1, fun w0 => ⟨Y.1, (F1.tr X.2.1).tr Y.2.1, ((sqx2 (g := pan b n) (sqr_c exr_c) X.2.2 y1 Y.2.2).n w0).b g3⟩, fun w1 => ⟨Y.1, (F1.tr X.2.1).tr Y.2.1, ((sqx2 (g := pan b n) (sqr_c exr_c) X.2.2 y1 Y.2.2).y w1).b g3⟩⟩)⟩)
  refine ⟨L.1.1, fun e33 => cond (Or.inl e33), fun n33 => ⟨fun n40 => ?_, fun e40 => cond (Or.inr e40)⟩⟩
  have ea : pcl_ b n (xa h) = sqr (sms b n ltp 6) (fun p => if sgb (skv b n p) = true then sqr (cmq b n (sms b n ltp 6)) (sqr (mpt b n (unt b n ltp 6)) (pan b n)) p else (true, p)) (xa h1) := by
    unfold pcl_
    rw [if_neg (by rw [← L.2.2.2]; exact fun y => y.elim n33 n40), L.2.2.1, sqr_c (sms_c 6)]
  rw [ea]
  refine Ci.mono (S d h1 L.1 t1) (fun r16 h14 X => ⟨X.1.1, fun y1 => ?_, fun y0 => ⟨X.1, F1.tr X.2.1, (sqxn X.2.2 y0).b g3⟩⟩)
  have ok := X.2.2.ok y1
  have t14 := X.t t1
  have F14 : Fr wzx h h14 := F1.tr X.2.1
  have T6 : sqr (sms b n ltp 6) (fun p => if sgb (skv b n p) = true then sqr (cmq b n (sms b n ltp 6)) (sqr (mpt b n (unt b n ltp 6)) (pan b n)) p else (true, p)) (xa h1) = if sgb (skv b n (xa h14)) = true then sqr (cmq b n (sms b n ltp 6)) (sqr (mpt b n (unt b n ltp 6)) (pan b n)) (xa h14) else (true, ska b n (xa h14)) := by
    unfold sqr
    rw [if_pos ok.1, ← ok.2.1]
    show (if sgb (skv b n (ska b n (xa h14))) = true then sqr (cmq b n (sms b n ltp 6)) (sqr (mpt b n (unt b n ltp 6)) (pan b n)) (ska b n (xa h14)) else (true, ska b n (xa h14))) = _
    rw [skv_i, sqr_c cmq_c (xa h14)]
    rfl
  rw [T6]
  refine Ci.mono (c_pk (d + 80) X.1 t14) (fun r20 h18 M => ⟨M.1.1, Ci.mono (c_cpx (d + 80) h18 r20) (fun r23 h21 q => ?_)⟩)
  obtain ⟨eh, q⟩ := q
  subst eh
  have t21 : Tx b n 2 h21 := t14.fr M.2.1 (by decide +kernel)
  have F21 : Fr wzx h h21 := F14.tr (M.2.1.more (by decide +kernel))
  have g21 : h_i h21 11 3 = h_i h 11 3 := ((fw3 M.2.1 (by decide +kernel)).trans ok.2.2).trans g3
  refine ⟨M.1.1, fun q0 => ?_, fun q1 => ?_⟩
  · have ns : ¬ sgb (skv b n (xa h14)) = true := by
      rw [← M.2.2.2]
      rcases q with q | q
      · exact absurd q0 q.1
      · rw [q.2]
        decide
    rw [if_neg ns]
    refine Cv.mono (c_ec (d + 80) M.1 (-1) (by decide)) (fun h25 k => ⟨k.1.1, k.1, F21.tr (k.2.more (by decide +kernel)), Fxq.mv (Or.inl ⟨rfl, rfl, ?_, g21⟩) k.2 (by decide +kernel)⟩)
    rw [M.i, M.2.2.1]
  · have ys : sgb (skv b n (xa h14)) = true := by
      rw [← M.2.2.2]
      rcases q with q | q
      · exact q.2.1
      · exact absurd q.1 q1
    rw [if_pos ys, ← sqr_c cmq_c (xa h14), ← M.2.2.1]
    exact Ci.mono (CM d h21 M.1 t21) (fun r30 h28 Y => ⟨Y.1.1, fun w0 => ⟨Y.1, F21.tr Y.2.1, (sqxn Y.2.2 w0).b g21⟩, fun w1 => Ci.mono (MP d h28 Y.1 (Y.t t21)) (fun r34 h32 Z => ⟨Z.1.1, fun z0 => ⟨Z.1, (F21.tr Y.2.1).tr Z.2.1, (sqx2 (sqr_c mpt_c) Y.2.2 w1 (sqxn (g := pan b n) Z.2.2 z0)).b g21⟩, fun z1 => Ci.mono (c_rpa d h32 Z.1 (Z.t (Y.t t21))) (fun r38 h36 V => ⟨V.1.1, fun v0 => ⟨V.1, ((F21.tr Y.2.1).tr Z.2.1).tr V.2.1, ((sqx2 (sqr_c mpt_c) Y.2.2 w1 (sqx2 (g := pan b n) (sqr_c exr_c) Z.2.2 z1 V.2.2)).n v0).b g21⟩, fun v1 => ⟨V.1, ((F21.tr Y.2.1).tr Z.2.1).tr V.2.1, ((sqx2 (sqr_c mpt_c) Y.2.2 w1 (sqx2 (g := pan b n) (sqr_c exr_c) Z.2.2 z1 V.2.2)).y v1).b g21⟩⟩)⟩)⟩)
/-! the reader set back -/
noncomputable def wzs : List Nat := [11002, 11003, 11004, 11006, 11007, 11009]
theorem Iv_rm4 {h : Hp_} (I : Iv h) {i : Nat} (hi : i < 4) : Iv (h_rm h 11 4 (some (1000 + i))) := by
  obtain ⟨I1, I2, I3, _, ⟨c, N, c1, c2, c3, c4⟩, I6⟩ := I
  refine ⟨Wf_rm4 I1, I2, fun k => ?_, ⟨i, hi, ?_⟩, ⟨c, N, ?_, c2, c3, c4⟩, Jv_same (h := h) (fun _ _ _ => rfl) rfl (by rw [h_r_rm, if_neg (fun z => absurd z.1 (by decide))]) I6⟩
  · rw [h_r_rm, if_neg (fun z => absurd z.1 (by decide))]
    exact I3 k
  · rw [h_r_rm, if_pos ⟨rfl, rfl⟩]
  · rw [h_r_rm, if_neg (fun z => absurd z.1 (by decide))]
    exact c1
theorem Fr.rm4 {ws : List Nat} {h h' : Hp_} (F : Fr ws h h') (o : inw ws 11 4 = true) (x : Option Nat) : Fr ws h (h_rm h' 11 4 x) := by
  refine ⟨F.1, fun b k hb => ⟨(F.2 b k hb).1, (F.2 b k hb).2.1, ?_⟩⟩
  have n : ¬ (b = 11 ∧ k = 4) := fun y => by rw [y.1, y.2, o] at hb; cases hb
  rw [h_r_rm, if_neg n]
  exact (F.2 b k hb).2.2
theorem c_rst (d : Nat) {h : Hp_} (I : Iv h) (i : Nat) (hi : i < 4) : Cv (m_X8_restart (d + 0) 0 0) [.ref 11, .ref (1000 + i)] h (fun h' => Iv h' ∧ Fr wzs h h' ∧ h_i h' 11 2 = 0 ∧ h_i h' 11 3 = -1 ∧ h_r h' 11 4 = some (1000 + i) ∧ h_i h' 11 6 = 0 ∧ h_i h' 11 7 = 0 ∧ h_i h' 11 9 = 0) := by
  refine Ct.of (fun _ _ _ => trivial) pn_X8 (Nat.le_of_ble_eq_true rfl) ?_
  show AW (m_X8_restart (d + 0) 0 0) 0 0 0 [(0, .ref 11), (1, .ref (1000 + i))] [] h (kV _)
  have w := I.1
  have w4 : Wf (h_rm (h_im (h_im h 11 2 0) 11 3 (-1)) 11 4 (some (1000 + i))) := Wf_rm4 w
  refine aw_aload_n (i := 0) rfl d_X8_restart_0 0 rfl ?_
  refine aw_iconst (v := 0) d_X8_restart_1 ic_0 ?_
  refine aw_puti (k0 := 2) kc_8 (ws_11 w) (Nat.le_of_ble_eq_true rfl) tw_62 d_X8_restart_2 rfl rfl nf_i ?_
  refine aw_aload_n (i := 0) rfl d_X8_restart_5 0 rfl ?_
  refine aw_iconst (v := -1) d_X8_restart_6 ic_m1 ?_
  refine aw_puti (k0 := 3) kc_8 (ws_11 w) (Nat.le_of_ble_eq_true rfl) tw_63 d_X8_restart_7 rfl rfl nf_i ?_
  refine aw_aload_n (i := 0) rfl d_X8_restart_10 0 rfl ?_
  refine aw_aload_n (i := 1) rfl d_X8_restart_11 1 rfl ?_
  refine aw_putr (k0 := 4) kc_8 (ws_11 w) (Nat.le_of_ble_eq_true rfl) tw_64 d_X8_restart_12 rfl rfl ?_
  refine aw_aload_n (i := 0) rfl d_X8_restart_15 0 rfl ?_
  refine aw_iconst (v := 0) d_X8_restart_16 ic_0 ?_
  refine aw_puti (k0 := 6) kc_8 (ws_11 w4) (Nat.le_of_ble_eq_true rfl) tw_68 d_X8_restart_17 rfl rfl nf_i ?_
  refine aw_aload_n (i := 0) rfl d_X8_restart_20 0 rfl ?_
  refine aw_iconst (v := 0) d_X8_restart_21 ic_0 ?_
  refine aw_puti (k0 := 7) kc_8 (ws_11 w4) (Nat.le_of_ble_eq_true rfl) tw_70 d_X8_restart_22 rfl rfl (nf_zr ⟨by decide, by decide⟩) ?_
  refine aw_aload_n (i := 0) rfl d_X8_restart_25 0 rfl ?_
  refine aw_iconst (v := 0) d_X8_restart_26 ic_0 ?_
  refine aw_puti (k0 := 9) kc_8 (ws_11 w4) (Nat.le_of_ble_eq_true rfl) tw_74 d_X8_restart_27 rfl rfl nf_i ?_
  refine aw_vret rfl d_X8_restart_30 ⟨Nat.le_refl _, Nat.le_refl _⟩ ⟨rfl, ?_⟩
  have J := Iv_rm4 (y3 (y2 I (x := 0) (by decide)) (-1)) hi
  have J6 := J.im (a := 11) (k := 6) (x := 0) (by rw [show tf 11 6 = (0, 150) by decide +kernel]; exact ⟨by decide, by decide⟩) (by decide)
  have J7 := J6.im (a := 11) (k := 7) (x := 0) (by rw [show tf 11 7 = (0, 1) by decide +kernel]; exact ⟨by decide, by decide⟩) (by decide)
  have J9 := J7.im (a := 11) (k := 9) (x := 0) (by rw [show tf 11 9 = (0, 164) by decide +kernel]; exact ⟨by decide, by decide⟩) (by decide)
  have F : Fr wzs h (h_rm (h_im (h_im h 11 2 0) 11 3 (-1)) 11 4 (some (1000 + i))) := (((Fr.rf _ _).im (by decide +kernel)).im (by decide +kernel)).rm4 (by decide +kernel) _
  refine ⟨J9, ((F.im (by decide +kernel)).im (by decide +kernel)).im (by decide +kernel), ?_, ?_, ?_, ?_, ?_, ?_⟩
  · rw [g_ne (by decide), g_ne (by decide), g_ne (by decide)]
    show h_i (h_im (h_im h 11 2 0) 11 3 (-1)) 11 2 = 0
    rw [g_ne (by decide), im_at]
  · rw [g_ne (by decide), g_ne (by decide), g_ne (by decide)]
    show h_i (h_im (h_im h 11 2 0) 11 3 (-1)) 11 3 = -1
    rw [im_at]
  · show h_r (h_rm (h_im (h_im h 11 2 0) 11 3 (-1)) 11 4 (some (1000 + i))) 11 4 = _
    rw [h_r_rm, if_pos ⟨rfl, rfl⟩]
  · rw [g_ne (by decide), g_ne (by decide), im_at]
  · rw [g_ne (by decide), im_at]
  · rw [im_at]
/-! a whole rule -/
noncomputable def wzr : List Nat := [11002, 11003, 11004, 11006, 11007, 11009, 33999]
theorem b_nm {b : Nat → Int32} {n s : Nat} {h : Hp_} (I : Iv h) (t : Tx b n s h) (k : Nat) : ¬ b k = -1 := fun e => by
  have q := (b31_in I k).1
  rw [t.1, e] at q
  exact absurd q (by decide)
theorem on_mm {k : Nat} (h : k ≤ 160) : ¬ Int32.ofNat k = -1 := fun e => by
  have q := congrArg Int32.toInt e
  rw [on_j (by omega)] at q
  have o : (-1 : Int32).toInt = -1 := rfl
  omega
theorem c_rr {b : Nat → Int32} {n : Nat} (s : Nat) (hs : s = 1 ∨ s = 2) (d : Nat) {h : Hp_} (I : Iv h) (hb : h_i h 31 = b) (hn : xn h = n) (x1 : Int32) (hx : (x1 = 0 ∧ s = 2) ∨ (¬ x1 = 0 ∧ s = 1)) : Ci (m_X8_readRule (d + 80 + 60) 0 0) [.ref 11, .int x1] h (fun r h' => r = h_i h' 11 3 ∧ Iv h' ∧ Fr wzr h h' ∧ h_i h' 11 3 = enq b n (ruq b n (clq b n s))) := by
  have cl : Rx b n s (clq b n s) (fun d h K => (x1 = 0 → Ci (m_X8_readPayClause (d + 80 + 59) 0 0) [.ref 11] h K) ∧ (¬ x1 = 0 → Ci (m_X8_readActClause (d + 80 + 59) 0 0) [.ref 11] h K)) := fun d h I t => by
    rcases hx with u | u
    · obtain ⟨u, v⟩ := u
      subst v
      exact ⟨fun _ => c_rpc d h I t, fun y => absurd u y⟩
    · obtain ⟨u, v⟩ := u
      subst v
      exact ⟨fun y => absurd y u, fun _ => c_rac d h I t⟩
  have n160 : n ≤ 160 := by
    have a := xn_i I
    have c := (x1_in I).2
    omega
  have body : ∀ h0, Iv h0 → Fr wzr h h0 → Tx b n s h0 → xa h0 = 0 → h_i h0 11 3 = -1 → ∀ (k : Nat) (x2 x3 : Int32) (h2 : Hp_), x3.toInt + k = 160 → Iv h2 → Fr wzx h0 h2 → Sx b n (ruq b n (clq b n s) 0) (lpr b n (isq 59) (clq b n s) k) h0 x2 h2 → AW (m_X8_readRule (d + 80 + 60) 0 0) 0 0 33 [(0, .ref 11), (1, .int x1), (2, .int x2), (3, .int x3)] [] h2 (kI (fun r h' => r = h_i h' 11 3 ∧ Iv h' ∧ Fr wzr h h' ∧ h_i h' 11 3 = enq b n (ruq b n (clq b n s)))) := by
    intro h0 I0 F0 t0 a0 w0
    have fin0 : ∀ h3, Iv h3 → Fr wzx h0 h3 → Fxq b n (ruq b n (clq b n s) 0) h0 0 h3 → (h_i h3 11 3 = h_i h3 11 3 ∧ Iv h3 ∧ Fr wzr h h3 ∧ h_i h3 11 3 = enq b n (ruq b n (clq b n s))) := fun h3 I3 F3 G => by
      refine ⟨rfl, I3, F0.tr (F3.more (by decide +kernel)), ?_⟩
      rcases G with G | G
      · exact absurd G.1 (by decide)
      · unfold enq
        rw [if_neg (by rw [G.2.1]; decide)]
        exact G.2.2
    have fin1 : ∀ h3 x, Iv h3 → Fr wzx h0 h3 → ¬ x = 0 → Fxq b n (ruq b n (clq b n s) 0) h0 x h3 → Ci (m_X8_peek (d + 80 + 0) 0 0) [.ref 11] h3 (fun r26 h24 => Wf h24 ∧ ((r26 = (-1) → (h_i h24 11 3 = h_i h24 11 3 ∧ Iv h24 ∧ Fr wzr h h24 ∧ h_i h24 11 3 = enq b n (ruq b n (clq b n s)))) ∧ (¬ r26 = (-1) → Ci (m_X8_fail (d + 80 + 0) 0 0) [.ref 11] h24 (fun r30 h28 => Wf h28 ∧ (h_i h28 11 3 = h_i h28 11 3 ∧ Iv h28 ∧ Fr wzr h h28 ∧ h_i h28 11 3 = enq b n (ruq b n (clq b n s))))))) := fun h3 x I3 F3 nx G => by
      have ok := G.ok nx
      have t3 : Tx b n s h3 := t0.fr F3 (by decide +kernel)
      refine Ci.mono (c_pk (d + 80) I3 t3) (fun r h5 L => ⟨L.1.1, fun em => ⟨rfl, L.1, F0.tr ((F3.tr (L.2.1.more (by decide +kernel))).more (by decide +kernel)), ?_⟩, fun nm => Ci.mono (c_fl (d + 80) L.1) (fun r2 h6 k => ⟨k.2.1.1, rfl, k.2.1, F0.tr ((F3.tr ((L.2.1.more (by decide +kernel)).tr (k.2.2.1.more (by decide +kernel)))).more (by decide +kernel)), ?_⟩)⟩)
      · have nl := ska_0 (L.2.2.2.symm.trans em) (fun k _ => b_nm I0 t0 k)
        unfold enq
        rw [if_pos ok.1, ← ok.2.1, if_neg nl, fw3 L.2.1 (by decide +kernel), ok.2.2]
        exact w0
      · have l := skv_l (by rw [← L.2.2.2]; exact nm)
        unfold enq
        rw [if_pos ok.1, ← ok.2.1, if_pos l, k.2.2.2, L.2.2.1]
    intro k
    induction k with
    | zero =>
      intro x2 x3 h2 m I2 F2 S
      refine t_X8_readRule_33 (d + 80) h2 I2.1 x1 x2 x3 _ ⟨fun _ => ⟨fun y0 => fin0 h2 I2 F2 ((lx0 S).n y0), fun y1 => fin1 h2 x2 I2 F2 y1 (lx0 S)⟩, fun z => absurd ((x160 m).1 rfl) z⟩
    | succ k ih =>
      intro x2 x3 h2 m I2 F2 S
      have t2 : Tx b n s h2 := t0.fr F2 (by decide +kernel)
      refine t_X8_readRule_33 (d + 80) h2 I2.1 x1 x2 x3 _ ⟨fun z => absurd z ((x160 m).2 (by omega)), fun _ => ⟨fun y0 => ⟨fun _ => fin0 h2 I2 F2 ((S.n y0).n y0), fun y1 => absurd y0 y1⟩, fun y1 => Ci.mono (c_pk (d + 80) I2 t2) (fun r h5 L => ⟨L.1.1, fun nr => ⟨fun y0 => absurd y0 y1, fun _ => fin1 h5 x2 L.1 (F2.tr (L.2.1.more (by decide +kernel))) y1 (lxx S y1 L (decide_eq_false nr))⟩, fun er => ?_⟩)⟩⟩
      obtain ⟨I6, F6, a6⟩ := nxx I2 t2 L (by rw [er]; decide)
      have C := cl d _ I6 (t2.fr F6 (by decide +kernel))
      have go : ∀ r15 h13, Xr b n (clq b n s (xa (h_im h5 11 2 ((h_i h5 11 2) + 1)))) (h_im h5 11 2 ((h_i h5 11 2) + 1)) r15 h13 → Wf h13 ∧ AW (m_X8_readRule (d + 80 + 60) 0 0) 0 0 33 [(0, .ref 11), (1, .int x1), (2, .int r15), (3, .int (x3 + 1))] [] h13 (kI (fun r h' => r = h_i h' 11 3 ∧ Iv h' ∧ Fr wzr h h' ∧ h_i h' 11 3 = enq b n (ruq b n (clq b n s)))) := fun r15 h13 X => by
        have G := X.2.2
        rw [a6] at G
        exact ⟨X.1.1, ih r15 (x3 + 1) h13 (x161 m) X.1 (F2.tr ((F6.more (by decide +kernel)).tr X.2.1)) (lxs S y1 L.2.2.2 (decide_eq_true er) (fw3 F6 (by decide +kernel)) G)⟩
      exact ⟨fun y => Ci.mono (C.1 y) go, fun y => Ci.mono (C.2 y) go⟩
  have st : ∀ i, i = s → Cv (m_X8_restart (d + 80 + 0) 0 0) [.ref 11, .ref (1000 + i)] h (fun h2 => Wf h2 ∧ ((x1 = 0 → Ci (m_X8_readPayClause (d + 80 + 59) 0 0) [.ref 11] h2 (fun r8 h6 => Wf h6 ∧ (AW (m_X8_readRule (d + 80 + 60) 0 0) 0 0 33 [(0, .ref 11), (1, .int x1), (2, .int r8), (3, .int 0)] [] h6 (kI (fun r h' => r = h_i h' 11 3 ∧ Iv h' ∧ Fr wzr h h' ∧ h_i h' 11 3 = enq b n (ruq b n (clq b n s))))))) ∧ (¬ x1 = 0 → Ci (m_X8_readActClause (d + 80 + 59) 0 0) [.ref 11] h2 (fun r11 h9 => Wf h9 ∧ (AW (m_X8_readRule (d + 80 + 60) 0 0) 0 0 33 [(0, .ref 11), (1, .int x1), (2, .int r11), (3, .int 0)] [] h9 (kI (fun r h' => r = h_i h' 11 3 ∧ Iv h' ∧ Fr wzr h h' ∧ h_i h' 11 3 = enq b n (ruq b n (clq b n s))))))))) := fun i ei => by
    subst ei
    refine Cv.mono (c_rst (d + 80) I i (by omega)) (fun h2 k => ?_)
    have t2 : Tx b n i h2 := ⟨(funext (fun j => fr_i k.2.1 (by decide +kernel) j)).trans hb, by show (h_i h2 11 1).toNatClampNeg = n; rw [(k.2.1.2 11 1 (by decide +kernel)).1]; exact hn, k.2.2.2.2.1⟩
    have a2 : xa h2 = 0 := by
      show (h_i h2 11 2).toNatClampNeg = 0
      rw [k.2.2.1]
      rfl
    have F2 : Fr wzr h h2 := k.2.1.more (by decide +kernel)
    have C := cl d h2 k.1 t2
    have go : ∀ r8 h6, Xr b n (clq b n i (xa h2)) h2 r8 h6 → Wf h6 ∧ AW (m_X8_readRule (d + 80 + 60) 0 0) 0 0 33 [(0, .ref 11), (1, .int x1), (2, .int r8), (3, .int 0)] [] h6 (kI (fun r h' => r = h_i h' 11 3 ∧ Iv h' ∧ Fr wzr h h' ∧ h_i h' 11 3 = enq b n (ruq b n (clq b n i)))) := fun r8 h6 X => by
      have G := X.2.2
      rw [a2] at G
      exact ⟨X.1.1, body h2 k.1 F2 t2 a2 k.2.2.2.1 160 r8 0 h6 (by decide) X.1 X.2.1 (sqx (f := clq b n i) (lpr_c 160) G)⟩
    exact ⟨k.1.1, fun y => Ci.mono (C.1 y) go, fun y => Ci.mono (C.2 y) go⟩
  refine t_X8_readRule (d + 80) h I.1 x1 _ ⟨fun y => ?_, fun y => ?_⟩
  · refine st 2 ?_
    rcases hx with u | u
    · exact u.2.symm
    · exact absurd y u.1
  · refine st 1 ?_
    rcases hx with u | u
    · exact absurd u.1 y
    · exact u.2.symm
/-! steps: what is found, and the steps themselves unfolded (sort, first number, second) -/
noncomputable abbrev Sp3 := Int32 × Int32 × Int32
noncomputable def nmg (b : Nat → Int32) (n : Nat) (lo hi : Int32) : Rcg := fun a => ((nmr b n lo hi a).1, (nmr b n lo hi a).2.1)
noncomputable def nmw (b : Nat → Int32) (n : Nat) (lo hi : Int32) (a : Nat) : Int32 := (nmr b n lo hi a).2.2
noncomputable def stq (b : Nat → Int32) (n : Nat) (z : Bool) (f : Rcg) : Rcg := fun a => if skv b n a = 103 then nmg b n 0 15 (ska b n a + 1) else if skv b n a = 119 then nmg b n 1 240 (ska b n a + 1) else if skv b n a = 112 then sqr (nmg b n 0 15) (nmg b n 0 1440) (ska b n a + 1) else if skv b n a = 108 then (true, ska b n (ska b n a + 1)) else if skv b n a = 40 then (if z = true then (false, ska b n a) else sqr f (sqr (exr b n 41) (nmg b n 1 20)) (ska b n a + 1)) else (false, ska b n a)
noncomputable def rpl : Nat → List Sp3 → List Sp3
  | 0, _ => []
  | k + 1, L => L ++ rpl k L
noncomputable def sto (b : Nat → Int32) (n : Nat) (f : Rcg) (o : Nat → List Sp3) : Nat → List Sp3 := fun a => if skv b n a = 103 then [(0, nmw b n 0 15 (ska b n a + 1), 0)] else if skv b n a = 119 then [(1, nmw b n 1 240 (ska b n a + 1), 0)] else if skv b n a = 112 then [(2, nmw b n 0 15 (ska b n a + 1), nmw b n 0 1440 (nmg b n 0 15 (ska b n a + 1)).2)] else if skv b n a = 108 then [(3, 0, 0)] else rpl (nmw b n 1 20 (exr b n 41 (f (ska b n a + 1)).2).2).toNatClampNeg (o (ska b n a + 1))
noncomputable def sps (b : Nat → Int32) (n : Nat) (f : Rcg) : Rcg := sqr f (lpr b n (isq 59) f 160)
noncomputable def lpo (b : Nat → Int32) (n : Nat) (f : Rcg) (o : Nat → List Sp3) : Nat → Nat → List Sp3
  | 0, _ => []
  | k + 1, a => if isq 59 (skv b n a) = true then o (ska b n a + 1) ++ lpo b n f o k (f (ska b n a + 1)).2 else []
noncomputable def spo (b : Nat → Int32) (n : Nat) (f : Rcg) (o : Nat → List Sp3) : Nat → List Sp3 := fun a => o a ++ lpo b n f o 160 (f a).2
noncomputable def stn (b : Nat → Int32) (n : Nat) : Nat → Rcg
  | 0 => stq b n true (fun a => (false, a))
  | r + 1 => stq b n false (sps b n (stn b n r))
noncomputable def ston (b : Nat → Int32) (n : Nat) : Nat → Nat → List Sp3
  | 0 => sto b n (fun a => (false, a)) (fun _ => [])
  | r + 1 => sto b n (sps b n (stn b n r)) (spo b n (stn b n r) (ston b n r))
noncomputable def Cno (b : Nat → Int32) (n : Nat) (o : Nat → List Sp3) : Prop := ∀ a, o (ska b n a) = o a
theorem nmr_c {b : Nat → Int32} {n : Nat} {lo hi : Int32} (a : Nat) : nmr b n lo hi (ska b n a) = nmr b n lo hi a := by
  unfold nmr
  rw [skv_i, ska_i]
theorem nmg_c {b : Nat → Int32} {n : Nat} {lo hi : Int32} : Cnr b n (nmg b n lo hi) := fun a => by
  unfold nmg
  rw [nmr_c]
theorem nmw_c {b : Nat → Int32} {n : Nat} {lo hi : Int32} (a : Nat) : nmw b n lo hi (ska b n a) = nmw b n lo hi a := by
  unfold nmw
  rw [nmr_c]
theorem stq_c {b : Nat → Int32} {n : Nat} {z : Bool} {f : Rcg} : Cnr b n (stq b n z f) := fun a => by
  unfold stq
  rw [skv_i, ska_i]
theorem sto_c {b : Nat → Int32} {n : Nat} {f : Rcg} {o : Nat → List Sp3} : Cno b n (sto b n f o) := fun a => by
  unfold sto
  rw [skv_i, ska_i]
theorem lpo_c {b : Nat → Int32} {n : Nat} {f : Rcg} {o : Nat → List Sp3} (k : Nat) : Cno b n (lpo b n f o k) := fun a => by
  cases k with
  | zero => rfl
  | succ k =>
    show (if isq 59 (skv b n (ska b n a)) = true then o (ska b n (ska b n a) + 1) ++ lpo b n f o k (f (ska b n (ska b n a) + 1)).2 else []) = _
    rw [skv_i, ska_i]
    rfl
theorem rpl_s (L : List Sp3) : ∀ (k : Nat), rpl (k + 1) L = rpl k L ++ L
  | 0 => by
    show L ++ [] = [] ++ L
    rw [List.append_nil, List.nil_append]
  | k + 1 => by
    show L ++ rpl (k + 1) L = (L ++ rpl k L) ++ L
    rw [rpl_s L k, List.append_assoc]
theorem rpl_1 (L : List Sp3) : rpl 1 L = L := List.append_nil L
theorem rpl_l (L : List Sp3) {j k : Nat} (h : j ≤ k) : (rpl j L).length ≤ (rpl k L).length := by
  induction k with
  | zero =>
    have : j = 0 := by omega
    rw [this]
    exact Nat.le_refl _
  | succ k ih =>
    rcases Nat.lt_or_ge k j with u | u
    · rw [show j = k + 1 by omega]
      exact Nat.le_refl _
    · rw [rpl_s, List.length_append]
      have := ih u
      omega
/-! the class's steps -/
noncomputable def pkS (x : Sp3) : Int32 := if x.1 = 1 then (((1 : Int32) ||| ((0 : Int32) <<< ((2 : Int32) &&& 31))) ||| (x.2.1 <<< ((6 : Int32) &&& 31))) else ((x.1 ||| (x.2.1 <<< ((2 : Int32) &&& 31))) ||| (x.2.2 <<< ((6 : Int32) &&& 31)))
noncomputable def wzo : List Nat := [11002, 11003, 11006, 11007, 11009, 32999, 33999]
noncomputable def Ou (L : List Sp3) (h : Hp_) : Prop := (h_i h 11 7 = 0 ∧ L.length ≤ 150 ∧ h_i h 11 6 = Int32.ofNat L.length ∧ ∀ k x, L[k]? = some x → h_i h 32 k = pkS x) ∨ (h_i h 11 7 = 1 ∧ 150 < L.length)
theorem Ou.fr {L : List Sp3} {ws : List Nat} {h h' : Hp_} (O : Ou L h) (f : Fr ws h h') (o : (off ws 32 && !inw ws 11 6 && !inw ws 11 7) = true) : Ou L h' := by
  simp only [Bool.and_eq_true, Bool.not_eq_true'] at o
  have e6 : h_i h' 11 6 = h_i h 11 6 := (f.2 11 6 o.1.2).1
  have e7 : h_i h' 11 7 = h_i h 11 7 := (f.2 11 7 o.2).1
  rcases O with O | O
  · exact Or.inl ⟨by rw [e7]; exact O.1, O.2.1, by rw [e6]; exact O.2.2.1, fun k x e => by rw [fr_i f o.1.1]; exact O.2.2.2 k x e⟩
  · exact Or.inr ⟨by rw [e7]; exact O.1, O.2⟩
theorem Ou.lg {L M : List Sp3} {h : Hp_} (O : Ou L h) (t : ¬ h_i h 11 7 = 0) (l : L.length ≤ M.length) : Ou M h := by
  rcases O with O | O
  · exact absurd O.1 t
  · exact Or.inr ⟨O.1, by omega⟩
theorem y6 {h : Hp_} (I : Iv h) {x : Int32} (b : 0 ≤ x.toInt ∧ x.toInt ≤ 150) : Iv (h_im h 11 6 x) := I.im (by rw [show tf 11 6 = (0, 150) by decide +kernel]; exact b) (by decide)
theorem y7 {h : Hp_} (I : Iv h) : Iv (h_im h 11 7 1) := I.im (by rw [show tf 11 7 = (0, 1) by decide +kernel]; exact ⟨by decide, by decide⟩) (by decide)
theorem y32 {h : Hp_} (I : Iv h) (k : Nat) (x : Int32) : Iv (h_im h 32 k x) := i2xx 32 (by decide +kernel) (by decide) (by decide) I k x
theorem x6_in {h : Hp_} (I : Iv h) : 0 ≤ (h_i h 11 6).toInt ∧ (h_i h 11 6).toInt ≤ 150 := by
  have rg := I.2.1 11 6
  rw [show tf 11 6 = (0, 150) by decide +kernel] at rg
  exact ⟨rg.1, rg.2⟩
/-- one step more; the rows of the others stay, and their number does not fall -/
theorem c_aps (d : Nat) {h : Hp_} (I : Iv h) (x1 : Int32) : Cv (m_X8_appendStep (d + 0) 0 0) [.ref 11, .int x1] h (fun h' => Iv h' ∧ Fr [11006, 11007, 32999] h h' ∧ (∀ L x, Ou L h → pkS x = x1 → Ou (L ++ [x]) h') ∧ (∀ k : Nat, (k : Int) < (h_i h 11 6).toInt → h_i h' 32 k = h_i h 32 k) ∧ (h_i h 11 6).toInt ≤ (h_i h' 11 6).toInt) := by
  have t1 : (1 : Int32).toInt = 1 := rfl
  have t150 : (150 : Int32).toInt = 150 := rfl
  have b6 := x6_in I
  have n6 := n_nat b6.1
  refine t_X8_appendStep d h I.1 x1 _ ⟨fun z => ⟨y7 I, (Fr.rf _ _).im (by decide +kernel), fun L x O _ => Or.inr ⟨im_at, ?_⟩, fun k _ => im_ne (by decide), by rw [g_ne (by decide)]; exact Int.le_refl _⟩, fun z => ?_⟩
  · have z := q_le.mp z
    rw [List.length_append, List.length_singleton]
    rcases O with O | O
    · have e := congrArg Int32.toInt O.2.2.1
      rw [on_j (by omega)] at e
      omega
    · omega
  · have z := q_nle z
    have e1 : (h_i h 11 6 + 1).toInt = (h_i h 11 6).toInt + 1 := tx_add (by rw [t1]; omega) (by rw [t1]; omega)
    refine ⟨dp_in (lo := 0) (hi := 149) ⟨b6.1, by show _ ≤ (149 : Int); omega⟩ (by decide) (by decide), y6 (y32 I _ _) ⟨by rw [e1]; omega, by rw [e1]; omega⟩, ((Fr.rf _ _).im (inw_row (by decide +kernel) _)).im (by decide +kernel), fun L x O ex => ?_, fun k hk => ?_, ?_⟩
    · rcases O with O | O
      · have e := congrArg Int32.toInt O.2.2.1
        have o2 := O.2.1
        rw [on_j (by omega)] at e
        refine Or.inl ⟨?_, ?_, ?_, fun k y ey => ?_⟩
        · rw [g_ne (by decide), im_ne (by decide)]
          exact O.1
        · rw [List.length_append, List.length_singleton]
          omega
        · rw [im_at, List.length_append, List.length_singleton]
          refine Int32.toInt_inj.mp ?_
          rw [e1, on_j (by omega)]
          omega
        · rw [im_ne (by decide), h_i_im]
          rcases Nat.lt_or_ge k L.length with u | u
          · rw [List.getElem?_append_left u] at ey
            rw [if_neg (fun c => by have := c.2; omega)]
            exact O.2.2.2 k y ey
          · have ku : k = L.length := by
              rcases Nat.lt_or_ge L.length k with v | v
              · rw [List.getElem?_eq_none (by rw [List.length_append, List.length_singleton]; omega)] at ey
                cases ey
              · omega
            subst ku
            rw [List.getElem?_append_right (Nat.le_refl _), Nat.sub_self] at ey
            have ey' : x = y := by simpa using ey
            rw [if_pos ⟨rfl, by omega⟩, ← ey']
            exact ex.symm
      · refine Or.inr ⟨?_, ?_⟩
        · rw [g_ne (by decide), im_ne (by decide)]
          exact O.1
        · rw [List.length_append]
          omega
    · rw [im_ne (by decide), h_i_im, if_neg (fun c => by have := c.2; omega)]
    · rw [im_at, e1]
      omega
noncomputable def Xo (b : Nat → Int32) (n : Nat) (T : Bool × Nat) (M : List Sp3) (h : Hp_) (r : Int32) (h' : Hp_) : Prop := Iv h' ∧ Fr wzo h h' ∧ Fxq b n T h r h' ∧ (¬ r = 0 → ∀ L, Ou L h → Ou (L ++ M) h')
noncomputable def Ro (b : Nat → Int32) (n s : Nat) (S : Rcg) (O : Nat → List Sp3) (C : Nat → Hp_ → (Int32 → Hp_ → Prop) → Prop) : Prop := ∀ (d : Nat) (h : Hp_), Iv h → Tx b n s h → C d h (fun r h' => Xo b n (S (xa h)) (O (xa h)) h r h')
theorem c_flo {b : Nat → Int32} {n : Nat} (d : Nat) {h h4 : Hp_} {r3 : Int32} (L : Pk b n h r3 h4) {T : Bool × Nat} {M : List Sp3} (e : T = (false, ska b n (xa h))) : Ci (m_X8_fail (d + 0) 0 0) [.ref 11] h4 (fun r h' => Wf h' ∧ ((r = 0 ∨ r = 1) ∧ Xo b n T M h r h')) := by
  refine Ci.mono (c_fl d L.1) (fun r2 h2 k => ⟨k.2.1.1, Or.inl k.1, k.2.1, (L.2.1.more (by decide +kernel)).tr (k.2.2.1.more (by decide +kernel)), Or.inr ⟨k.1, ?_, ?_⟩, fun y => absurd k.1 y⟩)
  · rw [e]
  · rw [e, k.2.2.2, L.2.2.1]
theorem c_ads (d : Nat) {h : Hp_} (I : Iv h) (x1 x2 x3 : Int32) : Ci (m_X8_addStep (d + 1) 0 0) [.ref 11, .int x1, .int x2, .int x3] h (fun r h' => (r = 0 ∨ r = 1) ∧ Iv h' ∧ Fr [11006, 11007, 32999] h h' ∧ ((x2 = -1 ∨ x3 = -1) → r = 0 ∧ h' = h) ∧ (¬ x2 = -1 → ¬ x3 = -1 → r = 1 ∧ ∀ L x, Ou L h → pkS x = ((x1 ||| (x2 <<< ((2 : Int32) &&& 31))) ||| (x3 <<< ((6 : Int32) &&& 31))) → Ou (L ++ [x]) h')) := by
  refine t_X8_addStep d h x1 x2 x3 _ ⟨fun e => ⟨Or.inl rfl, I, Fr.rf _ _, fun _ => ⟨rfl, rfl⟩, fun y => absurd e y⟩, fun n2 => ⟨fun n3 => t_X0_pack d h x1 x2 x3 _ ⟨I.1, Cv.mono (c_aps d I _) (fun h6 k => ⟨k.1.1, Or.inr rfl, k.1, k.2.1, fun y => absurd y (fun z => z.elim n2 n3), fun _ _ => ⟨rfl, k.2.2.1⟩⟩)⟩, fun e => ⟨Or.inl rfl, I, Fr.rf _ _, fun _ => ⟨rfl, rfl⟩, fun _ y => absurd e y⟩⟩⟩
theorem Xo.pre {b : Nat → Int32} {n : Nat} {T : Bool × Nat} {M : List Sp3} {h h6 h' : Hp_} {r : Int32} (X : Xo b n T M h6 r h') (F : Fr [11002] h h6) : Xo b n T M h r h' := ⟨X.1, (F.more (by decide +kernel)).tr X.2.1, X.2.2.1.b (fw3 F (by decide +kernel)), fun nr L O => X.2.2.2 nr L (O.fr F (by decide +kernel))⟩
theorem Xo.z {b : Nat → Int32} {n : Nat} {T : Bool × Nat} {M : List Sp3} {h h' : Hp_} {r : Int32} (X : Xo b n T M h r h') : r = 0 ∨ r = 1 := X.2.2.1.z
/-- a number, and a step made of it -/
theorem c_na (d : Nat) {b : Nat → Int32} {n s : Nat} {h : Hp_} (I : Iv h) (t : Tx b n s h) (lo hi x1 : Int32) (l0 : 0 ≤ lo.toInt) (u v : Int32 → Int32) (y : Int32 → Sp3) (a1 : u (-1) = -1 ∨ v (-1) = -1) (a2 : ∀ r, ¬ r = -1 → ¬ u r = -1 ∧ ¬ v r = -1) (a3 : ∀ r, pkS (y r) = ((x1 ||| (u r <<< ((2 : Int32) &&& 31))) ||| (v r <<< ((6 : Int32) &&& 31)))) :
    Ci (m_X8_readNumber (d + 1) 0 0) [.ref 11, .int lo, .int hi] h (fun r h10 => Wf h10 ∧ Ci (m_X8_addStep (d + 1) 0 0) [.ref 11, .int x1, .int (u r), .int (v r)] h10 (fun r15 h13 => Wf h13 ∧ ((r15 = 0 ∨ r15 = 1) ∧ Xo b n (nmg b n lo hi (xa h)) [y (nmw b n lo hi (xa h))] h r15 h13))) := by
  refine Ci.mono (c_rn d I t lo hi) (fun r h10 N => ⟨N.1.1, Ci.mono (c_ads d N.1 x1 (u r) (v r)) (fun r15 h13 A => ⟨A.2.1.1, A.1, A.2.1, (N.2.1.more (by decide +kernel)).tr (A.2.2.1.more (by decide +kernel)), ?_, ?_⟩)⟩)
  · rcases N.2.2 with N | N
    · have v := nmr_b N.1
      rw [← N.2.1] at v
      have v0 := q_le.mp v.1
      have nr : ¬ r = -1 := fun e => by
        rw [e] at v0
        have o : (-1 : Int32).toInt = -1 := rfl
        omega
      have k := A.2.2.2.2 (a2 r nr).1 (a2 r nr).2
      exact Fxq.mv (Or.inl ⟨k.1, N.1, N.2.2.1, N.2.2.2⟩) A.2.2.1 (by decide +kernel)
    · have e := N.2.1
      rw [e] at A
      have k := A.2.2.2.1 a1
      rw [k.2]
      exact Or.inr ⟨k.1, N.1, N.2.2⟩
  · intro n0 L O
    rcases N.2.2 with M | M
    · have v := nmr_b M.1
      rw [← M.2.1] at v
      have v0 := q_le.mp v.1
      have nr : ¬ r = -1 := fun e => by
        rw [e] at v0
        have o : (-1 : Int32).toInt = -1 := rfl
        omega
      have k := A.2.2.2.2 (a2 r nr).1 (a2 r nr).2
      have e : nmw b n lo hi (xa h) = r := M.2.1.symm
      rw [e]
      exact k.2 L (y r) (O.fr N.2.1 (by decide +kernel)) (a3 r)
    · have e := M.2.1
      rw [e] at A
      exact absurd (A.2.2.2.1 a1).1 n0
theorem c_rpt {b : Nat → Int32} {n s : Nat} : Ro b n s (sqr (nmg b n 0 15) (nmg b n 0 1440)) (fun a => [(2, nmw b n 0 15 a, nmw b n 0 1440 (nmg b n 0 15 a).2)]) (fun d h K => Ci (m_X8_readPoint (d + 2) 0 0) [.ref 11] h K) := by
  intro d h I t
  refine t_X8_readPoint d h I.1 _ (Ci.mono (c_rn d I t 0 15) (fun r3 h1 N => ⟨N.1.1, fun e => ?_, fun ne => ?_⟩))
  · rcases N.2.2 with M | M
    · have v := nmr_b M.1
      rw [← M.2.1, e] at v
      exact absurd v.1 (by decide)
    · have e1 : sqr (nmg b n 0 15) (nmg b n 0 1440) (xa h) = nmg b n 0 15 (xa h) := by
        unfold sqr
        exact if_neg (by show ¬ (nmr b n 0 15 (xa h)).1 = true; rw [M.1]; decide)
      refine ⟨N.1, N.2.1.more (by decide +kernel), ?_, fun y => absurd rfl y⟩
      rw [e1]
      exact Or.inr ⟨rfl, M.1, M.2.2⟩
  · rcases N.2.2 with M | M
    · have t1 : Tx b n s h1 := t.fr N.2.1 (by decide +kernel)
      have e1 : sqr (nmg b n 0 15) (nmg b n 0 1440) (xa h) = nmg b n 0 1440 (xa h1) := by
        unfold sqr
        rw [if_pos (show (nmg b n 0 15 (xa h)).1 = true from M.1)]
        show nmg b n 0 1440 (nmr b n 0 15 (xa h)).2.1 = _
        rw [← M.2.2.1, nmg_c]
      have e2 : nmw b n 0 1440 (nmg b n 0 15 (xa h)).2 = nmw b n 0 1440 (xa h1) := by
        show nmw b n 0 1440 (nmr b n 0 15 (xa h)).2.1 = _
        rw [← M.2.2.1, nmw_c]
      have e3 : nmw b n 0 15 (xa h) = r3 := M.2.1.symm
      have fin : ∀ (w r : Int32) (h8 : Hp_), w = r → Xo b n (nmg b n 0 1440 (xa h1)) [(2, r3, nmw b n 0 1440 (xa h1))] h1 r h8 → Xo b n (sqr (nmg b n 0 15) (nmg b n 0 1440) (xa h)) [(2, nmw b n 0 15 (xa h), nmw b n 0 1440 (nmg b n 0 15 (xa h)).2)] h w h8 := fun w r h8 ew X => by
        rw [ew, e1, e2, e3]
        exact ⟨X.1, (N.2.1.more (by decide +kernel)).tr X.2.1, X.2.2.1.b M.2.2.2, fun nr L O => X.2.2.2 nr L (O.fr N.2.1 (by decide +kernel))⟩
      refine Ci.mono (c_na d N.1 t1 0 1440 2 (by decide) (fun _ => r3) (fun r => r) (fun r => (2, r3, r)) (Or.inr rfl) (fun r y => ⟨ne, y⟩) (fun r => by unfold pkS; exact if_neg (show ¬ (2 : Int32) = 1 by decide))) (fun r7 h5 q => ⟨q.1, Ci.mono q.2 (fun r10 h8 w => ⟨w.1, fun y => fin 0 r10 h8 y.symm w.2.2, fun y => fin 1 r10 h8 ?_ w.2.2⟩)⟩)
      rcases w.2.1 with u | u
      · exact absurd u y
      · exact u.symm
    · exact absurd M.2.1 ne
theorem c_rstep {b : Nat → Int32} {n s : Nat} (e : Nat) (x1 : Int32) (z : Bool) (f : Rcg) (o : Nat → List Sp3) (G : ∀ (d : Nat) (h : Hp_), Iv h → Tx b n s h → ska b n (xa h) = xa h → skv b n (xa h) = 40 → Ci (m_X8_readGroup (d + e + 51) 0 0) [.ref 11, .int x1] h (fun r h' => Xo b n (stq b n z f (xa h)) (sto b n f o (xa h)) h r h')) : Ro b n s (stq b n z f) (sto b n f o) (fun d h K => Ci (m_X8_readStep (d + e + 52) 0 0) [.ref 11, .int x1] h K) := by
  intro d h I t
  refine t_X8_readStep (d + e) h I.1 x1 _ (Ci.mono (c_pk (d + e) I t) (fun r3 h1 L => ?_))
  have t1 : Tx b n s h1 := t.fr L.2.1 (by decide +kernel)
  have ev := L.2.2.2
  refine ⟨L.1.1, fun e40 => ?_, fun e103 => ?_, fun e108 => ?_, fun e112 => ?_, fun e119 => ?_, fun no => c_flo (d + e) L ?_⟩
  · have k := G d h1 L.1 t1 L.i (by rw [L.2.2.1, skv_i, ← ev]; exact e40)
    refine Ci.mono k (fun r7 h5 X => ⟨X.1.1, X.z, ?_⟩)
    have X := X.pre L.2.1
    rw [L.2.2.1, stq_c, sto_c] at X
    exact X
  · obtain ⟨I6, F6, a6⟩ := nxx I t L (by rw [e103]; decide)
    refine Ci.mono (c_na (d + e) I6 (t.fr F6 (by decide +kernel)) 0 15 0 (by decide) (fun r => r) (fun _ => 0) (fun r => (0, r, 0)) (Or.inl rfl) (fun r y => ⟨y, by decide⟩) (fun r => by unfold pkS; exact if_neg (show ¬ (0 : Int32) = 1 by decide))) (fun r12 h10 q => ⟨q.1, Ci.mono q.2 (fun r15 h13 w => ⟨w.1, w.2.1, ?_⟩)⟩)
    have X := w.2.2.pre F6
    rw [a6] at X
    unfold stq sto
    rw [if_pos (by rw [← ev]; exact e103), if_pos (by rw [← ev]; exact e103)]
    exact X
  · obtain ⟨I6, F6, a6⟩ := nxx I t L (by rw [e108]; decide)
    refine Ci.mono (c_ads (d + e) I6 3 0 0) (fun r20 h18 A => ?_)
    have k := A.2.2.2.2 (by decide) (by decide)
    refine ⟨A.2.1.1, A.1, A.2.1, (F6.more (by decide +kernel)).tr (A.2.2.1.more (by decide +kernel)), ?_, fun _ L0 O => ?_⟩
    · unfold stq
      rw [← ev, e108, if_neg (by decide), if_neg (by decide), if_neg (by decide), if_pos rfl]
      exact Fxq.mv (Or.inl ⟨k.1, rfl, by rw [a6], fw3 F6 (by decide +kernel)⟩) A.2.2.1 (by decide +kernel)
    · unfold sto
      rw [← ev, e108, if_neg (by decide), if_neg (by decide), if_neg (by decide), if_pos rfl]
      exact k.2 L0 (3, 0, 0) (O.fr F6 (by decide +kernel)) (by unfold pkS; exact if_neg (by decide))
  · obtain ⟨I6, F6, a6⟩ := nxx I t L (by rw [e112]; decide)
    refine Ci.mono (c_rpt (d + e) _ I6 (t.fr F6 (by decide +kernel))) (fun r25 h23 X => ⟨X.1.1, X.z, ?_⟩)
    have X := X.pre F6
    rw [a6] at X
    unfold stq sto
    rw [← ev, e112, if_neg (by decide), if_neg (by decide), if_pos rfl, if_neg (by decide), if_neg (by decide), if_pos rfl]
    exact X
  · obtain ⟨I6, F6, a6⟩ := nxx I t L (by rw [e119]; decide)
    refine Ci.mono (c_na (d + e) I6 (t.fr F6 (by decide +kernel)) 1 240 1 (by decide) (fun _ => 0) (fun r => r) (fun r => (1, r, 0)) (Or.inr rfl) (fun r y => ⟨by decide, y⟩) (fun r => by unfold pkS; exact if_pos rfl)) (fun r12 h10 q => ⟨q.1, Ci.mono q.2 (fun r15 h13 w => ⟨w.1, w.2.1, ?_⟩)⟩)
    have X := w.2.2.pre F6
    rw [a6] at X
    unfold stq sto
    rw [← ev, e119, if_neg (by decide), if_pos rfl, if_neg (by decide), if_pos rfl]
    exact X
  · unfold stq
    rw [← ev, if_neg no.2.1, if_neg no.2.2.2.2, if_neg no.2.2.2.1, if_neg no.2.2.1, if_neg no.1]
theorem c_rsteps {b : Nat → Int32} {n s : Nat} (e : Nat) (x1 : Int32) (f : Rcg) (o : Nat → List Sp3) (A : Ro b n s f o (fun d h K => Ci (m_X8_readStep (d + e + 52) 0 0) [.ref 11, .int x1] h K)) : Ro b n s (sps b n f) (spo b n f o) (fun d h K => Ci (m_X8_readSteps (d + e + 53) 0 0) [.ref 11, .int x1] h K) := by
  intro d h I t
  have lp : ∀ (k : Nat) (x2 x3 : Int32) (h2 : Hp_), x3.toInt + k = 160 → Iv h2 → Fr wzo h h2 → Sx b n (sps b n f (xa h)) (lpr b n (isq 59) f k) h x2 h2 → (¬ x2 = 0 → ∃ P, (∀ L, Ou L h → Ou (L ++ P) h2) ∧ spo b n f o (xa h) = P ++ lpo b n f o k (xa h2)) → AW (m_X8_readSteps (d + e + 53) 0 0) 0 0 8 [(0, .ref 11), (1, .int x1), (2, .int x2), (3, .int x3)] [] h2 (kI (fun r h' => Xo b n (sps b n f (xa h)) (spo b n f o (xa h)) h r h')) := by
    intro k
    induction k with
    | zero =>
      intro x2 x3 h2 m I2 F2 S Q
      refine t_X8_readSteps_8 (d + e) h2 I2.1 x1 x2 x3 _ ⟨fun _ => ⟨S.z, I2, F2, lx0 S, fun nr L O => ?_⟩, fun z => absurd ((x160 m).1 rfl) z⟩
      obtain ⟨P, q1, q2⟩ := Q nr
      rw [q2]
      show Ou (L ++ (P ++ [])) h2
      rw [List.append_nil]
      exact q1 L O
    | succ k ih =>
      intro x2 x3 h2 m I2 F2 S Q
      have t2 : Tx b n s h2 := t.fr F2 (by decide +kernel)
      refine t_X8_readSteps_8 (d + e) h2 I2.1 x1 x2 x3 _ ⟨fun z => absurd z ((x160 m).2 (by omega)), fun _ => ⟨fun y0 => ⟨S.z, I2, F2, S.n y0, fun nr => absurd y0 nr⟩, fun y1 => Ci.mono (c_pk (d + e) I2 t2) (fun r h5 L => ⟨L.1.1, fun nr => ⟨S.z, L.1, F2.tr (L.2.1.more (by decide +kernel)), lxx S y1 L (decide_eq_false nr), fun _ L0 O => ?_⟩, fun er => ?_⟩)⟩⟩
      · obtain ⟨P, q1, q2⟩ := Q y1
        have e0 : lpo b n f o (k + 1) (xa h2) = [] := by
          show (if isq 59 (skv b n (xa h2)) = true then _ else _) = _
          exact if_neg (by rw [← L.2.2.2]; exact fun y => nr (of_decide_eq_true y))
        rw [q2, e0, List.append_nil]
        exact (q1 L0 O).fr L.2.1 (by decide +kernel)
      · obtain ⟨P, q1, q2⟩ := Q y1
        obtain ⟨I6, F6, a6⟩ := nxx I2 t2 L (by rw [er]; decide)
        refine Ci.mono (A d _ I6 (t2.fr F6 (by decide +kernel))) (fun r15 h13 X => ⟨X.1.1, ?_⟩)
        have G := X.2.2.1
        have X4 := X.2.2.2
        rw [a6] at G X4
        refine ih r15 (x3 + 1) h13 (x161 m) X.1 (F2.tr ((F6.more (by decide +kernel)).tr X.2.1)) (lxs S y1 L.2.2.2 (decide_eq_true er) (fw3 F6 (by decide +kernel)) G) (fun n15 => ⟨P ++ o (ska b n (xa h2) + 1), fun L0 O => ?_, ?_⟩)
        · rw [← List.append_assoc]
          exact X4 n15 _ ((q1 L0 O).fr F6 (by decide +kernel))
        · have e0 : lpo b n f o (k + 1) (xa h2) = o (ska b n (xa h2) + 1) ++ lpo b n f o k (f (ska b n (xa h2) + 1)).2 := by
            show (if isq 59 (skv b n (xa h2)) = true then _ else _) = _
            exact if_pos (by rw [← L.2.2.2, er]; decide)
          rw [q2, e0, ← (G.ok n15).2.1, lpo_c k, List.append_assoc]
  refine t_X8_readSteps (d + e) h I.1 x1 _ (Ci.mono (A d h I t) (fun r3 h1 X => ⟨X.1.1, lp 160 r3 0 h1 (by decide) X.1 X.2.1 (sqx (f := f) (lpr_c 160) X.2.2.1) (fun nr => ⟨o (xa h), fun L O => X.2.2.2 nr L O, ?_⟩)⟩))
  unfold spo
  rw [← (X.2.2.1.ok nr).2.1, lpo_c 160]
theorem tk1 : ∀ (M : List Sp3) (t : Nat) (y : Sp3), M[t]? = some y → M.take (t + 1) = M.take t ++ [y]
  | [], t, y, h => by simp at h
  | a :: M, 0, y, h => by
    have h : a = y := by simpa using h
    rw [h]
    rfl
  | a :: M, t + 1, y, h => by
    have h : M[t]? = some y := by simpa using h
    show a :: M.take (t + 1) = a :: (M.take t ++ [y])
    rw [tk1 M t y h]
theorem tkl {M : List Sp3} {t : Nat} (h : M.length ≤ t) : M.take t = M := List.take_of_length_le h
theorem c_rgrp {b : Nat → Int32} {n s : Nat} (e : Nat) (x1 : Int32) (f : Rcg) (o : Nat → List Sp3) (hx : x1 < 4) (A : Ro b n s f o (fun d h K => Ci (m_X8_readSteps (d + e + 53) 0 0) [.ref 11, .int (x1 + 1)] h K)) (d : Nat) (h : Hp_) (I : Iv h) (t : Tx b n s h) (sk : ska b n (xa h) = xa h) (e40 : skv b n (xa h) = 40) : Ci (m_X8_readGroup (d + e + 61) 0 0) [.ref 11, .int x1] h (fun r h' => Xo b n (stq b n false f (xa h)) (sto b n f o (xa h)) h r h') := by
  have o1 : (1 : Int32).toInt = 1 := rfl
  have ea : stq b n false f (xa h) = sqr f (sqr (exr b n 41) (nmg b n 1 20)) (xa h + 1) := by
    unfold stq
    rw [e40, if_neg (by decide), if_neg (by decide), if_neg (by decide), if_neg (by decide), if_pos rfl, if_neg (by decide), sk]
  have eo : sto b n f o (xa h) = rpl (nmw b n 1 20 (exr b n 41 (f (xa h + 1)).2).2).toNatClampNeg (o (xa h + 1)) := by
    unfold sto
    rw [e40, if_neg (by decide), if_neg (by decide), if_neg (by decide), if_neg (by decide), sk]
  have L : Pk b n h 40 h := ⟨I, Fr.rf _ _, sk.symm, e40.symm⟩
  obtain ⟨I6, F6, a6⟩ := nxx I t L (by decide)
  rw [sk] at a6
  have g3 := fw3 F6 (by decide +kernel)
  rw [ea, eo]
  refine t_X8_readGroup (d + e) h I.1 x1 _ ⟨fun _ => Ci.mono (A d _ I6 (t.fr F6 (by decide +kernel))) (fun r4 h2 X => ?_), fun y => absurd hx y⟩
  have G1 := X.2.2.1
  have X4 := X.2.2.2
  rw [a6] at G1 X4
  have F2 : Fr wzo h h2 := (F6.more (by decide +kernel)).tr X.2.1
  have t2 : Tx b n s h2 := t.fr F2 (by decide +kernel)
  refine ⟨X.1.1, fun y0 => ⟨X.1, F2, (sqxn (g := sqr (exr b n 41) (nmg b n 1 20)) G1 y0).b g3, fun y => absurd rfl y⟩, fun y1 => Ci.mono (c_ex (d + e) X.1 t2 41 (by decide)) (fun r8 h7 Y => ?_)⟩
  have F7 : Fr wzo h h7 := F2.tr (Y.2.1.more (by decide +kernel))
  have t7 : Tx b n s h7 := t.fr F7 (by decide +kernel)
  refine ⟨Y.1.1, fun w1 => ?_, fun w0 => ⟨Y.1, F7, (sqx2 (g := sqr (exr b n 41) (nmg b n 1 20)) (sqr_c exr_c) G1 y1 (sqxn (g := nmg b n 1 20) Y.2.2 w0)).b g3, fun y => absurd rfl y⟩⟩
  have up : ∀ (r : Int32) (h' : Hp_), Fxq b n (nmg b n 1 20 (xa h7)) h7 r h' → Fxq b n (sqr f (sqr (exr b n 41) (nmg b n 1 20)) (xa h + 1)) h r h' := fun r h' q => (sqx2 (g := sqr (exr b n 41) (nmg b n 1 20)) (sqr_c exr_c) G1 y1 (sqx2 (g := nmg b n 1 20) nmg_c Y.2.2 w1 q)).b g3
  refine Ci.mono (c_rn (d + e) Y.1 t7 1 20) (fun r12 h10 N => ?_)
  have F10 : Fr wzo h h10 := F7.tr (N.2.1.more (by decide +kernel))
  refine ⟨N.1.1, fun n12 => ?_, fun e12 => ⟨N.1, F10, up 0 h10 ?_, fun y => absurd rfl y⟩⟩
  · have N3 : (nmr b n 1 20 (xa h7)).1 = true ∧ r12 = (nmr b n 1 20 (xa h7)).2.2 ∧ ska b n (xa h10) = (nmr b n 1 20 (xa h7)).2.1 ∧ h_i h10 11 3 = h_i h7 11 3 := by
      rcases N.2.2 with M | M
      · exact M
      · exact absurd M.2.1 n12
    have tm : nmw b n 1 20 (exr b n 41 (f (xa h + 1)).2).2 = r12 := by
      rw [← (G1.ok y1).2.1, exr_c, ← (Y.2.2.ok w1).2.1, nmw_c]
      exact N3.2.1.symm
    rw [tm]
    have vb := nmr_b N3.1
    rw [← N3.2.1] at vb
    have v0 := q_le.mp vb.1
    have v1 := q_le.mp vb.2
    have o20 : (20 : Int32).toInt = 20 := rfl
    rw [o1] at v0
    rw [o20] at v1
    have nT := n_nat (x := r12) (by omega)
    have G10 : Fxq b n (nmg b n 1 20 (xa h7)) h7 1 h10 := Or.inl ⟨rfl, N3.1, N3.2.2.1, N3.2.2.2⟩
    generalize hM : o (xa h + 1) = M at X4 ⊢
    have O10 : ∀ L, Ou L h → Ou (L ++ M) h10 := fun L O => ((X4 y1 L (O.fr F6 (by decide +kernel))).fr Y.2.1 (by decide +kernel)).fr N.2.1 (by decide +kernel)
    have fin : ∀ h3, Iv h3 → Fr [11006, 11007, 32999] h10 h3 → (∀ L, Ou L h → Ou (L ++ rpl r12.toNatClampNeg M) h3) → Xo b n (sqr f (sqr (exr b n 41) (nmg b n 1 20)) (xa h + 1)) (rpl r12.toNatClampNeg M) h 1 h3 := fun h3 I3 F3 O3 => ⟨I3, F10.tr (F3.more (by decide +kernel)), up 1 h3 (G10.mv F3 (by decide +kernel)), fun _ L O => O3 L O⟩
    have b2 := x6_in I
    have b4 := x6_in N.1
    generalize hx2 : h_i h 11 6 = x2 at b2 ⊢
    generalize hx4 : h_i h10 11 6 = x4 at b4 ⊢
    have n2 := n_nat (x := x2) (by omega)
    have n4 := n_nat (x := x4) (by omega)
    have det : ∀ (L : List Sp3) (m : Nat) (h3 : Hp_), 1 ≤ m → Ou L h → Ou (L ++ rpl m M) h3 → h_i h3 11 7 = 0 → x2.toInt = (L.length : Int) ∧ x4.toInt = (L.length : Int) + (M.length : Int) ∧ ∀ (k : Nat) (y : Sp3), M[k]? = some y → h_i h10 32 (L.length + k) = pkS y := by
      intro L m h3 hm O O3 z7
      have l1 : (rpl 1 M).length ≤ (rpl m M).length := rpl_l M hm
      rw [rpl_1] at l1
      have lr : (L ++ rpl m M).length ≤ 150 := by
        rcases O3 with q | q
        · exact q.2.1
        · rw [z7] at q
          exact absurd q.1 (by decide)
      rw [List.length_append] at lr
      have OM := O10 L O
      rcases O with q | q
      · rcases OM with p | p
        · refine ⟨?_, ?_, fun k y ey => ?_⟩
          · have c := congrArg Int32.toInt q.2.2.1
            rw [on_j (by omega), hx2] at c
            exact c
          · have c := congrArg Int32.toInt p.2.2.1
            rw [List.length_append, on_j (by omega), hx4] at c
            rw [c]
            omega
          · refine p.2.2.2 _ y ?_
            rw [List.getElem?_append_right (by omega), Nat.add_sub_cancel_left]
            exact ey
        · have := p.2
          rw [List.length_append] at this
          omega
      · have := q.2
        omega
    have lp : ∀ (q m : Nat) (x5 : Int32) (h3 : Hp_), x5.toInt = (m : Int) → 1 ≤ m → (m : Int) + q = r12.toInt → Iv h3 → Fr [11006, 11007, 32999] h10 h3 → (∀ L, Ou L h → Ou (L ++ rpl m M) h3) → (∀ k : Nat, (k : Int) < x4.toInt → h_i h3 32 k = h_i h10 32 k) → x4.toInt ≤ (h_i h3 11 6).toInt → AW (m_X8_readGroup (d + e + 61) 0 0) 0 0 70 [(0, .ref 11), (2, .int x2), (3, .int r12), (4, .int x4), (5, .int x5)] [] h3 (kI (fun r h' => Xo b n (sqr f (sqr (exr b n 41) (nmg b n 1 20)) (xa h + 1)) (rpl r12.toNatClampNeg M) h r h')) := by
      intro q
      induction q with
      | zero =>
        intro m x5 h3 e5 hm eq I3 F3 O3 S3 l3
        refine t_X8_readGroup_70 (d + e) h3 I3.1 x2 r12 x4 x5 _ ⟨fun _ => fin h3 I3 F3 (fun L O => ?_), fun z => absurd (q_le.mpr (by omega)) z⟩
        rw [show r12.toNatClampNeg = m by omega]
        exact O3 L O
      | succ q ih =>
        intro m x5 h3 e5 hm eq I3 F3 O3 S3 l3
        refine t_X8_readGroup_70 (d + e) h3 I3.1 x2 r12 x4 x5 _ ⟨fun z => ?_, fun _ => ⟨fun tl => fin h3 I3 F3 (fun L O => (O3 L O).lg tl ?_), fun z7 => ?_⟩⟩
        · have z := q_le.mp z
          omega
        · rw [List.length_append, List.length_append]
          have := rpl_l M (show m ≤ r12.toNatClampNeg by omega)
          omega
        · have inn : ∀ (p : Nat) (x6 : Int32) (h4 : Hp_), x2.toInt ≤ x6.toInt → x6.toInt ≤ 150 → x4.toInt - x6.toInt ≤ p → Iv h4 → Fr [11006, 11007, 32999] h10 h4 → (∀ L, Ou L h → Ou (L ++ rpl m M ++ M.take (x6.toInt - x2.toInt).toNat) h4) → (∀ k : Nat, (k : Int) < x4.toInt → h_i h4 32 k = h_i h10 32 k) → x4.toInt ≤ (h_i h4 11 6).toInt → AW (m_X8_readGroup (d + e + 61) 0 0) 0 0 86 [(0, .ref 11), (2, .int x2), (3, .int r12), (4, .int x4), (5, .int x5), (6, .int x6)] [] h4 (kI (fun r h' => Xo b n (sqr f (sqr (exr b n 41) (nmg b n 1 20)) (xa h + 1)) (rpl r12.toNatClampNeg M) h r h')) := by
            have out : ∀ (x6 : Int32) (h4 : Hp_), x2.toInt ≤ x6.toInt → x4 ≤ x6 → Iv h4 → Fr [11006, 11007, 32999] h10 h4 → (∀ L, Ou L h → Ou (L ++ rpl m M ++ M.take (x6.toInt - x2.toInt).toNat) h4) → (∀ k : Nat, (k : Int) < x4.toInt → h_i h4 32 k = h_i h10 32 k) → x4.toInt ≤ (h_i h4 11 6).toInt → AW (m_X8_readGroup (d + e + 61) 0 0) 0 0 70 [(0, .ref 11), (2, .int x2), (3, .int r12), (4, .int x4), (5, .int (x5 + 1))] [] h4 (kI (fun r h' => Xo b n (sqr f (sqr (exr b n 41) (nmg b n 1 20)) (xa h + 1)) (rpl r12.toNatClampNeg M) h r h')) := by
              intro x6 h4 l6 c I4 F4 O4 S4 l4
              have c := q_le.mp c
              have e5' : (x5 + 1).toInt = x5.toInt + 1 := by rw [tx_add (by rw [o1]; omega) (by rw [o1]; omega), o1]
              refine ih (m + 1) (x5 + 1) h4 (by rw [e5']; omega) (by omega) (by omega) I4 F4 (fun L O => ?_) S4 l4
              have dd := det L m h3 hm O (O3 L O) z7
              have k4 := O4 L O
              rw [tkl (by omega)] at k4
              rw [rpl_s, ← List.append_assoc]
              exact k4
            intro p
            induction p with
            | zero =>
              intro x6 h4 l6 h6 mm I4 F4 O4 S4 l4
              exact t_X8_readGroup_86 (d + e) h4 I4.1 x2 r12 x4 x5 x6 _ ⟨fun c => out x6 h4 l6 c I4 F4 O4 S4 l4, fun z => absurd (q_le.mpr (by omega)) z⟩
            | succ p ih2 =>
              intro x6 h4 l6 h6 mm I4 F4 O4 S4 l4
              refine t_X8_readGroup_86 (d + e) h4 I4.1 x2 r12 x4 x5 x6 _ ⟨fun c => out x6 h4 l6 c I4 F4 O4 S4 l4, fun z => ?_⟩
              have z := q_nle z
              have n6 := n_nat (x := x6) (by omega)
              have e6 : (x6 + 1).toInt = x6.toInt + 1 := by rw [tx_add (by rw [o1]; omega) (by rw [o1]; omega), o1]
              refine ⟨dp_in (lo := 0) (hi := 149) ⟨by show (0 : Int) ≤ _; omega, by show _ ≤ (149 : Int); omega⟩ (by decide) (by decide), Cv.mono (c_aps (d + e) I4 _) (fun h5 k => ⟨k.1.1, ?_⟩)⟩
              refine ih2 (x6 + 1) h5 (by omega) (by omega) (by omega) k.1 (F4.tr k.2.1) (fun L O => ?_) (fun j hj => ?_) ?_
              · have dd := det L m h3 hm O (O3 L O) z7
                have tl : (x6.toInt - x2.toInt).toNat < M.length := by omega
                have ey : M[(x6.toInt - x2.toInt).toNat]? = some (M[(x6.toInt - x2.toInt).toNat]'tl) := List.getElem?_eq_getElem tl
                have key := dd.2.2 _ _ ey
                have ej : x6.toNatClampNeg = L.length + (x6.toInt - x2.toInt).toNat := by omega
                rw [show ((x6 + 1).toInt - x2.toInt).toNat = (x6.toInt - x2.toInt).toNat + 1 by omega, tk1 _ _ _ ey, ← List.append_assoc]
                refine k.2.2.1 _ _ (O4 L O) ?_
                rw [S4 _ (by omega), ej]
                exact key.symm
              · rw [k.2.2.2.1 j (by omega)]
                exact S4 j hj
              · have := k.2.2.2.2
                omega
          refine inn 150 x2 h3 (Int.le_refl _) (by omega) (by omega) I3 F3 (fun L O => ?_) S3 l3
          rw [Int.sub_self]
          show Ou (L ++ rpl m M ++ []) h3
          rw [List.append_nil]
          exact O3 L O
    exact lp (r12.toInt - 1).toNat 1 1 h10 rfl (Nat.le_refl _) (by omega) N.1 (Fr.rf _ _) (fun L O => by rw [rpl_1]; exact O10 L O) (fun _ _ => rfl) (by rw [hx4]; exact Int.le_refl _)
  · rcases N.2.2 with M | M
    · have v := nmr_b M.1
      rw [← M.2.1, e12] at v
      exact absurd v.1 (by decide)
    · exact Or.inr ⟨rfl, M.1, M.2.2⟩
theorem c_rgrp0 {b : Nat → Int32} {n s : Nat} (x1 : Int32) (f : Rcg) (o : Nat → List Sp3) (hx : ¬ x1 < 4) (d : Nat) (h : Hp_) (I : Iv h) (t : Tx b n s h) (sk : ska b n (xa h) = xa h) (e40 : skv b n (xa h) = 40) : Ci (m_X8_readGroup (d + 61) 0 0) [.ref 11, .int x1] h (fun r h' => Xo b n (stq b n true f (xa h)) (sto b n f o (xa h)) h r h') := by
  have L : Pk b n h 40 h := ⟨I, Fr.rf _ _, sk.symm, e40.symm⟩
  refine t_X8_readGroup d h I.1 x1 _ ⟨fun y => absurd y hx, fun _ => c_flo d L ?_⟩
  unfold stq
  rw [e40, if_neg (by decide), if_neg (by decide), if_neg (by decide), if_neg (by decide), if_pos rfl, if_pos rfl]
/-- steps at every depth -/
theorem x_steps {b : Nat → Int32} {n s : Nat} : ∀ (r : Nat), r ≤ 4 → Ro b n s (sps b n (stn b n r)) (spo b n (stn b n r) (ston b n r)) (fun d h K => Ci (m_X8_readSteps (d + 10 * (r + 1) + 53) 0 0) [.ref 11, .int (Int32.ofNat (4 - r))] h K)
  | 0, _ => fun d h I t => c_rsteps 10 (Int32.ofNat (4 - 0)) (stn b n 0) (ston b n 0) (c_rstep 10 (Int32.ofNat (4 - 0)) true (fun a => (false, a)) (fun _ => []) (fun d h I t sk e40 => by
      have q := c_rgrp0 (b := b) (n := n) (Int32.ofNat (4 - 0)) (fun a => (false, a)) (fun _ => []) (by decide) d h I t sk e40
      rw [show d + 61 = d + 10 + 51 by omega] at q
      exact q)) d h I t
  | r + 1, hr => fun d h I t => by
    have o : (Int32.ofNat (4 - (r + 1))).toInt = ((4 - (r + 1) : Nat) : Int) := on_j (by omega)
    have o4 : (4 : Int32).toInt = 4 := rfl
    have o1 : (1 : Int32).toInt = 1 := rfl
    have ex : Int32.ofNat (4 - (r + 1)) + 1 = Int32.ofNat (4 - r) := by
      refine Int32.toInt_inj.mp ?_
      rw [tx_add (by rw [o1]; omega) (by rw [o1]; omega), o1, o, on_j (by omega)]
      omega
    have lt : Int32.ofNat (4 - (r + 1)) < 4 := q_lt.mpr (by rw [o, o4]; omega)
    have B : Ro b n s (sps b n (stn b n r)) (spo b n (stn b n r) (ston b n r)) (fun d h K => Ci (m_X8_readSteps (d + 10 * (r + 1) + 53) 0 0) [.ref 11, .int (Int32.ofNat (4 - (r + 1)) + 1)] h K) := by
      rw [ex]
      exact x_steps r (by omega)
    exact c_rsteps (10 * (r + 1 + 1)) (Int32.ofNat (4 - (r + 1))) (stn b n (r + 1)) (ston b n (r + 1)) (c_rstep (10 * (r + 1 + 1)) (Int32.ofNat (4 - (r + 1))) false (sps b n (stn b n r)) (spo b n (stn b n r) (ston b n r)) (fun d h I t sk e40 => by
      have q := c_rgrp (10 * (r + 1)) _ _ _ lt B d h I t sk e40
      rw [show d + 10 * (r + 1) + 61 = d + 10 * (r + 1 + 1) + 51 by omega] at q
      exact q)) d h I t
/-- no place lies behind the tape's end -/
noncomputable def Wk (n : Nat) (f : Rcg) : Prop := ∀ a, a ≤ n → (f a).2 ≤ n
theorem sqr_k {n : Nat} {f g : Rcg} (hf : Wk n f) (hg : Wk n g) : Wk n (sqr f g) := fun a l => by
  unfold sqr
  split
  · exact hg _ (hf a l)
  · exact hf a l
theorem exr_k {b : Nat → Int32} {n : Nat} {c : Int32} (hc : ¬ c = -1) : Wk n (exr b n c) := fun a l => by
  unfold exr
  split
  · rename_i q
    exact (nxt_f (skv_l (by rw [q]; exact hc))).2.1
  · exact ska_le l
theorem lpr_k {b : Nat → Int32} {n : Nat} {sp : Int32 → Bool} (hs : sp (-1) = false) {f : Rcg} (hf : Wk n f) : ∀ (k : Nat), Wk n (lpr b n sp f k)
  | 0, a, l => ska_le l
  | k + 1, a, l => by
    unfold lpr
    split
    · rename_i q
      have u := skv_l (b := b) (n := n) (a := a) (fun e => by rw [e, hs] at q; cases q)
      have w := hf (ska b n a + 1) (by omega)
      split
      · exact lpr_k hs hf k _ w
      · exact w
    · exact ska_le l
theorem nmg_k {b : Nat → Int32} {n : Nat} {lo hi : Int32} : Wk n (nmg b n lo hi) := fun a l => by
  have l' : ska b n a ≤ n := ska_le l
  have q := (nml_p (b := b) (n := n) 4 0 (ska b n a) l').2.1
  show (nmr b n lo hi a).2.1 ≤ n
  unfold nmr
  split
  · split
    · split
      · exact ska_le q
      · show (nml b n 4 0 (ska b n a)).2.1 - 1 ≤ n
        omega
    · exact q
  · exact l'
theorem stq_k {b : Nat → Int32} {n : Nat} {z : Bool} {f : Rcg} (hf : z = true ∨ Wk n f) : Wk n (stq b n z f) := fun a l => by
  have u : ∀ c : Int32, skv b n a = c → ¬ c = -1 → ska b n a + 1 ≤ n := fun c e nc => skv_l (by rw [e]; exact nc)
  unfold stq
  split
  · rename_i q
    exact nmg_k _ (u _ q (by decide))
  · split
    · rename_i q
      exact nmg_k _ (u _ q (by decide))
    · split
      · rename_i q
        exact sqr_k nmg_k nmg_k _ (u _ q (by decide))
      · split
        · rename_i q
          exact ska_le (u _ q (by decide))
        · split
          · rename_i q
            split
            · exact ska_le l
            · rename_i nz
              rcases hf with hf | hf
              · exact absurd hf nz
              · exact sqr_k hf (sqr_k (exr_k (by decide)) nmg_k) _ (u _ q (by decide))
          · exact ska_le l
theorem sps_k {b : Nat → Int32} {n : Nat} {f : Rcg} (hf : Wk n f) : Wk n (sps b n f) := sqr_k hf (lpr_k (by decide) hf 160)
theorem stn_k {b : Nat → Int32} {n : Nat} : ∀ (r : Nat), Wk n (stn b n r)
  | 0 => stq_k (Or.inl rfl)
  | r + 1 => stq_k (Or.inr (sps_k (stn_k r)))
/-! a whole beat -/
noncomputable def wzb : List Nat := [11002, 11003, 11004, 11006, 11007, 11009, 32999, 33999]
noncomputable def beq (b : Nat → Int32) (n : Nat) : Rcg := sps b n (stn b n 4)
noncomputable def beo (b : Nat → Int32) (n : Nat) : List Sp3 := spo b n (stn b n 4) (ston b n 4) 0
theorem c_rb {b : Nat → Int32} {n : Nat} (d : Nat) {h : Hp_} (I : Iv h) (hb : h_i h 31 = b) (hn : xn h = n) : Ci (m_X8_readBeat (d + 50 + 54) 0 0) [.ref 11] h (fun r h' => r = h_i h' 11 3 ∧ Iv h' ∧ Fr wzb h h' ∧ h_i h' 11 3 = enq b n (beq b n) ∧ (r = -1 → Ou (beo b n) h')) := by
  refine t_X8_readBeat (d + 50) h I.1 _ (Cv.mono (c_rst (d + 50) I 0 (by decide)) (fun h1 k => ⟨k.1.1, ?_⟩))
  have t1 : Tx b n 0 h1 := ⟨(funext (fun j => fr_i k.2.1 (by decide +kernel) j)).trans hb, by show (h_i h1 11 1).toNatClampNeg = n; rw [(k.2.1.2 11 1 (by decide +kernel)).1]; exact hn, k.2.2.2.2.1⟩
  have a1 : xa h1 = 0 := by
    show (h_i h1 11 2).toNatClampNeg = 0
    rw [k.2.2.1]
    rfl
  have F1 : Fr wzb h h1 := k.2.1.more (by decide +kernel)
  have w1 : h_i h1 11 3 = -1 := k.2.2.2.1
  have O1 : Ou [] h1 := Or.inl ⟨k.2.2.2.2.2.2.1, by decide, k.2.2.2.2.2.1, fun j x e => by simp at e⟩
  have S := x_steps (b := b) (n := n) (s := 0) 4 (by omega) d h1 k.1 t1
  rw [a1] at S
  refine Ci.mono S (fun r6 h4 X => ?_)
  have G : Fxq b n (beq b n 0) h1 r6 h4 := X.2.2.1
  have F4 : Fr wzb h h4 := F1.tr (X.2.1.more (by decide +kernel))
  refine ⟨X.1.1, fun y0 => ?_, fun y1 => ?_⟩
  · have q : (beq b n 0).1 = false ∧ h_i h4 11 3 = Int32.ofNat (beq b n 0).2 := by
      rcases G with q | q
      · rw [y0] at q
        exact absurd q.1 (by decide)
      · exact q.2
    have ee : h_i h4 11 3 = enq b n (beq b n) := by
      unfold enq
      rw [if_neg (by rw [q.1]; decide)]
      exact q.2
    refine ⟨rfl, X.1, F4, ee, fun e => ?_⟩
    have n160 : n ≤ 160 := by
      have a := xn_i I
      have c := (x1_in I).2
      omega
    rw [ee] at e
    unfold enq at e
    rw [if_neg (by rw [q.1]; decide)] at e
    have k := sps_k (b := b) (stn_k (b := b) (n := n) 4) 0 (Nat.zero_le n)
    exact absurd e (on_mm (Nat.le_trans k n160))
  · have ok := G.ok y1
    have O4 := X.2.2.2 y1 [] O1
    rw [List.nil_append] at O4
    have t4 : Tx b n 0 h4 := t1.fr X.2.1 (by decide +kernel)
    refine Ci.mono (c_pk (d + 50) X.1 t4) (fun r10 h8 L => ⟨L.1.1, fun em => ⟨rfl, L.1, F4.tr (L.2.1.more (by decide +kernel)), ?_, fun _ => O4.fr L.2.1 (by decide +kernel)⟩, fun nm => Ci.mono (c_fl (d + 50) L.1) (fun r2 h9 q => ⟨q.2.1.1, rfl, q.2.1, F4.tr ((L.2.1.more (by decide +kernel)).tr (q.2.2.1.more (by decide +kernel))), ?_, fun _ => (O4.fr L.2.1 (by decide +kernel)).fr q.2.2.1 (by decide +kernel)⟩)⟩)
    · have nl := ska_0 (L.2.2.2.symm.trans em) (fun k _ => b_nm X.1 t4 k)
      unfold enq
      rw [if_pos ok.1, ← ok.2.1, if_neg nl, fw3 L.2.1 (by decide +kernel), ok.2.2]
      exact w1
    · have l := skv_l (by rw [← L.2.2.2]; exact nm)
      unfold enq
      rw [if_pos ok.1, ← ok.2.1, if_pos l, q.2.2.2, L.2.2.1]
end
section
/-! the reference's steps: codes and what they unfold to -/
noncomputable def uB (cd : Nat → Int32) (i i' : Nat) (M : List Sp3) : Prop := (cd i = 0 ∧ rin (cd (i + 1)).toInt (0, 15) ∧ i' = i + 2 ∧ M = [(0, cd (i + 1), 0)]) ∨ (cd i = 1 ∧ rin (cd (i + 1)).toInt (1, 240) ∧ i' = i + 2 ∧ M = [(1, cd (i + 1), 0)]) ∨ (cd i = 2 ∧ rin (cd (i + 1)).toInt (0, 15) ∧ rin (cd (i + 2)).toInt (0, 1440) ∧ i' = i + 3 ∧ M = [(2, cd (i + 1), cd (i + 2))]) ∨ (cd i = 3 ∧ i' = i + 1 ∧ M = [(3, 0, 0)])
noncomputable def sqU (S : Nat → Nat → List Sp3 → Prop) : Nat → Nat → Nat → List Sp3 → Prop
  | 0, i, j, M => i = j ∧ M = []
  | f + 1, i, j, M => ∃ i' A B, S i i' A ∧ sqU S f i' j B ∧ M = A ++ B
noncomputable def uD (cd : Nat → Int32) : Nat → Nat → Nat → List Sp3 → Prop
  | 0, i, i', M => uB cd i i' M
  | g + 1, i, i', M => uB cd i i' M ∨ (cd i = 4 ∧ ∃ f j A, sqU (uD cd g) f (i + 1) j A ∧ cd j = 5 ∧ rin (cd (j + 1)).toInt (1, 20) ∧ i' = j + 2 ∧ M = rpl (cd (j + 1)).toNatClampNeg A)
theorem uB_lt {cd : Nat → Int32} {i i' : Nat} {M : List Sp3} (s : uB cd i i' M) : i < i' ∧ i' ≤ i + 3 := by
  rcases s with ⟨_, _, e, _⟩ | ⟨_, _, e, _⟩ | ⟨_, _, _, e, _⟩ | ⟨_, e, _⟩
  · omega
  · omega
  · omega
  · omega
theorem uB_same {cd cd' : Nat → Int32} {i i' : Nat} {M : List Sp3} (e : ∀ x, i ≤ x → x < i' → cd' x = cd x) (s : uB cd i i' M) : uB cd' i i' M := by
  rcases s with ⟨a, b, c, m⟩ | ⟨a, b, c, m⟩ | ⟨a, b, b', c, m⟩ | ⟨a, c, m⟩
  · have e1 := e (i + 1) (by omega) (by omega)
    exact Or.inl ⟨by rw [e i (by omega) (by omega)]; exact a, by rw [e1]; exact b, c, by rw [e1]; exact m⟩
  · have e1 := e (i + 1) (by omega) (by omega)
    exact Or.inr (Or.inl ⟨by rw [e i (by omega) (by omega)]; exact a, by rw [e1]; exact b, c, by rw [e1]; exact m⟩)
  · have e1 := e (i + 1) (by omega) (by omega)
    have e2 := e (i + 2) (by omega) (by omega)
    exact Or.inr (Or.inr (Or.inl ⟨by rw [e i (by omega) (by omega)]; exact a, by rw [e1]; exact b, by rw [e2]; exact b', c, by rw [e1, e2]; exact m⟩))
  · exact Or.inr (Or.inr (Or.inr ⟨by rw [e i (by omega) (by omega)]; exact a, c, m⟩))
theorem sqU_le {S : Nat → Nat → List Sp3 → Prop} (hS : ∀ a b M, S a b M → a < b) : ∀ {f i j : Nat} {M : List Sp3}, sqU S f i j M → i ≤ j
  | 0, _, _, _, h => Nat.le_of_eq h.1
  | f + 1, i, j, M, h => by
    obtain ⟨i', A, B, a, b, _⟩ := h
    have l1 := hS _ _ _ a
    have l2 := sqU_le hS b
    omega
theorem uD_lt {cd : Nat → Int32} : ∀ {g i i' : Nat} {M : List Sp3}, uD cd g i i' M → i < i'
  | 0, _, _, _, s => (uB_lt s).1
  | g + 1, i, i', M, s => by
    rcases s with s | ⟨_, f, j, A, q, _, _, e, _⟩
    · exact (uB_lt s).1
    · have l := sqU_le (fun a b M t => uD_lt (g := g) t) q
      omega
theorem sqU_same {cd cd' : Nat → Int32} {S S' : Nat → Nat → List Sp3 → Prop} (hl : ∀ a b M, S a b M → a < b) (hS : ∀ a b M, (∀ x, a ≤ x → x < b → cd' x = cd x) → S a b M → S' a b M) : ∀ {f i j : Nat} {M : List Sp3}, (∀ x, i ≤ x → x < j → cd' x = cd x) → sqU S f i j M → sqU S' f i j M
  | 0, _, _, _, _, h => h
  | f + 1, i, j, M, e, h => by
    obtain ⟨i', A, B, a, b, m⟩ := h
    have l1 := hl _ _ _ a
    have l2 := sqU_le hl b
    exact ⟨i', A, B, hS _ _ _ (fun x u v => e x u (by omega)) a, sqU_same hl hS (fun x u v => e x (by omega) v) b, m⟩
theorem uD_same {cd cd' : Nat → Int32} : ∀ {g i i' : Nat} {M : List Sp3}, (∀ x, i ≤ x → x < i' → cd' x = cd x) → uD cd g i i' M → uD cd' g i i' M
  | 0, _, _, _, e, s => uB_same e s
  | g + 1, i, i', M, e, s => by
    rcases s with s | ⟨a, f, j, A, q, b, c, x, m⟩
    · exact Or.inl (uB_same e s)
    · have l := sqU_le (fun _ _ _ t => uD_lt t) q
      have e1 := e (j + 1) (by omega) (by omega)
      refine Or.inr ⟨by rw [e i (by omega) (by omega)]; exact a, f, j, A, ?_, by rw [e j (by omega) (by omega)]; exact b, by rw [e1]; exact c, x, by rw [e1]; exact m⟩
      exact sqU_same (cd := cd) (cd' := cd') (fun _ _ _ t => uD_lt t) (fun _ _ _ e' s' => uD_same (g := g) e' s') (fun x u v => e x (by omega) (by omega)) q
theorem sqUD_same {cd cd' : Nat → Int32} {g f i j : Nat} {M : List Sp3} (e : ∀ x, i ≤ x → x < j → cd' x = cd x) (q : sqU (uD cd g) f i j M) : sqU (uD cd' g) f i j M :=
  sqU_same (cd := cd) (cd' := cd') (fun _ _ _ t => uD_lt t) (fun _ _ _ e' s' => uD_same e' s') e q
theorem sqU_snoc {S : Nat → Nat → List Sp3 → Prop} : ∀ {f i j k : Nat} {M N : List Sp3}, sqU S f i j M → S j k N → sqU S (f + 1) i k (M ++ N)
  | 0, i, j, k, M, N, h, s => by
    obtain ⟨h, m⟩ := h
    subst h
    exact ⟨k, N, [], s, ⟨rfl, rfl⟩, by rw [m, List.nil_append, List.append_nil]⟩
  | f + 1, i, j, k, M, N, h, s => by
    obtain ⟨i', A, B, a, b, m⟩ := h
    exact ⟨i', A, B ++ N, a, sqU_snoc b s, by rw [m, List.append_assoc]⟩
theorem uD.b {cd : Nat → Int32} {g i i' : Nat} {M : List Sp3} (s : uB cd i i' M) : uD cd g i i' M := by
  cases g with
  | zero => exact s
  | succ g => exact Or.inl s
/-- what a step's numbers may be -/
noncomputable def stR (x : Sp3) : Prop := (x.1 = 0 ∧ 0 ≤ x.2.1.toInt ∧ x.2.1.toInt ≤ 15 ∧ x.2.2 = 0) ∨ (x.1 = 1 ∧ 1 ≤ x.2.1.toInt ∧ x.2.1.toInt ≤ 240 ∧ x.2.2 = 0) ∨ (x.1 = 2 ∧ 0 ≤ x.2.1.toInt ∧ x.2.1.toInt ≤ 15 ∧ 0 ≤ x.2.2.toInt ∧ x.2.2.toInt ≤ 1440) ∨ (x.1 = 3 ∧ x.2.1 = 0 ∧ x.2.2 = 0)
theorem uB_r {cd : Nat → Int32} {i i' : Nat} {M : List Sp3} (s : uB cd i i' M) : ∀ x ∈ M, stR x := by
  rcases s with ⟨_, b, _, m⟩ | ⟨_, b, _, m⟩ | ⟨_, b, b', _, m⟩ | ⟨_, _, m⟩ <;> subst m <;> intro x hx <;> rw [List.mem_singleton.mp hx]
  · exact Or.inl ⟨rfl, b.1, b.2, rfl⟩
  · exact Or.inr (Or.inl ⟨rfl, b.1, b.2, rfl⟩)
  · exact Or.inr (Or.inr (Or.inl ⟨rfl, b.1, b.2, b'.1, b'.2⟩))
  · exact Or.inr (Or.inr (Or.inr ⟨rfl, rfl, rfl⟩))
theorem rpl_r {L : List Sp3} (h : ∀ x ∈ L, stR x) : ∀ k, ∀ x ∈ rpl k L, stR x
  | 0, x, hx => by cases hx
  | k + 1, x, hx => (List.mem_append.mp hx).elim (h x) (rpl_r h k x)
theorem sqU_r {S : Nat → Nat → List Sp3 → Prop} (hS : ∀ a b M, S a b M → ∀ x ∈ M, stR x) : ∀ {f i j : Nat} {M : List Sp3}, sqU S f i j M → ∀ x ∈ M, stR x
  | 0, _, _, _, h => fun x hx => by rw [h.2] at hx; cases hx
  | f + 1, i, j, M, h => fun x hx => by
    obtain ⟨i', A, B, a, b, e⟩ := h
    rw [e] at hx
    exact (List.mem_append.mp hx).elim (hS _ _ _ a x) (sqU_r hS b x)
theorem uD_r {cd : Nat → Int32} : ∀ {g i i' : Nat} {M : List Sp3}, uD cd g i i' M → ∀ x ∈ M, stR x
  | 0, _, _, _, s => uB_r s
  | g + 1, i, i', M, s => by
    rcases s with s | ⟨_, f, j, A, q, _, _, _, e⟩
    · exact uB_r s
    · rw [e]
      exact rpl_r (sqU_r (fun _ _ _ t => uD_r (g := g) t) q) _
noncomputable def uS (g : Nat) (M : List Sp3) (cd : Nat → Int32) (i j : Nat) : Prop := ∃ f, sqU (uD cd g) f i j M
noncomputable def RdU (b : Nat → Int32) (n : Nat) (D : Int) (S : Rcg) (O : Nat → List Sp3) (Q : List Sp3 → (Nat → Int32) → Nat → Nat → Prop) (C : Nat → Hp_ → (Hp_ → Prop) → Prop) : Prop := ∀ (d : Nat) (h : Hp_), Iv h → Pr h → pd h = D → Tp b n h → C d h (fun h' => Ptt (Q (O (ta h))) h h' ∧ Ft b n (S (ta h)) h')
theorem nm0_n {b : Nat → Int32} {n a : Nat} {lo hi : Int32} (h : (nm0 b n a).1 = false) : nmg b n lo hi a = nm0 b n a := by
  unfold nmg nmr nm0 at *
  by_cases c : dgb (skv b n a) = true
  · rw [if_pos c] at h ⊢
    rw [if_pos c]
    by_cases d : (nml b n 4 0 (ska b n a)).1 = true
    · rw [if_pos d] at h
      cases h
    · rw [if_neg d, if_neg d]
  · rw [if_neg c, if_neg c]
theorem nm0_y {b : Nat → Int32} {n a p : Nat} {lo hi r : Int32} (c : dgb (skv b n a) = true) (e : nml b n 4 0 (ska b n a) = (true, p, r)) : nmr b n lo hi a = if lo ≤ r ∧ r ≤ hi then (true, ska b n p, r) else (false, p - 1, -1) := by
  unfold nmr
  rw [if_pos c, e, if_pos rfl]
theorem c_withinf (d : Nat) {b : Nat → Int32} {n : Nat} {h : Hp_} (I : Iv h) (t : Tp b n h) (w : h_i h 1 34 = -1) (l : pa h ≤ pz h) (x1 x2 : Int32) : Ci (m_X12_within (d + 2) 0 0) [.ref 1, .int x1, .int x2] h (fun r h' => Wi h x1 x2 r h' ∧ Ft b n (nmg b n x1 x2 (ta h)) h' ∧ (h_i h' 1 34 = -1 → r = nmw b n x1 x2 (ta h))) := by
  have p0 : 0 ≤ (h_i h 1 33).toInt := (pa_in I).1
  have t1 : (1 : Int32).toInt = 1 := rfl
  refine t_X12_within d h I.1 x1 x2 _ (Ci.mono (c_numberf d I t w l) (fun r h2 NN => ?_))
  obtain ⟨N, NF, NV⟩ := NN
  have I2 := N.1
  refine ⟨I2.1, fun n0 => ⟨⟨N, fun y => absurd y n0⟩, ?_, fun y => absurd y n0⟩, fun e => ?_⟩
  · rw [nm0_n (NF.no n0).1]
    exact NF
  · have v := NV e
    have g : (h_i h 1 33).toInt < (h_i h2 1 33).toInt := N.2.2.2.2 e
    have ey := nm0_y (lo := x1) (hi := x2) v.1 v.2
    refine ⟨fun bd => ?_, fun bd => ?_⟩
    · rw [if_pos bd] at ey
      refine ⟨⟨N, fun _ => bd⟩, Or.inl ⟨e, ?_, ?_⟩, fun _ => ?_⟩
      · show (nmr b n x1 x2 (ta h)).1 = true
        rw [ey]
      · show _ = (nmr b n x1 x2 (ta h)).2.1
        rw [ey]
      · show _ = (nmr b n x1 x2 (ta h)).2.2
        rw [ey]
    · rw [if_neg bd] at ey
      have u : (h_i h2 1 33).toInt ≤ 180 := (pa_in I2).2
      have em : (h_i h2 1 33 - 1).toInt = (h_i h2 1 33).toInt - 1 := by rw [tx_sub (by rw [t1]; omega) (by rw [t1]; omega), t1]
      have ne : ¬ h_i (h_im h2 1 34 (h_i h2 1 33 - 1)) 1 34 = -1 := by
        rw [im_at]
        intro y
        have y := congrArg Int32.toInt y
        rw [em, show (-1 : Int32).toInt = -1 from rfl] at y
        omega
      refine ⟨⟨⟨i34 I2 _, N.2.1.im (by decide +kernel), ?_, ?_, fun y => absurd y ne⟩, fun y => absurd y ne⟩, Or.inr ⟨ne, ?_, ?_⟩, fun y => absurd y ne⟩
      · show (h_i h 1 33).toInt ≤ (h_i (h_im h2 1 34 _) 1 33).toInt
        rw [f_ne (by decide)]; exact N.2.2.1
      · show (h_i (h_im h2 1 34 _) 1 33).toInt ≤ (h_i h 1 32).toInt
        rw [f_ne (by decide)]; exact N.2.2.2.1
      · show (nmr b n x1 x2 (ta h)).1 = false
        rw [ey]
      · show _ = Int32.ofNat (nmr b n x1 x2 (ta h)).2.1
        rw [ey, im_at]
        refine Int32.toInt_inj.mp ?_
        have ai : (ta h2 : Int) = (h_i h2 1 33).toInt := ta_i I2
        rw [em, on_j (by show ta h2 - 1 ≤ _; omega)]
        show _ = ((ta h2 - 1 : Nat) : Int)
        omega
theorem st_badf {b : Nat → Int32} {n : Nat} {Q : (Nat → Int32) → Nat → Nat → Prop} (d : Nat) {h h1 : Hp_} {r : Int32} (I : Iv h) (q : Pr h) (LL : Lkf b n h r h1) {T : Bool × Nat} (eT : T = (false, ska b n (ta h))) : Cv (m_X12_bad (d + 0) 0 0) [.ref 1] h1 (fun h9 => Wf h9 ∧ (Ptt Q h h9 ∧ Ft b n T h9)) := by
  obtain ⟨q1, q2, q3, q4⟩ := q
  have L := LL.1
  refine Cv.mono (c_badf d L.1 (by rw [f34 L.2.1 (by decide +kernel)]; exact q1)) (fun h9 k => ⟨k.1.1, ?_, Or.inr ⟨k.2.2.1, by rw [eT], by rw [eT, k.2.2.2, LL.2.1]⟩⟩)
  obtain ⟨k1, k2, k3, _⟩ := k
  have e33 := f33 k2 (by decide +kernel)
  have e35 := f35 k2 (by decide +kernel)
  have e35' := f35 L.2.1 (by decide +kernel)
  have l3 := L.2.2.1
  have l4 := L.2.2.2.1
  refine Ptt.of I (((Sy.rf I).mv L.1 (L.2.1.more (by decide +kernel))).mv k1 (k2.more (by decide +kernel))) (by omega) (by omega) (fun w => absurd w k3) (fun _ => ⟨by omega, ?_⟩)
  show (0 : Int) ≤ _
  omega
theorem Ft.sa {b : Nat → Int32} {n : Nat} {T : Bool × Nat} {h h' : Hp_} {x : Int32} (F : Ft b n T h) (S : Sa h x h') : Ft b n T h' := F.fr S.2.1 (by decide +kernel)
theorem ta_sa {h h' : Hp_} {x : Int32} (S : Sa h x h') : ta h' = ta h := by
  show (h_i h' 1 33).toNatClampNeg = _
  rw [(S.2.1.2 1 33 (by decide +kernel)).1]
theorem st_gwf {b : Nat → Int32} {n : Nat} {Q : (Nat → Int32) → Nat → Nat → Prop} (d : Nat) {h h1 : Hp_} {r : Int32} (I : Iv h) (t : Tp b n h) (q : Pr h) (LL : Lkf b n h r h1) (l : pa h1 < pz h) (c x1 x2 : Int32) (hq : ∀ (cd : Nat → Int32) (i : Nat), cd i = c → cd (i + 1) = nmw b n x1 x2 (ska b n (ta h) + 1) → x1 ≤ cd (i + 1) → cd (i + 1) ≤ x2 → Q cd i (i + 2)) {T : Bool × Nat} (eT : T = nmg b n x1 x2 (ska b n (ta h) + 1)) : Cv (m_X12_say (d + 0) 0 0) [.ref 1, .int c] (h_im h1 1 33 ((h_i h1 1 33) + 1)) (fun h3 => Wf h3 ∧ Ci (m_X12_within (d + 2) 0 0) [.ref 1, .int x1, .int x2] h3 (fun r4 h4 => Wf h4 ∧ Cv (m_X12_say (d + 0) 0 0) [.ref 1, .int r4] h4 (fun h5 => Wf h5 ∧ (Ptt Q h h5 ∧ Ft b n T h5)))) := by
  obtain ⟨q1, q2, q3, q4⟩ := q
  have L := LL.1
  obtain ⟨I2, F2, a2⟩ := nx1 I L l
  have na := nxa LL I2 a2
  have z1 : pz h ≤ 160 := (pz_in I).2
  have l3 := L.2.2.1
  generalize h_im h1 1 33 ((h_i h1 1 33) + 1) = h2 at I2 F2 a2 na ⊢
  have p2 := f36 F2 (by decide +kernel)
  have w2 := f34 F2 (by decide +kernel)
  have d2 := f35 F2 (by decide +kernel)
  have z2 := zf F2 (by decide +kernel)
  refine Cv.mono (c_say d I2 c (by show ps h2 ≤ 558; omega)) (fun h3 S => ⟨S.1.1, ?_⟩)
  obtain ⟨s1, s2, s3, s4, s5⟩ := Sa.q (h := h2) (x := c) (h' := h3) S
  have t3 : Tp b n h3 := (t.fr F2 (by decide +kernel)).fr S.2.1 (by decide +kernel)
  refine Ci.mono (c_withinf d S.1 t3 (by rw [s2, w2]; exact q1) (by omega) x1 x2) (fun r4 h4 W => ⟨W.1.1.1.1, ?_⟩)
  obtain ⟨⟨N, wr⟩, WF, WV⟩ := W
  rw [ta_sa S, na] at WF WV
  obtain ⟨n1, n2, n3, n4, n5⟩ := N
  have p4 := f36 n2 (by decide +kernel)
  have d4 := f35 n2 (by decide +kernel)
  refine Cv.mono (c_say d n1 r4 (by show ps h4 ≤ 558; omega)) (fun h5 T => ⟨T.1.1, ?_, by rw [eT]; exact WF.sa T⟩)
  obtain ⟨t1, t2, t3, t4, t5⟩ := Sa.q (h := h4) (x := r4) (h' := h5) T
  have Y : Sy h [c, r4] h5 := ((((Sy.rf I).mv I2 (F2.more (by decide +kernel))).say I S).mv n1 (n2.more (by decide +kernel))).say I T
  refine Ptt.of I Y (by omega) (by omega) (fun w => ?_) (fun w => ?_)
  · rw [t2] at w
    have g := n5 w
    obtain ⟨b1, b2⟩ := wr w
    have e0 := Y.2.2.2.2 0 c rfl
    have e1 : h_i h5 226 (sN h + 1) = r4 := Y.2.2.2.2 1 r4 rfl
    refine ⟨by omega, ?_, Nat.zero_lt_succ _, hq _ _ e0 (e1.trans (WV w)) (by rw [e1]; exact b1) (by rw [e1]; exact b2)⟩
    show pa h + (2 : Int) ≤ _
    omega
  · refine ⟨by omega, ?_⟩
    show (2 : Int) ≤ _
    omega
theorem st_pf {b : Nat → Int32} {n g : Nat} (d : Nat) {h h1 : Hp_} {r : Int32} (I : Iv h) (t : Tp b n h) (q : Pr h) (LL : Lkf b n h r h1) (l : pa h1 < pz h) {T : Bool × Nat} (eT : T = sqr (nmg b n 0 15) (nmg b n 0 1440) (ska b n (ta h) + 1)) {M : List Sp3} (eM : M = [(2, nmw b n 0 15 (ska b n (ta h) + 1), nmw b n 0 1440 (nmg b n 0 15 (ska b n (ta h) + 1)).2)]) : Cv (m_X12_say (d + 0) 0 0) [.ref 1, .int 2] (h_im h1 1 33 ((h_i h1 1 33) + 1)) (fun h3 => Wf h3 ∧ Ci (m_X12_within (d + 2) 0 0) [.ref 1, .int 0, .int 15] h3 (fun r4 h4 => Wf h4 ∧ Cv (m_X12_say (d + 0) 0 0) [.ref 1, .int r4] h4 (fun h5 => Wf h5 ∧ ((¬ (h_i h5 1 34) = (-1) → (Ptt (fun cd i j => uD cd g i j M) h h5 ∧ Ft b n T h5)) ∧ ((h_i h5 1 34) = (-1) → Ci (m_X12_within (d + 2) 0 0) [.ref 1, .int 0, .int 1440] h5 (fun r6 h6 => Wf h6 ∧ Cv (m_X12_say (d + 0) 0 0) [.ref 1, .int r6] h6 (fun h7 => Wf h7 ∧ (Ptt (fun cd i j => uD cd g i j M) h h7 ∧ Ft b n T h7)))))))) := by
  obtain ⟨q1, q2, q3, q4⟩ := q
  have L := LL.1
  obtain ⟨I2, F2, a2⟩ := nx1 I L l
  have na := nxa LL I2 a2
  have z1 : pz h ≤ 160 := (pz_in I).2
  have l3 := L.2.2.1
  generalize h_im h1 1 33 ((h_i h1 1 33) + 1) = h2 at I2 F2 a2 na ⊢
  have p2 := f36 F2 (by decide +kernel)
  have w2 := f34 F2 (by decide +kernel)
  have d2 := f35 F2 (by decide +kernel)
  have z2 := zf F2 (by decide +kernel)
  refine Cv.mono (c_say d I2 2 (by show ps h2 ≤ 558; omega)) (fun h3 S => ⟨S.1.1, ?_⟩)
  obtain ⟨s1, s2, s3, s4, s5⟩ := Sa.q (h := h2) (x := 2) (h' := h3) S
  have t3 : Tp b n h3 := (t.fr F2 (by decide +kernel)).fr S.2.1 (by decide +kernel)
  refine Ci.mono (c_withinf d S.1 t3 (by rw [s2, w2]; exact q1) (by omega) 0 15) (fun r4 h4 W => ⟨W.1.1.1.1, ?_⟩)
  obtain ⟨⟨N, wr⟩, WF, WV⟩ := W
  rw [ta_sa S, na] at WF WV
  obtain ⟨n1, n2, n3, n4, n5⟩ := N
  have p4 := f36 n2 (by decide +kernel)
  have d4 := f35 n2 (by decide +kernel)
  have z4 := zf n2 (by decide +kernel)
  refine Cv.mono (c_say d n1 r4 (by show ps h4 ≤ 558; omega)) (fun h5 T0 => ⟨T0.1.1, fun w => ?_, fun w => ?_⟩)
  · obtain ⟨t1, t2, t3, t4, t5⟩ := Sa.q (h := h4) (x := r4) (h' := h5) T0
    have Y : Sy h [2, r4] h5 := ((((Sy.rf I).mv I2 (F2.more (by decide +kernel))).say I S).mv n1 (n2.more (by decide +kernel))).say I T0
    have F5 := WF.sa T0
    have k5 := F5.no w
    have e5 : T = nmg b n 0 15 (ska b n (ta h) + 1) := by
      rw [eT]
      unfold sqr
      exact if_neg (by rw [k5.1]; decide)
    refine ⟨Ptt.of I Y (by omega) (by omega) (fun y => absurd y w) (fun _ => ⟨by omega, ?_⟩), by rw [e5]; exact F5⟩
    show (2 : Int) ≤ _
    omega
  · obtain ⟨t1, t2, t3', t4, t5⟩ := Sa.q (h := h4) (x := r4) (h' := h5) T0
    have Y : Sy h [2, r4] h5 := ((((Sy.rf I).mv I2 (F2.more (by decide +kernel))).say I S).mv n1 (n2.more (by decide +kernel))).say I T0
    have w4 : h_i h4 1 34 = -1 := by rw [← t2]; exact w
    have g4 := n5 w4
    obtain ⟨b1, b2⟩ := wr w4
    have F5 := WF.sa T0
    have k5 := F5.ok w
    have v5 := WV w4
    have tp5 : Tp b n h5 := (t3.fr n2 (by decide +kernel)).fr T0.2.1 (by decide +kernel)
    refine Ci.mono (c_withinf d T0.1 tp5 w (by omega) 0 1440) (fun r6 h6 W => ⟨W.1.1.1.1, ?_⟩)
    obtain ⟨⟨N', wr'⟩, WF', WV'⟩ := W
    have eT' : T = nmg b n 0 1440 (ta h5) := by
      rw [eT]
      unfold sqr
      rw [if_pos k5.1, ← k5.2, nmg_c]
    have eM' : M = [(2, r4, nmw b n 0 1440 (ta h5))] := by
      rw [eM, ← k5.2, nmw_c, v5]
    obtain ⟨m1, m2, m3, m4, m5⟩ := N'
    have p6 := f36 m2 (by decide +kernel)
    have d6 := f35 m2 (by decide +kernel)
    refine Cv.mono (c_say d m1 r6 (by show ps h6 ≤ 558; omega)) (fun h7 U => ⟨U.1.1, ?_, by rw [eT']; exact WF'.sa U⟩)
    obtain ⟨u1, u2, u3, u4, u5⟩ := Sa.q (h := h6) (x := r6) (h' := h7) U
    have X : Sy h [2, r4, r6] h7 := (Y.mv m1 (m2.more (by decide +kernel))).say I U
    refine Ptt.of I X (by omega) (by omega) (fun v => ?_) (fun v => ?_)
    · rw [u2] at v
      have g6 := m5 v
      obtain ⟨b3, b4⟩ := wr' v
      have e0 := X.2.2.2.2 0 2 rfl
      have e1 : h_i h7 226 (sN h + 1) = r4 := X.2.2.2.2 1 r4 rfl
      have e2 : h_i h7 226 (sN h + 2) = r6 := X.2.2.2.2 2 r6 rfl
      refine ⟨by omega, ?_, Nat.zero_lt_succ _, uD.b (Or.inr (Or.inr (Or.inl ⟨e0, ?_, ?_, rfl, ?_⟩)))⟩
      · show pa h + (3 : Int) ≤ _
        omega
      · rw [e1]; exact ⟨q_le.mp b1, q_le.mp b2⟩
      · rw [e2]; exact ⟨q_le.mp b3, q_le.mp b4⟩
      · rw [e1, e2, eM', WV' v]
    · refine ⟨by omega, ?_⟩
      show (3 : Int) ≤ _
      omega
theorem st_lf {b : Nat → Int32} {n g : Nat} (d : Nat) {h h1 : Hp_} {r : Int32} (I : Iv h) (q : Pr h) (LL : Lkf b n h r h1) (l : pa h1 < pz h) {T : Bool × Nat} (eT : T = (true, ska b n (ska b n (ta h) + 1))) : Cv (m_X12_say (d + 0) 0 0) [.ref 1, .int 3] (h_im h1 1 33 ((h_i h1 1 33) + 1)) (fun h3 => Wf h3 ∧ (Ptt (fun cd i j => uD cd g i j [(3, 0, 0)]) h h3 ∧ Ft b n T h3)) := by
  obtain ⟨q1, q2, q3, q4⟩ := q
  have L := LL.1
  obtain ⟨I2, F2, a2⟩ := nx1 I L l
  have na := nxa LL I2 a2
  have z1 : pz h ≤ 160 := (pz_in I).2
  have l3 := L.2.2.1
  generalize h_im h1 1 33 ((h_i h1 1 33) + 1) = h2 at I2 F2 a2 na ⊢
  have p2 := f36 F2 (by decide +kernel)
  have w2 := f34 F2 (by decide +kernel)
  have d2 := f35 F2 (by decide +kernel)
  refine Cv.mono (c_say d I2 3 (by show ps h2 ≤ 558; omega)) (fun h3 S => ⟨S.1.1, ?_, ?_⟩)
  · obtain ⟨s1, s2, s3, s4, s5⟩ := Sa.q (h := h2) (x := 3) (h' := h3) S
    have Y : Sy h [3] h3 := ((Sy.rf I).mv I2 (F2.more (by decide +kernel))).say I S
    refine Ptt.of I Y (by omega) (by omega) (fun w => ?_) (fun w => absurd (by rw [s2, w2]; exact q1) w)
    refine ⟨by omega, ?_, Nat.zero_lt_succ _, uD.b (Or.inr (Or.inr (Or.inr ⟨Y.2.2.2.2 0 3 rfl, rfl, rfl⟩)))⟩
    show pa h + (1 : Int) ≤ _
    omega
  · rw [eT]
    exact Ft.sa (h := h2) (x := 3) (Or.inl ⟨by rw [w2]; exact q1, rfl, by rw [na]⟩) S
/-! the reference's steps within brackets, one behind the other, at every depth -/
noncomputable abbrev Kf (b : Nat → Int32) (n g : Nat) (M : List Sp3) (T : Bool × Nat) (h h' : Hp_) : Prop := Ptt (fun cd i j => uD cd (g + 1) i j M) h h' ∧ Ft b n T h'
theorem st_nf {b : Nat → Int32} {n g : Nat} (d e : Nat) (f : Rcg) (o : Nat → List Sp3) (B : RdU b n (4 - (g : Int)) f o (uS g) (fun d h K => Cv (m_X12_stepsRead (d + e + 52) 0 0) [.ref 1] h K)) {h h1 : Hp_} {r : Int32} (I : Iv h) (t : Tp b n h) (q : Pr h) (eD : pd h = 4 - ((g + 1 : Nat) : Int)) (LL : Lkf b n h r h1) (l : pa h1 < pz h) {T : Bool × Nat} (eT : T = sqr f (sqr (exr b n 41) (nmg b n 1 20)) (ska b n (ta h) + 1)) {M : List Sp3} (eM : M = rpl (nmw b n 1 20 (exr b n 41 (f (ska b n (ta h) + 1)).2).2).toNatClampNeg (o (ska b n (ta h) + 1))) :
    Cv (m_X12_say (d + e + 0) 0 0) [.ref 1, .int 4] (h_im (h_im h1 1 35 ((h_i h1 1 35) + 1)) 1 33 ((h_i h1 1 33) + 1)) (fun h16 => Wf h16 ∧ (Cv (m_X12_stepsRead (d + e + 52) 0 0) [.ref 1] h16 (fun h19 => Wf h19 ∧ ((¬ (h_i h19 1 34) = (-1) → (¬ (h_i h19 1 34) = (-1) → Kf b n g M T h (h_im (h_im h19 1 33 ((h_i h19 1 33) + 1)) 1 35 ((h_i h19 1 35) - 1))) ∧ ((h_i h19 1 34) = (-1) → Cv (m_X12_say (d + e + 0) 0 0) [.ref 1, .int 5] (h_im (h_im h19 1 33 ((h_i h19 1 33) + 1)) 1 35 ((h_i h19 1 35) - 1)) (fun h24 => Wf h24 ∧ (Ci (m_X12_within (d + e + 2) 0 0) [.ref 1, .int 1, .int 20] h24 (fun r29 h27 => Wf h27 ∧ (Cv (m_X12_say (d + e + 0) 0 0) [.ref 1, .int r29] h27 (fun h30 => Wf h30 ∧ (Kf b n g M T h h30)))))))) ∧ ((h_i h19 1 34) = (-1) → Ci (m_X12_look (d + e + 0) 0 0) [.ref 1] h19 (fun r35 h33 => Wf h33 ∧ ((r35 = 41 → (¬ (h_i h33 1 34) = (-1) → Kf b n g M T h (h_im (h_im h33 1 33 ((h_i h33 1 33) + 1)) 1 35 ((h_i h33 1 35) - 1))) ∧ ((h_i h33 1 34) = (-1) → Cv (m_X12_say (d + e + 0) 0 0) [.ref 1, .int 5] (h_im (h_im h33 1 33 ((h_i h33 1 33) + 1)) 1 35 ((h_i h33 1 35) - 1)) (fun h38 => Wf h38 ∧ (Ci (m_X12_within (d + e + 2) 0 0) [.ref 1, .int 1, .int 20] h38 (fun r43 h41 => Wf h41 ∧ (Cv (m_X12_say (d + e + 0) 0 0) [.ref 1, .int r43] h41 (fun h44 => Wf h44 ∧ (Kf b n g M T h h44)))))))) ∧ (¬ r35 = 41 → Cv (m_X12_bad (d + e + 0) 0 0) [.ref 1] h33 (fun h47 => Wf h47 ∧ ((¬ (h_i h47 1 34) = (-1) → Kf b n g M T h (h_im (h_im h47 1 33 ((h_i h47 1 33) + 1)) 1 35 ((h_i h47 1 35) - 1))) ∧ ((h_i h47 1 34) = (-1) → Cv (m_X12_say (d + e + 0) 0 0) [.ref 1, .int 5] (h_im (h_im h47 1 33 ((h_i h47 1 33) + 1)) 1 35 ((h_i h47 1 35) - 1)) (fun h51 => Wf h51 ∧ (Ci (m_X12_within (d + e + 2) 0 0) [.ref 1, .int 1, .int 20] h51 (fun r56 h54 => Wf h54 ∧ (Cv (m_X12_say (d + e + 0) 0 0) [.ref 1, .int r56] h54 (fun h57 => Wf h57 ∧ (Kf b n g M T h h57))))))))))))))))) := by
  obtain ⟨q1, q2, q3, q4⟩ := q
  have L := LL.1
  have z1 : pz h ≤ 160 := (pz_in I).2
  have l3 := L.2.2.1
  have d0 : 0 ≤ pd h := (dp_in7 I).1
  have o1 : (1 : Int32).toInt = 1 := rfl
  have ed1 := f35 L.2.1 (by decide +kernel)
  have a0' : 0 ≤ (h_i h1 1 33).toInt := (pa_in L.1).1
  have l' : (h_i h1 1 33).toInt < pz h := l
  have d1' : (h_i h1 1 35).toInt = pd h := ed1
  have e33 : (h_i h1 1 33 + 1).toInt = (h_i h1 1 33).toInt + 1 := by rw [tx_add (by rw [o1]; omega) (by rw [o1]; omega), o1]
  have e35 : (h_i h1 1 35 + 1).toInt = (h_i h1 1 35).toInt + 1 := by rw [tx_add (by rw [o1]; omega) (by rw [o1]; omega), o1]
  have I2 : Iv (h_im (h_im h1 1 35 ((h_i h1 1 35) + 1)) 1 33 ((h_i h1 1 33) + 1)) := i33 (i35 L.1 ⟨by rw [e35]; show (0 : Int) ≤ _; omega, by rw [e35]; show _ ≤ (7 : Int); omega⟩) ⟨by rw [e33]; show (0 : Int) ≤ _; omega, by rw [e33]; show _ ≤ (180 : Int); omega⟩
  have F2 : Fr [1033, 1034, 1035] h (h_im (h_im h1 1 35 ((h_i h1 1 35) + 1)) 1 33 ((h_i h1 1 33) + 1)) := ((L.2.1.more (by decide +kernel)).im (by decide +kernel)).im (by decide +kernel)
  have a2 : pa (h_im (h_im h1 1 35 ((h_i h1 1 35) + 1)) 1 33 ((h_i h1 1 33) + 1)) = pa h1 + 1 := by
    show (h_i (h_im _ 1 33 _) 1 33).toInt = _
    rw [im_at]; exact e33
  have na := nxa LL I2 a2
  have d2 : pd (h_im (h_im h1 1 35 ((h_i h1 1 35) + 1)) 1 33 ((h_i h1 1 33) + 1)) = pd h + 1 := by
    show (h_i (h_im _ 1 33 _) 1 35).toInt = _
    rw [f_ne (by decide), im_at, e35, d1']
  have w2 : h_i (h_im (h_im h1 1 35 ((h_i h1 1 35) + 1)) 1 33 ((h_i h1 1 33) + 1)) 1 34 = -1 := by rw [f_ne (by decide), f_ne (by decide), f34 L.2.1 (by decide +kernel)]; exact q1
  generalize h_im (h_im h1 1 35 ((h_i h1 1 35) + 1)) 1 33 ((h_i h1 1 33) + 1) = h2 at I2 F2 a2 d2 w2 na ⊢
  have p2 := f36 F2 (by decide +kernel)
  have z2 := zf F2 (by decide +kernel)
  refine Cv.mono (c_say (d + e) I2 4 (by show ps h2 ≤ 558; omega)) (fun h3 S => ⟨S.1.1, ?_⟩)
  obtain ⟨s1, s2, s3, s4, s5⟩ := Sa.q (h := h2) (x := 4) (h' := h3) S
  have Y : Sy h [4] h3 := ((Sy.rf I).mv I2 F2).say I S
  have t3 : Tp b n h3 := t.fr Y.2.1 (by decide +kernel)
  have na3 : ta h3 = ska b n (ta h) + 1 := (ta_sa S).trans na
  have n0 := sN_i I
  have n3 := sN_i Y.1
  have m3 : sN h3 = sN h + 1 := by omega
  refine Cv.mono (B d h3 Y.1 ⟨by rw [s2]; exact w2, by omega, by omega, by omega⟩ (by omega) t3) (fun h4 PP => ?_)
  obtain ⟨P, PF⟩ := PP
  refine ⟨P.1.1, ?_⟩
  rw [na3] at PF P
  generalize hA : o (ska b n (ta h) + 1) = A at P eM
  have t4 : Tp b n h4 := t3.fr P.2.1 (by decide +kernel)
  obtain ⟨p1, p2', p3, p4, p5, p6, p7, p8⟩ := P
  have z4 := zf p2' (by decide +kernel)
  have n4 := sN_i p1
  have c4 : ∀ k, k < sN h → h_i h4 226 k = h_i h 226 k := fun k hk => by rw [p5 k (by omega)]; exact Y.2.2.1 k hk
  have no : ∀ h5 : Hp_, Iv h5 → Fr [1033, 1034, 1035] h4 h5 → pd h5 = pd h4 → ¬ h_i h5 1 34 = -1 → pa h4 ≤ pa h5 → pa h5 + pd h + 1 ≤ pz h + 5 → ps h4 ≤ ps h + (pa h5 - pa h) + 2 → Ft b n T h5 → Kf b n g M T h (h_im (h_im h5 1 33 ((h_i h5 1 33) + 1)) 1 35 ((h_i h5 1 35) - 1)) := by
    intro h5 i5 f5 e5 w5 a5 b5 c5 FT
    obtain ⟨k1, k2, k3, k4, k5⟩ := cl1 i5 (by omega) (by omega)
    generalize h_im (h_im h5 1 33 ((h_i h5 1 33) + 1)) 1 35 ((h_i h5 1 35) - 1) = h6 at k1 k2 k3 k4 k5 ⊢
    have g5 := f36 f5 (by decide +kernel)
    have g6 := f36 k2 (by decide +kernel)
    refine ⟨⟨k1, (Y.2.1.tr p2').tr ((f5.tr k2).more (by decide +kernel)), by omega, by omega, fun k hk => ?_, by omega, fun w => absurd (k5 ▸ w) w5, fun _ => ⟨by omega, by omega⟩⟩, Or.inr ⟨by rw [k5]; exact w5, (FT.no w5).1, by rw [k5]; exact (FT.no w5).2⟩⟩
    rw [fr_i k2 (a := 226) (by decide +kernel), fr_i f5 (a := 226) (by decide +kernel)]
    exact c4 k hk
  refine ⟨fun w => ⟨fun _ => ?_, fun y => absurd y w⟩, fun w => ?_⟩
  · obtain ⟨t1, t2⟩ := p8 w
    have k4 := PF.no w
    have e4 : T = f (ska b n (ta h) + 1) := by
      rw [eT]
      unfold sqr
      exact if_neg (by rw [k4.1]; decide)
    exact no h4 p1 (Fr.rf _ _) rfl w (Int.le_refl _) (by omega) (by omega) (by rw [e4]; exact PF)
  · obtain ⟨t1, t2, t3', t4'⟩ := p7 w
    have k4 := PF.ok w
    have e4 : T = sqr (exr b n 41) (nmg b n 1 20) (ska b n (ta h4)) := by
      rw [eT]
      show (if (f (ska b n (ta h) + 1)).1 = true then sqr (exr b n 41) (nmg b n 1 20) (f (ska b n (ta h) + 1)).2 else f (ska b n (ta h) + 1)) = _
      rw [if_pos k4.1, ← k4.2]
    have m4 : M = rpl (nmw b n 1 20 (exr b n 41 (ska b n (ta h4))).2).toNatClampNeg A := by
      rw [eM, ← k4.2]
    refine Ci.mono (c_lookf (d + e) p1 t4) (fun r5 h5 LL5 => ⟨LL5.1.1.1, fun er => ⟨fun y => ?_, fun w5 => ?_⟩, fun nr => ?_⟩)
    · exact absurd (by rw [f34 LL5.1.2.1 (by decide +kernel)]; exact w) y
    · have L5 := LL5.1
      have l5 : pa h5 < pz h := by
        rcases L5.fwd (z := pz h) (by omega) with u | u
        · rw [er] at u; exact absurd u (by decide)
        · exact u
      have l53 := L5.2.2.1
      have e5 := f35 L5.2.1 (by decide +kernel)
      obtain ⟨k1, k2, k3, k4', k5⟩ := cl1 L5.1 (by omega) (by omega)
      have na6 := nxa LL5 k1 k3
      generalize h_im (h_im h5 1 33 ((h_i h5 1 33) + 1)) 1 35 ((h_i h5 1 35) - 1) = h6 at k1 k2 k3 k4' k5 na6 ⊢
      have ex41 : exr b n 41 (ska b n (ta h4)) = (true, ska b n (ska b n (ta h4) + 1)) := by
        unfold exr
        rw [skv_i, ska_i, if_pos (by rw [← LL5.2.2]; exact er)]
      have e6 : T = nmg b n 1 20 (ska b n (ta h4) + 1) := by
        rw [e4]
        show (if (exr b n 41 (ska b n (ta h4))).1 = true then nmg b n 1 20 (exr b n 41 (ska b n (ta h4))).2 else exr b n 41 (ska b n (ta h4))) = _
        rw [ex41, if_pos rfl, nmg_c]
      have m6 : M = rpl (nmw b n 1 20 (ska b n (ta h4) + 1)).toNatClampNeg A := by rw [m4, ex41, nmw_c]
      have g5 := f36 L5.2.1 (by decide +kernel)
      have g6 := f36 k2 (by decide +kernel)
      have z5 := zf L5.2.1 (by decide +kernel)
      have z6 := zf k2 (by decide +kernel)
      refine Cv.mono (c_say (d + e) k1 5 (by show ps h6 ≤ 558; omega)) (fun h7 T7 => ⟨T7.1.1, ?_⟩)
      obtain ⟨u1, u2, u3, u4, u5⟩ := Sa.q (h := h6) (x := 5) (h' := h7) T7
      have t7 : Tp b n h7 := ((t4.fr L5.2.1 (by decide +kernel)).fr k2 (by decide +kernel)).fr T7.2.1 (by decide +kernel)
      refine Ci.mono (c_withinf (d + e) T7.1 t7 (by rw [u2, k5]; exact w5) (by omega) 1 20) (fun r8 h8 W => ⟨W.1.1.1.1, ?_⟩)
      obtain ⟨⟨N, wr⟩, WF, WV⟩ := W
      rw [ta_sa T7, na6] at WF WV
      obtain ⟨o1, o2, o3, o4, o5⟩ := N
      have g8 := f36 o2 (by decide +kernel)
      have e8 := f35 o2 (by decide +kernel)
      refine Cv.mono (c_say (d + e) o1 r8 (by show ps h8 ≤ 558; omega)) (fun h9 U => ⟨U.1.1, ?_, by rw [e6]; exact WF.sa U⟩)
      obtain ⟨v1, v2, v3, v4, v5⟩ := Sa.q (h := h8) (x := r8) (h' := h9) U
      have X : Sy h4 [5, r8] h9 := (((((Sy.rf p1).mv L5.1 (L5.2.1.more (by decide +kernel))).mv k1 k2).say p1 T7).mv o1 (o2.more (by decide +kernel))).say p1 U
      obtain ⟨x1, x2, x3, x4, x5⟩ := X
      have x4' : ps h9 = ps h4 + 2 := x4
      have n9 := sN_i x1
      have m9 : sN h9 = sN h4 + 2 := by omega
      refine ⟨x1, (Y.2.1.tr p2').tr x2, by omega, by omega, fun k hk => ?_, by omega, fun w9 => ?_, fun w9 => ⟨by omega, by omega⟩⟩
      · rw [x3 k (by omega)]; exact c4 k hk
      · rw [v2] at w9
        have g9 := o5 w9
        obtain ⟨b1, b2⟩ := wr w9
        have y5 := x5 0 5 rfl
        have y6 : h_i h9 226 (sN h4 + 1) = r8 := x5 1 r8 rfl
        obtain ⟨ff, t4'⟩ := t4'
        refine ⟨by omega, by omega, by omega, Or.inr ⟨?_, ff, sN h4, A, ?_, y5, ?_, m9, ?_⟩⟩
        · rw [x3 _ (by omega), p5 _ (by omega)]
          exact Y.2.2.2.2 0 4 rfl
        · rw [← m3]
          exact sqUD_same (fun k _ b => x3 k b) t4'
        · rw [y6]
          exact ⟨q_le.mp b1, q_le.mp b2⟩
        · rw [y6, m6, WV w9]
    · have L5 := LL5.1
      have l53 := L5.2.2.1
      have l54 := L5.2.2.2.1
      have ex41 : exr b n 41 (ska b n (ta h4)) = (false, ska b n (ta h4)) := by
        unfold exr
        rw [skv_i, ska_i, if_neg (by rw [← LL5.2.2]; exact nr)]
      have e6 : T = (false, ska b n (ta h4)) := by
        rw [e4]
        show (if (exr b n 41 (ska b n (ta h4))).1 = true then nmg b n 1 20 (exr b n 41 (ska b n (ta h4))).2 else exr b n 41 (ska b n (ta h4))) = _
        rw [ex41, if_neg (show ¬ (false = true) by decide)]
      refine Cv.mono (c_badf (d + e) L5.1 (by rw [f34 L5.2.1 (by decide +kernel)]; exact w)) (fun h6 k => ⟨k.1.1, fun w6 => ?_, fun w6 => absurd w6 k.2.2.1⟩)
      obtain ⟨k1, k2, k3, k5⟩ := k
      have e66 := f33 k2 (by decide +kernel)
      have d6 := f35 k2 (by decide +kernel)
      have d5 := f35 L5.2.1 (by decide +kernel)
      exact no h6 k1 ((L5.2.1.more (by decide +kernel)).tr (k2.more (by decide +kernel))) (by omega) w6 (by omega) (by omega) (by omega) (Or.inr ⟨k3, by rw [e6], by rw [e6, k5, LL5.2.1]⟩)
theorem c_stepReadf {b : Nat → Int32} {n : Nat} (e g : Nat) (hg : g ≤ 4) (z : Bool) (f : Rcg) (o : Nat → List Sp3) (hz : z = true ↔ g = 0) (B : ∀ g', g = g' + 1 → RdU b n (4 - (g' : Int)) f o (uS g') (fun d h K => Cv (m_X12_stepsRead (d + e + 52) 0 0) [.ref 1] h K)) : RdU b n (4 - (g : Int)) (stq b n z f) (sto b n f o) (fun M cd i j => uD cd g i j M) (fun d h K => Cv (m_X12_stepRead (d + e + 61) 0 0) [.ref 1] h K) := by
  intro d h I q eD t
  refine t_X12_stepRead (d + e) h I.1 _ (Ci.mono (c_lookf (d + e) I t) (fun r h1 LL => ?_))
  have L := LL.1
  have ev := LL.2.2
  have fwd : ∀ c : Int32, r = c → ¬ c = -1 → pa h1 < pz h := fun c ec nc => by
    rcases L.fwd rfl with u | u
    · exact absurd (ec.symm.trans u) nc
    · exact u
  refine ⟨L.1.1, fun n1 => ⟨fun n2 => ⟨fun n3 => ⟨fun n4 => ⟨fun n5 => st_badf (d + e) I q LL ?_, fun e40 => ⟨fun d4 => st_badf (d + e) I q LL ?_, fun d4 => ?_⟩⟩, fun e108 => ?_⟩, fun e112 => ?_⟩, fun e119 => ?_⟩, fun e103 => ?_⟩
  · unfold stq
    rw [← ev, if_neg n1, if_neg n2, if_neg n3, if_neg n4, if_neg n5]
  · have d4 := q_le.mp d4
    have ed := f35 L.2.1 (by decide +kernel)
    have d4' : 4 ≤ pd h1 := d4
    unfold stq
    rw [← ev, if_neg n1, if_neg n2, if_neg n3, if_neg n4, if_pos e40, if_pos (hz.mpr (by omega))]
  · have d4 := q_nle d4
    have ed := f35 L.2.1 (by decide +kernel)
    have d4' : pd h1 < 4 := d4
    cases g with
    | zero => exact absurd eD (by omega)
    | succ g =>
      refine st_nf d e f o (B g rfl) I t q eD LL (fwd _ e40 (by decide)) ?_ ?_
      · unfold stq
        rw [← ev, if_neg n1, if_neg n2, if_neg n3, if_neg n4, if_pos e40, if_neg (fun y => absurd (hz.mp y) (by omega))]
      · unfold sto
        rw [← ev, if_neg n1, if_neg n2, if_neg n3, if_neg n4]
  · have eo : sto b n f o (ta h) = [(3, 0, 0)] := by
      unfold sto
      rw [← ev, if_neg n1, if_neg n2, if_neg n3, if_pos e108]
    rw [eo]
    refine st_lf (d + e) I q LL (fwd _ e108 (by decide)) ?_
    unfold stq
    rw [← ev, if_neg n1, if_neg n2, if_neg n3, if_pos e108]
  · refine st_pf (d + e) I t q LL (fwd _ e112 (by decide)) ?_ ?_
    · unfold stq
      rw [← ev, if_neg n1, if_neg n2, if_pos e112]
    · unfold sto
      rw [← ev, if_neg n1, if_neg n2, if_pos e112]
  · have eo : sto b n f o (ta h) = [(1, nmw b n 1 240 (ska b n (ta h) + 1), 0)] := by
      unfold sto
      rw [← ev, if_neg n1, if_pos e119]
    rw [eo]
    refine st_gwf (d + e) I t q LL (fwd _ e119 (by decide)) 1 1 240 (fun cd i a v x y => uD.b (Or.inr (Or.inl ⟨a, ⟨q_le.mp x, q_le.mp y⟩, rfl, by rw [v]⟩))) ?_
    unfold stq
    rw [← ev, if_neg n1, if_pos e119]
  · have eo : sto b n f o (ta h) = [(0, nmw b n 0 15 (ska b n (ta h) + 1), 0)] := by
      unfold sto
      rw [← ev, if_pos e103]
    rw [eo]
    refine st_gwf (d + e) I t q LL (fwd _ e103 (by decide)) 0 0 15 (fun cd i a v x y => uD.b (Or.inl ⟨a, ⟨q_le.mp x, q_le.mp y⟩, rfl, by rw [v]⟩)) ?_
    unfold stq
    rw [← ev, if_pos e103]
/-- one step more behind a sign -/
theorem Ptt.moref {g : Nat} {M N : List Sp3} {h h5 h6 h9 : Hp_} (I : Iv h) (q : Pr h) (P : Ptt (uS g M) h h5) (w : h_i h5 1 34 = -1) (I6 : Iv h6) (F6 : Fr [1033] h5 h6) (a6 : pa h6 = pa h5 + 1) (Q : Ptt (fun cd i j => uD cd g i j N) h6 h9) : Ptt (uS g (M ++ N)) h h9 := by
  obtain ⟨p1, p2, p3, p4, p5, p6, p7, p8⟩ := P
  obtain ⟨q1, q2, q3, q4, q5, q6, q7, q8⟩ := Q
  obtain ⟨t1, t2, t3, f, t4⟩ := p7 w
  have z5 := zf p2 (by decide +kernel)
  have z6 := zf F6 (by decide +kernel)
  have g6 := f36 F6 (by decide +kernel)
  have d6 := f35 F6 (by decide +kernel)
  have n5 := sN_i p1
  have n6 := sN_i I6
  have m6 : sN h6 = sN h5 := by omega
  have n0 := sN_i I
  have c6 : ∀ k, k < sN h5 → h_i h9 226 k = h_i h5 226 k := fun k hk => by rw [q5 k (by omega), fr_i F6 (a := 226) (by decide +kernel)]
  refine ⟨q1, (p2.tr (F6.more (by decide +kernel))).tr q2, by omega, by omega, fun k hk => ?_, by omega, fun w9 => ?_, fun w9 => ?_⟩
  · rw [c6 k (by omega)]; exact p5 k hk
  · obtain ⟨u1, u2, u3, u4⟩ := q7 w9
    refine ⟨by omega, by omega, by omega, f + 1, sqU_snoc (j := sN h5) (sqUD_same (fun k _ b => c6 k b) t4) ?_⟩
    rw [← m6]; exact u4
  · obtain ⟨u1, u2⟩ := q8 w9
    exact ⟨by omega, by omega⟩
theorem Ptt.to {Q Q' : (Nat → Int32) → Nat → Nat → Prop} {h h' : Hp_} (P : Ptt Q h h') (e : h_i h' 1 34 = -1 → ∀ cd i j, Q cd i j → Q' cd i j) : Ptt Q' h h' := ⟨P.1, P.2.1, P.2.2.1, P.2.2.2.1, P.2.2.2.2.1, P.2.2.2.2.2.1, fun w => ⟨(P.2.2.2.2.2.2.1 w).1, (P.2.2.2.2.2.2.1 w).2.1, (P.2.2.2.2.2.2.1 w).2.2.1, e w _ _ _ (P.2.2.2.2.2.2.1 w).2.2.2⟩, P.2.2.2.2.2.2.2⟩
theorem c_stepsReadf {b : Nat → Int32} {n : Nat} (e g : Nat) (f : Rcg) (o : Nat → List Sp3) (A : RdU b n (4 - (g : Int)) f o (fun M cd i j => uD cd g i j M) (fun d h K => Cv (m_X12_stepRead (d + e + 51) 0 0) [.ref 1] h K)) : RdU b n (4 - (g : Int)) (sps b n f) (spo b n f o) (uS g) (fun d h K => Cv (m_X12_stepsRead (d + e + 52) 0 0) [.ref 1] h K) := by
  intro d h I q eD t
  have z1 : pz h ≤ 160 := (pz_in I).2
  have qq := q
  obtain ⟨q1, q2, q3, q4⟩ := qq
  have lp : ∀ (k : Nat) (P0 : List Sp3) (h2 : Hp_), Ptt (uS g P0) h h2 → Sf b n (sps b n f (ta h)) (lpr b n (isq 59) f k) h2 → (h_i h2 1 34 = -1 → spo b n f o (ta h) = P0 ++ lpo b n f o k (ta h2)) → pz h - pa h2 ≤ k → AW (m_X12_stepsRead (d + e + 52) 0 0) 0 0 4 [(0, .ref 1)] [] h2 (kV (fun h' => Ptt (uS g (spo b n f o (ta h))) h h' ∧ Ft b n (sps b n f (ta h)) h')) := by
    intro k
    induction k with
    | zero =>
      intro P0 h2 P F E m
      refine t_X12_stepsRead_4 (d + e) h2 P.1.1 _ ⟨fun w => ⟨P.to (fun y => absurd y w), F.2 w⟩, fun w => Ci.mono (c_lookf (d + e) P.1 (t.fr P.2.1 (by decide +kernel))) (fun r h5 LL => ⟨LL.1.1.1, fun _ => ⟨(P.lk I q LL.1).to (fun _ cd i j u => ?_), lp0 F w LL⟩, fun er => ?_⟩)⟩
      · rw [E w]
        show uS g (P0 ++ []) cd i j
        rw [List.append_nil]
        exact u
      · have l3 := LL.1.2.2.1
        rcases LL.1.fwd (zf P.2.1 (by decide +kernel)) with u | u
        · rw [er] at u; exact absurd u (by decide)
        · omega
    | succ k ih =>
      intro P0 h2 P F E m
      refine t_X12_stepsRead_4 (d + e) h2 P.1.1 _ ⟨fun w => ⟨P.to (fun y => absurd y w), F.2 w⟩, fun w => Ci.mono (c_lookf (d + e) P.1 (t.fr P.2.1 (by decide +kernel))) (fun r h5 LL => ⟨LL.1.1.1, fun nr => ⟨(P.lk I q LL.1).to (fun _ cd i j u => ?_), lpx F w LL (decide_eq_false nr)⟩, fun er => ?_⟩)⟩
      · have e0 : lpo b n f o (k + 1) (ta h2) = [] := by
          show (if isq 59 (skv b n (ta h2)) = true then _ else _) = _
          exact if_neg (by rw [← LL.2.2]; exact fun y => nr (of_decide_eq_true y))
        rw [E w, e0, List.append_nil]
        exact u
      · have L := LL.1
        have P5 := P.lk I q L
        have w5 : h_i h5 1 34 = -1 := by rw [f34 L.2.1 (by decide +kernel)]; exact w
        have l3 := L.2.2.1
        have z2 := zf P.2.1 (by decide +kernel)
        have l5 : pa h5 < pz h := by
          rcases L.fwd z2 with u | u
          · rw [er] at u; exact absurd u (by decide)
          · exact u
        obtain ⟨t1, t2, t3, t4⟩ := P5.2.2.2.2.2.2.1 w5
        obtain ⟨I6, F6, a6⟩ := nx1 P.1 L (by omega)
        have na := nxa LL I6 a6
        have F56 : Fr [1033] h5 (h_im h5 1 33 ((h_i h5 1 33) + 1)) := (Fr.rf _ _).im (by decide +kernel)
        generalize h_im h5 1 33 ((h_i h5 1 33) + 1) = h6 at I6 F6 a6 F56 na ⊢
        have g6 := f36 F56 (by decide +kernel)
        have d6 := f35 F56 (by decide +kernel)
        have z6 := zf F6 (by decide +kernel)
        have d5 := P5.2.2.1
        have t6 : Tp b n h6 := (t.fr P.2.1 (by decide +kernel)).fr F6 (by decide +kernel)
        refine Cv.mono (A d h6 I6 ⟨by rw [f34 F56 (by decide +kernel)]; exact w5, by omega, by omega, by omega⟩ (by omega) t6) (fun h9 QQ => ?_)
        obtain ⟨Q, QF⟩ := QQ
        rw [na] at Q QF
        have S9 := lps F w LL.2.2 (decide_eq_true er) QF
        refine ⟨Q.1.1, ih (P0 ++ o (ska b n (ta h2) + 1)) h9 (P5.moref I q w5 I6 F56 a6 Q) S9 (fun w9 => ?_) ?_⟩
        · have e0 : lpo b n f o (k + 1) (ta h2) = o (ska b n (ta h2) + 1) ++ lpo b n f o k (f (ska b n (ta h2) + 1)).2 := by
            show (if isq 59 (skv b n (ta h2)) = true then _ else _) = _
            exact if_pos (by rw [← LL.2.2, er]; decide)
          rw [E w, e0, ← (QF.ok w9).2, lpo_c k, List.append_assoc]
        · have q4 := Q.2.2.2.1
          omega
  refine t_X12_stepsRead (d + e) h I.1 _ (Cv.mono (A d h I q eD t) (fun h1 PP => ?_))
  obtain ⟨P, PF⟩ := PP
  have P' : Ptt (uS g (o (ta h))) h h1 := P.to (fun _ cd i j u => ⟨1, _, _, [], u, ⟨rfl, rfl⟩, (List.append_nil _).symm⟩)
  refine ⟨P.1.1, lp 160 (o (ta h)) h1 P' (sqf (f := f) (lpr_c 160) PF) (fun w => ?_) ?_⟩
  · unfold spo
    rw [← (PF.ok w).2, lpo_c 160]
  · have a1 : 0 ≤ pa h1 := (pa_in P.1).1
    omega
theorem c_stepsf {b : Nat → Int32} {n : Nat} : ∀ (g : Nat), g ≤ 4 → RdU b n (4 - (g : Int)) (sps b n (stn b n g)) (spo b n (stn b n g) (ston b n g)) (uS g) (fun d h K => Cv (m_X12_stepsRead (d + (10 * g + 10) + 52) 0 0) [.ref 1] h K) := by
  intro g
  induction g with
  | zero =>
    intro _
    exact c_stepsReadf _ 0 (stn b n 0) (ston b n 0) (c_stepReadf 0 0 (by decide) true (fun a => (false, a)) (fun _ => []) (by decide) (fun g' h => absurd h (by omega)))
  | succ g ih =>
    intro hg
    have A := c_stepReadf (b := b) (n := n) (10 * g + 10) (g + 1) hg false (sps b n (stn b n g)) (spo b n (stn b n g) (ston b n g)) ⟨fun y => absurd y (by decide), fun y => absurd y (by omega)⟩ (fun g' h => by
      have h : g = g' := by omega
      subst h
      exact ih (by omega))
    refine c_stepsReadf _ (g + 1) (stn b n (g + 1)) (ston b n (g + 1)) (fun d h I q a t => ?_)
    have k := A d h I q a t
    dsimp only at k
    rw [show d + (10 * g + 10) + 61 = d + (10 * (g + 1) + 10) + 51 by omega] at k
    exact k
theorem r_stepsf (d : Nat) {b : Nat → Int32} {n : Nat} {h : Hp_} (I : Iv h) (q : Pr h) (e : pd h = 0) (t : Tp b n h) (a0 : ta h = 0) : Cv (m_X12_stepsRead (d + 80 + 52) 0 0) [.ref 1] h (fun h' => Ptt (uS 4 (beo b n)) h h' ∧ Ft b n (beq b n 0) h') := by
  have k := c_stepsf (b := b) (n := n) 4 (by decide) (d + 30) h I q (by omega) t
  dsimp only at k
  rw [show d + 30 + (10 * 4 + 10) + 52 = d + 80 + 52 by omega, a0] at k
  exact k
/-! fault of the reference for a beat; unfolding; beat -/
theorem c_faultf0 (d : Nat) {b : Nat → Int32} {n : Nat} (bb : ∀ k, k < n → ¬ b k = -1) {h : Hp_} (I : Iv h) (t : Tp b n h) : Ci (m_X12_fault (d + 80 + 59) 0 0) [.ref 1, .int 0] h (fun r h' => Iv h' ∧ Fr wzf h h' ∧ r = enq b n (beq b n) ∧ (r = -1 → uS 4 (beo b n) (h_i h' 226) 0 (sN h'))) := by
  have z0 : 0 ≤ pz h := (pz_in I).1
  have z1 : pz h ≤ 160 := (pz_in I).2
  have b0 : rin (0 : Int32).toInt (0, 180) := ⟨by decide, by decide⟩
  have I0 : Iv (h_im (h_im (h_im (h_im (h_im h 1 37 0) 1 33 0) 1 34 (-1)) 1 35 0) 1 36 0) := i36 (i35 (i34 (i33 (I.im (by rw [show tf 1 37 = rtop by decide +kernel]; exact rtop_in _) (by decide)) b0) _) ⟨by decide, by decide⟩) ⟨by decide, by decide⟩
  have F0 : Fr wzf h (h_im (h_im (h_im (h_im (h_im h 1 37 0) 1 33 0) 1 34 (-1)) 1 35 0) 1 36 0) := (((((Fr.rf _ _).im (by decide +kernel)).im (by decide +kernel)).im (by decide +kernel)).im (by decide +kernel)).im (by decide +kernel)
  have e36 : h_i (h_im (h_im (h_im (h_im (h_im h 1 37 0) 1 33 0) 1 34 (-1)) 1 35 0) 1 36 0) 1 36 = 0 := im_at
  have e35 : h_i (h_im (h_im (h_im (h_im (h_im h 1 37 0) 1 33 0) 1 34 (-1)) 1 35 0) 1 36 0) 1 35 = 0 := by rw [f_ne (by decide), im_at]
  have e34 : h_i (h_im (h_im (h_im (h_im (h_im h 1 37 0) 1 33 0) 1 34 (-1)) 1 35 0) 1 36 0) 1 34 = -1 := by rw [f_ne (by decide), f_ne (by decide), im_at]
  have e33 : h_i (h_im (h_im (h_im (h_im (h_im h 1 37 0) 1 33 0) 1 34 (-1)) 1 35 0) 1 36 0) 1 33 = 0 := by rw [f_ne (by decide), f_ne (by decide), f_ne (by decide), im_at]
  refine t_X12_fault (d + 80) h I.1 0 _ ⟨fun _ => ?_, fun y => absurd (by decide) y⟩
  generalize h_im (h_im (h_im (h_im (h_im h 1 37 0) 1 33 0) 1 34 (-1)) 1 35 0) 1 36 0 = h0 at I0 F0 e36 e35 e34 e33 ⊢
  have zz := zf F0 (by decide +kernel)
  have a0 : pa h0 = 0 := by show (h_i h0 1 33).toInt = 0; rw [e33]; rfl
  have ta0 : ta h0 = 0 := by have := ta_i I0; omega
  have d0 : pd h0 = 0 := by show (h_i h0 1 35).toInt = 0; rw [e35]; rfl
  have s0 : ps h0 = 0 := by show (h_i h0 1 36).toInt = 0; rw [e36]; rfl
  have n0 := sN_i I0
  have nz : sN h0 = 0 := by omega
  have t0 : Tp b n h0 := t.fr F0 (by decide +kernel)
  refine ⟨fun y => absurd rfl y, fun _ => ?_⟩
  refine Cv.mono (r_stepsf d I0 ⟨e34, by omega, by omega, by omega⟩ d0 t0 ta0) (fun h8 PP => ?_)
  obtain ⟨P, PF⟩ := PP
  refine ⟨P.1.1, fun w => ?_, fun w => ?_⟩
  · exact ⟨P.1, F0.tr (P.2.1.more (by decide +kernel)), enq_n PF w, fun y => absurd y w⟩
  · obtain ⟨u1, u2, u3, u4⟩ := P.2.2.2.2.2.2.1 w
    rw [nz] at u4
    refine Ci.mono (c_lookf (d + 80) P.1 (t0.fr P.2.1 (by decide +kernel))) (fun r h5 LL => ?_)
    have E := enq_y bb PF w LL
    have L := LL.1
    refine ⟨L.1.1, fun er => ?_, fun nr => ?_⟩
    · have e6 := f36 L.2.1 (by decide +kernel)
      have n5 := sN_i L.1
      have n8 := sN_i P.1
      refine ⟨L.1, F0.tr ((P.2.1.tr (L.2.1.more (by decide +kernel))).more (by decide +kernel)), E.1 er, fun _ => ?_⟩
      rw [show h_i h5 226 = h_i h8 226 from funext (fun k => fr_i L.2.1 (by decide +kernel) k), show sN h5 = sN h8 by omega]
      exact u4
    · refine Cv.mono (c_badf (d + 80) L.1 (by rw [f34 L.2.1 (by decide +kernel)]; exact w)) (fun h9 k => ⟨k.1.1, k.1, F0.tr (((P.2.1.tr (L.2.1.more (by decide +kernel))).tr (k.2.1.more (by decide +kernel))).more (by decide +kernel)), ?_, fun y => absurd y k.2.2.1⟩)
      rw [k.2.2.2]
      exact E.2 nr
/-- the steps that stand unfolded from B on -/
noncomputable def Uo (B : Nat) (L : List Sp3) (h : Hp_) : Prop := L.length ≤ 150 ∧ h_i h 1 43 = Int32.ofNat L.length ∧ ∀ k x, L[k]? = some x → h_i h 228 (B + k) = x.1 ∧ h_i h 229 (B + k) = x.2.1 ∧ h_i h 230 (B + k) = x.2.2
noncomputable abbrev bB (h0 : Hp_) : Nat := 150 * (h_i h0 1 42).toNatClampNeg
theorem Uo.n44 {B : Nat} {L : List Sp3} {h : Hp_} (O : Uo B L h) (x : Int32) : Uo B L (h_im h 1 44 x) := ⟨O.1, by rw [f_ne (by decide)]; exact O.2.1, fun k y e => by rw [im_ne (by decide), im_ne (by decide), im_ne (by decide)]; exact O.2.2 k y e⟩
theorem Uo.st {h0 h : Hp_} {x3 a b n s0 : Int32} (U : Uv h0 h) (hB : (h_i h0 1 42).toInt ≤ 11) (ne : ¬ h_i h 1 43 = 150) (e0 : s0 = 150 * h_i h 1 42 + h_i h 1 43) {L : List Sp3} (O : Uo (bB h0) L h) : Uo (bB h0) (L ++ [(x3, a, b)]) (h_im (h_im (h_im (h_im (h_im h 228 s0.toNatClampNeg x3) 229 s0.toNatClampNeg a) 230 s0.toNatClampNeg b) 1 43 ((h_i h 1 43) + 1)) 1 44 n) := by
  obtain ⟨I, F, C⟩ := U
  have e42 : h_i h 1 42 = h_i h0 1 42 := (F.2 1 42 (by decide +kernel)).1
  have r42 := I.2.1 1 42
  rw [show tf 1 42 = (0, 12) by decide +kernel] at r42
  have b0 : 0 ≤ (h_i h 1 42).toInt := r42.1
  have b1 : (h_i h 1 42).toInt ≤ 11 := by rw [e42]; exact hB
  have t150 : (150 : Int32).toInt = 150 := rfl
  have t1 : (1 : Int32).toInt = 1 := rfl
  have o1 := O.1
  have e43 := congrArg Int32.toInt O.2.1
  rw [on_j (by omega)] at e43
  have u1 : L.length ≤ 149 := by
    rcases Nat.lt_or_ge L.length 150 with z | z
    · omega
    · exact absurd (Int32.toInt_inj.mp (by rw [t150]; omega)) ne
  have m1 : (150 * h_i h 1 42).toInt = 150 * (h_i h 1 42).toInt := by rw [tx_mul (by rw [t150]; omega) (by rw [t150]; omega), t150]
  have m2 : s0.toInt = 150 * (h_i h 1 42).toInt + (h_i h 1 43).toInt := by rw [e0, tx_add (by omega) (by omega), m1]
  have ns := n_nat (x := s0) (by omega)
  have nB := n_nat (x := h_i h0 1 42) (by rw [← e42]; exact b0)
  have es : s0.toNatClampNeg = bB h0 + L.length := by
    show s0.toNatClampNeg = 150 * (h_i h0 1 42).toNatClampNeg + L.length
    rw [e42] at m2
    omega
  rw [es]
  refine ⟨by rw [List.length_append, List.length_singleton]; omega, ?_, fun k y ey => ?_⟩
  · rw [f_ne (by decide), im_at, List.length_append, List.length_singleton]
    refine Int32.toInt_inj.mp ?_
    rw [tx_add (by rw [t1]; omega) (by rw [t1]; omega), t1, on_j (by omega)]
    omega
  · have w8 : ∀ j, h_i (h_im (h_im (h_im (h_im (h_im h 228 (bB h0 + L.length) x3) 229 (bB h0 + L.length) a) 230 (bB h0 + L.length) b) 1 43 ((h_i h 1 43) + 1)) 1 44 n) 228 j = if j = bB h0 + L.length then x3 else h_i h 228 j := fun j => by
      rw [im_ne (by decide), im_ne (by decide), im_ne (by decide), im_ne (by decide), h_i_im]
      by_cases z : j = bB h0 + L.length
      · rw [if_pos ⟨rfl, z⟩, if_pos z]
      · rw [if_neg (fun u => z u.2), if_neg z]
    have w9 : ∀ j, h_i (h_im (h_im (h_im (h_im (h_im h 228 (bB h0 + L.length) x3) 229 (bB h0 + L.length) a) 230 (bB h0 + L.length) b) 1 43 ((h_i h 1 43) + 1)) 1 44 n) 229 j = if j = bB h0 + L.length then a else h_i h 229 j := fun j => by
      rw [im_ne (by decide), im_ne (by decide), im_ne (by decide), h_i_im]
      by_cases z : j = bB h0 + L.length
      · rw [if_pos ⟨rfl, z⟩, if_pos z]
      · rw [if_neg (fun u => z u.2), if_neg z, im_ne (by decide)]
    have w0 : ∀ j, h_i (h_im (h_im (h_im (h_im (h_im h 228 (bB h0 + L.length) x3) 229 (bB h0 + L.length) a) 230 (bB h0 + L.length) b) 1 43 ((h_i h 1 43) + 1)) 1 44 n) 230 j = if j = bB h0 + L.length then b else h_i h 230 j := fun j => by
      rw [im_ne (by decide), im_ne (by decide), h_i_im]
      by_cases z : j = bB h0 + L.length
      · rw [if_pos ⟨rfl, z⟩, if_pos z]
      · rw [if_neg (fun u => z u.2), if_neg z, im_ne (by decide), im_ne (by decide)]
    rw [w8, w9, w0]
    rcases Nat.lt_or_ge k L.length with u | u
    · rw [List.getElem?_append_left u] at ey
      rw [if_neg (by omega), if_neg (by omega), if_neg (by omega)]
      exact O.2.2 k y ey
    · have ku : k = L.length := by
        rcases Nat.lt_or_ge L.length k with v | v
        · rw [List.getElem?_eq_none (by rw [List.length_append, List.length_singleton]; omega)] at ey
          cases ey
        · omega
      subst ku
      rw [List.getElem?_append_right (Nat.le_refl _), Nat.sub_self] at ey
      have ey' : (x3, a, b) = y := by simpa using ey
      rw [if_pos rfl, if_pos rfl, if_pos rfl, ← ey']
      exact ⟨rfl, rfl, rfl⟩
/-- besides: the numbers of the beats that stood stay too -/
noncomputable def Uw (h0 h : Hp_) : Prop := Uv h0 h ∧ ∀ k, k < bB h0 → h_i h 229 k = h_i h0 229 k ∧ h_i h 230 k = h_i h0 230 k
theorem Uw.n44 {h0 h : Hp_} (U : Uw h0 h) (x : Int32) : Uw h0 (h_im h 1 44 x) := ⟨U.1.n44 x, fun k hk => by rw [im_ne (by decide), im_ne (by decide)]; exact U.2 k hk⟩
theorem Uw.st {h0 h : Hp_} {x3 a b n s0 : Int32} (U : Uw h0 h) (hB : (h_i h0 1 42).toInt ≤ 11) (ne : ¬ h_i h 1 43 = 150) (e0 : s0 = 150 * h_i h 1 42 + h_i h 1 43) (bx : rin x3.toInt (0, 3)) (ba : rin a.toInt (0, 1440)) (o : ¬ x3 = 1 → rin a.toInt (0, 15)) :
    vp_in s0 1800 ∧ Uw h0 (h_im (h_im (h_im (h_im (h_im h 228 s0.toNatClampNeg x3) 229 s0.toNatClampNeg a) 230 s0.toNatClampNeg b) 1 43 ((h_i h 1 43) + 1)) 1 44 n) := by
  have S := U.1.st (b := b) (n := n) hB ne e0 bx ba o
  refine ⟨S.1, S.2, fun k hk => ?_⟩
  obtain ⟨I, F, C⟩ := U.1
  have e42 : h_i h 1 42 = h_i h0 1 42 := (F.2 1 42 (by decide +kernel)).1
  have r42 := I.2.1 1 42
  rw [show tf 1 42 = (0, 12) by decide +kernel] at r42
  have b0 : 0 ≤ (h_i h 1 42).toInt := r42.1
  have b1 : (h_i h 1 42).toInt ≤ 11 := by rw [e42]; exact hB
  have r43 := I.2.1 1 43
  rw [show tf 1 43 = (0, 150) by decide +kernel] at r43
  have u0 : 0 ≤ (h_i h 1 43).toInt := r43.1
  have u1 : (h_i h 1 43).toInt ≤ 150 := r43.2
  have t150 : (150 : Int32).toInt = 150 := rfl
  have m1 : (150 * h_i h 1 42).toInt = 150 * (h_i h 1 42).toInt := by rw [tx_mul (by rw [t150]; omega) (by rw [t150]; omega), t150]
  have m2 : s0.toInt = 150 * (h_i h 1 42).toInt + (h_i h 1 43).toInt := by rw [e0, tx_add (by omega) (by omega), m1]
  have ns := n_nat (x := s0) (by omega)
  have nB := n_nat (x := h_i h0 1 42) (by rw [← e42]; exact b0)
  have hk' : k < 150 * (h_i h0 1 42).toNatClampNeg := hk
  rw [e42] at m2
  have nk : ¬ k = s0.toNatClampNeg := by omega
  rw [im_ne (by decide), im_ne (by decide), im_ne (by decide), h_i_im, if_neg (fun u => nk u.2), im_ne (by decide), im_ne (by decide), im_ne (by decide), h_i_im, if_neg (fun u => nk u.2), im_ne (by decide), im_ne (by decide)]
  exact U.2 k hk
noncomputable def Ukf (h0 : Hp_) (j : Nat) (M : List Sp3) (hs : Hp_) : Int32 → Hp_ → Prop := fun r h' => Uw h0 h' ∧ (¬ r = 0 → h_i h' 1 44 = Int32.ofNat j ∧ ∀ L, Uo (bB h0) L hs → Uo (bB h0) (L ++ M) h') ∧ (r = 0 → ∀ L, Uo (bB h0) L hs → 150 < (L ++ M).length)
theorem Ukf.pre {h0 : Hp_} {j : Nat} {A B : List Sp3} {hs h1 h' : Hp_} {r : Int32} (K : Ukf h0 j B h1 r h') (O : ∀ L, Uo (bB h0) L hs → Uo (bB h0) (L ++ A) h1) : Ukf h0 j (A ++ B) hs r h' := by
  refine ⟨K.1, fun nr => ⟨(K.2.1 nr).1, fun L u => ?_⟩, fun er L u => ?_⟩
  · rw [← List.append_assoc]
    exact (K.2.1 nr).2 _ (O L u)
  · rw [← List.append_assoc]
    exact K.2.2 er _ (O L u)
theorem uf_loopf (h0 : Hp_) (N : Nat) (hN : h_i h0 1 36 = Int32.ofNat N) (lN : N ≤ 559) (hB : (h_i h0 1 42).toInt ≤ 11) (g d : Nat)
    (B : ∀ g', g = g' + 1 → ∀ (f i j : Nat) (M : List Sp3) (h : Hp_), sqU (uD (h_i h0 226) g') f i j M → j ≤ N → (j = N ∨ h_i h0 226 j = 5) → Uw h0 h → Ci (m_X12_unfold (d + g + 0) 0 0) [.ref 1, .int (Int32.ofNat i), .int 1] h (Ukf h0 j M h)) (j : Nat) (hj : j ≤ N) (ej : j = N ∨ h_i h0 226 j = 5) :
    ∀ (f i : Nat) (M : List Sp3) (h : Hp_), sqU (uD (h_i h0 226) g) f i j M → Uw h0 h → h_i h 1 44 = Int32.ofNat i → AW (m_X12_unfold (d + g + 1) 0 0) 0 0 5 [(0, .ref 1), (2, .int 1)] [] h (kI (Ukf h0 j M h)) := by
  have oN := on_j (n := N) (by omega)
  intro f
  induction f with
  | zero =>
    intro i M h q U en
    obtain ⟨q, qm⟩ := q
    subst q
    subst qm
    have e36 : h_i h 1 36 = Int32.ofNat N := by rw [(U.1.2.1.2 1 36 (by decide +kernel)).1]; exact hN
    have e6 : ∀ k, h_i h 226 k = h_i h0 226 k := fun k => fr_i U.1.2.1 (by decide +kernel) k
    have oi := on_j (n := i) (by omega)
    have ki := on_k (n := i) (by omega)
    have fin : Ukf h0 i [] h 1 h := ⟨U, fun _ => ⟨en, fun L O => by rw [List.append_nil]; exact O⟩, fun y => absurd y (by decide)⟩
    refine t_X12_unfold_5 (d + g) h U.1.1.1 1 _ ⟨fun _ => fin, fun z => ?_⟩
    rw [e36, en] at z
    have z := q_nle z
    have c5 : h_i h0 226 i = 5 := by
      rcases ej with u | u
      · omega
      · exact u
    rw [en, ki, e6]
    exact ⟨on_in (by omega) (by decide), fun _ => fin, fun y => absurd c5 y⟩
  | succ f ih =>
    intro i M h q U en
    obtain ⟨i2, A, B2, st, q, qm⟩ := q
    subst qm
    have l1 := uD_lt st
    have l2 := sqU_le (fun _ _ _ t => uD_lt t) q
    have e36 : h_i h 1 36 = Int32.ofNat N := by rw [(U.1.2.1.2 1 36 (by decide +kernel)).1]; exact hN
    have e6 : ∀ k, h_i h 226 k = h_i h0 226 k := fun k => fr_i U.1.2.1 (by decide +kernel) k
    have oi := on_j (n := i) (by omega)
    have ki := on_k (n := i) (by omega)
    have vi : vp_in (Int32.ofNat i) 560 := on_in (by omega) (by decide)
    refine t_X12_unfold_5 (d + g) h U.1.1.1 1 _ ⟨fun z => ?_, fun _ => ?_⟩
    · rw [e36, en] at z
      have z := q_le.mp z
      omega
    rw [en, ki, e6]
    have base : uB (h_i h0 226) i i2 A → ¬ h_i h0 226 i = 5 ∧ ¬ h_i h0 226 i = 4 ∧ A.length = 1 ∧ (¬ h_i h 1 43 = 150 → AW (m_X12_unfold (d + g + 1) 0 0) 0 0 158 [(0, .ref 1), (2, .int 1), (3, .int (h_i h0 226 i))] [.int ((150 * (h_i h 1 42)) + (h_i h 1 43))] h (kI (Ukf h0 j (A ++ B2) h))) := by
      intro s
      have n1 : Int32.ofNat i + 1 = Int32.ofNat (i + 1) := on_s (by omega)
      have v1 : i + 1 < 560 → vp_in (Int32.ofNat (i + 1)) 560 := fun l => on_in l (by decide)
      rcases s with ⟨a, b, c, m⟩ | ⟨a, b, c, m⟩ | ⟨a, b, b', c, m⟩ | ⟨a, c, m⟩
      · subst m
        refine ⟨by rw [a]; decide, by rw [a]; decide, rfl, fun ne => ?_⟩
        rw [a]
        have ka := on_k (n := i + 1) (by omega)
        have S := U.st (x3 := 0) (a := h_i h 226 (i + 1)) (b := 0) (n := Int32.ofNat (i + 2)) hB ne rfl ⟨by decide, by decide⟩ (by rw [e6]; exact ⟨b.1, by have : (h_i h0 226 (i + 1)).toInt ≤ 15 := b.2; show _ ≤ (1440 : Int); omega⟩) (fun _ => by rw [e6]; exact b)
        have O1 := fun L => Uo.st (x3 := 0) (a := h_i h 226 (i + 1)) (b := 0) (n := Int32.ofNat (i + 2)) (L := L) U.1 hB ne rfl
        generalize ((150 * (h_i h 1 42)) + (h_i h 1 43)) = s0 at S O1 ⊢
        have v := S.1
        refine t_X12_unfold_158 (d + g) h U.1.1.1 1 0 s0 _ ⟨fun y => absurd y (by decide), fun _ => ⟨v, fun _ => ⟨?_, v, fun _ => ⟨v, fun _ => ⟨fun _ => ?_, fun y => absurd y (by decide)⟩, fun y => absurd y (by decide)⟩, fun y => absurd y (by decide)⟩, fun y => absurd y (by decide)⟩⟩
        · rw [en, n1]; exact v1 (by omega)
        · rw [en, n1, ka, on_2 (by omega)]
          refine AW.mono (ih (i + 2) B2 _ (by rw [← c]; exact q) S.2 im_at) (fun v h' k => ?_)
          obtain ⟨r, er, k⟩ := k
          exact ⟨r, er, k.pre (fun L O => by rw [← e6]; exact O1 L O)⟩
      · subst m
        refine ⟨by rw [a]; decide, by rw [a]; decide, rfl, fun ne => ?_⟩
        rw [a]
        have ka := on_k (n := i + 1) (by omega)
        have S := U.st (x3 := 1) (a := h_i h 226 (i + 1)) (b := 0) (n := Int32.ofNat (i + 2)) hB ne rfl ⟨by decide, by decide⟩ (by rw [e6]; exact ⟨by have : 1 ≤ (h_i h0 226 (i + 1)).toInt := b.1; show (0 : Int) ≤ _; omega, by have : (h_i h0 226 (i + 1)).toInt ≤ 240 := b.2; show _ ≤ (1440 : Int); omega⟩) (fun y => absurd rfl y)
        have O1 := fun L => Uo.st (x3 := 1) (a := h_i h 226 (i + 1)) (b := 0) (n := Int32.ofNat (i + 2)) (L := L) U.1 hB ne rfl
        generalize ((150 * (h_i h 1 42)) + (h_i h 1 43)) = s0 at S O1 ⊢
        have v := S.1
        refine t_X12_unfold_158 (d + g) h U.1.1.1 1 1 s0 _ ⟨fun y => absurd y (by decide), fun _ => ⟨v, fun _ => ⟨?_, v, fun _ => ⟨v, fun _ => ⟨fun _ => ?_, fun y => absurd y (by decide)⟩, fun y => absurd y (by decide)⟩, fun y => absurd y (by decide)⟩, fun y => absurd y (by decide)⟩⟩
        · rw [en, n1]; exact v1 (by omega)
        · rw [en, n1, ka, on_2 (by omega)]
          refine AW.mono (ih (i + 2) B2 _ (by rw [← c]; exact q) S.2 im_at) (fun v h' k => ?_)
          obtain ⟨r, er, k⟩ := k
          exact ⟨r, er, k.pre (fun L O => by rw [← e6]; exact O1 L O)⟩
      · subst m
        refine ⟨by rw [a]; decide, by rw [a]; decide, rfl, fun ne => ?_⟩
        rw [a]
        have ka := on_k (n := i + 1) (by omega)
        have kb := on_k (n := i + 2) (by omega)
        have S := U.st (x3 := 2) (a := h_i h 226 (i + 1)) (b := h_i h 226 (i + 2)) (n := Int32.ofNat (i + 3)) hB ne rfl ⟨by decide, by decide⟩ (by rw [e6]; exact ⟨b.1, by have : (h_i h0 226 (i + 1)).toInt ≤ 15 := b.2; show _ ≤ (1440 : Int); omega⟩) (fun _ => by rw [e6]; exact b)
        have O1 := fun L => Uo.st (x3 := 2) (a := h_i h 226 (i + 1)) (b := h_i h 226 (i + 2)) (n := Int32.ofNat (i + 3)) (L := L) U.1 hB ne rfl
        generalize ((150 * (h_i h 1 42)) + (h_i h 1 43)) = s0 at S O1 ⊢
        have v := S.1
        refine t_X12_unfold_158 (d + g) h U.1.1.1 1 2 s0 _ ⟨fun y => absurd y (by decide), fun _ => ⟨v, fun _ => ⟨?_, v, fun y => absurd rfl y, fun _ => ⟨?_, v, fun _ => ⟨fun y => absurd rfl y, fun _ => ?_⟩, fun y => absurd y (by decide)⟩⟩, fun y => absurd y (by decide)⟩⟩
        · rw [en, n1]; exact v1 (by omega)
        · rw [en, on_2 (by omega)]; exact on_in (by omega) (by decide)
        · rw [en, n1, ka, on_2 (by omega), kb, on_3 (by omega)]
          refine AW.mono (ih (i + 3) B2 _ (by rw [← c]; exact q) S.2 im_at) (fun v h' k => ?_)
          obtain ⟨r, er, k⟩ := k
          exact ⟨r, er, k.pre (fun L O => by rw [← e6, ← e6]; exact O1 L O)⟩
      · subst m
        refine ⟨by rw [a]; decide, by rw [a]; decide, rfl, fun ne => ?_⟩
        rw [a]
        have S := U.st (x3 := 3) (a := 0) (b := 0) (n := Int32.ofNat (i + 1)) hB ne rfl ⟨by decide, by decide⟩ ⟨by decide, by decide⟩ (fun _ => ⟨by decide, by decide⟩)
        have O1 := fun L => Uo.st (x3 := 3) (a := 0) (b := 0) (n := Int32.ofNat (i + 1)) (L := L) U.1 hB ne rfl
        generalize ((150 * (h_i h 1 42)) + (h_i h 1 43)) = s0 at S O1 ⊢
        have v := S.1
        refine t_X12_unfold_158 (d + g) h U.1.1.1 1 3 s0 _ ⟨fun y => absurd y (by decide), fun _ => ⟨v, fun y => absurd rfl y, fun _ => ⟨v, fun _ => ⟨v, fun y => absurd rfl y, fun _ => ?_⟩, fun y => absurd y (by decide)⟩⟩⟩
        rw [en, n1]
        refine AW.mono (ih (i + 1) B2 _ (by rw [← c]; exact q) S.2 im_at) (fun v h' k => ?_)
        obtain ⟨r, er, k⟩ := k
        exact ⟨r, er, k.pre (fun L O => O1 L O)⟩
    have full : A.length = 1 → h_i h 1 43 = 150 → Ukf h0 j (A ++ B2) h 0 h := fun la e43 => ⟨U, fun y => absurd rfl y, fun _ L O => by
      have c := O.2.1
      rw [e43] at c
      have c := congrArg Int32.toInt c
      have o := O.1
      rw [on_j (by omega)] at c
      have t150 : (150 : Int32).toInt = 150 := rfl
      rw [List.length_append, List.length_append]
      omega⟩
    have nb : uB (h_i h0 226) i i2 A → vp_in (Int32.ofNat i) 560 ∧ ((h_i h0 226 i = 5 → Ukf h0 j (A ++ B2) h 1 h) ∧ (¬ h_i h0 226 i = 5 → vp_in (Int32.ofNat i) 560 ∧ ((¬ h_i h0 226 i = 4 → (¬ (h_i h 1 43) = 150 → (¬ 12 = (h_i h 1 42) → AW (m_X12_unfold (d + g + 1) 0 0) 0 0 158 [(0, .ref 1), (2, .int 1), (3, .int (h_i h0 226 i))] [.int ((150 * (h_i h 1 42)) + (h_i h 1 43))] h (kI (Ukf h0 j (A ++ B2) h))) ∧ (12 = (h_i h 1 42) → AW (m_X12_unfold (d + g + 1) 0 0) 0 0 158 [(0, .ref 1), (2, .int 1), (3, .int (h_i h0 226 i))] [.int 0] h (kI (Ukf h0 j (A ++ B2) h)))) ∧ ((h_i h 1 43) = 150 → Ukf h0 j (A ++ B2) h 0 h)) ∧ (h_i h0 226 i = 4 → Ci (m_X12_unfold (d + g + 0) 0 0) [.ref 1, .int ((Int32.ofNat i) + 1), .int 1] h (fun r10 h8 => Wf h8 ∧ ((¬ r10 = 0 → vp_in ((h_i h8 1 44) + 1) 560 ∧ (AW (m_X12_unfold (d + g + 1) 0 0) 0 0 84 [(0, .ref 1), (2, .int 1), (4, .int ((Int32.ofNat i) + 1)), (5, .int (h_i h8 1 44)), (6, .int (h_i h8 226 (((h_i h8 1 44) + 1) : Int32).toNatClampNeg)), (7, .int 1)] [] h8 (kI (Ukf h0 j (A ++ B2) h)))) ∧ (r10 = 0 → Ukf h0 j (A ++ B2) h 0 h8))))))) := by
      intro s
      obtain ⟨b5, b4, la, b⟩ := base s
      refine ⟨vi, fun y => absurd y b5, fun _ => ⟨vi, fun _ => ⟨fun ne => ⟨fun _ => b ne, fun y => ?_⟩, fun e43 => full la e43⟩, fun y => absurd y b4⟩⟩
      have e42 : h_i h 1 42 = h_i h0 1 42 := (U.1.2.1.2 1 42 (by decide +kernel)).1
      rw [← e42, ← y] at hB
      exact absurd hB (by decide)
    cases g with
    | zero => exact nb st
    | succ g =>
      rcases st with s | ⟨c4, f2, j2, A0, w2, c5, tm, ei, em⟩
      · exact nb s
      · subst em
        have l3 := sqU_le (fun _ _ _ t => uD_lt t) w2
        have n1 : Int32.ofNat i + 1 = Int32.ofNat (i + 1) := on_s (by omega)
        have t0 : 1 ≤ (h_i h0 226 (j2 + 1)).toInt := tm.1
        have t1 : (h_i h0 226 (j2 + 1)).toInt ≤ 20 := tm.2
        have nT := n_nat (x := h_i h0 226 (j2 + 1)) (by omega)
        have long : ∀ (m : Nat) (L : List Sp3), m ≤ (h_i h0 226 (j2 + 1)).toNatClampNeg → 150 < (L ++ rpl m A0).length → 150 < (L ++ (rpl (h_i h0 226 (j2 + 1)).toNatClampNeg A0 ++ B2)).length := fun m L hm hl => by
          have k := rpl_l A0 hm
          rw [List.length_append] at hl
          rw [List.length_append, List.length_append]
          omega
        refine ⟨vi, fun y => absurd (c4.symm.trans y) (by decide), fun _ => ⟨vi, fun y => absurd c4 y, fun _ => ?_⟩⟩
        rw [n1]
        refine Ci.mono (B g rfl f2 (i + 1) j2 A0 h w2 (by omega) (Or.inr c5) U) (fun r h8 k => ⟨k.1.1.1.1, fun nr => ?_, fun er => ⟨k.1, fun y => absurd rfl y, fun _ L O => long 1 L (by omega) (by rw [rpl_1]; exact k.2.2 er L O)⟩⟩)
        have e44 := (k.2.1 nr).1
        have O8 := (k.2.1 nr).2
        have n2 : Int32.ofNat j2 + 1 = Int32.ofNat (j2 + 1) := on_s (by omega)
        have k2 := on_k (n := j2 + 1) (by omega)
        rw [e44, n2, k2, fr_i k.1.1.2.1 (a := 226) (by decide +kernel)]
        refine ⟨on_in (by omega) (by decide), ?_⟩
        generalize h_i h0 226 (j2 + 1) = x6 at t0 t1 nT long ⊢
        have o1 : (1 : Int32).toInt = 1 := rfl
        have out : ∀ h9, Uw h0 h9 → (∀ L, Uo (bB h0) L h → Uo (bB h0) (L ++ rpl x6.toNatClampNeg A0) h9) → AW (m_X12_unfold (d + (g + 1) + 1) 0 0) 0 0 5 [(0, .ref 1), (2, .int 1)] [] (h_im h9 1 44 (Int32.ofNat j2 + 2)) (kI (Ukf h0 j (rpl x6.toNatClampNeg A0 ++ B2) h)) := by
          intro h9 U9 O9
          rw [on_2 (by omega)]
          refine AW.mono (ih (j2 + 2) B2 _ (by rw [← ei]; exact q) (U9.n44 _) im_at) (fun v h' k => ?_)
          obtain ⟨r, er, k⟩ := k
          exact ⟨r, er, k.pre (fun L O => (O9 L O).n44 _)⟩
        have tl : ∀ (n m : Nat) (x7 : Int32) (h9 : Hp_), Uw h0 h9 → x7.toInt = (m : Int) → 1 ≤ m → (m : Int) + n = x6.toInt → (∀ L, Uo (bB h0) L h → Uo (bB h0) (L ++ rpl m A0) h9) → AW (m_X12_unfold (d + (g + 1) + 1) 0 0) 0 0 84 [(0, .ref 1), (2, .int 1), (4, .int (Int32.ofNat (i + 1))), (5, .int (Int32.ofNat j2)), (6, .int x6), (7, .int x7)] [] h9 (kI (Ukf h0 j (rpl x6.toNatClampNeg A0 ++ B2) h)) := by
          intro n
          induction n with
          | zero =>
            intro m x7 h9 U9 e7 a7 em O9
            refine t_X12_unfold_84 (d + (g + 1)) h9 U9.1.1.1 1 _ _ x6 x7 _ ⟨fun _ => out h9 U9 ?_, fun z => ?_⟩
            · rw [show x6.toNatClampNeg = m by omega]
              exact O9
            · have z := q_nle z
              omega
          | succ n ih2 =>
            intro m x7 h9 U9 e7 a7 em O9
            refine t_X12_unfold_84 (d + (g + 1)) h9 U9.1.1.1 1 _ _ x6 x7 _ ⟨fun z => ?_, fun z => ?_⟩
            · have z := q_le.mp z
              omega
            · have e7' : (x7 + 1).toInt = x7.toInt + 1 := by rw [tx_add (by rw [o1]; omega) (by rw [o1]; omega), o1]
              refine Ci.mono (B g rfl f2 (i + 1) j2 A0 h9 w2 (by omega) (Or.inr c5) U9) (fun r h10 k => ⟨k.1.1.1.1, fun nr => ih2 (m + 1) _ h10 k.1 (by rw [e7']; omega) (by omega) (by omega) (fun L O => ?_), fun er => ⟨k.1, fun y => absurd rfl y, fun _ L O => long (m + 1) L (by omega) ?_⟩⟩)
              · rw [rpl_s, ← List.append_assoc]
                exact (k.2.1 nr).2 _ (O9 L O)
              · rw [rpl_s, ← List.append_assoc]
                exact k.2.2 er _ (O9 L O)
        exact tl (x6.toInt - 1).toNat 1 1 h8 k.1 rfl (Nat.le_refl _) (by omega) (fun L O => by rw [rpl_1]; exact O8 L O)
theorem c_unfoldf (h0 : Hp_) (N : Nat) (hN : h_i h0 1 36 = Int32.ofNat N) (lN : N ≤ 559) (hB : (h_i h0 1 42).toInt ≤ 11) : ∀ (g d f i j : Nat) (M : List Sp3) (h : Hp_), sqU (uD (h_i h0 226) g) f i j M → j ≤ N → (j = N ∨ h_i h0 226 j = 5) → Uw h0 h → Ci (m_X12_unfold (d + g + 1) 0 0) [.ref 1, .int (Int32.ofNat i), .int 1] h (Ukf h0 j M h) := by
  intro g
  induction g with
  | zero =>
    intro d f i j M h q hj ej U
    refine t_X12_unfold (d + 0) h U.1.1.1 _ 1 _ (AW.mono (uf_loopf h0 N hN lN hB 0 d (fun g' e => absurd e (by omega)) j hj ej f i M _ q (U.n44 _) im_at) (fun v h' k => ?_))
    obtain ⟨r, er, k⟩ := k
    exact ⟨r, er, k.pre (A := []) (fun L O => by rw [List.append_nil]; exact O.n44 _)⟩
  | succ g ih =>
    intro d f i j M h q hj ej U
    refine t_X12_unfold (d + (g + 1)) h U.1.1.1 _ 1 _ (AW.mono (uf_loopf h0 N hN lN hB (g + 1) d (fun g' e f i j M h q hj ej U => by
      have e : g = g' := by omega
      subst e
      exact ih d f i j M h q hj ej U) j hj ej f i M _ q (U.n44 _) im_at) (fun v h' k => ?_))
    obtain ⟨r, er, k⟩ := k
    exact ⟨r, er, k.pre (A := []) (fun L O => by rw [List.append_nil]; exact O.n44 _)⟩
end
section
/-! beat of the reference, by what stands on the tape -/
noncomputable def wbt : List Nat := [1032, 1033, 1034, 1035, 1036, 1037, 1042, 1043, 1044, 226999, 227999, 228999, 229999, 230999]
noncomputable def okB (b : Nat → Int32) (n : Nat) (z : Int32) : Prop := ¬ z = 12 ∧ enq b n (beq b n) = -1 ∧ (beo b n).length ≤ 150
/-- what beat leaves of the numbers of beats and of the tape -/
noncomputable def Btm (b : Nat → Int32) (n : Nat) (h : Hp_) (r : Int32) (h' : Hp_) : Prop := Fr wbt h h' ∧ (∀ k, k < bB h → h_i h' 228 k = h_i h 228 k ∧ h_i h' 229 k = h_i h 229 k ∧ h_i h' 230 k = h_i h 230 k) ∧ (¬ okB b n (h_i h 1 42) → r = -1 ∧ h_i h' 1 42 = h_i h 1 42 ∧ h_i h' 1 32 = h_i h 1 32 ∧ ∀ k, h_i h' 227 k = h_i h 227 k) ∧ (okB b n (h_i h 1 42) → r = h_i h 1 42 ∧ h_i h' 1 42 = h_i h 1 42 + 1 ∧ h_i h' 1 32 = 0 ∧ (∀ k, h_i h' 227 k = if k = (h_i h 1 42).toNatClampNeg then Int32.ofNat (beo b n).length else h_i h 227 k) ∧ (∀ k x, (beo b n)[k]? = some x → h_i h' 228 (bB h + k) = x.1 ∧ h_i h' 229 (bB h + k) = x.2.1 ∧ h_i h' 230 (bB h + k) = x.2.2) ∧ ∀ x ∈ beo b n, stR x)
theorem c_beatf (d : Nat) {b : Nat → Int32} {n : Nat} (bb : ∀ k, k < n → ¬ b k = -1) {h : Hp_} (I : Iv h) (J : J2 h) (t : Tp b n h) : Ci (m_X12_beat (d + 80 + 60) 0 0) [.ref 1] h (fun r h' => (Iv h' ∧ J2 h') ∧ Btm b n h r h') := by
  have t12 : (12 : Int32).toInt = 12 := rfl
  have t1 : (1 : Int32).toInt = 1 := rfl
  refine t_X12_beat (d + 80) h I.1 _ ⟨fun e => ⟨⟨I, J⟩, Fr.rf _ _, fun _ _ => ⟨rfl, rfl, rfl⟩, fun _ => ⟨rfl, rfl, rfl, fun _ => rfl⟩, fun o => absurd e o.1⟩, fun ne => ?_⟩
  refine Ci.mono (c_faultf0 d bb I t) (fun r h2 k => ?_)
  obtain ⟨I2, F2, ev, g⟩ := k
  have J2' : J2 h2 := J2_s (Js.fr F2 (by decide +kernel)) J
  have e42 : h_i h2 1 42 = h_i h 1 42 := (F2.2 1 42 (by decide +kernel)).1
  have e32 : h_i h2 1 32 = h_i h 1 32 := (F2.2 1 32 (by decide +kernel)).1
  have e27 : ∀ k, h_i h2 227 k = h_i h 227 k := fun k => fr_i F2 (by decide +kernel) k
  refine ⟨I2.1, fun er => ?_, fun nr => ⟨⟨I2, J2'⟩, F2.more (by decide +kernel), fun k _ => ⟨fr_i F2 (by decide +kernel) k, fr_i F2 (by decide +kernel) k, fr_i F2 (by decide +kernel) k⟩, fun _ => ⟨rfl, e42, e32, e27⟩, fun o => absurd (ev.trans o.2.1) nr⟩⟩
  obtain ⟨f, q⟩ := g er
  have ee : enq b n (beq b n) = -1 := ev.symm.trans er
  have r42 := I2.2.1 1 42
  rw [show tf 1 42 = (0, 12) by decide +kernel] at r42
  have b0 : 0 ≤ (h_i h2 1 42).toInt := r42.1
  have b1' : (h_i h2 1 42).toInt ≤ 12 := r42.2
  have b1 : (h_i h2 1 42).toInt ≤ 11 := by
    rcases Int.lt_or_le (h_i h2 1 42).toInt 12 with u | u
    · omega
    · exact absurd (Int32.toInt_inj.mp (by rw [← e42, t12]; omega)) ne
  have n2 := sN_i I2
  have p2 : ps h2 ≤ 559 := (ps_in I2).2
  have hN : h_i h2 1 36 = Int32.ofNat (sN h2) := Int32.toInt_inj.mp (by rw [on_j (by omega)]; exact n2.symm)
  have I3 : Iv (h_im h2 1 43 0) := I2.im (by rw [show tf 1 43 = (0, 150) by decide +kernel]; exact ⟨by decide, by decide⟩) (by decide)
  have J3 : J2 (h_im h2 1 43 0) := J2_s (Js.im (by decide) (fun y => absurd y.2 (by decide))) J2'
  have t := c_unfoldf (h_im h2 1 43 0) (sN h2) (by rw [f_ne (by decide)]; exact hN) (by omega) (by rw [f_ne (by decide)]; exact b1) 4 (d + 75) f 0 (sN h2) (beo b n) (h_im h2 1 43 0) (by rw [show h_i (h_im h2 1 43 0) 226 = h_i h2 226 from funext (fun k => im_ne (by decide))]; exact q) (Nat.le_refl _) (Or.inl rfl) ⟨⟨I3, Fr.rf _ _, fun _ _ => rfl⟩, fun _ _ => ⟨rfl, rfl⟩⟩
  rw [show d + 75 + 4 + 1 = d + 80 + 0 by omega] at t
  have O3 : Uo (bB (h_im h2 1 43 0)) [] (h_im h2 1 43 0) := ⟨by decide, im_at, fun k x e => by simp at e⟩
  have eB : bB (h_im h2 1 43 0) = bB h := by
    show 150 * (h_i (h_im h2 1 43 0) 1 42).toNatClampNeg = 150 * (h_i h 1 42).toNatClampNeg
    rw [f_ne (by decide), e42]
  refine Ci.mono t (fun r6 h6 k => ?_)
  obtain ⟨⟨⟨I6, F6, C6⟩, C9⟩, K1, K0⟩ := k
  have e6 : h_i h6 1 42 = h_i h2 1 42 := by rw [(F6.2 1 42 (by decide +kernel)).1, f_ne (by decide)]
  have er6 : ∀ a, mrow a = true → ∀ k, h_i h6 a k = h_i (h_im h2 1 43 0) a k := by
    intro a ha k
    unfold mrow at ha
    simp only [Bool.or_eq_true] at ha
    rcases ha with (((z | z) | z) | z) | z <;> have z := Nat.eq_of_beq_eq_true z <;> subst z <;> exact fr_i F6 (by decide +kernel) k
  have e67 : ∀ k, h_i h6 227 k = h_i (h_im h2 1 43 0) 227 k := fun k => fr_i F6 (by decide +kernel) k
  have e67' : ∀ k, h_i h6 227 k = h_i h 227 k := fun k => by rw [e67, im_ne (by decide), e27]
  have e62 : h_i h6 1 32 = h_i h 1 32 := by rw [(F6.2 1 32 (by decide +kernel)).1, f_ne (by decide), e32]
  have J6 : J2 h6 := J2_beat I3 er6 (fun k _ => e67 k) C6 (by rw [(F6.2 1 42 (by decide +kernel)).1]; exact Int.le_refl _) (F6.2 1 7 (by decide +kernel)).1 J3
  have W6 : Fr wbt h h6 := (F2.more (by decide +kernel)).tr (((Fr.rf wbt h2).im (by decide +kernel)).tr (F6.more (by decide +kernel)))
  have c8 : ∀ k, k < bB h → h_i h6 228 k = h_i h 228 k ∧ h_i h6 229 k = h_i h 229 k ∧ h_i h6 230 k = h_i h 230 k := fun k hk => by
    have q := C6 k (by
      show k < 150 * (h_i (h_im h2 1 43 0) 1 42).toNatClampNeg
      rw [f_ne (by decide), e42]
      exact hk)
    have q9 := C9 k (by rw [eB]; exact hk)
    rw [q, q9.1, q9.2, im_ne (by decide), im_ne (by decide), im_ne (by decide)]
    exact ⟨fr_i F2 (by decide +kernel) k, fr_i F2 (by decide +kernel) k, fr_i F2 (by decide +kernel) k⟩
  refine ⟨I6.1, fun n6r => ?_, fun er6 => ⟨⟨I6, J6⟩, W6, c8, fun _ => ⟨rfl, e6.trans e42, e62, e67'⟩, fun o => ?_⟩⟩
  · have O6 := (K1 n6r).2 [] O3
    rw [List.nil_append, eB] at O6
    have n6 := n_nat (x := h_i h6 1 42) (by rw [e6]; exact b0)
    rw [e6] at n6
    have ex : (h_i h6 1 42 + 1).toInt = (h_i h2 1 42).toInt + 1 := by rw [e6, tx_add (by rw [t1]; omega) (by rw [t1]; omega), t1]
    have r43 := I6.2.1 1 43
    rw [show tf 1 43 = (0, 150) by decide +kernel] at r43
    refine ⟨dp_in (lo := 0) (hi := 11) (by rw [e6]; exact ⟨b0, b1⟩) (by decide) (by decide), ⟨?_, ?_⟩, ((W6.im (inw_row (by decide +kernel) _)).im (by decide +kernel)).im (by decide +kernel), fun k hk => by rw [im_ne (by decide), im_ne (by decide), im_ne (by decide), im_ne (by decide), im_ne (by decide), im_ne (by decide), im_ne (by decide), im_ne (by decide), im_ne (by decide)]; exact c8 k hk, fun no => absurd ⟨ne, ee, O6.1⟩ no, fun _ => ⟨?_, ?_, ?_, fun k => ?_, fun k x e => ?_, sqU_r (fun _ _ _ t => uD_r t) q⟩⟩
    · exact i32 ((I6.im (a := 227) (by rw [tfa_tf (show tfa 227 = some (0, 150) by decide +kernel)]; exact r43) (jw_jr (by decide) (by decide) _)).im (a := 1) (k := 42) (by rw [show tf 1 42 = (0, 12) by decide +kernel, ex]; exact ⟨by show (0 : Int) ≤ _; omega, by show _ ≤ (12 : Int); omega⟩) (by decide)) ⟨by decide, by decide⟩
    · refine J2_beat I6 (fun a ha k => ?_) (fun k hk => ?_) (fun k _ => ?_) ?_ (by rw [f_ne (by decide), f_ne (by decide), im_ne (by decide)]) J6
      · have n1 : a ≠ 1 := fun z => by rw [z] at ha; exact absurd ha (by decide)
        have n7 : a ≠ 227 := fun z => by rw [z] at ha; exact absurd ha (by decide)
        rw [im_ne n1, im_ne n1, im_ne n7]
      · rw [im_ne (by decide), im_ne (by decide), h_i_im, if_neg (fun u => by have := u.2; omega)]
      · rw [im_ne (by decide), im_ne (by decide), im_ne (by decide)]
      · rw [f_ne (by decide), im_at, ex, e6]; omega
    · rw [e6, e42]
      refine Int32.toInt_inj.mp ?_
      rw [← e42, tx_sub (by rw [t1, tx_add (by rw [t1]; omega) (by rw [t1]; omega), t1]; omega) (by rw [t1, tx_add (by rw [t1]; omega) (by rw [t1]; omega), t1]; omega), tx_add (by rw [t1]; omega) (by rw [t1]; omega), t1]
      omega
    · rw [f_ne (by decide), im_at, e6, e42]
    · rw [im_at]
    · rw [im_ne (by decide), im_ne (by decide), h_i_im, e6, e42]
      by_cases z : k = (h_i h 1 42).toNatClampNeg
      · rw [if_pos ⟨rfl, z⟩, if_pos z]
        exact O6.2.1
      · rw [if_neg (fun u => z u.2), if_neg z]
        exact e67' k
    · rw [im_ne (by decide), im_ne (by decide), im_ne (by decide), im_ne (by decide), im_ne (by decide), im_ne (by decide), im_ne (by decide), im_ne (by decide), im_ne (by decide)]
      exact O6.2.2 k x e
  · have l := K0 er6 [] O3
    rw [List.nil_append] at l
    have := o.2.2
    omega
/-! beat, act and pay of the class -/
noncomputable def wkp : List Nat := [12003, 34999, 35999, 36999]
theorem x12_in {h : Hp_} (I : Iv h) : 0 ≤ (h_i h 12 3).toInt ∧ (h_i h 12 3).toInt ≤ 12 := by
  have rg := I.2.1 12 3
  rw [show tf 12 3 = (0, 12) by decide +kernel] at rg
  exact ⟨rg.1, rg.2⟩
noncomputable def wbx : List Nat := [11001, 11002, 11003, 11004, 11006, 11007, 11009, 12003, 32999, 33999, 34999, 35999, 36999]
theorem y1 {h : Hp_} (I : Iv h) : Iv (h_im h 11 1 0) := I.im (by rw [show tf 11 1 = (0, 160) by decide +kernel]; exact ⟨by decide, by decide⟩) (by decide)
theorem c_cut0 (d : Nat) {h : Hp_} (I : Iv h) : Ci (m_X8_cut (d + 1) 0 0) [.ref 11, .int 0] h (fun _ h' => h' = h_im h 11 1 0) := by
  refine t_X8_cut d h I.1 0 _ ⟨fun _ => rfl, fun n => absurd ⟨by decide, q_le.mpr ?_⟩ n⟩
  have t0 : (0 : Int32).toInt = 0 := rfl
  have := (x1_in I).1
  omega
/-! act and pay of the reference, by what stands on the tape -/
noncomputable def okR (b : Nat → Int32) (n s : Nat) (x2 z : Int32) : Prop := (0 ≤ x2 ∧ x2 ≤ 30) ∧ ¬ z = 20 ∧ enq b n (ruq b n (clq b n (s + 1))) = -1
noncomputable def Rlm (b : Nat → Int32) (n s : Nat) (x2 : Int32) (h : Hp_) (r : Int32) (h' : Hp_) : Prop := (¬ okR b n s x2 (h_i h 235 s) → r = -1 ∧ h_i h' 1 32 = h_i h 1 32 ∧ (∀ k, h_i h' 235 k = h_i h 235 k) ∧ (∀ k, h_i h' 233 k = h_i h 233 k) ∧ (∀ k, h_i h' 234 k = h_i h 234 k)) ∧ (okR b n s x2 (h_i h 235 s) → r = h_i h 235 s ∧ h_i h' 1 32 = 0 ∧ (∀ k, h_i h' 235 k = if k = s then h_i h 235 s + 1 else h_i h 235 k) ∧ (∀ k, h_i h' 233 k = if k = 20 * s + (h_i h 235 s).toNatClampNeg then x2 else h_i h 233 k) ∧ (∀ k, h_i h' 234 k = if k = 20 * s + (h_i h 235 s).toNatClampNeg then h_i h 1 0 else h_i h 234 k))
/-! act of the class -/
noncomputable def wkr_13 : List Nat := [13005, 37999, 38999, 39999, 40999]
noncomputable def wrx_13 : List Nat := [11001, 11002, 11003, 11004, 11006, 11007, 11009, 13005, 33999, 37999, 38999, 39999, 40999]
noncomputable def Rlx_13 (x1 : Int32) (h : Hp_) (r : Int32) (h' : Hp_) : Prop := (¬ okR (h_i h 31) (xn h) 0 x1 (h_i h 13 5) → r = -1 ∧ h_i h' 11 1 = h_i h 11 1 ∧ h_i h' 13 5 = h_i h 13 5 ∧ (∀ k, h_i h' 37 k = h_i h 37 k) ∧ (∀ k, h_i h' 38 k = h_i h 38 k)) ∧ (okR (h_i h 31) (xn h) 0 x1 (h_i h 13 5) → r = h_i h 13 5 ∧ h_i h' 11 1 = 0 ∧ h_i h' 13 5 = h_i h 13 5 + 1 ∧ (∀ k, h_i h' 37 k = if k = (h_i h 13 5).toNatClampNeg then x1 else h_i h 37 k) ∧ (∀ k, h_i h' 38 k = if k = (h_i h 13 5).toNatClampNeg then h_i h 0 0 else h_i h 38 k))
/-! pay of the class -/
noncomputable def wkr_14 : List Nat := [14005, 42999, 43999, 44999, 45999]
theorem c_kpr_14 (d : Nat) {h : Hp_} (I : Iv h) (x1 x2 : Int32) : Ci (m_X10_keep (d + 1) 0 0) [.ref 14, .int x1, .int x2, .ref 11] h (fun r h' => Iv h' ∧ Fr wkr_14 h h' ∧ (h_i h 14 5 = 20 → r = -1 ∧ h' = h) ∧ (¬ h_i h 14 5 = 20 → ¬ r = -1 ∧ r = h_i h 14 5 ∧ h_i h' 14 5 = h_i h 14 5 + 1 ∧ (∀ k, h_i h' 42 k = if k = (h_i h 14 5).toNatClampNeg then x1 else h_i h 42 k) ∧ (∀ k, h_i h' 43 k = if k = (h_i h 14 5).toNatClampNeg then x2 else h_i h 43 k))) := by
  have t20 : (20 : Int32).toInt = 20 := rfl
  have t1 : (1 : Int32).toInt = 1 := rfl
  have t0 : (0 : Int32).toInt = 0 := rfl
  have t164 : (164 : Int32).toInt = 164 := rfl
  have rg := I.2.1 14 5
  rw [show tf 14 5 = (0, 20) by decide +kernel] at rg
  have b0 : 0 ≤ (h_i h 14 5).toInt := rg.1
  have b1 : (h_i h 14 5).toInt ≤ 20 := rg.2
  have r9 := I.2.1 11 9
  rw [show tf 11 9 = (0, 164) by decide +kernel] at r9
  have c0 : 0 ≤ (h_i h 11 9).toInt := r9.1
  have c1 : (h_i h 11 9).toInt ≤ 164 := r9.2
  refine t_X10_keep_14 d h I.1 x1 x2 _ ⟨fun z => ?_, fun z => ⟨I, Fr.rf _ _, fun _ => ⟨rfl, rfl⟩, fun n => ?_⟩⟩
  · have z := q_lt.mp z
    have n20 : ¬ h_i h 14 5 = 20 := fun e => by rw [e] at z; exact absurd z (by decide)
    have v : vp_in (h_i h 14 5) 20 := dp_in (lo := 0) (hi := 19) ⟨b0, by show _ ≤ (19 : Int); omega⟩ (by decide) (by decide)
    have m1 : (h_i h 14 5 * 164).toInt = (h_i h 14 5).toInt * 164 := by rw [tx_mul (by rw [t164]; omega) (by rw [t164]; omega), t164]
    have nn : ∀ x : Int32, 0 ≤ x.toInt → ¬ x < 0 := fun x hx y => by
      have y := q_lt.mp y
      omega
    have n5 := n_nat (x := h_i h 14 5 * 164) (by omega)
    have n9 := n_nat (x := h_i h 11 9) c0
    refine ⟨v, v, v, ⟨by decide, nn _ (by omega), nn _ c0, ?_, by omega⟩, ?_⟩
    · show 0 + (h_i h 11 9).toNatClampNeg ≤ 164
      omega
    · have I3 : Iv (h_im (h_im (h_im h 42 ((h_i h 14 5) : Int32).toNatClampNeg x1) 43 ((h_i h 14 5) : Int32).toNatClampNeg x2) 44 ((h_i h 14 5) : Int32).toNatClampNeg (h_i h 11 9)) := (i2xx 43 (by decide +kernel) (by decide) (by decide) (i2xx 42 (by decide +kernel) (by decide) (by decide) I _ _) _ _).im (a := 44) (by rw [tfa_tf (show tfa 44 = some (0, 164) by decide +kernel)]; exact ⟨c0, c1⟩) (jw_jr (by decide) (by decide) _)
      have F3 : Fr wkr_14 h (h_im (h_im (h_im h 42 ((h_i h 14 5) : Int32).toNatClampNeg x1) 43 ((h_i h 14 5) : Int32).toNatClampNeg x2) 44 ((h_i h 14 5) : Int32).toNatClampNeg (h_i h 11 9)) := (((Fr.rf _ _).im (inw_row (by decide +kernel) _)).im (inw_row (by decide +kernel) _)).im (inw_row (by decide +kernel) _)
      have w37 : ∀ k, h_i (h_im (h_im (h_im h 42 ((h_i h 14 5) : Int32).toNatClampNeg x1) 43 ((h_i h 14 5) : Int32).toNatClampNeg x2) 44 ((h_i h 14 5) : Int32).toNatClampNeg (h_i h 11 9)) 42 k = if k = (h_i h 14 5).toNatClampNeg then x1 else h_i h 42 k := fun k => by
        rw [im_ne (by decide), im_ne (by decide), h_i_im]
        by_cases y : k = (h_i h 14 5).toNatClampNeg
        · rw [if_pos ⟨rfl, y⟩, if_pos y]
        · rw [if_neg (fun u => y u.2), if_neg y]
      have w38 : ∀ k, h_i (h_im (h_im (h_im h 42 ((h_i h 14 5) : Int32).toNatClampNeg x1) 43 ((h_i h 14 5) : Int32).toNatClampNeg x2) 44 ((h_i h 14 5) : Int32).toNatClampNeg (h_i h 11 9)) 43 k = if k = (h_i h 14 5).toNatClampNeg then x2 else h_i h 43 k := fun k => by
        rw [im_ne (by decide), h_i_im]
        by_cases y : k = (h_i h 14 5).toNatClampNeg
        · rw [if_pos ⟨rfl, y⟩, if_pos y]
        · rw [if_neg (fun u => y u.2), if_neg y, im_ne (by decide)]
      have w5 : h_i (h_im (h_im (h_im h 42 ((h_i h 14 5) : Int32).toNatClampNeg x1) 43 ((h_i h 14 5) : Int32).toNatClampNeg x2) 44 ((h_i h 14 5) : Int32).toNatClampNeg (h_i h 11 9)) 14 5 = h_i h 14 5 := by rw [im_ne (by decide), im_ne (by decide), im_ne (by decide)]
      generalize h_im (h_im (h_im h 42 ((h_i h 14 5) : Int32).toNatClampNeg x1) 43 ((h_i h 14 5) : Int32).toNatClampNeg x2) 44 ((h_i h 14 5) : Int32).toNatClampNeg (h_i h 11 9) = h3 at I3 F3 w37 w38 w5 ⊢
      generalize va_cpy (h_i h3 33) (h_i h3 45) (0 : Int32).toNatClampNeg ((h_i h 14 5) * 164).toNatClampNeg (h_i h 11 9).toNatClampNeg = fc
      have I4 : Iv (h_iw h3 45 fc) := I3.iw (fun k => by rw [tfa_tf (show tfa 45 = some rtop by decide +kernel)]; exact rtop_in _) (by decide) (by decide)
      have F4 : Fr wkr_14 h (h_iw h3 45 fc) := F3.iw (by decide +kernel)
      have ne : ∀ a, a ≠ 45 → ∀ k, h_i (h_iw h3 45 fc) a k = h_i h3 a k := fun a na k => by rw [h_i_iw, if_neg na]
      have ex : (h_i h 14 5 + 1).toInt = (h_i h 14 5).toInt + 1 := tx_add (by rw [t1]; omega) (by rw [t1]; omega)
      refine t_X10_keep_14_68 d _ I4.1 _ ⟨?_, F4.im (by decide +kernel), fun y => absurd y n20, fun _ => ⟨?_, ?_, ?_, fun k => ?_, fun k => ?_⟩⟩
      · exact I4.im (a := 14) (k := 5) (by rw [show tf 14 5 = (0, 20) by decide +kernel, ne 14 (by decide), w5, ex]; exact ⟨by show (0 : Int) ≤ _; omega, by show _ ≤ (20 : Int); omega⟩) (by decide)
      · rw [ne 14 (by decide), w5]
        intro y
        have y := congrArg Int32.toInt y
        rw [tx_sub (by rw [t1]; omega) (by rw [t1]; omega), ex, t1, show (-1 : Int32).toInt = -1 from rfl] at y
        omega
      · rw [ne 14 (by decide), w5]
        refine Int32.toInt_inj.mp ?_
        rw [tx_sub (by rw [t1]; omega) (by rw [t1]; omega), ex, t1]
        omega
      · rw [im_at, ne 14 (by decide), w5]
      · rw [im_ne (by decide), ne 42 (by decide)]
        exact w37 k
      · rw [im_ne (by decide), ne 43 (by decide)]
        exact w38 k
  · have n20 : ¬ (h_i h 14 5).toInt < 20 := fun y => z (q_lt.mpr (by rw [t20]; exact y))
    exact absurd (Int32.toInt_inj.mp (by rw [t20]; omega)) n
noncomputable def wrx_14 : List Nat := [11001, 11002, 11003, 11004, 11006, 11007, 11009, 14005, 33999, 42999, 43999, 44999, 45999]
noncomputable def Rlx_14 (x1 : Int32) (h : Hp_) (r : Int32) (h' : Hp_) : Prop := (¬ okR (h_i h 31) (xn h) 1 x1 (h_i h 14 5) → r = -1 ∧ h_i h' 11 1 = h_i h 11 1 ∧ h_i h' 14 5 = h_i h 14 5 ∧ (∀ k, h_i h' 42 k = h_i h 42 k) ∧ (∀ k, h_i h' 43 k = h_i h 43 k)) ∧ (okR (h_i h 31) (xn h) 1 x1 (h_i h 14 5) → r = h_i h 14 5 ∧ h_i h' 11 1 = 0 ∧ h_i h' 14 5 = h_i h 14 5 + 1 ∧ (∀ k, h_i h' 42 k = if k = (h_i h 14 5).toNatClampNeg then x1 else h_i h 42 k) ∧ (∀ k, h_i h' 43 k = if k = (h_i h 14 5).toNatClampNeg then h_i h 0 0 else h_i h 43 k))
theorem c_payx (d : Nat) {h : Hp_} (I : Iv h) (x1 : Int32) : Ci (m_X11_pay (d + 141) 0 0) [.ref 0, .int x1] h (fun r h' => Iv h' ∧ Fr wrx_14 h h' ∧ Rlx_14 x1 h r h') := by
  have k := c_rr (b := h_i h 31) (n := xn h) (1 + 1) (by decide) d I rfl rfl 0 (by decide)
  rw [show d + 80 + 60 = d + 140 by omega] at k
  refine t_X11_pay d h I.1 x1 _ ⟨fun nb => ⟨I, Fr.rf _ _, fun _ => ⟨rfl, rfl, rfl, fun _ => rfl, fun _ => rfl⟩, fun o => absurd o.1 nb⟩, fun bd => Ci.mono k (fun r6 h4 X => ?_)⟩
  obtain ⟨e3, I4, F4, ee⟩ := X
  have W4 : Fr wrx_14 h h4 := F4.more (by decide +kernel)
  have e11 : h_i h4 11 1 = h_i h 11 1 := (F4.2 11 1 (by decide +kernel)).1
  have e5 : h_i h4 14 5 = h_i h 14 5 := (F4.2 14 5 (by decide +kernel)).1
  have e00 : h_i h4 0 0 = h_i h 0 0 := (F4.2 0 0 (by decide +kernel)).1
  have rd : ∀ k, h_i h4 42 k = h_i h 42 k := fun k => fr_i F4 (by decide +kernel) k
  have rt : ∀ k, h_i h4 43 k = h_i h 43 k := fun k => fr_i F4 (by decide +kernel) k
  refine ⟨I4.1, fun er => t_X11_keepRule_14 d h4 I4.1 x1 _ (Ci.mono (c_kpr_14 d I4 x1 (h_i h4 0 0)) (fun r3 h5 Y => ?_)), fun nr => ⟨I4, W4, fun _ => ⟨rfl, e11, e5, rd, rt⟩, fun o => absurd (e3.trans (ee.trans o.2.2)) nr⟩⟩
  have ev : enq (h_i h 31) (xn h) (ruq (h_i h 31) (xn h) (clq (h_i h 31) (xn h) (1 + 1))) = -1 := ee.symm.trans (e3.symm.trans er)
  obtain ⟨I5, F5, Yn, Yy⟩ := Y
  rw [e5] at Yn Yy
  rw [e00] at Yy
  have W5 : Fr wrx_14 h h5 := W4.tr (F5.more (by decide +kernel))
  refine ⟨I5.1, fun e7 => ⟨I5.1, I5, W5, fun _ => ?_, fun o => absurd e7 (Yy o.2.1).1⟩, fun n7 => Ci.mono (c_cut0 d I5) (fun _ h9 e9 => ?_)⟩
  · by_cases z : h_i h 14 5 = 20
    · have q := (Yn z).2
      subst q
      exact ⟨e7, e11, e5, rd, rt⟩
    · exact absurd e7 (Yy z).1
  · have z : ¬ h_i h 14 5 = 20 := fun z => n7 (Yn z).1
    obtain ⟨q0, q1, q2, q3, q4⟩ := Yy z
    subst e9
    refine ⟨(y1 I5).1, (y1 I5).1, y1 I5, W5.im (by decide +kernel), fun no => absurd ⟨bd, z, ev⟩ no, fun _ => ⟨q1, im_at, by rw [im_ne (by decide)]; exact q2, fun k => ?_, fun k => ?_⟩⟩
    · rw [im_ne (by decide), q3 k, rd]
    · rw [im_ne (by decide), q4 k, rt]
/-! bytes that come to the tape -/
noncomputable def shj : Nat → Int32
  | 0 => -8
  | 1 => 0
  | 2 => 8
  | 3 => 16
  | _ => 24
noncomputable abbrev byt (x : Int32) (j : Nat) : Int32 := (x >>> (shj j &&& 31)) &&& 255
noncomputable def byq (x : Int32) : Nat → List Int32
  | 0 => []
  | j + 1 => (if byt x (j + 1) = 0 then [] else [byt x (j + 1)]) ++ byq x j
noncomputable def rbq (f : Nat → Int32) : Nat → Nat → List Int32
  | 0, _ => []
  | k + 1, i => (if f i = 0 then [] else [f i]) ++ rbq f k (i + 1)
theorem byt_in (x : Int32) (j : Nat) : 0 ≤ (byt x j).toInt ∧ (byt x j).toInt ≤ 255 := by
  have t : (255 : Int32).toInt = 255 := rfl
  have k := and_r (x := x >>> (shj j &&& 31)) (y := 255) (by rw [t]; decide)
  rw [t] at k
  exact k
theorem byq_l (x : Int32) : ∀ j, (byq x j).length ≤ j
  | 0 => Nat.le_refl _
  | j + 1 => by
    have k := byq_l x j
    show ((if byt x (j + 1) = 0 then [] else [byt x (j + 1)]) ++ byq x j).length ≤ j + 1
    rw [List.length_append]
    split
    · show 0 + _ ≤ _
      omega
    · show 1 + _ ≤ _
      omega
theorem shj_n {j : Nat} (h : j ≤ 3) : ¬ shj (j + 1) < 0 ∧ shj (j + 1) + (-8) = shj j := by
  match j, h with
  | 0, _ => decide
  | 1, _ => decide
  | 2, _ => decide
  | 3, _ => decide
  | j + 4, h => exact absurd h (by omega)
theorem rb_4 (f : Nat → Int32) (x : Int32) (k i : Nat) (h4 : f i = byt x 4) (h3 : f (i + 1) = byt x 3) (h2 : f (i + 2) = byt x 2) (h1 : f (i + 3) = byt x 1) : rbq f (k + 4) i = byq x 4 ++ rbq f k (i + 4) := by
  show (if f i = 0 then [] else [f i]) ++ ((if f (i + 1) = 0 then [] else [f (i + 1)]) ++ ((if f (i + 2) = 0 then [] else [f (i + 2)]) ++ ((if f (i + 3) = 0 then [] else [f (i + 3)]) ++ rbq f k (i + 4)))) = ((if byt x 4 = 0 then [] else [byt x 4]) ++ ((if byt x 3 = 0 then [] else [byt x 3]) ++ ((if byt x 2 = 0 then [] else [byt x 2]) ++ ((if byt x 1 = 0 then [] else [byt x 1]) ++ [])))) ++ rbq f k (i + 4)
  rw [h4, h3, h2, h1]
  simp only [List.append_assoc, List.nil_append]
theorem by_0 (x1 x2 x3 x4 x5 : Int32) : by_ x1 x2 x3 x4 x5 (Int32.ofNat 0) = byt x1 4 := by
  unfold by_ byt
  rw [if_neg (by decide), show ((24 : Int32) - (8 * (Int32.ofNat 0 - Int32.ofNat 0 / 4 * 4))) = shj 4 by decide]
theorem by_1 (x1 x2 x3 x4 x5 : Int32) : by_ x1 x2 x3 x4 x5 (Int32.ofNat 1) = byt x1 3 := by
  unfold by_ byt
  rw [if_neg (by decide), show ((24 : Int32) - (8 * (Int32.ofNat 1 - Int32.ofNat 1 / 4 * 4))) = shj 3 by decide]
theorem by_2 (x1 x2 x3 x4 x5 : Int32) : by_ x1 x2 x3 x4 x5 (Int32.ofNat 2) = byt x1 2 := by
  unfold by_ byt
  rw [if_neg (by decide), show ((24 : Int32) - (8 * (Int32.ofNat 2 - Int32.ofNat 2 / 4 * 4))) = shj 2 by decide]
theorem by_3 (x1 x2 x3 x4 x5 : Int32) : by_ x1 x2 x3 x4 x5 (Int32.ofNat 3) = byt x1 1 := by
  unfold by_ byt
  rw [if_neg (by decide), show ((24 : Int32) - (8 * (Int32.ofNat 3 - Int32.ofNat 3 / 4 * 4))) = shj 1 by decide]
theorem by_4 (x1 x2 x3 x4 x5 : Int32) : by_ x1 x2 x3 x4 x5 (Int32.ofNat 4) = byt x2 4 := by
  unfold by_ byt
  rw [if_pos (by decide), if_neg (by decide), show ((24 : Int32) - (8 * (Int32.ofNat 4 - Int32.ofNat 4 / 4 * 4))) = shj 4 by decide]
theorem by_5 (x1 x2 x3 x4 x5 : Int32) : by_ x1 x2 x3 x4 x5 (Int32.ofNat 5) = byt x2 3 := by
  unfold by_ byt
  rw [if_pos (by decide), if_neg (by decide), show ((24 : Int32) - (8 * (Int32.ofNat 5 - Int32.ofNat 5 / 4 * 4))) = shj 3 by decide]
theorem by_6 (x1 x2 x3 x4 x5 : Int32) : by_ x1 x2 x3 x4 x5 (Int32.ofNat 6) = byt x2 2 := by
  unfold by_ byt
  rw [if_pos (by decide), if_neg (by decide), show ((24 : Int32) - (8 * (Int32.ofNat 6 - Int32.ofNat 6 / 4 * 4))) = shj 2 by decide]
theorem by_7 (x1 x2 x3 x4 x5 : Int32) : by_ x1 x2 x3 x4 x5 (Int32.ofNat 7) = byt x2 1 := by
  unfold by_ byt
  rw [if_pos (by decide), if_neg (by decide), show ((24 : Int32) - (8 * (Int32.ofNat 7 - Int32.ofNat 7 / 4 * 4))) = shj 1 by decide]
theorem by_8 (x1 x2 x3 x4 x5 : Int32) : by_ x1 x2 x3 x4 x5 (Int32.ofNat 8) = byt x3 4 := by
  unfold by_ byt
  rw [if_pos (by decide), if_pos (by decide), if_neg (by decide), show ((24 : Int32) - (8 * (Int32.ofNat 8 - Int32.ofNat 8 / 4 * 4))) = shj 4 by decide]
theorem by_9 (x1 x2 x3 x4 x5 : Int32) : by_ x1 x2 x3 x4 x5 (Int32.ofNat 9) = byt x3 3 := by
  unfold by_ byt
  rw [if_pos (by decide), if_pos (by decide), if_neg (by decide), show ((24 : Int32) - (8 * (Int32.ofNat 9 - Int32.ofNat 9 / 4 * 4))) = shj 3 by decide]
theorem by_10 (x1 x2 x3 x4 x5 : Int32) : by_ x1 x2 x3 x4 x5 (Int32.ofNat 10) = byt x3 2 := by
  unfold by_ byt
  rw [if_pos (by decide), if_pos (by decide), if_neg (by decide), show ((24 : Int32) - (8 * (Int32.ofNat 10 - Int32.ofNat 10 / 4 * 4))) = shj 2 by decide]
theorem by_11 (x1 x2 x3 x4 x5 : Int32) : by_ x1 x2 x3 x4 x5 (Int32.ofNat 11) = byt x3 1 := by
  unfold by_ byt
  rw [if_pos (by decide), if_pos (by decide), if_neg (by decide), show ((24 : Int32) - (8 * (Int32.ofNat 11 - Int32.ofNat 11 / 4 * 4))) = shj 1 by decide]
theorem by_12 (x1 x2 x3 x4 x5 : Int32) : by_ x1 x2 x3 x4 x5 (Int32.ofNat 12) = byt x4 4 := by
  unfold by_ byt
  rw [if_pos (by decide), if_pos (by decide), if_pos (by decide), if_neg (by decide), show ((24 : Int32) - (8 * (Int32.ofNat 12 - Int32.ofNat 12 / 4 * 4))) = shj 4 by decide]
theorem by_13 (x1 x2 x3 x4 x5 : Int32) : by_ x1 x2 x3 x4 x5 (Int32.ofNat 13) = byt x4 3 := by
  unfold by_ byt
  rw [if_pos (by decide), if_pos (by decide), if_pos (by decide), if_neg (by decide), show ((24 : Int32) - (8 * (Int32.ofNat 13 - Int32.ofNat 13 / 4 * 4))) = shj 3 by decide]
theorem by_14 (x1 x2 x3 x4 x5 : Int32) : by_ x1 x2 x3 x4 x5 (Int32.ofNat 14) = byt x4 2 := by
  unfold by_ byt
  rw [if_pos (by decide), if_pos (by decide), if_pos (by decide), if_neg (by decide), show ((24 : Int32) - (8 * (Int32.ofNat 14 - Int32.ofNat 14 / 4 * 4))) = shj 2 by decide]
theorem by_15 (x1 x2 x3 x4 x5 : Int32) : by_ x1 x2 x3 x4 x5 (Int32.ofNat 15) = byt x4 1 := by
  unfold by_ byt
  rw [if_pos (by decide), if_pos (by decide), if_pos (by decide), if_neg (by decide), show ((24 : Int32) - (8 * (Int32.ofNat 15 - Int32.ofNat 15 / 4 * 4))) = shj 1 by decide]
theorem by_16 (x1 x2 x3 x4 x5 : Int32) : by_ x1 x2 x3 x4 x5 (Int32.ofNat 16) = byt x5 4 := by
  unfold by_ byt
  rw [if_pos (by decide), if_pos (by decide), if_pos (by decide), if_pos (by decide), show ((24 : Int32) - (8 * (Int32.ofNat 16 - Int32.ofNat 16 / 4 * 4))) = shj 4 by decide]
theorem by_17 (x1 x2 x3 x4 x5 : Int32) : by_ x1 x2 x3 x4 x5 (Int32.ofNat 17) = byt x5 3 := by
  unfold by_ byt
  rw [if_pos (by decide), if_pos (by decide), if_pos (by decide), if_pos (by decide), show ((24 : Int32) - (8 * (Int32.ofNat 17 - Int32.ofNat 17 / 4 * 4))) = shj 3 by decide]
theorem by_18 (x1 x2 x3 x4 x5 : Int32) : by_ x1 x2 x3 x4 x5 (Int32.ofNat 18) = byt x5 2 := by
  unfold by_ byt
  rw [if_pos (by decide), if_pos (by decide), if_pos (by decide), if_pos (by decide), show ((24 : Int32) - (8 * (Int32.ofNat 18 - Int32.ofNat 18 / 4 * 4))) = shj 2 by decide]
theorem by_19 (x1 x2 x3 x4 x5 : Int32) : by_ x1 x2 x3 x4 x5 (Int32.ofNat 19) = byt x5 1 := by
  unfold by_ byt
  rw [if_pos (by decide), if_pos (by decide), if_pos (by decide), if_pos (by decide), show ((24 : Int32) - (8 * (Int32.ofNat 19 - Int32.ofNat 19 / 4 * 4))) = shj 1 by decide]
noncomputable def fdq (x1 x2 x3 x4 x5 : Int32) : List Int32 := byq x1 4 ++ (byq x2 4 ++ (byq x3 4 ++ (byq x4 4 ++ (byq x5 4 ++ []))))
theorem rb_fd (x1 x2 x3 x4 x5 : Int32) : rbq (fun i => by_ x1 x2 x3 x4 x5 (Int32.ofNat i)) 20 0 = fdq x1 x2 x3 x4 x5 := by
  unfold fdq
  generalize hf : (fun i => by_ x1 x2 x3 x4 x5 (Int32.ofNat i)) = f
  have bf : ∀ i, f i = by_ x1 x2 x3 x4 x5 (Int32.ofNat i) := fun i => by rw [← hf]
  have e1 : rbq f 20 0 = byq x1 4 ++ rbq f 16 4 := rb_4 f x1 16 0 ((bf 0).trans (by_0 x1 x2 x3 x4 x5)) ((bf 1).trans (by_1 x1 x2 x3 x4 x5)) ((bf 2).trans (by_2 x1 x2 x3 x4 x5)) ((bf 3).trans (by_3 x1 x2 x3 x4 x5))
  have e2 : rbq f 16 4 = byq x2 4 ++ rbq f 12 8 := rb_4 f x2 12 4 ((bf 4).trans (by_4 x1 x2 x3 x4 x5)) ((bf 5).trans (by_5 x1 x2 x3 x4 x5)) ((bf 6).trans (by_6 x1 x2 x3 x4 x5)) ((bf 7).trans (by_7 x1 x2 x3 x4 x5))
  have e3 : rbq f 12 8 = byq x3 4 ++ rbq f 8 12 := rb_4 f x3 8 8 ((bf 8).trans (by_8 x1 x2 x3 x4 x5)) ((bf 9).trans (by_9 x1 x2 x3 x4 x5)) ((bf 10).trans (by_10 x1 x2 x3 x4 x5)) ((bf 11).trans (by_11 x1 x2 x3 x4 x5))
  have e4 : rbq f 8 12 = byq x4 4 ++ rbq f 4 16 := rb_4 f x4 4 12 ((bf 12).trans (by_12 x1 x2 x3 x4 x5)) ((bf 13).trans (by_13 x1 x2 x3 x4 x5)) ((bf 14).trans (by_14 x1 x2 x3 x4 x5)) ((bf 15).trans (by_15 x1 x2 x3 x4 x5))
  have e5 : rbq f 4 16 = byq x5 4 ++ rbq f 0 20 := rb_4 f x5 0 16 ((bf 16).trans (by_16 x1 x2 x3 x4 x5)) ((bf 17).trans (by_17 x1 x2 x3 x4 x5)) ((bf 18).trans (by_18 x1 x2 x3 x4 x5)) ((bf 19).trans (by_19 x1 x2 x3 x4 x5))
  rw [e1, e2, e3, e4, e5]
  rfl
theorem rbq_l (f : Nat → Int32) : ∀ k i, (rbq f k i).length ≤ k
  | 0, _ => Nat.le_refl _
  | k + 1, i => by
    have q := rbq_l f k (i + 1)
    show ((if f i = 0 then [] else [f i]) ++ rbq f k (i + 1)).length ≤ k + 1
    rw [List.length_append]
    split
    · show 0 + _ ≤ _
      omega
    · show 1 + _ ≤ _
      omega
/-! the class -/
theorem c_sgn (d : Nat) (h : Hp_) (x : Int32) : Ci (m_X8_signs (d + 0) 0 0) [.int x] h (fun r h' => h' = h ∧ r = Int32.ofNat (byq x 4).length) := by
  have lp : ∀ (j m : Nat), j ≤ 4 → m + j ≤ 4 → AW (m_X8_signs (d + 0) 0 0) 0 0 5 [(0, .int x), (1, .int (Int32.ofNat m)), (2, .int (shj j))] [] h (kI (fun r h' => h' = h ∧ r = Int32.ofNat (m + (byq x j).length))) := by
    intro j
    induction j with
    | zero =>
      intro m _ _
      exact t_X8_signs_5 d h x (Int32.ofNat m) (shj 0) _ ⟨fun _ => ⟨rfl, rfl⟩, fun z => absurd (by decide) z⟩
    | succ j ih =>
      intro m hj hm
      have s := shj_n (j := j) (by omega)
      refine t_X8_signs_5 d h x (Int32.ofNat m) (shj (j + 1)) _ ⟨fun z => absurd z s.1, fun _ => ⟨fun e => ?_, fun ne => ?_⟩⟩
      · rw [s.2]
        have k := ih m (by omega) (by omega)
        have e' : byq x (j + 1) = byq x j := by
          show (if byt x (j + 1) = 0 then [] else [byt x (j + 1)]) ++ byq x j = _
          rw [if_pos e, List.nil_append]
        rw [e']
        exact k
      · rw [s.2, on_s (by omega)]
        have k := ih (m + 1) (by omega) (by omega)
        have e' : (byq x (j + 1)).length = 1 + (byq x j).length := by
          show ((if byt x (j + 1) = 0 then [] else [byt x (j + 1)]) ++ byq x j).length = _
          rw [if_neg ne, List.length_append]
          rfl
        rw [e', ← Nat.add_assoc]
        exact k
  refine t_X8_signs d h x _ ?_
  have k := lp 4 0 (by omega) (by omega)
  rw [Nat.zero_add] at k
  exact k
/-- a list laid behind what stands in a row -/
noncomputable def Apd (a : Nat) (n : Nat) (L : List Int32) (h h' : Hp_) : Prop := (∀ k, k < n → h_i h' a k = h_i h a k) ∧ ∀ k y, L[k]? = some y → h_i h' a (n + k) = y
theorem Apd.nil (a n : Nat) (h : Hp_) : Apd a n [] h h := ⟨fun _ _ => rfl, fun k y e => by simp at e⟩
theorem Apd.tr {a n : Nat} {L M : List Int32} {h h1 h2 : Hp_} (A : Apd a n L h h1) (B : Apd a (n + L.length) M h1 h2) : Apd a n (L ++ M) h h2 := by
  refine ⟨fun k hk => (B.1 k (by omega)).trans (A.1 k hk), fun k y e => ?_⟩
  rcases Nat.lt_or_ge k L.length with u | u
  · rw [List.getElem?_append_left u] at e
    rw [B.1 (n + k) (by omega)]
    exact A.2 k y e
  · rw [List.getElem?_append_right u] at e
    have q := B.2 _ y e
    rw [show n + L.length + (k - L.length) = n + k by omega] at q
    exact q
theorem c_apd (d : Nat) (x : Int32) : ∀ (h : Hp_), Iv h → xn h + (byq x 4).length ≤ 160 → Cv (m_X8_append (d + 0) 0 0) [.ref 11, .int x] h (fun h' => Iv h' ∧ Fr [11001, 31999] h h' ∧ xn h' = xn h + (byq x 4).length ∧ Apd 31 (xn h) (byq x 4) h h') := by
  have t1 : (1 : Int32).toInt = 1 := rfl
  have t160 : (160 : Int32).toInt = 160 := rfl
  have lp : ∀ (j : Nat) (h : Hp_), j ≤ 4 → Iv h → xn h + (byq x j).length ≤ 160 → AW (m_X8_append (d + 0) 0 0) 0 0 3 [(0, .ref 11), (1, .int x), (2, .int (shj j))] [] h (kV (fun h' => Iv h' ∧ Fr [11001, 31999] h h' ∧ xn h' = xn h + (byq x j).length ∧ Apd 31 (xn h) (byq x j) h h')) := by
    intro j
    induction j with
    | zero =>
      intro h _ I _
      exact t_X8_append_3 d h I.1 x (shj 0) _ ⟨fun _ => ⟨I, Fr.rf _ _, rfl, Apd.nil _ _ _⟩, fun z => absurd (by decide) z⟩
    | succ j ih =>
      intro h hj I hl
      have s := shj_n (j := j) (by omega)
      have ni := xn_i I
      have b1 := x1_in I
      refine t_X8_append_3 d h I.1 x (shj (j + 1)) _ ⟨fun z => absurd z s.1, fun _ => ⟨fun e => ?_, fun ne => ?_⟩⟩
      · rw [s.2]
        have e' : byq x (j + 1) = byq x j := by
          show (if byt x (j + 1) = 0 then [] else [byt x (j + 1)]) ++ byq x j = _
          rw [if_pos e, List.nil_append]
        rw [e'] at hl ⊢
        exact ih h (by omega) I hl
      · have e' : byq x (j + 1) = [byt x (j + 1)] ++ byq x j := by
          show (if byt x (j + 1) = 0 then [] else [byt x (j + 1)]) ++ byq x j = _
          rw [if_neg ne]
        rw [e'] at hl ⊢
        rw [List.length_append, List.length_singleton] at hl
        refine ⟨fun z => ?_, fun _ => ⟨dp_in (lo := 0) (hi := 159) ⟨b1.1, by show _ ≤ (159 : Int); omega⟩ (by decide) (by decide), ?_⟩⟩
        · have z := q_le.mp z
          omega
        · rw [s.2]
          have ex : (h_i h 11 1 + 1).toInt = (h_i h 11 1).toInt + 1 := tx_add (by rw [t1]; omega) (by rw [t1]; omega)
          have bi := byt_in x (j + 1)
          have I2 : Iv (h_im (h_im h 31 ((h_i h 11 1) : Int32).toNatClampNeg (byt x (j + 1))) 11 1 ((h_i h 11 1) + 1)) := (I.im (a := 31) (by rw [tfa_tf (show tfa 31 = some (0, 255) by decide +kernel)]; exact ⟨bi.1, bi.2⟩) (jw_jr (by decide) (by decide) _)).im (a := 11) (k := 1) (by rw [show tf 11 1 = (0, 160) by decide +kernel, ex]; exact ⟨by show (0 : Int) ≤ _; omega, by show _ ≤ (160 : Int); omega⟩) (by decide)
          have F2 : Fr [11001, 31999] h (h_im (h_im h 31 ((h_i h 11 1) : Int32).toNatClampNeg (byt x (j + 1))) 11 1 ((h_i h 11 1) + 1)) := ((Fr.rf _ _).im (inw_row (by decide +kernel) _)).im (by decide +kernel)
          have A2 : Apd 31 (xn h) [byt x (j + 1)] h (h_im (h_im h 31 ((h_i h 11 1) : Int32).toNatClampNeg (byt x (j + 1))) 11 1 ((h_i h 11 1) + 1)) := by
            refine ⟨fun k hk => ?_, fun k y e => ?_⟩
            · rw [im_ne (by decide), h_i_im, if_neg (fun u => by have u := u.2; have hk : k < (h_i h 11 1).toNatClampNeg := hk; omega)]
            · have k0 : k = 0 := by
                rcases Nat.lt_or_ge k 1 with u | u
                · omega
                · rw [List.getElem?_eq_none (by show 1 ≤ k; omega)] at e
                  cases e
              subst k0
              have e : byt x (j + 1) = y := by simpa using e
              rw [im_ne (by decide), h_i_im, if_pos ⟨rfl, rfl⟩, e]
          have n2 : xn (h_im (h_im h 31 ((h_i h 11 1) : Int32).toNatClampNeg (byt x (j + 1))) 11 1 ((h_i h 11 1) + 1)) = xn h + 1 := by
            have q := xn_i I2
            rw [im_at] at q
            omega
          generalize h_im (h_im h 31 ((h_i h 11 1) : Int32).toNatClampNeg (byt x (j + 1))) 11 1 ((h_i h 11 1) + 1) = h2 at I2 F2 A2 n2 ⊢
          refine AW.mono (ih h2 (by omega) I2 (by omega)) (fun v h' k => ?_)
          obtain ⟨ev, k1, k2, k3, k4⟩ := k
          refine ⟨ev, k1, F2.tr k2, by rw [k3, n2, List.length_append, List.length_singleton]; omega, A2.tr ?_⟩
          rw [n2] at k4
          exact k4
  intro h I hl
  exact t_X8_append d h x _ (lp 4 h (by omega) I hl)
noncomputable def Fdx (L : List Int32) (h : Hp_) (r : Int32) (h' : Hp_) : Prop := (xn h + L.length ≤ 160 → r = Int32.ofNat (xn h + L.length) ∧ xn h' = xn h + L.length ∧ Apd 31 (xn h) L h h') ∧ (¬ xn h + L.length ≤ 160 → r = -1 ∧ h' = h)
theorem c_fdx (d : Nat) {h : Hp_} (I : Iv h) (x1 x2 x3 x4 x5 : Int32) : Ci (m_X11_feed (d + 2) 0 0) [.ref 0, .int x1, .int x2, .int x3, .int x4, .int x5] h (fun r h' => Iv h' ∧ Fr [11001, 31999] h h' ∧ Fdx (fdq x1 x2 x3 x4 x5) h r h') := by
  have ni := xn_i I
  have b1 := x1_in I
  have t160 : (160 : Int32).toInt = 160 := rfl
  have q1 := byq_l x1 4
  have q2 := byq_l x2 4
  have q3 := byq_l x3 4
  have q4 := byq_l x4 4
  have q5 := byq_l x5 4
  have fl : (fdq x1 x2 x3 x4 x5).length = (byq x1 4).length + (byq x2 4).length + (byq x3 4).length + (byq x4 4).length + (byq x5 4).length := by
    unfold fdq
    rw [List.length_append, List.length_append, List.length_append, List.length_append, List.length_append]
    show _ + (_ + (_ + (_ + (_ + 0)))) = _
    omega
  refine t_X11_feed d h I.1 x1 x2 x3 x4 x5 _ (t_X8_takeIn d h x1 x2 x3 x4 x5 _ ?_)
  refine Ci.mono (c_sgn d h x1) (fun r1 g1 k => ?_)
  obtain ⟨e, r1e⟩ := k
  subst e
  refine ⟨I.1, Ci.mono (c_sgn d g1 x2) (fun r2 g2 k => ?_)⟩
  obtain ⟨e, r2e⟩ := k
  subst e
  refine ⟨I.1, Ci.mono (c_sgn d g2 x3) (fun r3 g3 k => ?_)⟩
  obtain ⟨e, r3e⟩ := k
  subst e
  refine ⟨I.1, Ci.mono (c_sgn d g3 x4) (fun r4 g4 k => ?_)⟩
  obtain ⟨e, r4e⟩ := k
  subst e
  refine ⟨I.1, Ci.mono (c_sgn d g4 x5) (fun r5 g5 k => ?_)⟩
  obtain ⟨e, r5e⟩ := k
  subst e
  have p1 : r1.toInt = ((byq x1 4).length : Int) := by rw [r1e, on_j (by omega)]
  have p2 : r2.toInt = ((byq x2 4).length : Int) := by rw [r2e, on_j (by omega)]
  have p3 : r3.toInt = ((byq x3 4).length : Int) := by rw [r3e, on_j (by omega)]
  have p4 : r4.toInt = ((byq x4 4).length : Int) := by rw [r4e, on_j (by omega)]
  have p5 : r5.toInt = ((byq x5 4).length : Int) := by rw [r5e, on_j (by omega)]
  have s2 : (r1 + r2).toInt = r1.toInt + r2.toInt := tx_add (by omega) (by omega)
  have s3 : (r1 + r2 + r3).toInt = r1.toInt + r2.toInt + r3.toInt := by rw [tx_add (by omega) (by omega), s2]
  have s4 : (r1 + r2 + r3 + r4).toInt = r1.toInt + r2.toInt + r3.toInt + r4.toInt := by rw [tx_add (by omega) (by omega), s3]
  have s5 : (r1 + r2 + r3 + r4 + r5).toInt = r1.toInt + r2.toInt + r3.toInt + r4.toInt + r5.toInt := by rw [tx_add (by omega) (by omega), s4]
  have s6 : (h_i g5 11 1 + (r1 + r2 + r3 + r4 + r5)).toInt = (h_i g5 11 1).toInt + (r1.toInt + r2.toInt + r3.toInt + r4.toInt + r5.toInt) := by rw [tx_add (by omega) (by omega), s5]
  refine ⟨I.1, fun z => ?_, fun z => ⟨I.1, I, Fr.rf _ _, fun l => ?_, fun _ => ⟨rfl, rfl⟩⟩⟩
  · have z := q_le.mp z
    refine Cv.mono (c_apd d x1 g5 I (by omega)) (fun a1 k1 => ⟨k1.1.1, Cv.mono (c_apd d x2 a1 k1.1 (by rw [k1.2.2.1]; omega)) (fun a2 k2 => ⟨k2.1.1, Cv.mono (c_apd d x3 a2 k2.1 (by rw [k2.2.2.1, k1.2.2.1]; omega)) (fun a3 k3 => ⟨k3.1.1, Cv.mono (c_apd d x4 a3 k3.1 (by rw [k3.2.2.1, k2.2.2.1, k1.2.2.1]; omega)) (fun a4 k4 => ⟨k4.1.1, Cv.mono (c_apd d x5 a4 k4.1 (by rw [k4.2.2.1, k3.2.2.1, k2.2.2.1, k1.2.2.1]; omega)) (fun a5 k5 => ?_)⟩)⟩)⟩)⟩)
    have n5 : xn a5 = xn g5 + (fdq x1 x2 x3 x4 x5).length := by rw [k5.2.2.1, k4.2.2.1, k3.2.2.1, k2.2.2.1, k1.2.2.1, fl]; omega
    have A4 := k4.2.2.2
    have A3 := k3.2.2.2
    have A2 := k2.2.2.2
    have A5 := k5.2.2.2
    rw [k4.2.2.1] at A5
    have B4 := A4.tr A5
    rw [k3.2.2.1] at B4
    have B3 := A3.tr B4
    rw [k2.2.2.1] at B3
    have B2 := A2.tr B3
    rw [k1.2.2.1] at B2
    have B1 := k1.2.2.2.tr B2
    refine ⟨k5.1.1, k5.1.1, k5.1, (((k1.2.1.tr k2.2.1).tr k3.2.1).tr k4.2.1).tr k5.2.1, fun _ => ⟨?_, n5, ?_⟩, fun l => absurd (by omega) l⟩
    · rw [← n5]
      exact (of_nat32 (x1_in k5.1).1).symm
    · unfold fdq
      rw [List.append_nil]
      exact B1
  · refine absurd (q_le.mpr ?_) z
    omega
theorem c_endx (d : Nat) {h : Hp_} (I : Iv h) (x1 : Int32) : Ci (m_X11_end (d + 2) 0 0) [.ref 0, .int x1] h (fun r h' => Iv h' ∧ Fr [11001] h h' ∧ (((0 ≤ x1 ∧ x1 ≤ h_i h 11 1) ∧ r = 1 ∧ h' = h_im h 11 1 x1) ∨ (¬ (0 ≤ x1 ∧ x1 ≤ h_i h 11 1) ∧ r = 0 ∧ h' = h))) := by
  refine t_X11_end d h I.1 x1 _ (t_X8_cut d h I.1 x1 _ ⟨fun b => ?_, fun b => ⟨I.1, Or.inl rfl, I, Fr.rf _ _, Or.inr ⟨b, rfl, rfl⟩⟩⟩)
  have b0 := q_le.mp b.1
  have b2 := q_le.mp b.2
  have b3 := (x1_in I).2
  have t0 : (0 : Int32).toInt = 0 := rfl
  have I2 : Iv (h_im h 11 1 x1) := I.im (by rw [show tf 11 1 = (0, 160) by decide +kernel]; exact ⟨by show (0 : Int) ≤ _; omega, by show _ ≤ (160 : Int); omega⟩) (by decide)
  exact ⟨I2.1, Or.inr rfl, I2, (Fr.rf _ _).im (by decide +kernel), Or.inl ⟨b, rfl, rfl⟩⟩
/-! the reference -/
theorem c_fdm (d : Nat) {h : Hp_} (I : Iv h) (x1 x2 x3 x4 x5 : Int32) : Ci (m_X12_feed (d + 1) 0 0) [.ref 1, .int x1, .int x2, .int x3, .int x4, .int x5] h (fun r h' => Iv h' ∧ Fr [1032, 225999] h h' ∧ (tn h + (fdq x1 x2 x3 x4 x5).length ≤ 160 → r = Int32.ofNat (tn h + (fdq x1 x2 x3 x4 x5).length) ∧ tn h' = tn h + (fdq x1 x2 x3 x4 x5).length ∧ Apd 225 (tn h) (fdq x1 x2 x3 x4 x5) h h') ∧ (¬ tn h + (fdq x1 x2 x3 x4 x5).length ≤ 160 → r = -1 ∧ h' = h)) := by
  have t1 : (1 : Int32).toInt = 1 := rfl
  have t20 : (20 : Int32).toInt = 20 := rfl
  have t160 : (160 : Int32).toInt = 160 := rfl
  have ni : (tn h : Int) = (h_i h 1 32).toInt := tn_i I
  have z0 : 0 ≤ (h_i h 1 32).toInt := (pz_in I).1
  have z1 : (h_i h 1 32).toInt ≤ 160 := (pz_in I).2
  rw [← rb_fd]
  generalize hf : (fun i => by_ x1 x2 x3 x4 x5 (Int32.ofNat i)) = f
  have bf : ∀ i, by_ x1 x2 x3 x4 x5 (Int32.ofNat i) = f i := fun i => by rw [← hf]
  have rl := rbq_l f 20 0
  have wr : tn h + (rbq f 20 0).length ≤ 160 → ∀ (k i : Nat) (h2 : Hp_), i + k = 20 → Iv h2 → Fr [1032, 225999] h h2 → tn h2 + (rbq f k i).length ≤ 160 → AW (m_X12_feed (d + 1) 0 0) 0 0 62 [(0, .ref 1), (1, .int x1), (2, .int x2), (3, .int x3), (4, .int x4), (5, .int x5), (7, .int (Int32.ofNat i))] [] h2 (kI (fun r h' => Iv h' ∧ Fr [1032, 225999] h2 h' ∧ r = Int32.ofNat (tn h2 + (rbq f k i).length) ∧ tn h' = tn h2 + (rbq f k i).length ∧ Apd 225 (tn h2) (rbq f k i) h2 h')) := by
    intro _ k
    induction k with
    | zero =>
      intro i h2 e I2 F2 l
      have oi := on_j (n := i) (by omega)
      refine t_X12_feed_62 d h2 I2.1 x1 x2 x3 x4 x5 _ _ ⟨fun _ => ⟨I2, Fr.rf _ _, ?_, rfl, Apd.nil _ _ _⟩, fun z => absurd (q_le.mpr (by rw [oi, t20]; omega)) z⟩
      exact (of_nat32 (pz_in I2).1).symm
    | succ k ih =>
      intro i h2 e I2 F2 l
      have oi := on_j (n := i) (by omega)
      have n2 : (tn h2 : Int) = (h_i h2 1 32).toInt := tn_i I2
      have y0 : 0 ≤ (h_i h2 1 32).toInt := (pz_in I2).1
      refine t_X12_feed_62 d h2 I2.1 x1 x2 x3 x4 x5 _ _ ⟨fun z => ?_, fun _ => Ci.mono (sf_X12_byteOf d h2 x1 x2 x3 x4 x5 _) (fun r h3 q => ?_)⟩
      · have z := q_le.mp z
        rw [oi, t20] at z
        omega
      · obtain ⟨er, eh⟩ := q
        subst eh
        rw [bf] at er
        subst er
        refine ⟨I2.1, fun e0 => ?_, fun n0 => ?_⟩
        · rw [on_s (by omega)]
          have e' : rbq f (k + 1) i = rbq f k (i + 1) := by
            show (if f i = 0 then [] else [f i]) ++ rbq f k (i + 1) = _
            rw [if_pos e0, List.nil_append]
          rw [e'] at l ⊢
          exact ih (i + 1) h3 (by omega) I2 F2 l
        · have e' : rbq f (k + 1) i = [f i] ++ rbq f k (i + 1) := by
            show (if f i = 0 then [] else [f i]) ++ rbq f k (i + 1) = _
            rw [if_neg n0]
          rw [e'] at l ⊢
          rw [List.length_append, List.length_singleton] at l
          rw [on_s (by omega)]
          refine ⟨dp_in (lo := 0) (hi := 159) ⟨y0, by show _ ≤ (159 : Int); omega⟩ (by decide) (by decide), ?_⟩
          have ex : (h_i h3 1 32 + 1).toInt = (h_i h3 1 32).toInt + 1 := tx_add (by rw [t1]; omega) (by rw [t1]; omega)
          have I4 : Iv (h_im (h_im h3 225 ((h_i h3 1 32) : Int32).toNatClampNeg (f i)) 1 32 ((h_i h3 1 32) + 1)) := i32 (i2xx 225 (by decide +kernel) (by decide) (by decide) I2 _ _) ⟨by rw [ex]; show (0 : Int) ≤ _; omega, by rw [ex]; show _ ≤ (160 : Int); omega⟩
          have F4 : Fr [1032, 225999] h3 (h_im (h_im h3 225 ((h_i h3 1 32) : Int32).toNatClampNeg (f i)) 1 32 ((h_i h3 1 32) + 1)) := ((Fr.rf _ _).im (inw_row (by decide +kernel) _)).im (by decide +kernel)
          have A4 : Apd 225 (tn h3) [f i] h3 (h_im (h_im h3 225 ((h_i h3 1 32) : Int32).toNatClampNeg (f i)) 1 32 ((h_i h3 1 32) + 1)) := by
            refine ⟨fun q hq => ?_, fun q y e => ?_⟩
            · rw [im_ne (by decide), h_i_im, if_neg (fun u => by have u := u.2; have hq : q < (h_i h3 1 32).toNatClampNeg := hq; omega)]
            · have k0 : q = 0 := by
                rcases Nat.lt_or_ge q 1 with u | u
                · omega
                · rw [List.getElem?_eq_none (by show 1 ≤ q; omega)] at e
                  cases e
              subst k0
              have e : f i = y := by simpa using e
              rw [im_ne (by decide), h_i_im, if_pos ⟨rfl, rfl⟩, e]
          have n4 : tn (h_im (h_im h3 225 ((h_i h3 1 32) : Int32).toNatClampNeg (f i)) 1 32 ((h_i h3 1 32) + 1)) = tn h3 + 1 := by
            have q : (tn (h_im (h_im h3 225 ((h_i h3 1 32) : Int32).toNatClampNeg (f i)) 1 32 ((h_i h3 1 32) + 1)) : Int) = (h_i (h_im (h_im h3 225 ((h_i h3 1 32) : Int32).toNatClampNeg (f i)) 1 32 ((h_i h3 1 32) + 1)) 1 32).toInt := tn_i I4
            rw [im_at] at q
            omega
          generalize h_im (h_im h3 225 ((h_i h3 1 32) : Int32).toNatClampNeg (f i)) 1 32 ((h_i h3 1 32) + 1) = h4 at I4 F4 A4 n4 ⊢
          refine AW.mono (ih (i + 1) h4 (by omega) I4 (F2.tr F4) (by omega)) (fun v h' q => ?_)
          obtain ⟨r, er, k1, k2, k3, k4, k5⟩ := q
          refine ⟨r, er, k1, F4.tr k2, ?_, ?_, A4.tr ?_⟩
          · rw [k3, n4, List.length_append, List.length_singleton, Nat.add_assoc]
          · rw [k4, n4, List.length_append, List.length_singleton, Nat.add_assoc]
          · rw [n4] at k5
            exact k5
  have ct : ∀ (k i m : Nat), i + k = 20 → m + (rbq f k i).length = (rbq f 20 0).length → AW (m_X12_feed (d + 1) 0 0) 0 0 6 [(0, .ref 1), (1, .int x1), (2, .int x2), (3, .int x3), (4, .int x4), (5, .int x5), (6, .int (Int32.ofNat m)), (7, .int (Int32.ofNat i))] [] h (kI (fun r h' => Iv h' ∧ Fr [1032, 225999] h h' ∧ (tn h + (rbq f 20 0).length ≤ 160 → r = Int32.ofNat (tn h + (rbq f 20 0).length) ∧ tn h' = tn h + (rbq f 20 0).length ∧ Apd 225 (tn h) (rbq f 20 0) h h') ∧ (¬ tn h + (rbq f 20 0).length ≤ 160 → r = -1 ∧ h' = h))) := by
    intro k
    induction k with
    | zero =>
      intro i m e em
      have oi := on_j (n := i) (by omega)
      have em : m + 0 = (rbq f 20 0).length := em
      have om := on_j (n := m) (by omega)
      have ex : (h_i h 1 32 + Int32.ofNat m).toInt = (h_i h 1 32).toInt + (m : Int) := by rw [tx_add (by omega) (by omega), om]
      refine t_X12_feed_6 d h I.1 x1 x2 x3 x4 x5 _ _ _ ⟨fun _ => ⟨fun z => ?_, fun z => ⟨I, Fr.rf _ _, fun l => ?_, fun _ => ⟨rfl, rfl⟩⟩⟩, fun z => absurd (q_le.mpr (by rw [oi, t20]; omega)) z⟩
      · have z := q_le.mp z
        have l : tn h + (rbq f 20 0).length ≤ 160 := by omega
        refine AW.mono (wr l 20 0 h (by omega) I (Fr.rf _ _) l) (fun v h' q => ?_)
        obtain ⟨r, er, k1, k2, k3⟩ := q
        exact ⟨r, er, k1, k2, fun _ => k3, fun y => absurd l y⟩
      · exact absurd (q_le.mpr (by omega)) z
    | succ k ih =>
      intro i m e em
      have oi := on_j (n := i) (by omega)
      refine t_X12_feed_6 d h I.1 x1 x2 x3 x4 x5 _ _ _ ⟨fun z => ?_, fun _ => Ci.mono (sf_X12_byteOf d h x1 x2 x3 x4 x5 _) (fun r h3 q => ?_)⟩
      · have z := q_le.mp z
        rw [oi, t20] at z
        omega
      · obtain ⟨er, eh⟩ := q
        subst eh
        rw [bf] at er
        subst er
        refine ⟨I.1, fun e0 => ?_, fun n0 => ?_⟩
        · have e' : rbq f (k + 1) i = rbq f k (i + 1) := by
            show (if f i = 0 then [] else [f i]) ++ rbq f k (i + 1) = _
            rw [if_pos e0, List.nil_append]
          rw [e'] at em
          rw [on_s (by omega), Int32.add_zero]
          exact ih (i + 1) m (by omega) em
        · have e' : rbq f (k + 1) i = [f i] ++ rbq f k (i + 1) := by
            show (if f i = 0 then [] else [f i]) ++ rbq f k (i + 1) = _
            rw [if_neg n0]
          rw [e', List.length_append, List.length_singleton] at em
          rw [on_s (n := i) (by omega), on_s (n := m) (by omega)]
          exact ih (i + 1) (m + 1) (by omega) (by omega)
  exact t_X12_feed d h x1 x2 x3 x4 x5 _ (ct 20 0 0 (by omega) (by omega))
/-! a beat kept: its steps, and how many of them are points -/
noncomputable def mts : List Sp3 → Nat
  | [] => 0
  | x :: L => (if x.1 = 2 then 1 else 0) + mts L
theorem mts_a (x : Sp3) : ∀ L : List Sp3, mts (L ++ [x]) = mts L + (if x.1 = 2 then 1 else 0)
  | [] => by
    show (if x.1 = 2 then 1 else 0) + 0 = 0 + (if x.1 = 2 then 1 else 0)
    omega
  | y :: L => by
    show (if y.1 = 2 then 1 else 0) + mts (L ++ [x]) = (if y.1 = 2 then 1 else 0) + mts L + (if x.1 = 2 then 1 else 0)
    rw [mts_a x L]
    omega
theorem mts_l : ∀ L : List Sp3, mts L ≤ L.length
  | [] => Nat.le_refl _
  | y :: L => by
    have k := mts_l L
    show (if y.1 = 2 then 1 else 0) + mts L ≤ L.length + 1
    split <;> omega
noncomputable def knd (L : List Sp3) : Prop := ∀ x ∈ L, x.1 = 0 ∨ x.1 = 1 ∨ x.1 = 2 ∨ x.1 = 3
theorem knd_a {L M : List Sp3} (a : knd L) (b : knd M) : knd (L ++ M) := fun x hx => (List.mem_append.mp hx).elim (a x) (b x)
theorem knd_r {L : List Sp3} (a : knd L) : ∀ k, knd (rpl k L)
  | 0 => fun x hx => by cases hx
  | k + 1 => knd_a a (knd_r a k)
theorem knd_1 {x : Sp3} (h : x.1 = 0 ∨ x.1 = 1 ∨ x.1 = 2 ∨ x.1 = 3) : knd [x] := fun y hy => by
  rw [List.mem_singleton.mp hy]
  exact h
theorem sto_k {b : Nat → Int32} {n : Nat} {f : Rcg} {o : Nat → List Sp3} (ho : ∀ a, knd (o a)) (a : Nat) : knd (sto b n f o a) := by
  unfold sto
  split
  · exact knd_1 (Or.inl rfl)
  · split
    · exact knd_1 (Or.inr (Or.inl rfl))
    · split
      · exact knd_1 (Or.inr (Or.inr (Or.inl rfl)))
      · split
        · exact knd_1 (Or.inr (Or.inr (Or.inr rfl)))
        · exact knd_r (ho _) _
theorem lpo_k {b : Nat → Int32} {n : Nat} {f : Rcg} {o : Nat → List Sp3} (ho : ∀ a, knd (o a)) : ∀ (k a : Nat), knd (lpo b n f o k a)
  | 0, _ => fun x hx => by cases hx
  | k + 1, a => by
    unfold lpo
    split
    · exact knd_a (ho _) (lpo_k ho k _)
    · exact fun x hx => by cases hx
theorem spo_k {b : Nat → Int32} {n : Nat} {f : Rcg} {o : Nat → List Sp3} (ho : ∀ a, knd (o a)) (a : Nat) : knd (spo b n f o a) := knd_a (ho a) (lpo_k ho 160 _)
theorem ston_k {b : Nat → Int32} {n : Nat} : ∀ (r a : Nat), knd (ston b n r a)
  | 0, a => sto_k (fun _ x hx => by cases hx) a
  | r + 1, a => sto_k (fun a => spo_k (fun a => ston_k r a) a) a
theorem beo_k {b : Nat → Int32} {n : Nat} : knd (beo b n) := spo_k (fun a => ston_k 4 a) 0
theorem nv_3 (x : Int32) : nv (x &&& 3) = nv x % 4 := by
  rw [nv_and, show nv 3 = 2 ^ 2 - 1 from rfl, Nat.and_two_pow_sub_one_eq_mod]
theorem nv_i {x y : Int32} (h : nv x = nv y) : x = y := Int32.toInt_inj.mp (by rw [nv_ti, nv_ti, h])
theorem pk_3 (k a b : Int32) : ((k ||| (a <<< ((2 : Int32) &&& 31))) ||| (b <<< ((6 : Int32) &&& 31))) &&& 3 = k &&& 3 := by
  refine nv_i ?_
  rw [nv_3, nv_3, nv_or, nv_or, nv_shl (by decide) (by decide), nv_shl (by decide) (by decide), show nv 2 = 2 from rfl, show nv 6 = 6 from rfl]
  rw [show (4 : Nat) = 2 ^ 2 from rfl, Nat.or_mod_two_pow, Nat.or_mod_two_pow]
  have e1 : nv a * 2 ^ 2 % 4294967296 % 2 ^ 2 = 0 := by omega
  have e2 : nv b * 2 ^ 6 % 4294967296 % 2 ^ 2 = 0 := by omega
  rw [e1, e2, Nat.or_zero, Nat.or_zero]
theorem pkS_3 {x : Sp3} (h : x.1 = 0 ∨ x.1 = 1 ∨ x.1 = 2 ∨ x.1 = 3) : pkS x &&& 3 = x.1 := by
  unfold pkS
  split
  · rename_i e
    rw [pk_3, e]
    decide
  · rw [pk_3]
    rcases h with e | e | e | e <;> rw [e] <;> decide
noncomputable def KpO (L : List Sp3) (B : Nat) (h h' : Hp_) : Prop := (∀ k, h_i h' 35 k = if k = B then Int32.ofNat L.length else h_i h 35 k) ∧ (∀ k, h_i h' 36 k = if k = B then Int32.ofNat (mts L) else h_i h 36 k) ∧ (∀ k x, L[k]? = some x → h_i h' 34 (150 * B + k) = pkS x) ∧ (∀ k, k < 150 * B → h_i h' 34 k = h_i h 34 k)
theorem c_kp2 (d : Nat) {h : Hp_} (I : Iv h) (L : List Sp3) (O : Ou L h) (K : knd L) : Ci (m_X0_keep (d + 1) 0 0) [.ref 12, .ref 11] h (fun r h' => Iv h' ∧ Fr wkp h h' ∧ ((h_i h 12 3 = 12 ∨ 150 < L.length) → r = -1 ∧ h' = h) ∧ (¬ h_i h 12 3 = 12 → L.length ≤ 150 → r = h_i h 12 3 ∧ h_i h' 12 3 = h_i h 12 3 + 1 ∧ KpO L (h_i h 12 3).toNatClampNeg h h')) := by
  have t12 : (12 : Int32).toInt = 12 := rfl
  have t1 : (1 : Int32).toInt = 1 := rfl
  have t150 : (150 : Int32).toInt = 150 := rfl
  have b3 := x12_in I
  have b6 := x6_in I
  refine t_X0_keep d h I.1 _ ⟨fun z => ⟨I, Fr.rf _ _, fun _ => ⟨rfl, rfl⟩, fun n => ?_⟩, fun z => ⟨fun z7 => ?_, fun n7 => ⟨I, Fr.rf _ _, fun _ => ⟨rfl, rfl⟩, fun _ l => ?_⟩⟩⟩
  · have z := q_le.mp z
    exact absurd (Int32.toInt_inj.mp (by rw [t12]; omega)) n
  · have z := q_nle z
    have n12 : ¬ h_i h 12 3 = 12 := fun e => by rw [e] at z; exact absurd z (by decide)
    have OL : L.length ≤ 150 ∧ h_i h 11 6 = Int32.ofNat L.length ∧ ∀ k x, L[k]? = some x → h_i h 32 k = pkS x := by
      rcases O with q | q
      · exact q.2
      · rw [z7] at q
        exact absurd q.1 (by decide)
    have l6 : (h_i h 11 6).toInt = (L.length : Int) := by rw [OL.2.1, on_j (by have := OL.1; omega)]
    have nB := n_nat b3.1
    have ml := mts_l L
    have lp : ∀ (n i : Nat) (h2 : Hp_), i + n = L.length → Iv h2 → Fr [34999] h h2 → (∀ k x, k < i → L[k]? = some x → h_i h2 34 (150 * (h_i h 12 3).toNatClampNeg + k) = pkS x) → (∀ k, k < 150 * (h_i h 12 3).toNatClampNeg → h_i h2 34 k = h_i h 34 k) → AW (m_X0_keep (d + 1) 0 0) 0 0 22 [(0, .ref 12), (1, .ref 11), (2, .int (Int32.ofNat (mts (L.take i)))), (3, .int (Int32.ofNat i))] [] h2 (kI (fun r h' => Iv h' ∧ Fr wkp h h' ∧ ((h_i h 12 3 = 12 ∨ 150 < L.length) → r = -1 ∧ h' = h) ∧ (¬ h_i h 12 3 = 12 → L.length ≤ 150 → r = h_i h 12 3 ∧ h_i h' 12 3 = h_i h 12 3 + 1 ∧ KpO L (h_i h 12 3).toNatClampNeg h h'))) := by
      have ex : (h_i h 12 3 + 1).toInt = (h_i h 12 3).toInt + 1 := tx_add (by rw [t1]; omega) (by rw [t1]; omega)
      have em : h_i h 12 3 + 1 - 1 = h_i h 12 3 := by
        refine Int32.toInt_inj.mp ?_
        rw [tx_sub (by rw [t1]; omega) (by rw [t1]; omega), ex, t1]
        omega
      intro n
      induction n with
      | zero =>
        intro i h2 e I2 F2 c1 c2
        have e6 : h_i h2 11 6 = h_i h 11 6 := (F2.2 11 6 (by decide +kernel)).1
        have e3 : h_i h2 12 3 = h_i h 12 3 := (F2.2 12 3 (by decide +kernel)).1
        have oi := on_j (n := i) (by have := OL.1; omega)
        have et : L.take i = L := tkl (by omega)
        rw [et]
        refine t_X0_keep_22 d h2 I2.1 _ _ _ ⟨fun _ => ?_, fun z => ?_⟩
        · rw [e3, e6]
          have v : vp_in (h_i h 12 3) 12 := dp_in (lo := 0) (hi := 11) ⟨b3.1, by show _ ≤ (11 : Int); omega⟩ (by decide) (by decide)
          refine ⟨v, v, ?_, ?_, ?_, ?_⟩
          · exact (i2xx 36 (by decide +kernel) (by decide) (by decide) (I2.im (a := 35) (by rw [tfa_tf (show tfa 35 = some (0, 150) by decide +kernel)]; exact ⟨b6.1, b6.2⟩) (jw_jr (by decide) (by decide) _)) _ _).im (a := 12) (k := 3) (by rw [show tf 12 3 = (0, 12) by decide +kernel, ex]; exact ⟨by show (0 : Int) ≤ _; omega, by show _ ≤ (12 : Int); omega⟩) (by decide)
          · exact (((F2.more (by decide +kernel)).im (inw_row (by decide +kernel) _)).im (inw_row (by decide +kernel) _)).im (by decide +kernel)
          · intro y
            rcases y with y | y
            · exact absurd y n12
            · exact absurd OL.1 (by omega)
          · intro _ _
            refine ⟨em, im_at, fun k => ?_, fun k => ?_, fun k x ek => ?_, fun k hk => ?_⟩
            · rw [im_ne (by decide), im_ne (by decide), h_i_im]
              by_cases y : k = (h_i h 12 3).toNatClampNeg
              · rw [if_pos ⟨rfl, y⟩, if_pos y]
                exact OL.2.1
              · rw [if_neg (fun u => y u.2), if_neg y]
                exact fr_i F2 (by decide +kernel) k
            · rw [im_ne (by decide), h_i_im]
              by_cases y : k = (h_i h 12 3).toNatClampNeg
              · rw [if_pos ⟨rfl, y⟩, if_pos y]
              · rw [if_neg (fun u => y u.2), if_neg y, im_ne (by decide)]
                exact fr_i F2 (by decide +kernel) k
            · rw [im_ne (by decide), im_ne (by decide), im_ne (by decide)]
              have lk : k < L.length := by
                rcases Nat.lt_or_ge k L.length with u | u
                · exact u
                · rw [List.getElem?_eq_none u] at ek
                  cases ek
              exact c1 k x (by omega) ek
            · rw [im_ne (by decide), im_ne (by decide), im_ne (by decide)]
              exact c2 k hk
        · rw [e6] at z
          have z := q_nle z
          omega
      | succ n ih =>
        intro i h2 e I2 F2 c1 c2
        have e6 : h_i h2 11 6 = h_i h 11 6 := (F2.2 11 6 (by decide +kernel)).1
        have e3 : h_i h2 12 3 = h_i h 12 3 := (F2.2 12 3 (by decide +kernel)).1
        have l150 := OL.1
        have oi := on_j (n := i) (by omega)
        have ki := on_k (n := i) (by omega)
        have li : i < L.length := by omega
        have gi : L[i]? = some (L[i]'li) := List.getElem?_eq_getElem li
        have mi := mts_l (L.take i)
        have ll : (L.take i).length ≤ i := by rw [List.length_take]; exact Nat.min_le_left _ _
        refine t_X0_keep_22 d h2 I2.1 _ _ _ ⟨fun z => ?_, fun z => ?_⟩
        · rw [e6] at z
          have z := q_le.mp z
          omega
        · have v3 : vp_in (Int32.ofNat i) 150 := on_in (by omega) (by decide)
          have m1 : (h_i h 12 3 * 150).toInt = (h_i h 12 3).toInt * 150 := by rw [tx_mul (by rw [t150]; omega) (by rw [t150]; omega), t150]
          have m2 : (h_i h 12 3 * 150 + Int32.ofNat i).toInt = (h_i h 12 3).toInt * 150 + (i : Int) := by rw [tx_add (by omega) (by omega), m1, oi]
          have nm := n_nat (x := h_i h 12 3 * 150 + Int32.ofNat i) (by omega)
          have km : (h_i h 12 3 * 150 + Int32.ofNat i).toNatClampNeg = 150 * (h_i h 12 3).toNatClampNeg + i := by omega
          have e32 : h_i h2 32 i = pkS (L[i]'li) := (fr_i F2 (by decide +kernel) i).trans (OL.2.2 i _ gi)
          have kd := K _ (List.getElem_mem li)
          rw [ki, e3, km, e32, on_s (n := i) (by omega)]
          refine ⟨v3, ?_, v3, t_X0_kindOf d _ _ _ ?_⟩
          · exact dp_in (lo := 0) (hi := 1799) ⟨by show (0 : Int) ≤ _; omega, by show _ ≤ (1799 : Int); omega⟩ (by decide) (by decide)
          · have I4 := i2xx 34 (by decide +kernel) (by decide) (by decide) I2 (150 * (h_i h 12 3).toNatClampNeg + i) (pkS (L[i]'li))
            have F4 : Fr [34999] h (h_im h2 34 (150 * (h_i h 12 3).toNatClampNeg + i) (pkS (L[i]'li))) := F2.im (inw_row (by decide +kernel) _)
            have d1 : ∀ k x, k < i + 1 → L[k]? = some x → h_i (h_im h2 34 (150 * (h_i h 12 3).toNatClampNeg + i) (pkS (L[i]'li))) 34 (150 * (h_i h 12 3).toNatClampNeg + k) = pkS x := fun k x hk ek => by
              rw [h_i_im]
              by_cases y : k = i
              · rw [if_pos ⟨rfl, by omega⟩]
                rw [y, gi] at ek
                rw [Option.some.inj ek]
              · rw [if_neg (fun u => by have := u.2; omega)]
                exact c1 k x (by omega) ek
            have d2 : ∀ k, k < 150 * (h_i h 12 3).toNatClampNeg → h_i (h_im h2 34 (150 * (h_i h 12 3).toNatClampNeg + i) (pkS (L[i]'li))) 34 k = h_i h 34 k := fun k hk => by
              rw [h_i_im, if_neg (fun u => by have := u.2; omega)]
              exact c2 k hk
            have mt : mts (L.take (i + 1)) = mts (L.take i) + (if (L[i]'li).1 = 2 then 1 else 0) := by rw [tk1 _ _ _ gi, mts_a]
            rw [pkS_3 kd]
            refine ⟨I4.1, fun n2 => ?_, fun y2 => ?_⟩
            · have k := ih (i + 1) _ (by omega) I4 F4 d1 d2
              rw [mt, if_neg n2, Nat.add_zero] at k
              exact k
            · have k := ih (i + 1) _ (by omega) I4 F4 d1 d2
              rw [mt, if_pos y2] at k
              rw [on_s (n := mts (L.take i)) (by omega)]
              exact k
    have k := lp L.length 0 h (by omega) I (Fr.rf _ _) (fun k x hk => absurd hk (by omega)) (fun _ _ => rfl)
    exact k
  · rcases O with q | q
    · exact absurd q.1 n7
    · exact absurd l (by omega)
noncomputable def Btx (h : Hp_) (r : Int32) (h' : Hp_) : Prop := (¬ okB (h_i h 31) (xn h) (h_i h 12 3) → r = -1 ∧ h_i h' 12 3 = h_i h 12 3 ∧ h_i h' 11 1 = h_i h 11 1 ∧ (∀ k, h_i h' 35 k = h_i h 35 k) ∧ (∀ k, h_i h' 36 k = h_i h 36 k) ∧ (∀ k, h_i h' 34 k = h_i h 34 k)) ∧ (okB (h_i h 31) (xn h) (h_i h 12 3) → r = h_i h 12 3 ∧ h_i h' 12 3 = h_i h 12 3 + 1 ∧ h_i h' 11 1 = 0 ∧ KpO (beo (h_i h 31) (xn h)) (h_i h 12 3).toNatClampNeg h h')
theorem c_btx2 (d : Nat) {h : Hp_} (I : Iv h) : Ci (m_X11_beat (d + 105) 0 0) [.ref 0] h (fun r h' => Iv h' ∧ Fr wbx h h' ∧ Btx h r h') := by
  have k := c_rb (b := h_i h 31) (n := xn h) d I rfl rfl
  rw [show d + 50 + 54 = d + 104 by omega] at k
  refine t_X11_beat d h I.1 _ (Ci.mono k (fun r3 h1 X => ?_))
  obtain ⟨e3, I1, F1, ee, O⟩ := X
  have e12 : h_i h1 12 3 = h_i h 12 3 := (F1.2 12 3 (by decide +kernel)).1
  have e11 : h_i h1 11 1 = h_i h 11 1 := (F1.2 11 1 (by decide +kernel)).1
  have r35 : ∀ k, h_i h1 35 k = h_i h 35 k := fun k => fr_i F1 (by decide +kernel) k
  have r36 : ∀ k, h_i h1 36 k = h_i h 36 k := fun k => fr_i F1 (by decide +kernel) k
  have r34 : ∀ k, h_i h1 34 k = h_i h 34 k := fun k => fr_i F1 (by decide +kernel) k
  have W1 : Fr wbx h h1 := F1.more (by decide +kernel)
  refine ⟨I1.1, fun er => Ci.mono (c_kp2 d I1 _ (O er) beo_k) (fun r7 h5 Y => ?_), fun nr => ⟨I1, W1, fun _ => ⟨rfl, e12, e11, r35, r36, r34⟩, fun o => absurd (e3.trans (ee.trans o.2.1)) nr⟩⟩
  obtain ⟨I5, F5, Yn, Yy⟩ := Y
  rw [e12] at Yn Yy
  have ev : enq (h_i h 31) (xn h) (beq (h_i h 31) (xn h)) = -1 := ee.symm.trans (e3.symm.trans er)
  have W5 : Fr wbx h h5 := W1.tr (F5.more (by decide +kernel))
  have b3 := x12_in I
  refine ⟨I5.1, fun e7 => ⟨I5, W5, fun no => ?_, fun o => ?_⟩, fun n7 => Ci.mono (c_cut0 d I5) (fun _ h9 e9 => ?_)⟩
  · have q : h5 = h1 := by
      by_cases z : h_i h 12 3 = 12
      · exact (Yn (Or.inl z)).2
      · rcases Nat.lt_or_ge 150 (beo (h_i h 31) (xn h)).length with u | u
        · exact (Yn (Or.inr u)).2
        · exact absurd ⟨z, ev, u⟩ no
    rw [q]
    exact ⟨e7, e12, e11, r35, r36, r34⟩
  · have q := (Yy o.1 o.2.2).1
    rw [e7] at q
    rw [← q] at b3
    exact absurd b3.1 (by decide)
  · have ok : okB (h_i h 31) (xn h) (h_i h 12 3) := by
      refine ⟨fun z => n7 (Yn (Or.inl z)).1, ev, ?_⟩
      rcases Nat.lt_or_ge 150 (beo (h_i h 31) (xn h)).length with u | u
      · exact absurd (Yn (Or.inr u)).1 n7
      · exact u
    obtain ⟨q1, q2, q3, q4, q5, q6⟩ := Yy ok.1 ok.2.2
    subst e9
    refine ⟨(y1 I5).1, y1 I5, W5.im (by decide +kernel), fun no => absurd ok no, fun _ => ⟨q1, by rw [im_ne (by decide)]; exact q2, im_at, fun k => ?_, fun k => ?_, fun k x e => ?_, fun k hk => ?_⟩⟩
    · rw [im_ne (by decide), q3 k, r35]
    · rw [im_ne (by decide), q4 k, r36]
    · rw [im_ne (by decide)]
      exact q5 k x e
    · rw [im_ne (by decide), q6 k hk]
      exact r34 k
theorem mP_mts {wh : Nat → Int32} {B : Nat} : ∀ (L : List Sp3) (s : Nat), (∀ k x, L[k]? = some x → wh (150 * B + (s + k)) = x.1) → mP wh B L.length s = mts L
  | [], _, _ => rfl
  | y :: L, s, h => by
    have h0 : wh (150 * B + s) = y.1 := h 0 y rfl
    have ih := mP_mts L (s + 1) (fun k x e => by
      have q := h (k + 1) x (by simpa using e)
      rw [show s + 1 + k = s + (k + 1) by omega]
      exact q)
    show (if wh (150 * B + s) = 2 then 1 else 0) + mP wh B L.length (s + 1) = (if y.1 = 2 then 1 else 0) + mts L
    rw [h0, ih]
end
section
/-! a step in one number: its parts again -/
theorem or_add {a b i : Nat} (h : b < 2 ^ i) : b ||| (a * 2 ^ i) = a * 2 ^ i + b := by
  rw [Nat.or_comm, ← Nat.shiftLeft_eq, ← Nat.shiftLeft_add_eq_or_of_lt h]
theorem nv_pk {k a b : Int32} (hk : 0 ≤ k.toInt ∧ k.toInt ≤ 3) (ha : 0 ≤ a.toInt ∧ a.toInt ≤ 15) (hb : 0 ≤ b.toInt ∧ b.toInt ≤ 1440) : nv ((k ||| (a <<< ((2 : Int32) &&& 31))) ||| (b <<< ((6 : Int32) &&& 31))) = 64 * nv b + 4 * nv a + nv k ∧ (nv k : Int) = k.toInt ∧ (nv a : Int) = a.toInt ∧ (nv b : Int) = b.toInt := by
  have k1 := (nv_of hk.1).1
  have a1 := (nv_of ha.1).1
  have b1 := (nv_of hb.1).1
  refine ⟨?_, k1.symm, a1.symm, b1.symm⟩
  rw [nv_or, nv_or, nv_shl (by decide) (by decide), nv_shl (by decide) (by decide), show nv 2 = 2 from rfl, show nv 6 = 6 from rfl]
  rw [Nat.mod_eq_of_lt (show nv a * 2 ^ 2 < 4294967296 by omega), Nat.mod_eq_of_lt (show nv b * 2 ^ 6 < 4294967296 by omega)]
  rw [or_add (show nv k < 2 ^ 2 by omega), or_add (show nv a * 2 ^ 2 + nv k < 2 ^ 6 by omega)]
  omega
theorem pk_pos {k a b : Int32} (hk : 0 ≤ k.toInt ∧ k.toInt ≤ 3) (ha : 0 ≤ a.toInt ∧ a.toInt ≤ 15) (hb : 0 ≤ b.toInt ∧ b.toInt ≤ 1440) : 0 ≤ ((k ||| (a <<< ((2 : Int32) &&& 31))) ||| (b <<< ((6 : Int32) &&& 31))).toInt := by
  have q := nv_pk hk ha hb
  rw [nv_pos (by omega)]
  omega
/-- the place -/
theorem pk_pl {k a b : Int32} (hk : 0 ≤ k.toInt ∧ k.toInt ≤ 3) (ha : 0 ≤ a.toInt ∧ a.toInt ≤ 15) (hb : 0 ≤ b.toInt ∧ b.toInt ≤ 1440) : (((k ||| (a <<< ((2 : Int32) &&& 31))) ||| (b <<< ((6 : Int32) &&& 31))) >>> ((2 : Int32) &&& 31)) &&& 15 = a := by
  have q := nv_pk hk ha hb
  refine nv_i ?_
  rw [nv_and, nv_shr (pk_pos hk ha hb) (by decide) (by decide), q.1, show nv 2 = 2 from rfl, show nv 15 = 2 ^ 4 - 1 from rfl, Nat.and_two_pow_sub_one_eq_mod]
  omega
/-- the second number -/
theorem pk_am {k a b : Int32} (hk : 0 ≤ k.toInt ∧ k.toInt ≤ 3) (ha : 0 ≤ a.toInt ∧ a.toInt ≤ 15) (hb : 0 ≤ b.toInt ∧ b.toInt ≤ 1440) : ((k ||| (a <<< ((2 : Int32) &&& 31))) ||| (b <<< ((6 : Int32) &&& 31))) >>> ((6 : Int32) &&& 31) = b := by
  have q := nv_pk hk ha hb
  refine nv_i ?_
  rw [nv_shr (pk_pos hk ha hb) (by decide) (by decide), q.1, show nv 6 = 6 from rfl]
  omega
theorem pkS_pl {x : Sp3} (h : stR x) (n : ¬ x.1 = 1) : (pkS x >>> ((2 : Int32) &&& 31)) &&& 15 = x.2.1 := by
  unfold pkS
  rw [if_neg n]
  rcases h with h | h | h | h
  · exact pk_pl (by rw [h.1]; decide) ⟨h.2.1, h.2.2.1⟩ (by rw [h.2.2.2]; decide)
  · exact absurd h.1 n
  · exact pk_pl (by rw [h.1]; decide) ⟨h.2.1, h.2.2.1⟩ ⟨h.2.2.2.1, h.2.2.2.2⟩
  · exact pk_pl (by rw [h.1]; decide) (by rw [h.2.1]; decide) (by rw [h.2.2]; decide)
theorem pkS_am {x : Sp3} (h : stR x) : pkS x >>> ((6 : Int32) &&& 31) = if x.1 = 1 then x.2.1 else x.2.2 := by
  unfold pkS
  rcases h with h | h | h | h
  · rw [if_neg (by rw [h.1]; decide), if_neg (by rw [h.1]; decide)]
    exact pk_am (by rw [h.1]; decide) ⟨h.2.1, h.2.2.1⟩ (by rw [h.2.2.2]; decide)
  · rw [if_pos h.1, if_pos h.1]
    exact pk_am (by decide) (by decide) ⟨by omega, by omega⟩
  · rw [if_neg (by rw [h.1]; decide), if_neg (by rw [h.1]; decide)]
    exact pk_am (by rw [h.1]; decide) ⟨h.2.1, h.2.2.1⟩ ⟨h.2.2.2.1, h.2.2.2.2⟩
  · rw [if_neg (by rw [h.1]; decide), if_neg (by rw [h.1]; decide)]
    exact pk_am (by rw [h.1]; decide) (by rw [h.2.1]; decide) (by rw [h.2.2]; decide)
/-! the class: what one who goes a beat's steps sees -/
end
section
/-! what class and reference keep alike; what the law's loop keeps -/
noncomputable def rlT : List ((Nat × Nat) × Nat) := [((11, 1), 32), ((12, 3), 42)]
theorem rlT_F : Rlf rlT HF := fun q hq => by
  have z : rlT.all (fun q => h_i HF q.1.1 q.1.2 == h_i HF 1 q.2) = true := by decide +kernel
  exact eq_of_beq (List.all_eq_true.mp z q hq)
/-- the tape, and how many acts and pays there are -/
noncomputable def ExT (h : Hp_) : Prop := (∀ k, k < xn h → h_i h 225 k = h_i h 31 k) ∧ h_i h 235 0 = h_i h 13 5 ∧ h_i h 235 1 = h_i h 14 5
noncomputable def exoT (ws : List Nat) : Bool := off ws 31 && off ws 225 && off ws 235 && !inw ws 11 1 && !inw ws 13 5 && !inw ws 14 5
theorem exT_F : ExT HF := by
  have z : xn HF = 0 := by
    show (h_i HF 11 1).toNatClampNeg = 0
    rw [show h_i HF 11 1 = 0 by decide +kernel]
    rfl
  exact ⟨fun k hk => absurd hk (by rw [z]; omega), by decide +kernel, by decide +kernel⟩
theorem ExT.cg {h h' : Hp_} (e : ExT h) (a : ∀ k, h_i h' 31 k = h_i h 31 k) (b : ∀ k, h_i h' 225 k = h_i h 225 k) (c : ∀ k, h_i h' 235 k = h_i h 235 k) (n : h_i h' 11 1 = h_i h 11 1) (p : h_i h' 13 5 = h_i h 13 5) (q : h_i h' 14 5 = h_i h 14 5) : ExT h' := by
  refine ⟨fun k hk => ?_, by rw [c, p]; exact e.2.1, by rw [c, q]; exact e.2.2⟩
  rw [a, b]
  refine e.1 k ?_
  have hk : k < (h_i h' 11 1).toNatClampNeg := hk
  rw [n] at hk
  exact hk
theorem ExT.fr {ws : List Nat} {h h' : Hp_} (e : ExT h) (f : Fr ws h h') (o : exoT ws = true) : ExT h' := by
  unfold exoT at o
  simp only [Bool.and_eq_true, Bool.not_eq_true'] at o
  exact e.cg (fun k => fr_i f o.1.1.1.1.1 k) (fun k => fr_i f o.1.1.1.1.2 k) (fun k => fr_i f o.1.1.1.2 k) (f.2 11 1 o.1.1.2).1 (f.2 13 5 o.1.2).1 (f.2 14 5 o.2).1
theorem ExT.mf {W : List Nat} {h h' : Hp_} (e : ExT h) (f : Mf W h h') (o : exoT W = true) : ExT h' := by
  unfold exoT at o
  simp only [Bool.and_eq_true, Bool.not_eq_true'] at o
  exact e.cg (fun k => (f.2.2.2 31 k (by decide) (off_inw o.1.1.1.1.1 k)).1) (fun k => f.2.1 225 (by decide) (by decide) k) (fun k => f.2.1 235 (by decide) (by decide) k) (f.2.2.2 11 1 (by decide) o.1.1.2).1 (f.2.2.2 13 5 (by decide) o.1.2).1 (f.2.2.2 14 5 (by decide) o.2).1
/-- of each beat how many steps, how many of them points -/
noncomputable def ExB (h : Hp_) : Prop := ∀ k, k < (h_i h 12 3).toNatClampNeg → h_i h 35 k = h_i h 227 k ∧ (h_i h 36 k).toInt = (mP (h_i h 228) k (h_i h 227 k).toNatClampNeg 0 : Int)
noncomputable def exoB (ws : List Nat) : Bool := off ws 35 && off ws 36 && off ws 227 && off ws 228 && !inw ws 12 3
theorem ExB.cg {h h' : Hp_} (e : ExB h) (a : ∀ k, h_i h' 35 k = h_i h 35 k) (b : ∀ k, h_i h' 36 k = h_i h 36 k) (c : ∀ k, h_i h' 227 k = h_i h 227 k) (d : ∀ k, h_i h' 228 k = h_i h 228 k) (n : h_i h' 12 3 = h_i h 12 3) : ExB h' := fun k hk => by
  rw [n] at hk
  rw [a, b, c, show h_i h' 228 = h_i h 228 from funext d]
  exact e k hk
theorem ExB.fr {ws : List Nat} {h h' : Hp_} (e : ExB h) (f : Fr ws h h') (o : exoB ws = true) : ExB h' := by
  unfold exoB at o
  simp only [Bool.and_eq_true, Bool.not_eq_true'] at o
  exact e.cg (fun k => fr_i f o.1.1.1.1 k) (fun k => fr_i f o.1.1.1.2 k) (fun k => fr_i f o.1.1.2 k) (fun k => fr_i f o.1.2 k) (f.2 12 3 o.2).1
theorem ExB.mf {W : List Nat} {h h' : Hp_} (e : ExB h) (f : Mf W h h') (o : exoB W = true) : ExB h' := by
  unfold exoB at o
  simp only [Bool.and_eq_true, Bool.not_eq_true'] at o
  exact e.cg (fun k => (f.2.2.2 35 k (by decide) (off_inw o.1.1.1.1 k)).1) (fun k => (f.2.2.2 36 k (by decide) (off_inw o.1.1.1.2 k)).1) (fun k => f.2.1 227 (by decide) (by decide) k) (fun k => f.2.1 228 (by decide) (by decide) k) (f.2.2.2 12 3 (by decide) o.2).1
noncomputable def ExTB (h : Hp_) : Prop := ExT h ∧ ExB h
noncomputable def exoTB (ws : List Nat) : Bool := exoT ws && exoB ws
theorem exTB_F : ExTB HF := ⟨exT_F, fun k hk => by
  rw [show h_i HF 12 3 = 0 by decide +kernel] at hk
  exact absurd hk (by show ¬ k < 0; omega)⟩
theorem ExTB.fr {ws : List Nat} {h h' : Hp_} (e : ExTB h) (f : Fr ws h h') (o : exoTB ws = true) : ExTB h' := by
  unfold exoTB at o
  rw [Bool.and_eq_true] at o
  exact ⟨e.1.fr f o.1, e.2.fr f o.2⟩
theorem ExTB.mf {W : List Nat} {h h' : Hp_} (e : ExTB h) (f : Mf W h h') (o : exoTB W = true) : ExTB h' := by
  unfold exoTB at o
  rw [Bool.and_eq_true] at o
  exact ⟨e.1.mf f o.1, e.2.mf f o.2⟩
/-- the men, and what this row wants besides -/
noncomputable def MefT (h : Hp_) : Prop := Mn h ∧ ExTB h
noncomputable def LiT (N : Nat) (h : Hp_) : Prop := Iv h ∧ J2 h ∧ h_sh h 2 = some (3, 1) ∧ (∃ c, h_r h 0 15 = some c ∧ h_sh h c = some (3, N)) ∧ Rlf rlT h ∧ MefT h
theorem LiT.z {N : Nat} {h : Hp_} (L : LiT N h) : Li0 N h := ⟨L.1, L.2.1, L.2.2.1, L.2.2.2.1⟩
theorem Li0.liT {N : Nat} {h : Hp_} (L : Li0 N h) (R : Rlf rlT h) (m : MefT h) : LiT N h := ⟨L.1, L.2.1, L.2.2.1, L.2.2.2, R, m⟩
theorem Mn.fr {ws : List Nat} {h h' : Hp_} (m : Mn h) (f : Fr ws h h') (o : (!inw ws 0 7 && off ws 15) = true) : Mn h' := fun k hk hm => by
  rw [Bool.and_eq_true, Bool.not_eq_true'] at o
  rw [(f.2 15 k (off_inw o.2 k)).2.2]
  exact m k hk (by rw [(f.2 0 7 o.1).1] at hm; exact hm)
theorem MefT.fr {ws : List Nat} {h h' : Hp_} (m : MefT h) (f : Fr ws h h') (o : (!inw ws 0 7 && off ws 15 && exoTB ws) = true) : MefT h' := by
  rw [Bool.and_eq_true] at o
  exact ⟨m.1.fr f o.1, m.2.fr f o.2⟩
theorem mn_F : Mn HF := fun k hk hm => by
  rw [show h_i HF 0 7 = 0 by decide +kernel] at hm
  have z : (0 : Int32).toInt = 0 := rfl
  omega
theorem liT_F : LiT 0 HF := li0_F.liT rlT_F ⟨mn_F, exTB_F⟩
theorem LiT.fr {N : Nat} {ws : List Nat} {h h' : Hp_} (L : LiT N h) (I : Iv h') (f : Fr ws h h') (o : ((jso ws && !inw ws 0 15) && rlT.all (fun q => !inw ws q.1.1 q.1.2 && !inw ws 1 q.2) && (!inw ws 0 7 && off ws 15 && exoTB ws)) = true) : LiT N h' := by
  rw [Bool.and_eq_true, Bool.and_eq_true (jso ws && !inw ws 0 15)] at o
  exact (L.z.fr I f o.1.1).liT (L.2.2.2.2.1.fr f o.1.2) (L.2.2.2.2.2.fr f o.2)
theorem LiT.sr {N : Nat} {h h' : Hp_} (L : LiT N h) (I : Iv h') (J : J2 h') (s : Sr h h') : LiT N h' := (L.z.sn I J s.sn).liT (L.2.2.2.2.1.fr s (by decide +kernel)) (L.2.2.2.2.2.fr s (by decide +kernel))
theorem Mn.mf {h h' : Hp_} (m : Mn h) (f : Mf wsX h h') : Mn h' := fun k hk hm => by
  rw [(f.2.2.2 15 k (by decide) (off_inw (by decide +kernel) k)).2]
  exact m k hk (by rw [(f.2.2.2 0 7 (by decide) (by decide +kernel)).1] at hm; exact hm)
theorem MefT.mf {h h' : Hp_} (m : MefT h) (f : Mf wsX h h') : MefT h' := ⟨m.1.mf f, m.2.mf f (by decide +kernel)⟩
theorem MefT.con {h h' : Hp_} {x1 x2 x3 r : Int32} (m : MefT h) (k : Cy x1 x2 x3 h r h') : MefT h' := ⟨k.2.2.1 m.1, m.2.mf k.1.2.1 (by decide +kernel)⟩
theorem LiT.con2 {N : Nat} {h h1 h2 : Hp_} {x1 x2 x3 r1 r2 : Int32} (L : LiT N h) (k1 : Cy x1 x2 x3 h r1 h1) (k2 : Iv h2 ∧ J2 h2 ∧ Sn h1 h2 ∧ ocm (h_i h1 1 7) x1 x2 x3 r2 (h_i h2 1 7) ∧ Cw (okm (h_i h1 1 7) x1 x2 x3) (h_i h1 1 7) x1 h1 h2) : LiT N h2 := ((L.z.con k1.1).sn k2.1 k2.2.1 k2.2.2.1).liT ((L.2.2.2.2.1.mf k1.1.2.1 (by decide +kernel)).fr k2.2.2.1 (by decide +kernel)) ((L.2.2.2.2.2.con k1).fr k2.2.2.1 (by decide +kernel))
theorem LiT.tick2 {N N' : Nat} {h h1 h2 : Hp_} {x r1 r2 : Int32} (L : LiT N h) (k1 : Iv h1 ∧ Mf wsX h h1 ∧ (∃ c', h_r h1 0 15 = some c' ∧ h_sh h1 c' = some (3, N')) ∧ otk (h_i h 0 0) x r1 (h_i h1 0 0)) (k2 : Iv h2 ∧ J2 h2 ∧ Fr wsT h1 h2 ∧ otk (h_i h1 1 0) x r2 (h_i h2 1 0)) : LiT N' h2 := ((L.z.tick k1).st k2.1 k2.2.1 k2.2.2.1).liT ((L.2.2.2.2.1.mf k1.2.1 (by decide +kernel)).fr k2.2.2.1 (by decide +kernel)) ((L.2.2.2.2.2.mf k1.2.1).fr k2.2.2.1 (by decide +kernel))
theorem LiT.sb {N : Nat} {ws : List Nat} {h h' : Hp_} (L : LiT N h) (I : Iv h') (J : J2 h') (f : Fr ws h h') (o : inw ws 0 15 = false) : Li0 N h' := by
  obtain ⟨c, a, b⟩ := L.2.2.2.1
  exact ⟨I, J, by rw [f.1]; exact L.2.2.1, c, by rw [(f.2 0 15 o).2.2]; exact a, by rw [f.1]; exact b⟩
theorem LiT.r1 {N : Nat} {h : Hp_} (L : LiT N h) : h_i h 11 1 = h_i h 1 32 := L.2.2.2.2.1 ((11, 1), 32) (by decide)
theorem LiT.r2 {N : Nat} {h : Hp_} (L : LiT N h) : h_i h 12 3 = h_i h 1 42 := L.2.2.2.2.1 ((12, 3), 42) (by decide)
theorem Rlf.mk {h : Hp_} (a : h_i h 11 1 = h_i h 1 32) (b : h_i h 12 3 = h_i h 1 42) : Rlf rlT h := fun q hq => by
  simp only [rlT, List.mem_cons, List.not_mem_nil, or_false] at hq
  rcases hq with u | u <;> subst u
  · exact a
  · exact b
/-- what the reference's readers want to know of the tape -/
noncomputable def Qt (b : Nat → Int32) (n : Nat) (h : Hp_) : Prop := Tp b n h ∧ (∀ k, k < n → ¬ b k = -1) ∧ J2 h
theorem LiT.q {N : Nat} {ws : List Nat} {h h1 : Hp_} (L : LiT N h) (f : Fr ws h h1) (o : (jso ws && off ws 225 && !inw ws 1 32) = true) : Qt (h_i h 31) (xn h) h1 := by
  simp only [Bool.and_eq_true, Bool.not_eq_true'] at o
  refine ⟨⟨fun k hk => ?_, ?_⟩, fun k _ e => ?_, J2_s (Js.fr f o.1.1) L.2.1⟩
  · rw [fr_i f o.1.2 k]
    exact L.2.2.2.2.2.2.1.1 k hk
  · show (h_i h1 1 32).toNatClampNeg = (h_i h 11 1).toNatClampNeg
    rw [(f.2 1 32 o.2).1, L.r1]
  · have q := (b31_in L.1 k).1
    rw [e] at q
    exact absurd q (by decide)
/-! beat, act, pay, feed, end: neither compared here, and what they do to the tape -/
theorem c_btX (d : Nat) {h : Hp_} (I : Iv h) : Ci (m_X11_beat (d + 105) 0 0) [.ref 0] h (fun r h' => Iv h' ∧ Fr wbx h h' ∧ Btx h r h') := c_btx2 d I
theorem c_btM (d : Nat) {b : Nat → Int32} {n : Nat} {h : Hp_} (I : Iv h) (q : Qt b n h) : Ci (m_X12_beat (d + 80 + 60) 0 0) [.ref 1] h (fun r h' => (Iv h' ∧ J2 h') ∧ Btm b n h r h') := c_beatf d q.2.1 I q.2.2 q.1
theorem LiT.bt {N : Nat} {h h1 h2 : Hp_} {r1 r2 : Int32} (L : LiT N h) (k1 : Iv h1 ∧ Fr wbx h h1 ∧ Btx h r1 h1) (k2 : (Iv h2 ∧ J2 h2) ∧ Btm (h_i h 31) (xn h) h1 r2 h2) : LiT N h2 ∧ r1 = r2 := by
  obtain ⟨I1, F1, kn, ky⟩ := k1
  obtain ⟨⟨I2, JJ⟩, F2, c8, mn, my⟩ := k2
  have a42 : h_i h1 1 42 = h_i h 12 3 := (F1.2 1 42 (by decide +kernel)).1.trans L.r2.symm
  have a32 : h_i h1 1 32 = h_i h 11 1 := (F1.2 1 32 (by decide +kernel)).1.trans L.r1.symm
  rw [a42] at mn my
  have b123 : h_i h2 12 3 = h_i h1 12 3 := (F2.2 12 3 (by decide +kernel)).1
  have b111 : h_i h2 11 1 = h_i h1 11 1 := (F2.2 11 1 (by decide +kernel)).1
  have F12 : Fr (wbx ++ wbt) h h2 := (F1.more (by decide +kernel)).tr (F2.more (by decide +kernel))
  have Z : Li0 N h2 := L.sb I2 JJ F12 (by decide +kernel)
  have mm : Mn h2 := L.2.2.2.2.2.1.fr F12 (by decide +kernel)
  have e31 : ∀ k, h_i h2 31 k = h_i h 31 k := fun k => fr_i F12 (by decide +kernel) k
  have e225 : ∀ k, h_i h2 225 k = h_i h 225 k := fun k => fr_i F12 (by decide +kernel) k
  have e235 : ∀ k, h_i h2 235 k = h_i h 235 k := fun k => fr_i F12 (by decide +kernel) k
  have e13 : h_i h2 13 5 = h_i h 13 5 := (F12.2 13 5 (by decide +kernel)).1
  have e14 : h_i h2 14 5 = h_i h 14 5 := (F12.2 14 5 (by decide +kernel)).1
  have X0 := L.2.2.2.2.2.2.1
  have B0 := L.2.2.2.2.2.2.2
  have f227 : ∀ k, h_i h1 227 k = h_i h 227 k := fun k => fr_i F1 (by decide +kernel) k
  have f228 : ∀ k, h_i h1 228 k = h_i h 228 k := fun k => fr_i F1 (by decide +kernel) k
  have g35 : ∀ k, h_i h2 35 k = h_i h1 35 k := fun k => fr_i F2 (by decide +kernel) k
  have g36 : ∀ k, h_i h2 36 k = h_i h1 36 k := fun k => fr_i F2 (by decide +kernel) k
  have bb1 : bB h1 = 150 * (h_i h 12 3).toNatClampNeg := by
    show 150 * (h_i h1 1 42).toNatClampNeg = _
    rw [a42]
  have b3 := x12_in L.1
  have n3 := n_nat b3.1
  have lw : ∀ k, k < (h_i h 12 3).toNatClampNeg → h_i h1 35 k = h_i h 35 k → h_i h1 36 k = h_i h 36 k → h_i h2 227 k = h_i h 227 k → h_i h2 35 k = h_i h2 227 k ∧ (h_i h2 36 k).toInt = (mP (h_i h2 228) k (h_i h2 227 k).toNatClampNeg 0 : Int) := fun k hk x y w => by
    have q := B0 k hk
    have rg := L.1.2.1 227 k
    rw [tfa_tf (show tfa 227 = some (0, 150) by decide +kernel)] at rg
    have r0 : 0 ≤ (h_i h 227 k).toInt := rg.1
    have r1' : (h_i h 227 k).toInt ≤ 150 := rg.2
    have rn := n_nat r0
    rw [g35, g36, x, y, w, mP_same (wh := h_i h 228) (fun z u v => by rw [(c8 z (by rw [bb1]; omega)).1, f228])]
    exact q
  by_cases o : okB (h_i h 31) (xn h) (h_i h 12 3)
  · have ky := ky o
    have my := my o
    have t1 : (1 : Int32).toInt = 1 := rfl
    have ex : (h_i h 12 3 + 1).toInt = (h_i h 12 3).toInt + 1 := tx_add (by rw [t1]; omega) (by rw [t1]; omega)
    have n4 := n_nat (x := h_i h 12 3 + 1) (by omega)
    have RB : ExB h2 := fun k hk => by
      rw [b123, ky.2.1] at hk
      have w : h_i h2 227 k = if k = (h_i h 12 3).toNatClampNeg then Int32.ofNat (beo (h_i h 31) (xn h)).length else h_i h 227 k := by rw [my.2.2.2.1 k, f227]
      have x35 := ky.2.2.2.1 k
      have x36 := ky.2.2.2.2.1 k
      rcases Nat.lt_or_ge k (h_i h 12 3).toNatClampNeg with u | u
      · have nk : ¬ k = (h_i h 12 3).toNatClampNeg := by omega
        rw [if_neg nk] at w x35 x36
        exact lw k u x35 x36 w
      · have ek : k = (h_i h 12 3).toNatClampNeg := by omega
        rw [if_pos ek] at w x35 x36
        have l150 := o.2.2
        have ml := mts_l (beo (h_i h 31) (xn h))
        refine ⟨by rw [g35, x35, w], ?_⟩
        rw [g36, x36, w, on_k (by omega), on_j (by omega), mP_mts _ 0 (fun j x e => ?_)]
        have q := (my.2.2.2.2.1 j x e).1
        rw [bb1, ← ek] at q
        rw [Nat.zero_add]
        exact q
    refine ⟨Z.liT (Rlf.mk ?_ ?_) ⟨mm, ⟨fun k hk => ?_, by rw [e235, e13]; exact X0.2.1, by rw [e235, e14]; exact X0.2.2⟩, RB⟩, ky.1.trans my.1.symm⟩
    · rw [b111, ky.2.2.1, my.2.2.1]
    · rw [b123, ky.2.1, my.2.1]
    · have hk : k < (h_i h2 11 1).toNatClampNeg := hk
      rw [b111, ky.2.2.1] at hk
      exact absurd hk (by show ¬ k < 0; omega)
  · have kn := kn o
    have mn := mn o
    have RB : ExB h2 := fun k hk => by
      rw [b123, kn.2.1] at hk
      exact lw k hk (kn.2.2.2.1 k) (kn.2.2.2.2.1 k) ((mn.2.2.2 k).trans (f227 k))
    refine ⟨Z.liT (Rlf.mk ?_ ?_) ⟨mm, X0.cg e31 e225 e235 (b111.trans kn.2.2.1) e13 e14, RB⟩, kn.1.trans mn.1.symm⟩
    · rw [b111, kn.2.2.1, mn.2.2.1, a32]
    · rw [b123, kn.2.1, mn.2.1]
theorem LiT.act {N : Nat} {h h1 h2 : Hp_} {x1 r1 r2 : Int32} (L : LiT N h) (k1 : Iv h1 ∧ Fr wrx_13 h h1 ∧ Rlx_13 x1 h r1 h1) (k2 : (Iv h2 ∧ Fr wzt h1 h2) ∧ Rlm (h_i h 31) (xn h) 0 x1 h1 r2 h2) : LiT N h2 ∧ r1 = r2 := by
  obtain ⟨I1, F1, kn, ky⟩ := k1
  obtain ⟨⟨I2, F2⟩, mn, my⟩ := k2
  have X0 := L.2.2.2.2.2.2.1
  have a5 : h_i h1 235 0 = h_i h 13 5 := (fr_i F1 (by decide +kernel) 0).trans X0.2.1
  have a32 : h_i h1 1 32 = h_i h 11 1 := (F1.2 1 32 (by decide +kernel)).1.trans L.r1.symm
  have a235 : ∀ k, h_i h1 235 k = h_i h 235 k := fun k => fr_i F1 (by decide +kernel) k
  rw [a5] at mn my
  have b111 : h_i h2 11 1 = h_i h1 11 1 := (F2.2 11 1 (by decide +kernel)).1
  have bc5 : h_i h2 13 5 = h_i h1 13 5 := (F2.2 13 5 (by decide +kernel)).1
  have F12 : Fr (wrx_13 ++ wzt) h h2 := (F1.more (by decide +kernel)).tr (F2.more (by decide +kernel))
  have Z : Li0 N h2 := L.z.fr I2 F12 (by decide +kernel)
  have mm : Mn h2 := L.2.2.2.2.2.1.fr F12 (by decide +kernel)
  have RB : ExB h2 := L.2.2.2.2.2.2.2.fr F12 (by decide +kernel)
  have e31 : ∀ k, h_i h2 31 k = h_i h 31 k := fun k => fr_i F12 (by decide +kernel) k
  have e225 : ∀ k, h_i h2 225 k = h_i h 225 k := fun k => fr_i F12 (by decide +kernel) k
  have eo : h_i h2 14 5 = h_i h 14 5 := (F12.2 14 5 (by decide +kernel)).1
  have r2' : h_i h2 12 3 = h_i h2 1 42 := by rw [(F12.2 12 3 (by decide +kernel)).1, (F12.2 1 42 (by decide +kernel)).1]; exact L.r2
  by_cases o : okR (h_i h 31) (xn h) 0 x1 (h_i h 13 5)
  · have ky := ky o
    have my := my o
    refine ⟨Z.liT (Rlf.mk ?_ r2') ⟨mm, ⟨fun k hk => ?_, ?_, ?_⟩, RB⟩, ky.1.trans my.1.symm⟩
    · rw [b111, ky.2.1, my.2.1]
    · have hk : k < (h_i h2 11 1).toNatClampNeg := hk
      rw [b111, ky.2.1] at hk
      exact absurd hk (by show ¬ k < 0; omega)
    · rw [my.2.2.1, if_pos rfl, bc5, ky.2.2.1]
    · rw [my.2.2.1, if_neg (by decide), a235, eo]; exact X0.2.2
  · have kn := kn o
    have mn := mn o
    refine ⟨Z.liT (Rlf.mk ?_ r2') ⟨mm, X0.cg e31 e225 (fun k => (mn.2.2.1 k).trans (a235 k)) (b111.trans kn.2.1) (bc5.trans kn.2.2.1) eo, RB⟩, kn.1.trans mn.1.symm⟩
    rw [b111, kn.2.1, mn.2.1, a32]
theorem LiT.pay {N : Nat} {h h1 h2 : Hp_} {x1 r1 r2 : Int32} (L : LiT N h) (k1 : Iv h1 ∧ Fr wrx_14 h h1 ∧ Rlx_14 x1 h r1 h1) (k2 : (Iv h2 ∧ Fr wzt h1 h2) ∧ Rlm (h_i h 31) (xn h) 1 x1 h1 r2 h2) : LiT N h2 ∧ r1 = r2 := by
  obtain ⟨I1, F1, kn, ky⟩ := k1
  obtain ⟨⟨I2, F2⟩, mn, my⟩ := k2
  have X0 := L.2.2.2.2.2.2.1
  have a5 : h_i h1 235 1 = h_i h 14 5 := (fr_i F1 (by decide +kernel) 1).trans X0.2.2
  have a32 : h_i h1 1 32 = h_i h 11 1 := (F1.2 1 32 (by decide +kernel)).1.trans L.r1.symm
  have a235 : ∀ k, h_i h1 235 k = h_i h 235 k := fun k => fr_i F1 (by decide +kernel) k
  rw [a5] at mn my
  have b111 : h_i h2 11 1 = h_i h1 11 1 := (F2.2 11 1 (by decide +kernel)).1
  have bc5 : h_i h2 14 5 = h_i h1 14 5 := (F2.2 14 5 (by decide +kernel)).1
  have F12 : Fr (wrx_14 ++ wzt) h h2 := (F1.more (by decide +kernel)).tr (F2.more (by decide +kernel))
  have Z : Li0 N h2 := L.z.fr I2 F12 (by decide +kernel)
  have mm : Mn h2 := L.2.2.2.2.2.1.fr F12 (by decide +kernel)
  have RB : ExB h2 := L.2.2.2.2.2.2.2.fr F12 (by decide +kernel)
  have e31 : ∀ k, h_i h2 31 k = h_i h 31 k := fun k => fr_i F12 (by decide +kernel) k
  have e225 : ∀ k, h_i h2 225 k = h_i h 225 k := fun k => fr_i F12 (by decide +kernel) k
  have eo : h_i h2 13 5 = h_i h 13 5 := (F12.2 13 5 (by decide +kernel)).1
  have r2' : h_i h2 12 3 = h_i h2 1 42 := by rw [(F12.2 12 3 (by decide +kernel)).1, (F12.2 1 42 (by decide +kernel)).1]; exact L.r2
  by_cases o : okR (h_i h 31) (xn h) 1 x1 (h_i h 14 5)
  · have ky := ky o
    have my := my o
    refine ⟨Z.liT (Rlf.mk ?_ r2') ⟨mm, ⟨fun k hk => ?_, ?_, ?_⟩, RB⟩, ky.1.trans my.1.symm⟩
    · rw [b111, ky.2.1, my.2.1]
    · have hk : k < (h_i h2 11 1).toNatClampNeg := hk
      rw [b111, ky.2.1] at hk
      exact absurd hk (by show ¬ k < 0; omega)
    · rw [my.2.2.1, if_neg (by decide), a235, eo]; exact X0.2.1
    · rw [my.2.2.1, if_pos rfl, bc5, ky.2.2.1]
  · have kn := kn o
    have mn := mn o
    refine ⟨Z.liT (Rlf.mk ?_ r2') ⟨mm, X0.cg e31 e225 (fun k => (mn.2.2.1 k).trans (a235 k)) (b111.trans kn.2.1) eo (bc5.trans kn.2.2.1), RB⟩, kn.1.trans mn.1.symm⟩
    rw [b111, kn.2.1, mn.2.1, a32]
theorem c_fdX (d : Nat) {h : Hp_} (I : Iv h) (x1 x2 x3 x4 x5 : Int32) : Ci (m_X11_feed (d + 2) 0 0) [.ref 0, .int x1, .int x2, .int x3, .int x4, .int x5] h (fun r h' => Iv h' ∧ Fr [11001, 31999] h h' ∧ Fdx (fdq x1 x2 x3 x4 x5) h r h') := c_fdx d I x1 x2 x3 x4 x5
noncomputable def Fdm (L : List Int32) (h : Hp_) (r : Int32) (h' : Hp_) : Prop := (tn h + L.length ≤ 160 → r = Int32.ofNat (tn h + L.length) ∧ tn h' = tn h + L.length ∧ Apd 225 (tn h) L h h') ∧ (¬ tn h + L.length ≤ 160 → r = -1 ∧ h' = h)
theorem c_fdM (d : Nat) {h : Hp_} (I : Iv h) (x1 x2 x3 x4 x5 : Int32) : Ci (m_X12_feed (d + 1) 0 0) [.ref 1, .int x1, .int x2, .int x3, .int x4, .int x5] h (fun r h' => Iv h' ∧ Fr [1032, 225999] h h' ∧ Fdm (fdq x1 x2 x3 x4 x5) h r h') := c_fdm d I x1 x2 x3 x4 x5
theorem LiT.fd {N : Nat} {h h1 h2 : Hp_} {r1 r2 : Int32} {L0 : List Int32} (L : LiT N h) (k1 : Iv h1 ∧ Fr [11001, 31999] h h1 ∧ Fdx L0 h r1 h1) (k2 : Iv h2 ∧ Fr [1032, 225999] h1 h2 ∧ Fdm L0 h1 r2 h2) : LiT N h2 ∧ r1 = r2 := by
  obtain ⟨I1, F1, ky, kn⟩ := k1
  obtain ⟨I2, F2, my, mn⟩ := k2
  have X0 := L.2.2.2.2.2.2.1
  have tt : tn h1 = xn h := by
    show (h_i h1 1 32).toNatClampNeg = (h_i h 11 1).toNatClampNeg
    rw [(F1.2 1 32 (by decide +kernel)).1, L.r1]
  rw [tt] at my mn
  have F12 : Fr [11001, 31999, 1032, 225999] h h2 := (F1.more (by decide +kernel)).tr (F2.more (by decide +kernel))
  have Z : Li0 N h2 := L.z.fr I2 F12 (by decide +kernel)
  have mm : Mn h2 := L.2.2.2.2.2.1.fr F12 (by decide +kernel)
  have RB : ExB h2 := L.2.2.2.2.2.2.2.fr F12 (by decide +kernel)
  have b111 : h_i h2 11 1 = h_i h1 11 1 := (F2.2 11 1 (by decide +kernel)).1
  have e31 : ∀ k, h_i h2 31 k = h_i h1 31 k := fun k => fr_i F2 (by decide +kernel) k
  have f225 : ∀ k, h_i h1 225 k = h_i h 225 k := fun k => fr_i F1 (by decide +kernel) k
  have e235 : ∀ k, h_i h2 235 k = h_i h 235 k := fun k => fr_i F12 (by decide +kernel) k
  have e13 : h_i h2 13 5 = h_i h 13 5 := (F12.2 13 5 (by decide +kernel)).1
  have e14 : h_i h2 14 5 = h_i h 14 5 := (F12.2 14 5 (by decide +kernel)).1
  have r2' : h_i h2 12 3 = h_i h2 1 42 := by rw [(F12.2 12 3 (by decide +kernel)).1, (F12.2 1 42 (by decide +kernel)).1]; exact L.r2
  by_cases o : xn h + L0.length ≤ 160
  · have ky := ky o
    have my := my o
    have n1 := xn_i I1
    have n2 : (tn h2 : Int) = (h_i h2 1 32).toInt := tn_i I2
    refine ⟨Z.liT (Rlf.mk ?_ r2') ⟨mm, ⟨fun k hk => ?_, by rw [e235, e13]; exact X0.2.1, by rw [e235, e14]; exact X0.2.2⟩, RB⟩, ky.1.trans my.1.symm⟩
    · rw [b111]
      refine Int32.toInt_inj.mp ?_
      have a := ky.2.1
      have b := my.2.1
      omega
    · have hk : k < (h_i h2 11 1).toNatClampNeg := hk
      rw [b111] at hk
      have hk : k < xn h1 := hk
      rw [ky.2.1] at hk
      rw [e31]
      rcases Nat.lt_or_ge k (xn h) with u | u
      · rw [my.2.2.1 k u, f225, ky.2.2.1 k u]
        exact X0.1 k u
      · have l : k - xn h < L0.length := by omega
        have g : L0[k - xn h]? = some (L0[k - xn h]'l) := List.getElem?_eq_getElem l
        have a := ky.2.2.2 _ _ g
        have b := my.2.2.2 _ _ g
        rw [show xn h + (k - xn h) = k by omega] at a b
        rw [a, b]
  · have kn := kn o
    have mn := mn o
    obtain ⟨ka, kb⟩ := kn
    obtain ⟨ma, mb⟩ := mn
    subst kb
    subst mb
    exact ⟨L, ka.trans ma.symm⟩
theorem c_enX (d : Nat) {h : Hp_} (I : Iv h) (x1 : Int32) : Ci (m_X11_end (d + 2) 0 0) [.ref 0, .int x1] h (fun r h' => Iv h' ∧ Fr [11001] h h' ∧ (((0 ≤ x1 ∧ x1 ≤ h_i h 11 1) ∧ r = 1 ∧ h' = h_im h 11 1 x1) ∨ (¬ (0 ≤ x1 ∧ x1 ≤ h_i h 11 1) ∧ r = 0 ∧ h' = h))) := c_endx d I x1
theorem c_enM (d : Nat) {h : Hp_} (I : Iv h) (x1 : Int32) : Ci (m_X12_end (d + 0) 0 0) [.ref 1, .int x1] h (fun r h' => Iv h' ∧ Fr [1032] h h' ∧ (((0 ≤ x1 ∧ x1 ≤ h_i h 1 32) ∧ r = 1 ∧ h' = h_im h 1 32 x1) ∨ (¬ (0 ≤ x1 ∧ x1 ≤ h_i h 1 32) ∧ r = 0 ∧ h' = h))) := by
  have t0 : (0 : Int32).toInt = 0 := rfl
  have z1 : (h_i h 1 32).toInt ≤ 160 := (pz_in I).2
  refine t_X12_end d h I.1 x1 _ ⟨fun z => ⟨I, Fr.rf _ _, Or.inr ⟨fun y => ?_, rfl, rfl⟩⟩, fun z => ⟨fun y => ?_, fun y => ⟨I, Fr.rf _ _, Or.inr ⟨fun u => y u.2, rfl, rfl⟩⟩⟩⟩
  · have z := q_lt.mp z
    have y := q_le.mp y.1
    omega
  · have z := q_nlt z
    have y' := q_le.mp y
    exact ⟨i32 I ⟨by show (0 : Int) ≤ _; omega, by show _ ≤ (160 : Int); omega⟩, (Fr.rf _ _).im (by decide +kernel), Or.inl ⟨⟨q_le.mpr (by omega), y⟩, rfl, rfl⟩⟩
theorem LiT.en {N : Nat} {h h1 h2 : Hp_} {x1 r1 r2 : Int32} (L : LiT N h) (k1 : Iv h1 ∧ Fr [11001] h h1 ∧ (((0 ≤ x1 ∧ x1 ≤ h_i h 11 1) ∧ r1 = 1 ∧ h1 = h_im h 11 1 x1) ∨ (¬ (0 ≤ x1 ∧ x1 ≤ h_i h 11 1) ∧ r1 = 0 ∧ h1 = h))) (k2 : Iv h2 ∧ Fr [1032] h1 h2 ∧ (((0 ≤ x1 ∧ x1 ≤ h_i h1 1 32) ∧ r2 = 1 ∧ h2 = h_im h1 1 32 x1) ∨ (¬ (0 ≤ x1 ∧ x1 ≤ h_i h1 1 32) ∧ r2 = 0 ∧ h2 = h1))) : LiT N h2 ∧ r1 = r2 := by
  obtain ⟨I1, F1, k1⟩ := k1
  obtain ⟨I2, F2, k2⟩ := k2
  have a32 : h_i h1 1 32 = h_i h 11 1 := (F1.2 1 32 (by decide +kernel)).1.trans L.r1.symm
  rw [a32] at k2
  have X0 := L.2.2.2.2.2.2.1
  rcases k1 with ⟨b, e1, e2⟩ | ⟨b, e1, e2⟩ <;> rcases k2 with ⟨c, e3, e4⟩ | ⟨c, e3, e4⟩
  · have F12 : Fr [11001, 1032] h h2 := (F1.more (by decide +kernel)).tr (F2.more (by decide +kernel))
    have Z : Li0 N h2 := L.z.fr I2 F12 (by decide +kernel)
    have mm : Mn h2 := L.2.2.2.2.2.1.fr F12 (by decide +kernel)
    have RB : ExB h2 := L.2.2.2.2.2.2.2.fr F12 (by decide +kernel)
    have r2' : h_i h2 12 3 = h_i h2 1 42 := by rw [(F12.2 12 3 (by decide +kernel)).1, (F12.2 1 42 (by decide +kernel)).1]; exact L.r2
    have b111 : h_i h2 11 1 = x1 := by rw [(F2.2 11 1 (by decide +kernel)).1, e2, im_at]
    have b132 : h_i h2 1 32 = x1 := by rw [e4, im_at]
    refine ⟨Z.liT (Rlf.mk (b111.trans b132.symm) r2') ⟨mm, ⟨fun k hk => ?_, ?_, ?_⟩, RB⟩, e1.trans e3.symm⟩
    · rw [fr_i F12 (by decide +kernel), fr_i F12 (by decide +kernel)]
      refine X0.1 k ?_
      have hk : k < (h_i h2 11 1).toNatClampNeg := hk
      rw [b111] at hk
      have b0 := q_le.mp b.1
      have b2 := q_le.mp b.2
      have t0 : (0 : Int32).toInt = 0 := rfl
      have n1 := n_nat (x := x1) (by omega)
      have n2 := xn_i L.1
      omega
    · rw [fr_i F12 (by decide +kernel), (F12.2 13 5 (by decide +kernel)).1]
      exact X0.2.1
    · rw [fr_i F12 (by decide +kernel), (F12.2 14 5 (by decide +kernel)).1]
      exact X0.2.2
  · exact absurd b c
  · exact absurd c b
  · subst e2
    subst e4
    exact ⟨L, e1.trans e3.symm⟩
/-! fault -/
noncomputable def wzq : List Nat := [11002, 11003, 11004, 11006, 11007, 11009, 32999, 33999]
noncomputable def flq (b : Nat → Int32) (n : Nat) (x : Int32) : Int32 := if x = 0 then enq b n (beq b n) else if x = 1 then enq b n (ruq b n (clq b n 1)) else if x = 2 then enq b n (ruq b n (clq b n 2)) else -2
theorem LiT.fl {N : Nat} {h h1 h2 : Hp_} {x1 r1 r2 : Int32} (L : LiT N h) (k1 : Iv h1 ∧ Fr wzq h h1 ∧ r1 = flq (h_i h 31) (xn h) x1) (k2 : Iv h2 ∧ Fr wzf h1 h2 ∧ r2 = flq (h_i h 31) (xn h) x1) : LiT N h2 ∧ r1 = r2 := ⟨(L.fr k1.1 k1.2.1 (by decide +kernel)).fr k2.1 k2.2.1 (by decide +kernel), k1.2.2.trans k2.2.2.symm⟩
/-! beaten -/
theorem c_has (d : Nat) {h : Hp_} (I : Iv h) (x1 : Int32) : Ci (m_X0_has (d + 0) 0 0) [.ref 12, .int x1] h (fun r h' => h' = h ∧ ((r = 1 ∧ (¬ x1 < 0 ∧ ¬ h_i h 12 3 ≤ x1)) ∨ (r = 0 ∧ ¬ (¬ x1 < 0 ∧ ¬ h_i h 12 3 ≤ x1)))) := t_X0_has d h I.1 x1 _ ⟨fun z => ⟨rfl, Or.inr ⟨rfl, fun y => y.1 z⟩⟩, fun z => ⟨fun y => ⟨rfl, Or.inr ⟨rfl, fun u => u.2 y⟩⟩, fun y => ⟨rfl, Or.inl ⟨rfl, z, y⟩⟩⟩⟩
noncomputable def bnX (h : Hp_) (x1 x2 : Int32) : Int32 := if ¬ x1 < 0 ∧ ¬ h_i h 12 3 ≤ x1 then (if x2 = 0 then h_i h 35 x1.toNatClampNeg else if x2 = 1 then h_i h 36 x1.toNatClampNeg else -1) else -1
theorem LiT.bn {N : Nat} {h h1 h2 : Hp_} {x1 x2 r1 r2 : Int32} (L : LiT N h) (k1 : Iv h1 ∧ h1 = h ∧ r1 = bnX h x1 x2) (k2 : Iv h2 ∧ h2 = h1 ∧ (((0 ≤ x1 ∧ x1 ≤ h_i h1 1 42 - 1) → (x2 = 0 → r2 = h_i h1 227 x1.toNatClampNeg) ∧ (x2 = 1 → r2.toInt = (mP (h_i h1 228) x1.toNatClampNeg (h_i h1 227 x1.toNatClampNeg).toNatClampNeg 0 : Int)) ∧ (¬ x2 = 0 → ¬ x2 = 1 → r2 = -1)) ∧ (¬ (0 ≤ x1 ∧ x1 ≤ h_i h1 1 42 - 1) → r2 = -1))) : LiT N h2 ∧ r1 = r2 := by
  obtain ⟨_, e1, k1⟩ := k1
  obtain ⟨_, e2, ky, kn⟩ := k2
  subst e1
  subst e2
  refine ⟨L, ?_⟩
  have b3 := x12_in L.1
  have t0 : (0 : Int32).toInt = 0 := rfl
  have t1 : (1 : Int32).toInt = 1 := rfl
  rw [← L.r2] at ky kn
  have em : (h_i h2 12 3 - 1).toInt = (h_i h2 12 3).toInt - 1 := by rw [tx_sub (by rw [t1]; omega) (by rw [t1]; omega), t1]
  rw [k1]
  unfold bnX
  by_cases c : ¬ x1 < 0 ∧ ¬ h_i h2 12 3 ≤ x1
  · have c0 := q_nlt c.1
    have c1 := q_nle c.2
    have y : 0 ≤ x1 ∧ x1 ≤ h_i h2 12 3 - 1 := ⟨q_le.mpr (by omega), q_le.mpr (by omega)⟩
    have n1 := n_nat (x := x1) (by omega)
    have n3 := n_nat b3.1
    have q := L.2.2.2.2.2.2.2 x1.toNatClampNeg (by omega)
    rw [if_pos c]
    by_cases z : x2 = 0
    · rw [if_pos z, (ky y).1 z]
      exact q.1
    · rw [if_neg z]
      by_cases w : x2 = 1
      · rw [if_pos w]
        exact Int32.toInt_inj.mp (q.2.trans ((ky y).2.1 w).symm)
      · rw [if_neg w, (ky y).2.2 z w]
  · rw [if_neg c]
    refine (kn (fun y => c ⟨fun z => ?_, fun z => ?_⟩)).symm
    · have z := q_lt.mp z
      have y := q_le.mp y.1
      omega
    · have z := q_le.mp z
      have y := q_le.mp y.2
      omega
/-! walks over paths: lengths, and the least of them -/
noncomputable def wkq (E : Nat → Nat × Nat × Int) (n u : Nat) : Nat → Nat → Int → Prop
  | 0, v, t => v = u ∧ t = 0
  | k + 1, v, t => ∃ i, i < n ∧ ((v = (E i).2.1 ∧ wkq E n u k (E i).1 (t - (E i).2.2)) ∨ (v = (E i).1 ∧ wkq E n u k (E i).2.1 (t - (E i).2.2)))
theorem wkq_mo {E E' : Nat → Nat × Nat × Int} {n n' u : Nat} (hn : n ≤ n') (hE : ∀ i, i < n → E' i = E i) : ∀ (k v : Nat) (t : Int), wkq E n u k v t → wkq E' n' u k v t
  | 0, _, _, h => h
  | k + 1, v, t, ⟨i, hi, h⟩ => ⟨i, by omega, by
    rw [hE i hi]
    exact h.elim (fun h => Or.inl ⟨h.1, wkq_mo hn hE k _ _ h.2⟩) (fun h => Or.inr ⟨h.1, wkq_mo hn hE k _ _ h.2⟩)⟩
theorem wkq_cc {E : Nat → Nat × Nat × Int} {n u w : Nat} {k : Nat} {s : Int} (h : wkq E n u k w s) : ∀ (j v : Nat) (t : Int), wkq E n w j v t → wkq E n u (k + j) v (s + t)
  | 0, v, t, ⟨a, b⟩ => by
    rw [a, b, Int.add_zero]
    exact h
  | j + 1, v, t, ⟨i, hi, g⟩ => ⟨i, hi, by
    have e : s + t - (E i).2.2 = s + (t - (E i).2.2) := by omega
    rw [e]
    exact g.elim (fun g => Or.inl ⟨g.1, wkq_cc h j _ _ g.2⟩) (fun g => Or.inr ⟨g.1, wkq_cc h j _ _ g.2⟩)⟩
/-- d is the least length from u, up to B -/
noncomputable def Exr (E : Nat → Nat × Nat × Int) (n : Nat) (B : Int) (u : Nat) (d : Nat → Int) : Prop := ∀ v, v < 16 → (0 ≤ d v ∧ d v ≤ B) ∧ (∀ k t, wkq E n u k v t → d v ≤ t) ∧ (d v < B → ∃ k, wkq E n u k v (d v))
noncomputable def Ev (E : Nat → Nat × Nat × Int) (n : Nat) : Prop := ∀ i, i < n → ((E i).1 < 16 ∧ (E i).2.1 < 16) ∧ 1 ≤ (E i).2.2 ∧ (E i).2.2 ≤ 60
noncomputable def Fe (E : Nat → Nat × Nat × Int) (n : Nat) (d : Nat → Int) : Prop := ∀ i, i < n → d (E i).2.1 ≤ d (E i).1 + (E i).2.2 ∧ d (E i).1 ≤ d (E i).2.1 + (E i).2.2
theorem fe_le {E : Nat → Nat × Nat × Int} {n u : Nat} {d : Nat → Int} (f : Fe E n d) (h0 : d u ≤ 0) : ∀ (k v : Nat) (t : Int), wkq E n u k v t → d v ≤ t
  | 0, v, t, ⟨a, b⟩ => by
    rw [a, b]
    exact h0
  | k + 1, v, t, ⟨i, hi, h⟩ => by
    have q := f i hi
    rcases h with ⟨a, b⟩ | ⟨a, b⟩
    · have ih := fe_le f h0 k _ _ b
      rw [a]
      omega
    · have ih := fe_le f h0 k _ _ b
      rw [a]
      omega
theorem Exr.fe {E : Nat → Nat × Nat × Int} {n u : Nat} {B : Int} {d : Nat → Int} (x : Exr E n B u d) (e : Ev E n) : Fe E n d := fun i hi => by
  have q := e i hi
  have xa := x _ q.1.1
  have xb := x _ q.1.2
  constructor
  · by_cases c : d (E i).1 < B
    · obtain ⟨k, h⟩ := xa.2.2 c
      refine xb.2.1 (k + 1) _ ⟨i, hi, Or.inl ⟨rfl, ?_⟩⟩
      rw [Int.add_sub_cancel]
      exact h
    · have := xb.1.2
      have := xa.1.2
      omega
  · by_cases c : d (E i).2.1 < B
    · obtain ⟨k, h⟩ := xb.2.2 c
      refine xa.2.1 (k + 1) _ ⟨i, hi, Or.inr ⟨rfl, ?_⟩⟩
      rw [Int.add_sub_cancel]
      exact h
    · have := xb.1.2
      have := xa.1.2
      omega
/-- how many are no farther than t -/
noncomputable def cnp (d : Nat → Int) (t : Int) : Nat → Nat
  | 0 => 0
  | j + 1 => cnp d t j + (if d j ≤ t then 1 else 0)
theorem cnp_le (d : Nat → Int) (t : Int) : ∀ j, cnp d t j ≤ j
  | 0 => Nat.le_refl _
  | j + 1 => by
    have ih := cnp_le d t j
    show cnp d t j + (if d j ≤ t then 1 else 0) ≤ j + 1
    by_cases c : d j ≤ t
    · rw [if_pos c]
      omega
    · rw [if_neg c]
      omega
theorem cnp_mo {d : Nat → Int} {s t : Int} (h : s ≤ t) : ∀ j, cnp d s j ≤ cnp d t j
  | 0 => Nat.le_refl _
  | j + 1 => by
    have ih := cnp_mo (d := d) h j
    show cnp d s j + (if d j ≤ s then 1 else 0) ≤ cnp d t j + (if d j ≤ t then 1 else 0)
    by_cases c : d j ≤ s
    · rw [if_pos c, if_pos (Int.le_trans c h)]
      omega
    · rw [if_neg c]
      omega
theorem cnp_lt {d : Nat → Int} {s t : Int} (h : s ≤ t) {v : Nat} (h1 : s < d v) (h2 : d v ≤ t) : ∀ j, v < j → cnp d s j + 1 ≤ cnp d t j
  | 0, l => absurd l (by omega)
  | j + 1, l => by
    show cnp d s j + (if d j ≤ s then 1 else 0) + 1 ≤ cnp d t j + (if d j ≤ t then 1 else 0)
    by_cases c : v = j
    · have m := cnp_mo (d := d) h j
      rw [← c, if_neg (by omega), if_pos h2]
      rw [← c] at m
      omega
    · have ih := cnp_lt h h1 h2 j (by omega)
      by_cases c : d j ≤ s
      · rw [if_pos c, if_pos (Int.le_trans c h)]
        omega
      · rw [if_neg c]
        omega
theorem Exr.b9 {E : Nat → Nat × Nat × Int} {n u : Nat} {B : Int} {d : Nat → Int} (x : Exr E n B u d) (e : Ev E n) : ∀ (N v : Nat), v < 16 → (d v).toNat < N → d v < B → d v + 60 ≤ 60 * (cnp d (d v) 16 : Int)
  | 0, _, _, l, _ => absurd l (by omega)
  | N + 1, v, hv, l, c => by
    obtain ⟨k, h⟩ := (x v hv).2.2 c
    have p := (x v hv).1.1
    cases k with
    | zero =>
      have h' : v = u ∧ d v = 0 := h
      have q := cnp_lt (d := d) (s := -1) (t := d v) (by omega) (v := v) (by omega) (Int.le_refl _) 16 hv
      omega
    | succ k =>
      obtain ⟨i, hi, g⟩ := h
      have ei := e i hi
      have fe := x.fe e i hi
      have st : ∀ a, a < 16 → wkq E n u k a (d v - (E i).2.2) → d v ≤ d a + (E i).2.2 → d v + 60 ≤ 60 * (cnp d (d v) 16 : Int) := fun a ha hw hf => by
        have xa := (x a ha).2.1 k _ hw
        have pa := (x a ha).1.1
        have ih := Exr.b9 x e N a ha (by omega) (by omega)
        have q := cnp_lt (d := d) (s := d a) (t := d v) (by omega) (v := v) (by omega) (Int.le_refl _) 16 hv
        omega
      rcases g with ⟨a, b⟩ | ⟨a, b⟩
      · exact st _ ei.1.1 b (by rw [a]; exact fe.1)
      · exact st _ ei.1.2 b (by rw [a]; exact fe.2)
theorem Exr.le {E : Nat → Nat × Nat × Int} {n u : Nat} {B : Int} {d : Nat → Int} (x : Exr E n B u d) (e : Ev E n) {v : Nat} (hv : v < 16) (c : d v < B) : d v ≤ 900 := by
  have k := x.b9 e ((d v).toNat + 1) v hv (by omega) c
  have l := cnp_le d (d v) 16
  omega
theorem Exr.eq {E : Nat → Nat × Nat × Int} {n u : Nat} {B B' : Int} {d d' : Nat → Int} (x : Exr E n B u d) (y : Exr E n B' u d') (e : Ev E n) (hB : 900 < B) (hB' : 900 < B') {v : Nat} (hv : v < 16) : (d v < B ∧ d' v < B' ∧ d v = d' v) ∨ (¬ d v < B ∧ ¬ d' v < B') := by
  by_cases c : d v < B
  · obtain ⟨k, h⟩ := (x v hv).2.2 c
    have l := (y v hv).2.1 k _ h
    have l9 := x.le e hv c
    obtain ⟨k', h'⟩ := (y v hv).2.2 (by omega)
    have l' := (x v hv).2.1 k' _ h'
    exact Or.inl ⟨c, by omega, by omega⟩
  · refine Or.inr ⟨c, fun c' => c ?_⟩
    obtain ⟨k', h'⟩ := (y v hv).2.2 c'
    have l' := (x v hv).2.1 k' _ h'
    have l9 := y.le e hv c'
    omega
noncomputable def Exd (E : Nat → Nat × Nat × Int) (n : Nat) (B : Int) (D : Nat → Nat → Int) : Prop := ∀ u, u < 16 → Exr E n B u (D u)
noncomputable def exE (E : Nat → Nat × Nat × Int) (n : Nat) (q : Nat × Nat × Int) : Nat → Nat × Nat × Int := fun i => if i = n then q else E i
/-- one path more: what the table must be -/
theorem Exd.add {E : Nat → Nat × Nat × Int} {n : Nat} {B : Int} {D V : Nat → Nat → Int} {a b : Nat} {m : Int} (x : Exd E n B D) (e : Ev E n) (ha : a < 16) (hb : b < 16) (hm : 1 ≤ m) (hV : ∀ u v, u < 16 → v < 16 → ((0 ≤ V u v ∧ V u v ≤ B) ∧ (V u v < B → ∃ k, wkq (exE E n (a, b, m)) (n + 1) u k v (V u v))) ∧ V u v ≤ D u v ∧ V u v ≤ D u a + m + D b v ∧ V u v ≤ D u b + m + D a v) : Exd (exE E n (a, b, m)) (n + 1) B V := fun u hu v hv => by
  have q := hV u v hu hv
  refine ⟨q.1.1, fun k t h => ?_, q.1.2⟩
  have z : ∀ w, w < 16 → D w w ≤ 0 := fun w hw => (x w hw w hw).2.1 0 0 ⟨rfl, rfl⟩
  have fu := (x u hu).fe e
  have fa := (x a ha).fe e
  have fb := (x b hb).fe e
  have f : Fe (exE E n (a, b, m)) (n + 1) (fun v => min (D u v) (min (D u a + m + D b v) (D u b + m + D a v))) := fun i hi => by
    by_cases c : i = n
    · have ee : exE E n (a, b, m) i = (a, b, m) := if_pos c
      rw [ee]
      have h1 := z a ha
      have h2 := z b hb
      have h3 := (x b hb a ha).1.1
      have h4 := (x a ha b hb).1.1
      have h5 := (x u hu a ha).1.1
      have h6 := (x u hu b hb).1.1
      show min (D u b) (min (D u a + m + D b b) (D u b + m + D a b)) ≤ min (D u a) (min (D u a + m + D b a) (D u b + m + D a a)) + m ∧ min (D u a) (min (D u a + m + D b a) (D u b + m + D a a)) ≤ min (D u b) (min (D u a + m + D b b) (D u b + m + D a b)) + m
      have h7 := (x a ha a ha).1.1
      have h8 := (x b hb b hb).1.1
      omega
    · have ee : exE E n (a, b, m) i = E i := if_neg c
      rw [ee]
      have k1 := fu i (by omega)
      have k2 := fa i (by omega)
      have k3 := fb i (by omega)
      show min (D u (E i).2.1) (min (D u a + m + D b (E i).2.1) (D u b + m + D a (E i).2.1)) ≤ min (D u (E i).1) (min (D u a + m + D b (E i).1) (D u b + m + D a (E i).1)) + (E i).2.2 ∧ min (D u (E i).1) (min (D u a + m + D b (E i).1) (D u b + m + D a (E i).1)) ≤ min (D u (E i).2.1) (min (D u a + m + D b (E i).2.1) (D u b + m + D a (E i).2.1)) + (E i).2.2
      omega
  have g := fe_le f (u := u) (by
    show min (D u u) (min (D u a + m + D b u) (D u b + m + D a u)) ≤ 0
    have := z u hu
    omega) k v t h
  have g' : min (D u v) (min (D u a + m + D b v) (D u b + m + D a v)) ≤ t := g
  omega
/-- the reference's paths, and the class's table -/
noncomputable def eE (h : Hp_) : Nat → Nat × Nat × Int := fun i => ((h_i h 200 i).toNatClampNeg, (h_i h 201 i).toNatClampNeg, (h_i h 202 i).toInt)
noncomputable def eN (h : Hp_) : Nat := (h_i h 1 6).toNatClampNeg
noncomputable def dX (h : Hp_) : Nat → Nat → Int := fun u v => (h_i h 30 (16 * u + v)).toInt
noncomputable def ExP (h : Hp_) : Prop := (∀ i, i < eN h → 1 ≤ (h_i h 202 i).toInt) ∧ Exd (eE h) (eN h) 1000000 (dX h)
noncomputable def exoP (ws : List Nat) : Bool := off ws 30 && off ws 200 && off ws 201 && off ws 202 && !inw ws 1 6
theorem exP_F : ExP HF := by
  have z : eN HF = 0 := by
    unfold eN
    rw [show h_i HF 1 6 = 0 by decide +kernel]
    decide
  refine ⟨fun i hi => absurd hi (by rw [z]; omega), ?_⟩
  rw [z]
  have t : (List.range 256).all (fun k => h_i HF 30 k == (if k / 16 = k % 16 then 0 else 1000000)) = true := by decide +kernel
  have t0 : (0 : Int32).toInt = 0 := rfl
  have tm : (1000000 : Int32).toInt = 1000000 := rfl
  have dv : ∀ u v, u < 16 → v < 16 → dX HF u v = if u = v then 0 else 1000000 := fun u v hu hv => by
    have y := eq_of_beq (List.all_eq_true.mp t (16 * u + v) (List.mem_range.mpr (by omega)))
    unfold dX
    rw [y]
    by_cases c : u = v
    · rw [if_pos c, if_pos (by omega), t0]
    · rw [if_neg c, if_neg (by omega), tm]
  intro u hu v hv
  show (0 ≤ dX HF u v ∧ dX HF u v ≤ 1000000) ∧ (∀ k t, wkq (eE HF) 0 u k v t → dX HF u v ≤ t) ∧ (dX HF u v < 1000000 → ∃ k, wkq (eE HF) 0 u k v (dX HF u v))
  rw [dv u v hu hv]
  by_cases c : u = v
  · rw [if_pos c]
    refine ⟨⟨by decide, by decide⟩, fun k t h => ?_, fun _ => ⟨0, c.symm, rfl⟩⟩
    cases k with
    | zero =>
      have h' : v = u ∧ t = 0 := h
      omega
    | succ k =>
      obtain ⟨i, hi, _⟩ := h
      omega
  · rw [if_neg c]
    refine ⟨⟨by decide, by decide⟩, fun k t h => ?_, fun y => absurd y (by decide)⟩
    cases k with
    | zero =>
      have h' : v = u ∧ t = 0 := h
      omega
    | succ k =>
      obtain ⟨i, hi, _⟩ := h
      omega
theorem ExP.cg {h h' : Hp_} (e : ExP h) (a : h_i h' 30 = h_i h 30) (b : h_i h' 200 = h_i h 200) (c : h_i h' 201 = h_i h 201) (d : h_i h' 202 = h_i h 202) (n : h_i h' 1 6 = h_i h 1 6) : ExP h' := by
  unfold ExP eE eN dX
  rw [a, b, c, d, n]
  exact e
theorem ExP.fr {ws : List Nat} {h h' : Hp_} (e : ExP h) (f : Fr ws h h') (o : exoP ws = true) : ExP h' := by
  unfold exoP at o
  simp only [Bool.and_eq_true, Bool.not_eq_true'] at o
  exact e.cg (funext (fun k => fr_i f o.1.1.1.1 k)) (funext (fun k => fr_i f o.1.1.1.2 k)) (funext (fun k => fr_i f o.1.1.2 k)) (funext (fun k => fr_i f o.1.2 k)) (f.2 1 6 o.2).1
theorem ExP.mf {W : List Nat} {h h' : Hp_} (e : ExP h) (f : Mf W h h') (o : exoP W = true) : ExP h' := by
  unfold exoP at o
  simp only [Bool.and_eq_true, Bool.not_eq_true'] at o
  exact e.cg (funext (fun k => (f.2.2.2 30 k (by decide) (off_inw o.1.1.1.1 k)).1)) (funext (fun k => f.2.1 200 (by decide) (by decide) k)) (funext (fun k => f.2.1 201 (by decide) (by decide) k)) (funext (fun k => f.2.1 202 (by decide) (by decide) k)) (f.1 6)
/-- the number of paths too -/
noncomputable def ExR (h : Hp_) : Prop := h_i h 10 1 = h_i h 1 6 ∧ ExP h
noncomputable def exoR (ws : List Nat) : Bool := !inw ws 10 1 && exoP ws
theorem exR_F : ExR HF := ⟨by decide +kernel, exP_F⟩
theorem ExR.fr {ws : List Nat} {h h' : Hp_} (e : ExR h) (f : Fr ws h h') (o : exoR ws = true) : ExR h' := by
  unfold exoR at o
  rw [Bool.and_eq_true, Bool.not_eq_true'] at o
  refine ⟨?_, e.2.fr f o.2⟩
  have o2 := o.2
  unfold exoP at o2
  simp only [Bool.and_eq_true, Bool.not_eq_true'] at o2
  rw [(f.2 10 1 o.1).1, (f.2 1 6 o2.2).1]
  exact e.1
theorem ExR.mf {W : List Nat} {h h' : Hp_} (e : ExR h) (f : Mf W h h') (o : exoR W = true) : ExR h' := by
  unfold exoR at o
  rw [Bool.and_eq_true, Bool.not_eq_true'] at o
  refine ⟨?_, e.2.mf f o.2⟩
  rw [(f.2.2.2 10 1 (by decide) o.1).1, f.1 6]
  exact e.1
noncomputable def oca (ok : Prop) (m r m' : Int32) : Prop := (ok ∧ r = m ∧ m' = m + 1) ∨ (¬ ok ∧ r = -1 ∧ m' = m)
theorem oca_eq {p q : Prop} {m r1 r2 m1 m2 : Int32} (e : p ↔ q) (a : oca p m r1 m1) (b : oca q m r2 m2) : r1 = r2 ∧ m1 = m2 := by
  rcases a with ⟨a, a1, a2⟩ | ⟨a, a1, a2⟩ <;> rcases b with ⟨b, b1, b2⟩ | ⟨b, b1, b2⟩
  · exact ⟨a1.trans b1.symm, a2.trans b2.symm⟩
  · exact absurd (e.mp a) b
  · exact absurd (e.mpr b) a
  · exact ⟨a1.trans b1.symm, a2.trans b2.symm⟩
theorem nz_lt {m n : Int32} (b : m.toInt ≤ n.toInt) : m < n ↔ ¬ m = n := ⟨fun l e => by rw [e] at l; exact absurd (q_lt.mp l) (Int.lt_irrefl _), fun ne => q_lt.mpr (by
  rcases Int.lt_or_le m.toInt n.toInt with u | u
  · exact u
  · exact absurd (Int32.toInt_inj.mp (Int.le_antisymm b u)) ne)⟩
theorem p15 {x : Int32} : (0 ≤ x ∧ x < 16) ↔ (0 ≤ x ∧ x ≤ 15) := by
  have t15 : (15 : Int32).toInt = 15 := rfl
  have t16 : (16 : Int32).toInt = 16 := rfl
  rw [q_lt, q_le (y := 15), t15, t16]
  exact ⟨fun z => ⟨z.1, by omega⟩, fun z => ⟨z.1, by omega⟩⟩

theorem f_le {h : Hp_} {c f : Nat} {n : Int} (I : Iv h) (e : tf c f = (0, n)) : 0 ≤ (h_i h c f).toInt ∧ (h_i h c f).toInt ≤ n := by
  have rg := I.2.1 c f
  rw [e] at rg
  exact ⟨rg.1, rg.2⟩
theorem i256 {i j : Nat} (hi : i < 16) (hj : j < 16) : ((Int32.ofNat i * 16) + Int32.ofNat j).toNatClampNeg = 16 * i + j ∧ vp_in ((Int32.ofNat i * 16) + Int32.ofNat j) 256 := by
  have t16 : (16 : Int32).toInt = 16 := rfl
  have ei := on_j (n := i) (by omega)
  have ej := on_j (n := j) (by omega)
  have a : (Int32.ofNat i * 16).toInt = (i : Int) * 16 := by rw [tx_mul (by rw [t16]; omega) (by rw [t16]; omega), t16, ei]
  have b : (Int32.ofNat i * 16 + Int32.ofNat j).toInt = (i : Int) * 16 + (j : Int) := by rw [tx_add (by omega) (by omega), a, ej]
  have n := n_nat (x := Int32.ofNat i * 16 + Int32.ofNat j) (by omega)
  exact ⟨by omega, dp_in (lo := 0) (hi := 255) ⟨by show (0 : Int) ≤ _; omega, by show _ ≤ (255 : Int); omega⟩ (by decide) (by decide)⟩
theorem mn_i (x y : Int32) : (if x < y then x else y).toInt = min x.toInt y.toInt := by
  by_cases c : x < y
  · rw [if_pos c]
    have := q_lt.mp c
    omega
  · rw [if_neg c]
    have := q_nlt c
    omega
/-- the table while a path is laid -/
noncomputable def Lv (E : Nat → Nat × Nat × Int) (n a b : Nat) (m : Int) (D : Nat → Nat → Int) (P : Nat → Nat → Prop) (h : Hp_) : Prop := ∀ u v, u < 16 → v < 16 → ((0 ≤ dX h u v ∧ dX h u v ≤ 1000000) ∧ (dX h u v < 1000000 → ∃ k, wkq (exE E n (a, b, m)) (n + 1) u k v (dX h u v))) ∧ dX h u v ≤ D u v ∧ (P u v → dX h u v ≤ D u a + m + D b v ∧ dX h u v ≤ D u b + m + D a v)
theorem Lv.cg {E : Nat → Nat × Nat × Int} {n a b : Nat} {m : Int} {D : Nat → Nat → Int} {P Q : Nat → Nat → Prop} {h : Hp_} (l : Lv E n a b m D P h) (pq : ∀ u v, u < 16 → v < 16 → Q u v → P u v) : Lv E n a b m D Q h := fun u v hu hv => ⟨(l u v hu hv).1, (l u v hu hv).2.1, fun q => (l u v hu hv).2.2 (pq u v hu hv q)⟩
theorem Lv.st {E : Nat → Nat × Nat × Int} {n a b : Nat} {m : Int} {D : Nat → Nat → Int} {P : Nat → Nat → Prop} {h : Hp_} (l : Lv E n a b m D P h) (ha : a < 16) (hb : b < 16) (hm : 1 ≤ m) {i j : Nat} (hi : i < 16) (hj : j < 16) {y : Int32} (ey : y.toInt = min (min (dX h i b + m + dX h a j) (dX h i a + m + dX h b j)) (dX h i j)) : Lv E n a b m D (fun u v => P u v ∨ (u = i ∧ v = j)) (h_im h 30 (16 * i + j) y) := fun u v hu hv => by
  have lij := l i j hi hj
  have lia := l i a hi ha
  have lib := l i b hi hb
  have laj := l a j ha hj
  have lbj := l b j hb hj
  by_cases c : u = i ∧ v = j
  · have e : dX (h_im h 30 (16 * i + j) y) u v = y.toInt := by
      unfold dX
      rw [c.1, c.2, im_at]
    rw [e, c.1, c.2]
    refine ⟨⟨⟨by omega, by omega⟩, fun yb => ?_⟩, by omega, fun _ => ⟨by omega, by omega⟩⟩
    have en : exE E n (a, b, m) n = (a, b, m) := if_pos rfl
    by_cases q1 : y.toInt = dX h i j
    · rw [q1] at yb ⊢
      exact lij.1.2 yb
    · by_cases q2 : y.toInt = dX h i a + m + dX h b j
      · obtain ⟨k1, w1⟩ := lia.1.2 (by omega)
        obtain ⟨k2, w2⟩ := lbj.1.2 (by omega)
        have w3 : wkq (exE E n (a, b, m)) (n + 1) i (k1 + 1) b (dX h i a + m) := ⟨n, by omega, Or.inl ⟨by rw [en], by rw [en]; show wkq _ _ _ _ a (dX h i a + m - m); rw [Int.add_sub_cancel]; exact w1⟩⟩
        rw [q2]
        exact ⟨_, wkq_cc w3 k2 _ _ w2⟩
      · have q3 : y.toInt = dX h i b + m + dX h a j := by omega
        obtain ⟨k1, w1⟩ := lib.1.2 (by omega)
        obtain ⟨k2, w2⟩ := laj.1.2 (by omega)
        have w3 : wkq (exE E n (a, b, m)) (n + 1) i (k1 + 1) a (dX h i b + m) := ⟨n, by omega, Or.inr ⟨by rw [en], by rw [en]; show wkq _ _ _ _ b (dX h i b + m - m); rw [Int.add_sub_cancel]; exact w1⟩⟩
        rw [q3]
        exact ⟨_, wkq_cc w3 k2 _ _ w2⟩
  · have e : dX (h_im h 30 (16 * i + j) y) u v = dX h u v := by
      unfold dX
      rw [h_i_im, if_neg (fun z => c (by have := z.2; omega))]
    rw [e]
    exact ⟨(l u v hu hv).1, (l u v hu hv).2.1, fun q => (l u v hu hv).2.2 (q.elim id (fun q => absurd q c))⟩
theorem ly_in (d : Nat) (h0 : Hp_) {E : Nat → Nat × Nat × Int} {n a b : Nat} {m : Int} {D : Nat → Nat → Int} (ha : a < 16) (hb : b < 16) (hm : 1 ≤ m ∧ m ≤ 60) (x3 : Int32) (e3 : x3.toInt = m) {i : Nat} (hi : i < 16) (K : Int32 → Hp_ → Prop) (O : ∀ h, Iv h → Fr [30999] h0 h → Lv E n a b m D (fun u _ => u < i + 1) h → AW (m_X9_lay (d + 1) 0 0) 0 0 14 [(0, .ref 10), (1, .int (Int32.ofNat a)), (2, .int (Int32.ofNat b)), (3, .int x3), (4, .int (Int32.ofNat i + 1))] [] h (kI K)) :
    ∀ (r j : Nat) (h : Hp_), j + r = 16 → Iv h → Fr [30999] h0 h → Lv E n a b m D (fun u v => u < i ∨ (u = i ∧ v < j)) h → AW (m_X9_lay (d + 1) 0 0) 0 0 24 [(0, .ref 10), (1, .int (Int32.ofNat a)), (2, .int (Int32.ofNat b)), (3, .int x3), (4, .int (Int32.ofNat i)), (5, .int (Int32.ofNat j))] [] h (kI K) := by
  have t16 : (16 : Int32).toInt = 16 := rfl
  intro r
  induction r with
  | zero =>
    intro j h ej I F l
    exact t_X9_lay_24 d h I.1 _ _ x3 _ _ K ⟨fun _ => O h I F (l.cg (fun u v hu hv q => by omega)), fun z => absurd (q_le.mpr (by rw [t16, on_j (by omega)]; omega)) z⟩
  | succ r ih =>
    intro j h ej I F l
    have hj : j < 16 := by omega
    have k1 := i256 hi ha
    have k2 := i256 hb hj
    have k3 := i256 hi hb
    have k4 := i256 ha hj
    have k5 := i256 hi hj
    have lij := (l i j hi hj).1.1
    have lia := (l i a hi ha).1.1
    have lib := (l i b hi hb).1.1
    have laj := (l a j ha hj).1.1
    have lbj := (l b j hb hj).1.1
    unfold dX at lij lia lib laj lbj
    refine t_X9_lay_24 d h I.1 _ _ x3 _ _ K ⟨fun z => by have := q_le.mp z; rw [t16, on_j (by omega)] at this; omega, fun _ => ⟨k1.2, k2.2, k3.2, k4.2, k5.2, k5.2, ?_⟩⟩
    rw [k1.1, k2.1, k3.1, k4.1, k5.1, on_s (by omega)]
    have s1 : (h_i h 30 (16 * i + b) + x3 + h_i h 30 (16 * a + j)).toInt = dX h i b + m + dX h a j := by
      unfold dX
      rw [tx_add (by rw [tx_add (by omega) (by omega)]; omega) (by rw [tx_add (by omega) (by omega)]; omega), tx_add (by omega) (by omega), e3]
    have s2 : (h_i h 30 (16 * i + a) + x3 + h_i h 30 (16 * b + j)).toInt = dX h i a + m + dX h b j := by
      unfold dX
      rw [tx_add (by rw [tx_add (by omega) (by omega)]; omega) (by rw [tx_add (by omega) (by omega)]; omega), tx_add (by omega) (by omega), e3]
    exact ih (j + 1) _ (by omega) (tr_ 30 (by decide +kernel) I _ _ (by decide) (by decide)) (F.im (inw_row (by decide +kernel) _)) ((l.st ha hb hm.1 hi hj (by rw [mn_i, mn_i, s1, s2]; rfl)).cg (fun u v hu hv q => by omega))
theorem ly_out (d : Nat) (h0 : Hp_) {E : Nat → Nat × Nat × Int} {n a b : Nat} {m : Int} {D : Nat → Nat → Int} (ha : a < 16) (hb : b < 16) (hm : 1 ≤ m ∧ m ≤ 60) (x3 : Int32) (e3 : x3.toInt = m) (K : Int32 → Hp_ → Prop) (O : ∀ h, Iv h → Fr [30999] h0 h → Lv E n a b m D (fun _ _ => True) h → K ((h_i h 10 1 + 1) - 1) (h_im h 10 1 (h_i h 10 1 + 1))) :
    ∀ (r i : Nat) (h : Hp_), i + r = 16 → Iv h → Fr [30999] h0 h → Lv E n a b m D (fun u _ => u < i) h → AW (m_X9_lay (d + 1) 0 0) 0 0 14 [(0, .ref 10), (1, .int (Int32.ofNat a)), (2, .int (Int32.ofNat b)), (3, .int x3), (4, .int (Int32.ofNat i))] [] h (kI K) := by
  have t16 : (16 : Int32).toInt = 16 := rfl
  intro r
  induction r with
  | zero =>
    intro i h ei I F l
    exact t_X9_lay_14 d h I.1 _ _ x3 _ K ⟨fun _ => O h I F (l.cg (fun u v hu hv q => by omega)), fun z => absurd (q_le.mpr (by rw [t16, on_j (by omega)]; omega)) z⟩
  | succ r ih =>
    intro i h ei I F l
    refine t_X9_lay_14 d h I.1 _ _ x3 _ K ⟨fun z => by have := q_le.mp z; rw [t16, on_j (by omega)] at this; omega, fun _ => ?_⟩
    refine ly_in d h0 ha hb hm x3 e3 (i := i) (by omega) K (fun h' I' F' l' => ?_) 16 0 h (by omega) I F (l.cg (fun u v hu hv q => by omega))
    rw [on_s (by omega)]
    exact ih (i + 1) h' (by omega) I' F' l'
noncomputable def okPx (m x1 x2 x3 : Int32) : Prop := (0 ≤ x1 ∧ x1 < 16) ∧ (0 ≤ x2 ∧ x2 < 16) ∧ ¬ x1 = x2 ∧ (1 ≤ x3 ∧ x3 ≤ 60) ∧ m < 40
noncomputable def okPn (m x1 x2 x3 : Int32) : Prop := (0 ≤ x1 ∧ x1 ≤ 15) ∧ (0 ≤ x2 ∧ x2 ≤ 15) ∧ ¬ x1 = x2 ∧ (1 ≤ x3 ∧ x3 ≤ 60) ∧ ¬ m = 40
theorem on_of {x : Int32} (b : 0 ≤ x.toInt ∧ x.toInt ≤ 1000000) : Int32.ofNat x.toNatClampNeg = x := by
  have n := n_nat (x := x) b.1
  exact Int32.toInt_inj.mp (by rw [on_j (by omega)]; exact n)
theorem ev_ {h : Hp_} (I : Iv h) (x : ∀ i, i < eN h → 1 ≤ (h_i h 202 i).toInt) : Ev (eE h) (eN h) := fun i hi => by
  have r0 := I.2.1 200 i
  have r1 := I.2.1 201 i
  have r2 := I.2.1 202 i
  rw [tfa_tf (show tfa 200 = some (0, 15) by decide +kernel)] at r0
  rw [tfa_tf (show tfa 201 = some (0, 15) by decide +kernel)] at r1
  rw [tfa_tf (show tfa 202 = some (0, 60) by decide +kernel)] at r2
  have a0 : 0 ≤ (h_i h 200 i).toInt := r0.1
  have a1 : (h_i h 200 i).toInt ≤ 15 := r0.2
  have b0 : 0 ≤ (h_i h 201 i).toInt := r1.1
  have b1 : (h_i h 201 i).toInt ≤ 15 := r1.2
  have n0 := n_nat (x := h_i h 200 i) a0
  have n1 := n_nat (x := h_i h 201 i) b0
  exact ⟨⟨by show (h_i h 200 i).toNatClampNeg < 16; omega, by show (h_i h 201 i).toNatClampNeg < 16; omega⟩, x i hi, r2.2⟩
theorem c_ptX (d : Nat) {h : Hp_} (I : Iv h) (x : ExP h) (x1 x2 x3 : Int32) : Ci (m_X11_path (d + 2) 0 0) [.ref 0, .int x1, .int x2, .int x3] h (fun r h' => Iv h' ∧ Fr [10001, 30999] h h' ∧ oca (okPx (h_i h 10 1) x1 x2 x3) (h_i h 10 1) r (h_i h' 10 1) ∧ (okPx (h_i h 10 1) x1 x2 x3 → Exd (exE (eE h) (eN h) (x1.toNatClampNeg, x2.toNatClampNeg, x3.toInt)) (eN h + 1) 1000000 (dX h')) ∧ (¬ okPx (h_i h 10 1) x1 x2 x3 → h' = h)) := by
  have t1 : (1 : Int32).toInt = 1 := rfl
  have t16 : (16 : Int32).toInt = 16 := rfl
  have t0 : (0 : Int32).toInt = 0 := rfl
  have t60 : (60 : Int32).toInt = 60 := rfl
  have tc : (40 : Int32).toInt = 40 := rfl
  have rg := I.2.1 10 1
  rw [show tf 10 1 = (0, 40) by decide +kernel] at rg
  have r0 : 0 ≤ (h_i h 10 1).toInt := rg.1
  have no : ¬ okPx (h_i h 10 1) x1 x2 x3 → Iv h ∧ Fr [10001, 30999] h h ∧ oca (okPx (h_i h 10 1) x1 x2 x3) (h_i h 10 1) (-1) (h_i h 10 1) ∧ (okPx (h_i h 10 1) x1 x2 x3 → Exd (exE (eE h) (eN h) (x1.toNatClampNeg, x2.toNatClampNeg, x3.toInt)) (eN h + 1) 1000000 (dX h)) ∧ (¬ okPx (h_i h 10 1) x1 x2 x3 → h = h) := fun n => ⟨I, Fr.rf _ _, Or.inr ⟨n, rfl, rfl⟩, fun o => absurd o n, fun _ => rfl⟩
  refine t_X11_path d h x1 x2 x3 _ (Ci.mono (s_X11_isPlace _ h x1) (fun r h1 q => ?_))
  obtain ⟨er, eh⟩ := q
  subst er eh
  refine ⟨I.1, fun z => no (fun o => bI_0.mp z o.1), fun z => Ci.mono (s_X11_isPlace _ _ x2) (fun r h2 q => ?_)⟩
  obtain ⟨er, eh⟩ := q
  subst er eh
  refine ⟨I.1, fun z2 => no (fun o => bI_0.mp z2 o.2.1), fun z2 => ⟨fun e => no (fun o => o.2.2.1 e), fun ne => ⟨fun a3 => ?_, fun n => no (fun o => n o.2.2.2.1)⟩⟩⟩
  have b1 : 0 ≤ x1 ∧ x1 < 16 := Decidable.byContradiction (fun n => z (bI_0.mpr n))
  have b2 : 0 ≤ x2 ∧ x2 < 16 := Decidable.byContradiction (fun n => z2 (bI_0.mpr n))
  have c1 := q_le.mp b1.1
  have c1' := q_lt.mp b1.2
  have c2 := q_le.mp b2.1
  have c2' := q_lt.mp b2.2
  have c3 := q_le.mp a3.1
  have c3' := q_le.mp a3.2
  rw [t0] at c1 c2
  rw [t16] at c1' c2'
  rw [t1] at c3
  rw [t60] at c3'
  have n1 := n_nat (x := x1) c1
  have n2 := n_nat (x := x2) c2
  refine t_X9_lay d h2 I.1 x1 x2 x3 _ ⟨fun l => ?_, fun n => ⟨I.1, no (fun o => n o.2.2.2.2)⟩⟩
  have l0 := q_lt.mp l
  have ex : (h_i h2 10 1 + 1).toInt = (h_i h2 10 1).toInt + 1 := tx_add (by rw [t1]; omega) (by rw [t1]; omega)
  have ev := ev_ I x.1
  have L0 : Lv (eE h2) (eN h2) x1.toNatClampNeg x2.toNatClampNeg x3.toInt (dX h2) (fun u _ => u < 0) h2 := fun u v hu hv => by
    have q := x.2 u hu v hv
    exact ⟨⟨q.1, fun c => by
      obtain ⟨k, w⟩ := q.2.2 c
      exact ⟨k, wkq_mo (Nat.le_succ _) (fun i hi => if_neg (by omega)) k v _ w⟩⟩, Int.le_refl _, fun c => absurd c (by omega)⟩
  have go := ly_out d h2 (E := eE h2) (n := eN h2) (D := dX h2) (a := x1.toNatClampNeg) (b := x2.toNatClampNeg) (m := x3.toInt) (by omega) (by omega) ⟨c3, c3'⟩ x3 rfl (fun r h' => Wf h' ∧ (Iv h' ∧ Fr [10001, 30999] h2 h' ∧ oca (okPx (h_i h2 10 1) x1 x2 x3) (h_i h2 10 1) r (h_i h' 10 1) ∧ (okPx (h_i h2 10 1) x1 x2 x3 → Exd (exE (eE h2) (eN h2) (x1.toNatClampNeg, x2.toNatClampNeg, x3.toInt)) (eN h2 + 1) 1000000 (dX h')) ∧ (¬ okPx (h_i h2 10 1) x1 x2 x3 → h' = h2))) (fun h9 I9 F9 V9 => ?_) 16 0 h2 (by omega) I (Fr.rf _ _) L0
  · rw [on_of ⟨c1, by omega⟩, on_of ⟨c2, by omega⟩] at go
    exact go
  · have e9 : h_i h9 10 1 = h_i h2 10 1 := (F9.2 10 1 (by decide +kernel)).1
    have I5 : Iv (h_im h9 10 1 (h_i h9 10 1 + 1)) := I9.im (by rw [show tf 10 1 = (0, 40) by decide +kernel, e9]; exact ⟨by show (0 : Int) ≤ _; omega, by show _ ≤ (40 : Int); omega⟩) (by decide)
    refine ⟨I5.1, I5, (F9.more (b := [10001, 30999]) (by decide +kernel)).im (by decide +kernel), Or.inl ⟨⟨b1, b2, ne, a3, l⟩, by rw [e9]; exact tx_back _, by rw [im_at, e9]⟩, fun _ => ?_, fun n => absurd ⟨b1, b2, ne, a3, l⟩ n⟩
    have dd : dX (h_im h9 10 1 (h_i h9 10 1 + 1)) = dX h9 := by
      unfold dX
      rw [show h_i (h_im h9 10 1 (h_i h9 10 1 + 1)) 30 = h_i h9 30 from funext (fun k => im_ne (by decide))]
    rw [dd]
    exact x.2.add ev (by omega) (by omega) c3 (fun u v hu hv => ⟨(V9 u v hu hv).1, (V9 u v hu hv).2.1, ((V9 u v hu hv).2.2 trivial).1, ((V9 u v hu hv).2.2 trivial).2⟩)
theorem c_ptM (d : Nat) {h : Hp_} (I : Iv h) (x1 x2 x3 : Int32) : Ci (m_X12_path (d + 2) 0 0) [.ref 1, .int x1, .int x2, .int x3] h (fun r h' => Iv h' ∧ Fr [1006, 200999, 201999, 202999] h h' ∧ oca (okPn (h_i h 1 6) x1 x2 x3) (h_i h 1 6) r (h_i h' 1 6) ∧ (okPn (h_i h 1 6) x1 x2 x3 → eE h' = exE (eE h) (eN h) (x1.toNatClampNeg, x2.toNatClampNeg, x3.toInt) ∧ eN h' = eN h + 1) ∧ (¬ okPn (h_i h 1 6) x1 x2 x3 → h' = h)) := by
  have t1 : (1 : Int32).toInt = 1 := rfl
  have tc : (40 : Int32).toInt = 40 := rfl
  have rg := I.2.1 1 6
  rw [show tf 1 6 = (0, 40) by decide +kernel] at rg
  have r0 : 0 ≤ (h_i h 1 6).toInt := rg.1
  have r1 : (h_i h 1 6).toInt ≤ 40 := rg.2
  have no : ¬ okPn (h_i h 1 6) x1 x2 x3 → Iv h ∧ Fr [1006, 200999, 201999, 202999] h h ∧ oca (okPn (h_i h 1 6) x1 x2 x3) (h_i h 1 6) (-1) (h_i h 1 6) ∧ (okPn (h_i h 1 6) x1 x2 x3 → eE h = exE (eE h) (eN h) (x1.toNatClampNeg, x2.toNatClampNeg, x3.toInt) ∧ eN h = eN h + 1) ∧ (¬ okPn (h_i h 1 6) x1 x2 x3 → h = h) := fun n => ⟨I, Fr.rf _ _, Or.inr ⟨n, rfl, rfl⟩, fun o => absurd o n, fun _ => rfl⟩
  refine t_X12_path d h I.1 x1 x2 x3 _ ⟨fun n => no (fun o => n o.1), fun a1 => ⟨fun n => no (fun o => n o.2.1), fun a2 => ⟨fun e => no (fun o => o.2.2.1 e), fun nx => ⟨fun n => no (fun o => n o.2.2.2.1), fun a3 => ⟨fun ne => ?_, fun e => no (fun o => o.2.2.2.2 e)⟩⟩⟩⟩⟩
  have l := q_lt.mp ((nz_lt (by rw [tc]; exact r1)).mpr ne)
  have ex : (h_i h 1 6 + 1).toInt = (h_i h 1 6).toInt + 1 := tx_add (by rw [t1]; omega) (by rw [t1]; omega)
  have v : vp_in (h_i h 1 6) 40 := dp_in (lo := 0) (hi := 39) ⟨r0, by show _ ≤ (39 : Int); omega⟩ (by decide) (by decide)
  have p3 : rin x3.toInt (0, 60) := ⟨by have := q_le.mp a3.1; show (0 : Int) ≤ _; omega, by have := q_le.mp a3.2; exact this⟩
  refine ⟨v, v, v, ((((I.im (a := 200) (by rw [tfa_tf (show tfa 200 = some (0, 15) by decide +kernel)]; exact ⟨by have := q_le.mp a1.1; exact this, by have := q_le.mp a1.2; exact this⟩) (jw_jr (by decide) (by decide) _)).im (a := 201) (by rw [tfa_tf (show tfa 201 = some (0, 15) by decide +kernel)]; exact ⟨by have := q_le.mp a2.1; exact this, by have := q_le.mp a2.2; exact this⟩) (jw_jr (by decide) (by decide) _)).im (a := 202) (by rw [tfa_tf (show tfa 202 = some (0, 60) by decide +kernel)]; exact p3) (jw_jr (by decide) (by decide) _)).im (a := 1) (k := 6) (by rw [show tf 1 6 = (0, 40) by decide +kernel]; exact ⟨by show (0 : Int) ≤ _; omega, by show _ ≤ (40 : Int); omega⟩) (by decide)), ((((Fr.rf _ _).im (inw_row (by decide +kernel) _)).im (inw_row (by decide +kernel) _)).im (inw_row (by decide +kernel) _)).im (by decide +kernel), Or.inl ⟨⟨a1, a2, nx, a3, ne⟩, tx_back _, im_at⟩, fun _ => ⟨funext (fun i => ?_), ?_⟩, fun n => absurd ⟨a1, a2, nx, a3, ne⟩ n⟩
  · unfold eE exE eN
    by_cases c : i = (h_i h 1 6).toNatClampNeg
    · rw [if_pos c]
      refine Prod.ext ?_ (Prod.ext ?_ ?_)
      · show (h_i _ 200 i).toNatClampNeg = x1.toNatClampNeg
        rw [im_ne (by decide), im_ne (by decide), im_ne (by decide), c, im_at]
      · show (h_i _ 201 i).toNatClampNeg = x2.toNatClampNeg
        rw [im_ne (by decide), im_ne (by decide), c, im_at]
      · show (h_i _ 202 i).toInt = x3.toInt
        rw [im_ne (by decide), c, im_at]
    · rw [if_neg c]
      refine Prod.ext ?_ (Prod.ext ?_ ?_)
      · show (h_i _ 200 i).toNatClampNeg = (h_i h 200 i).toNatClampNeg
        rw [im_ne (by decide), im_ne (by decide), im_ne (by decide), h_i_im, if_neg (fun y => c y.2)]
      · show (h_i _ 201 i).toNatClampNeg = (h_i h 201 i).toNatClampNeg
        rw [im_ne (by decide), im_ne (by decide), h_i_im, if_neg (fun y => c y.2), im_ne (by decide)]
      · show (h_i _ 202 i).toInt = (h_i h 202 i).toInt
        rw [im_ne (by decide), h_i_im, if_neg (fun y => c y.2), im_ne (by decide), im_ne (by decide)]
  · have n0 := n_nat (x := h_i h 1 6) r0
    have n1 := n_nat (x := h_i h 1 6 + 1) (by omega)
    show (h_i (h_im _ 1 6 (h_i h 1 6 + 1)) 1 6).toNatClampNeg = (h_i h 1 6).toNatClampNeg + 1
    rw [im_at]
    omega
theorem okP_eq {m x1 x2 x3 : Int32} (b : m.toInt ≤ 40) : okPx m x1 x2 x3 ↔ okPn m x1 x2 x3 := by
  unfold okPx okPn
  rw [p15, p15, nz_lt (n := 40) b]
noncomputable def PtX (x1 x2 x3 : Int32) (h : Hp_) (r1 : Int32) (h1 : Hp_) : Prop := Fr [10001, 30999] h h1 ∧ oca (okPx (h_i h 10 1) x1 x2 x3) (h_i h 10 1) r1 (h_i h1 10 1) ∧ (okPx (h_i h 10 1) x1 x2 x3 → Exd (exE (eE h) (eN h) (x1.toNatClampNeg, x2.toNatClampNeg, x3.toInt)) (eN h + 1) 1000000 (dX h1)) ∧ (¬ okPx (h_i h 10 1) x1 x2 x3 → h1 = h)
noncomputable def PtM (x1 x2 x3 : Int32) (h1 : Hp_) (r2 : Int32) (h2 : Hp_) : Prop := Fr [1006, 200999, 201999, 202999] h1 h2 ∧ oca (okPn (h_i h1 1 6) x1 x2 x3) (h_i h1 1 6) r2 (h_i h2 1 6) ∧ (okPn (h_i h1 1 6) x1 x2 x3 → eE h2 = exE (eE h1) (eN h1) (x1.toNatClampNeg, x2.toNatClampNeg, x3.toInt) ∧ eN h2 = eN h1 + 1) ∧ (¬ okPn (h_i h1 1 6) x1 x2 x3 → h2 = h1)
theorem ExR.pt {h h1 h2 : Hp_} {x1 x2 x3 r1 r2 : Int32} (I : Iv h) (L : ExR h) (k1 : PtX x1 x2 x3 h r1 h1) (k2 : PtM x1 x2 x3 h1 r2 h2) : ExR h2 ∧ r1 = r2 := by
  have e : h_i h 10 1 = h_i h 1 6 := L.1
  have e1 : h_i h1 1 6 = h_i h 1 6 := (k1.1.2 1 6 (by decide +kernel)).1
  obtain ⟨f1, kp, xp, np⟩ := k1
  obtain ⟨f2, kq, xq, nq⟩ := k2
  rw [e1] at kq xq nq
  rw [e] at kp xp np
  have rg := I.2.1 1 6
  rw [show tf 1 6 = (0, 40) by decide +kernel] at rg
  have oe := okP_eq (x1 := x1) (x2 := x2) (x3 := x3) rg.2
  have z := oca_eq oe kp kq
  have eE1 : eE h1 = eE h := by
    unfold eE
    rw [show h_i h1 200 = h_i h 200 from funext (fun k => fr_i f1 (by decide +kernel) k), show h_i h1 201 = h_i h 201 from funext (fun k => fr_i f1 (by decide +kernel) k), show h_i h1 202 = h_i h 202 from funext (fun k => fr_i f1 (by decide +kernel) k)]
  have eN1 : eN h1 = eN h := by
    unfold eN
    rw [e1]
  have dX2 : dX h2 = dX h1 := by
    unfold dX
    rw [show h_i h2 30 = h_i h1 30 from funext (fun k => fr_i f2 (by decide +kernel) k)]
  refine ⟨⟨?_, ?_⟩, z.1⟩
  · rw [(f2.2 10 1 (by decide +kernel)).1]
    exact z.2
  · by_cases o : okPx (h_i h 1 6) x1 x2 x3
    · have o' := oe.mp o
      have xx := xp o
      have yy := xq o'
      rw [eE1, eN1] at yy
      refine ⟨fun i hi => ?_, ?_⟩
      · have w : (eE h2 i).2.2 = (h_i h2 202 i).toInt := rfl
        rw [← w, yy.1]
        rw [yy.2] at hi
        unfold exE
        by_cases c : i = eN h
        · rw [if_pos c]
          exact q_le.mp o.2.2.2.1.1
        · rw [if_neg c]
          exact L.2.1 i (by omega)
      · rw [yy.1, yy.2, dX2]
        exact xx
    · rw [nq (fun y => o (oe.mpr y)), np o]
      exact L.2
/-- far while the reference searches -/
noncomputable def Fi (u : Nat) (h0 h : Hp_) : Prop := Iv h ∧ Fr [203999] h0 h ∧ (∀ v, v < 16 → (0 ≤ (h_i h 203 v).toInt ∧ (h_i h 203 v).toInt ≤ 100000) ∧ ((h_i h 203 v).toInt < 100000 → ∃ k, wkq (eE h0) (eN h0) u k v (h_i h 203 v).toInt)) ∧ (h_i h 203 u).toInt ≤ 0
theorem Fi.e {u : Nat} {h0 h : Hp_} (f : Fi u h0 h) : eE h = eE h0 ∧ eN h = eN h0 ∧ ∀ k, h_i h 200 k = h_i h0 200 k ∧ h_i h 201 k = h_i h0 201 k ∧ h_i h 202 k = h_i h0 202 k := by
  have a : h_i h 200 = h_i h0 200 := funext (fun k => fr_i f.2.1 (by decide +kernel) k)
  have b : h_i h 201 = h_i h0 201 := funext (fun k => fr_i f.2.1 (by decide +kernel) k)
  have c : h_i h 202 = h_i h0 202 := funext (fun k => fr_i f.2.1 (by decide +kernel) k)
  refine ⟨by unfold eE; rw [a, b, c], by unfold eN; rw [(f.2.1.2 1 6 (by decide +kernel)).1], fun k => ⟨by rw [a], by rw [b], by rw [c]⟩⟩
theorem Fi.st {u : Nat} {h0 h : Hp_} (f : Fi u h0 h) {p : Nat} (hp : p < 16) {y : Int32} (l : 0 ≤ y.toInt) (c : y.toInt < (h_i h 203 p).toInt) (w : y.toInt < 100000 → ∃ k, wkq (eE h0) (eN h0) u k p y.toInt) : Fi u h0 (h_im h 203 p y) ∧ fsn (h_im h 203 p y) 16 < fsn h 16 := by
  have b := (f.2.2.1 p hp).1
  have s := (fsn_le (h := h) (p := p) (x := y) (by omega) l 16).2 hp
  refine ⟨⟨tr_ 203 (by decide +kernel) f.1 _ _ (by decide) (by decide), f.2.1.im (inw_row (by decide +kernel) _), fun v hv => ?_, ?_⟩, by omega⟩
  · by_cases q : v = p
    · rw [q, im_at]
      exact ⟨⟨l, by omega⟩, w⟩
    · rw [h_i_im, if_neg (fun z => q z.2)]
      exact f.2.2.1 v hv
  · by_cases q : u = p
    · rw [q, im_at]
      have := f.2.2.2
      rw [q] at this
      omega
    · rw [h_i_im, if_neg (fun z => q z.2)]
      exact f.2.2.2
/-- the paths before k are no shorter ways -/
noncomputable def Fk (h0 h : Hp_) (j : Nat) : Prop := ∀ i, i < j → (h_i h 203 (eE h0 i).2.1).toInt ≤ (h_i h 203 (eE h0 i).1).toInt + (eE h0 i).2.2 ∧ (h_i h 203 (eE h0 i).1).toInt ≤ (h_i h 203 (eE h0 i).2.1).toInt + (eE h0 i).2.2
theorem wo_43 (d : Nat) (h0 : Hp_) (I0 : Iv h0) (x0 : ∀ i, i < eN h0 → 1 ≤ (h_i h0 202 i).toInt) (u : Nat) (x2 : Int32) (K : Int32 → Hp_ → Prop) (N : Nat) (k0 : ∀ h, Fi u h0 h → Fk h0 h (eN h0) → AW (m_X12_walkOf (d + 0) 0 0) 0 0 34 [(0, .ref 1), (2, .int x2), (3, .int 0)] [] h (kI K)) (k1 : ∀ h, Fi u h0 h → fsn h 16 < N → AW (m_X12_walkOf (d + 0) 0 0) 0 0 34 [(0, .ref 1), (2, .int x2), (3, .int 1)] [] h (kI K)) :
    ∀ (r j : Nat) (x3 : Int32) (h : Hp_), j + r = eN h0 → Fi u h0 h → ((x3 = 0 ∧ fsn h 16 ≤ N ∧ Fk h0 h j) ∨ (x3 = 1 ∧ fsn h 16 < N)) → AW (m_X12_walkOf (d + 0) 0 0) 0 0 43 [(0, .ref 1), (2, .int x2), (3, .int x3), (4, .int (Int32.ofNat j))] [] h (kI K) := by
  have ev := ev_ I0 x0
  have b6 := f_le (c := 1) (f := 6) (n := 40) I0 (by decide +kernel)
  have n6 := n_nat (x := h_i h0 1 6) b6.1
  have en : (eN h0 : Int) = (h_i h0 1 6).toInt := n6
  intro r
  induction r with
  | zero =>
    intro j x3 h ej f c
    have e6 : h_i h 1 6 = h_i h0 1 6 := (f.2.1.2 1 6 (by decide +kernel)).1
    have ejn : j = eN h0 := by omega
    refine t_X12_walkOf_43 d h f.1.1 x2 x3 _ K ⟨fun _ => ?_, fun z => absurd (q_le.mpr (by rw [e6, on_j (by omega)]; omega)) z⟩
    rcases c with ⟨c, _, c'⟩ | ⟨c, c'⟩
    · rw [c]
      exact k0 h f (ejn ▸ c')
    · rw [c]
      exact k1 h f c'
  | succ r ih =>
    intro j x3 h ej f c
    have hj : j < eN h0 := by omega
    have q := ev j hj
    have e6 : h_i h 1 6 = h_i h0 1 6 := (f.2.1.2 1 6 (by decide +kernel)).1
    have ee := f.e
    have kj : (Int32.ofNat j).toNatClampNeg = j := on_k (by omega)
    have vj : vp_in (Int32.ofNat j) 40 := on_in (by omega) (by decide)
    have r0 := I0.2.1 200 j
    have r1 := I0.2.1 201 j
    rw [tfa_tf (show tfa 200 = some (0, 15) by decide +kernel)] at r0
    rw [tfa_tf (show tfa 201 = some (0, 15) by decide +kernel)] at r1
    have va : vp_in (h_i h0 200 j) 16 := dp_in (lo := 0) (hi := 15) r0 (by decide) (by decide)
    have vb : vp_in (h_i h0 201 j) 16 := dp_in (lo := 0) (hi := 15) r1 (by decide) (by decide)
    have em : (h_i h0 202 j).toInt = (eE h0 j).2.2 := rfl
    have ea : (h_i h0 200 j).toNatClampNeg = (eE h0 j).1 := rfl
    have eb : (h_i h0 201 j).toNatClampNeg = (eE h0 j).2.1 := rfl
    have fa := f.2.2.1 _ q.1.1
    have fb := f.2.2.1 _ q.1.2
    have nx : ∀ (h' : Hp_) (y : Int32), Fi u h0 h' → ((y = 0 ∧ fsn h' 16 ≤ N ∧ Fk h0 h' (j + 1)) ∨ (y = 1 ∧ fsn h' 16 < N)) → AW (m_X12_walkOf (d + 0) 0 0) 0 0 43 [(0, .ref 1), (2, .int x2), (3, .int y), (4, .int (Int32.ofNat j + 1))] [] h' (kI K) := fun h' y f' c' => by
      rw [on_s (by omega)]
      exact ih (j + 1) y h' (by omega) f' c'
    have hN : fsn h 16 ≤ N := by rcases c with c | c <;> omega
    have wb : ∀ h', Fi u h0 h' → (h_i h' 203 (eE h0 j).1).toInt + (eE h0 j).2.2 < 100000 → ∃ k, wkq (eE h0) (eN h0) u k (eE h0 j).2.1 ((h_i h' 203 (eE h0 j).1).toInt + (eE h0 j).2.2) := fun h' f' l => by
      obtain ⟨k, w⟩ := (f'.2.2.1 _ q.1.1).2 (by omega)
      exact ⟨k + 1, j, hj, Or.inl ⟨rfl, by rw [Int.add_sub_cancel]; exact w⟩⟩
    have wa : ∀ h', Fi u h0 h' → (h_i h' 203 (eE h0 j).2.1).toInt + (eE h0 j).2.2 < 100000 → ∃ k, wkq (eE h0) (eN h0) u k (eE h0 j).1 ((h_i h' 203 (eE h0 j).2.1).toInt + (eE h0 j).2.2) := fun h' f' l => by
      obtain ⟨k, w⟩ := (f'.2.2.1 _ q.1.2).2 (by omega)
      exact ⟨k + 1, j, hj, Or.inr ⟨rfl, by rw [Int.add_sub_cancel]; exact w⟩⟩
    have sa : (h_i h 203 (eE h0 j).1 + h_i h0 202 j).toInt = (h_i h 203 (eE h0 j).1).toInt + (eE h0 j).2.2 := by
      rw [tx_add (by omega) (by omega), em]
    have sb : (h_i h 203 (eE h0 j).2.1 + h_i h0 202 j).toInt = (h_i h 203 (eE h0 j).2.1).toInt + (eE h0 j).2.2 := by
      rw [tx_add (by omega) (by omega), em]
    have T := t_X12_walkOf_43 d h f.1.1 x2 x3 (Int32.ofNat j) K
    rw [kj, (ee.2.2 j).1, (ee.2.2 j).2.1, (ee.2.2 j).2.2, ea, eb, e6] at T
    refine T ⟨fun z => by have := q_le.mp z; rw [on_j (by omega)] at this; omega, fun _ => ⟨vj, vj, va, vj, vb, fun e1 => ⟨vb, vj, va, fun e2 => nx h x3 f ?_, fun e2 => ⟨vb, vj, va, ?_⟩⟩, fun e1 => ⟨va, vj, vb, vb, vj, va, ?_⟩⟩⟩
    · have e1 := q_le.mp e1
      have e2 := q_le.mp e2
      rw [sa] at e1
      rw [sb] at e2
      rcases c with ⟨c, c1, c2⟩ | c
      · refine Or.inl ⟨c, c1, fun i hi => ?_⟩
        by_cases y : i = j
        · rw [y]
          exact ⟨e1, e2⟩
        · exact c2 i (by omega)
      · exact Or.inr c
    · have e2 := q_nle e2
      rw [sb] at e2
      have s := f.st q.1.1 (y := h_i h 203 (eE h0 j).2.1 + h_i h0 202 j) (by rw [sb]; omega) (by rw [sb]; exact e2) (by rw [sb]; exact wa h f)
      exact nx _ 1 s.1 (Or.inr ⟨rfl, by omega⟩)
    · have e1 := q_nle e1
      rw [sa] at e1
      have s := f.st q.1.2 (y := h_i h 203 (eE h0 j).1 + h_i h0 202 j) (by rw [sa]; omega) (by rw [sa]; exact e1) (by rw [sa]; exact wb h f)
      have at1 : (h_i (h_im h 203 (eE h0 j).2.1 (h_i h 203 (eE h0 j).1 + h_i h0 202 j)) 203 (eE h0 j).2.1) = h_i h 203 (eE h0 j).1 + h_i h0 202 j := im_at
      have s2 : (h_i h 203 (eE h0 j).1 + h_i h0 202 j + h_i h0 202 j).toInt = (h_i h 203 (eE h0 j).1).toInt + (eE h0 j).2.2 + (eE h0 j).2.2 := by
        rw [tx_add (by rw [sa]; omega) (by rw [sa]; omega), sa, em]
      refine ⟨fun _ => nx _ 1 s.1 (Or.inr ⟨rfl, by omega⟩), fun e2 => ⟨vb, vj, va, ?_⟩⟩
      have e2 := q_nle e2
      rw [s2] at e2
      have w2 := wa _ s.1
      rw [at1, sa] at w2
      have t := s.1.st q.1.1 (y := h_i h 203 (eE h0 j).1 + h_i h0 202 j + h_i h0 202 j) (by rw [s2]; omega) (by rw [s2]; exact e2) (by rw [s2]; exact w2)
      exact nx _ 1 t.1 (Or.inr ⟨rfl, by omega⟩)
theorem wo_34 (d : Nat) (h0 : Hp_) (I0 : Iv h0) (x0 : ∀ i, i < eN h0 → 1 ≤ (h_i h0 202 i).toInt) (u : Nat) (x2 : Int32) (K : Int32 → Hp_ → Prop) (k0 : ∀ h, Fi u h0 h → Fk h0 h (eN h0) → AW (m_X12_walkOf (d + 0) 0 0) 0 0 34 [(0, .ref 1), (2, .int x2), (3, .int 0)] [] h (kI K)) :
    ∀ (N : Nat) (h : Hp_), Fi u h0 h → fsn h 16 < N → AW (m_X12_walkOf (d + 0) 0 0) 0 0 34 [(0, .ref 1), (2, .int x2), (3, .int 1)] [] h (kI K)
  | 0, _, _, l => absurd l (by omega)
  | N + 1, h, f, l => t_X12_walkOf_34 d h f.1.1 x2 1 K ⟨fun z => absurd z (by decide), fun _ => wo_43 d h0 I0 x0 u x2 K (fsn h 16) k0 (fun h' f' l' => wo_34 d h0 I0 x0 u x2 K k0 N h' f' (by omega)) (eN h0) 0 0 h (by omega) f (Or.inl ⟨rfl, Nat.le_refl _, fun i hi => absurd hi (by omega)⟩)⟩
/-- what the reference's search answers -/
theorem c_woM (d : Nat) {h : Hp_} (I : Iv h) (x0 : ∀ i, i < eN h → 1 ≤ (h_i h 202 i).toInt) (x1 x2 : Int32) (p1 : 0 ≤ x1.toInt ∧ x1.toInt < 16) (p2 : 0 ≤ x2.toInt ∧ x2.toInt < 16) : Ci (m_X12_walkOf (d + 0) 0 0) [.ref 1, .int x1, .int x2] h (fun r h' => Iv h' ∧ Fr [203999] h h' ∧ ∃ e : Nat → Int, Exr (eE h) (eN h) 100000 x1.toNatClampNeg e ∧ ((e x2.toNatClampNeg < 100000 ∧ r.toInt = e x2.toNatClampNeg) ∨ (¬ e x2.toNatClampNeg < 100000 ∧ r = -1))) := by
  have t16 : (16 : Int32).toInt = 16 := rfl
  have t1 : (1 : Int32).toInt = 1 := rfl
  have t0 : (0 : Int32).toInt = 0 := rfl
  have tm : (100000 : Int32).toInt = 100000 := rfl
  have n1 := n_nat (x := x1) p1.1
  have n2 := n_nat (x := x2) p2.1
  have v2 : vp_in x2 16 := vin_ti p2.1 (by omega)
  have fin : ∀ h', Fi x1.toNatClampNeg h h' → Fk h h' (eN h) → AW (m_X12_walkOf (d + 0) 0 0) 0 0 34 [(0, .ref 1), (2, .int x2), (3, .int 0)] [] h' (kI (fun r h' => Iv h' ∧ Fr [203999] h h' ∧ ∃ e : Nat → Int, Exr (eE h) (eN h) 100000 x1.toNatClampNeg e ∧ ((e x2.toNatClampNeg < 100000 ∧ r.toInt = e x2.toNatClampNeg) ∨ (¬ e x2.toNatClampNeg < 100000 ∧ r = -1)))) := fun h' f g => by
    have X : Exr (eE h) (eN h) 100000 x1.toNatClampNeg (fun v => (h_i h' 203 v).toInt) := fun v hv => ⟨(f.2.2.1 v hv).1, fe_le (d := fun v => (h_i h' 203 v).toInt) g f.2.2.2 |> fun q k t w => q k v t w, (f.2.2.1 v hv).2⟩
    exact t_X12_walkOf_34 d h' f.1.1 x2 0 _ ⟨fun _ => ⟨v2, fun c => ⟨v2, f.1, f.2.1, _, X, Or.inl ⟨by have := q_lt.mp c; rw [tm] at this; exact this, rfl⟩⟩, fun c => ⟨f.1, f.2.1, _, X, Or.inr ⟨fun y => c (q_lt.mpr (by rw [tm]; exact y)), rfl⟩⟩⟩, fun z => absurd rfl z⟩
  have lp : ∀ (r j : Nat) (h' : Hp_), j + r = 16 → Iv h' → Fr [203999] h h' → (∀ v, v < j → h_i h' 203 v = if v = x1.toNatClampNeg then 0 else 100000) → AW (m_X12_walkOf (d + 0) 0 0) 0 0 2 [(0, .ref 1), (1, .int x1), (2, .int x2), (3, .int (Int32.ofNat j))] [] h' (kI (fun r h' => Iv h' ∧ Fr [203999] h h' ∧ ∃ e : Nat → Int, Exr (eE h) (eN h) 100000 x1.toNatClampNeg e ∧ ((e x2.toNatClampNeg < 100000 ∧ r.toInt = e x2.toNatClampNeg) ∨ (¬ e x2.toNatClampNeg < 100000 ∧ r = -1)))) := by
    intro r
    induction r with
    | zero =>
      intro j h' ej I' F' P
      refine t_X12_walkOf_2 d h' I'.1 x1 x2 _ _ ⟨fun _ => ?_, fun z => absurd (q_le.mpr (by rw [t16, on_j (by omega)]; omega)) z⟩
      refine wo_34 d h I x0 x1.toNatClampNeg x2 _ fin (fsn h' 16 + 1) h' ⟨I', F', fun v hv => ?_, ?_⟩ (by omega)
      · rw [P v (by omega)]
        by_cases c : v = x1.toNatClampNeg
        · rw [if_pos c, t0]
          exact ⟨⟨by decide, by decide⟩, fun _ => ⟨0, c, rfl⟩⟩
        · rw [if_neg c, tm]
          exact ⟨⟨by decide, by decide⟩, fun y => absurd y (by decide)⟩
      · rw [P _ (by omega), if_pos rfl, t0]
        exact Int.le_refl _
    | succ r ih =>
      intro j h' ej I' F' P
      have kj : (Int32.ofNat j).toNatClampNeg = j := on_k (by omega)
      have vj : vp_in (Int32.ofNat j) 16 := on_in (by omega) (by decide)
      have go : ∀ y, y = (if j = x1.toNatClampNeg then (0 : Int32) else 100000) → AW (m_X12_walkOf (d + 0) 0 0) 0 0 2 [(0, .ref 1), (1, .int x1), (2, .int x2), (3, .int (Int32.ofNat j + 1))] [] (h_im h' 203 (Int32.ofNat j).toNatClampNeg y) (kI (fun r h' => Iv h' ∧ Fr [203999] h h' ∧ ∃ e : Nat → Int, Exr (eE h) (eN h) 100000 x1.toNatClampNeg e ∧ ((e x2.toNatClampNeg < 100000 ∧ r.toInt = e x2.toNatClampNeg) ∨ (¬ e x2.toNatClampNeg < 100000 ∧ r = -1)))) := fun y ey => by
        rw [kj, on_s (by omega)]
        refine ih (j + 1) _ (by omega) (tr_ 203 (by decide +kernel) I' _ _ (by decide) (by decide)) (F'.im (inw_row (by decide +kernel) _)) (fun v hv => ?_)
        by_cases c : v = j
        · rw [c, im_at]
          exact ey
        · rw [h_i_im, if_neg (fun z => c z.2)]
          exact P v (by omega)
      refine t_X12_walkOf_2 d h' I'.1 x1 x2 _ _ ⟨fun z => by have := q_le.mp z; rw [t16, on_j (by omega)] at this; omega, fun _ => ⟨fun n => ⟨vj, go 100000 ?_⟩, fun e => ⟨vj, go 0 ?_⟩⟩⟩
      · rw [if_neg (fun c => n (Int32.toInt_inj.mp (by rw [on_j (by omega)]; omega)))]
      · rw [if_pos (by rw [← e, kj])]
  exact t_X12_walkOf d h x1 x2 _ (lp 16 0 h (by omega) I (Fr.rf _ _) (fun v hv => absurd hv (by omega)))
/-- the walks, as the class's table has them -/
noncomputable def wX (h : Hp_) (a b : Nat) : Option Int := if a < 16 ∧ b < 16 ∧ dX h a b < 1000000 then some (dX h a b) else none
theorem wX_le {h : Hp_} (I : Iv h) (x : ExP h) (a b : Nat) (k : Int) (e : wX h a b = some k) : 0 ≤ k ∧ k ≤ 900 := by
  unfold wX at e
  by_cases c : a < 16 ∧ b < 16 ∧ dX h a b < 1000000
  · rw [if_pos c] at e
    cases e
    have q := x.2 a c.1
    exact ⟨(q b c.2.1).1.1, q.le (ev_ I x.1) c.2.1 c.2.2⟩
  · rw [if_neg c] at e
    cases e
theorem c_woR (d : Nat) {h : Hp_} (I : Iv h) (x : ExP h) (x1 x2 : Int32) (p1 : 0 ≤ x1.toInt ∧ x1.toInt < 16) (p2 : 0 ≤ x2.toInt ∧ x2.toInt < 16) : Ci (m_X12_walkOf (d + 0) 0 0) [.ref 1, .int x1, .int x2] h (fun r h' => Iv h' ∧ Fr [203999] h h' ∧ ((∃ k, wX h x1.toNatClampNeg x2.toNatClampNeg = some k ∧ r.toInt = k) ∨ (wX h x1.toNatClampNeg x2.toNatClampNeg = none ∧ r = -1))) := by
  have n1 := n_nat (x := x1) p1.1
  have n2 := n_nat (x := x2) p2.1
  refine Ci.mono (c_woM d I x.1 x1 x2 p1 p2) (fun r h' q => ⟨q.1, q.2.1, ?_⟩)
  obtain ⟨e, X, y⟩ := q.2.2
  have z := (x.2 x1.toNatClampNeg (by omega)).eq X (ev_ I x.1) (by decide) (by decide) (v := x2.toNatClampNeg) (by omega)
  unfold wX
  rcases z with ⟨z1, z2, z3⟩ | ⟨z1, z2⟩
  · rw [if_pos ⟨by omega, by omega, z1⟩]
    rcases y with ⟨_, y⟩ | ⟨y, _⟩
    · exact Or.inl ⟨_, rfl, by rw [y, z3]⟩
    · exact absurd z2 y
  · rw [if_neg (fun c => z1 c.2.2)]
    rcases y with ⟨y, _⟩ | ⟨_, y⟩
    · exact absurd y z2
    · exact Or.inr ⟨rfl, y⟩
/-- of each beat its steps -/
noncomputable def sB (h : Hp_) (k i : Nat) : Sp3 := (h_i h 228 (150 * k + i), h_i h 229 (150 * k + i), h_i h 230 (150 * k + i))
noncomputable def bL (h : Hp_) (k : Nat) : List Sp3 := (List.range (h_i h 227 k).toNatClampNeg).map (sB h k)
noncomputable def ExS (h : Hp_) : Prop := ∀ k, k < (h_i h 12 3).toNatClampNeg → ∀ i, i < (h_i h 227 k).toNatClampNeg → h_i h 34 (150 * k + i) = pkS (sB h k i) ∧ stR (sB h k i)
noncomputable def exoS (ws : List Nat) : Bool := off ws 34 && off ws 227 && off ws 228 && off ws 229 && off ws 230 && !inw ws 12 3
theorem exS_F : ExS HF := fun k hk => by
  rw [show h_i HF 12 3 = 0 by decide +kernel] at hk
  exact absurd hk (by show ¬ k < 0; omega)
theorem ExS.cg {h h' : Hp_} (e : ExS h) (a : ∀ k, h_i h' 34 k = h_i h 34 k) (b : ∀ k, h_i h' 227 k = h_i h 227 k) (c : ∀ k, h_i h' 228 k = h_i h 228 k) (d : ∀ k, h_i h' 229 k = h_i h 229 k) (f : ∀ k, h_i h' 230 k = h_i h 230 k) (n : h_i h' 12 3 = h_i h 12 3) : ExS h' := fun k hk i hi => by
  rw [n] at hk
  rw [b] at hi
  have q := e k hk i hi
  unfold sB at q ⊢
  rw [a, c, d, f]
  exact q
theorem ExS.fr {ws : List Nat} {h h' : Hp_} (e : ExS h) (f : Fr ws h h') (o : exoS ws = true) : ExS h' := by
  unfold exoS at o
  simp only [Bool.and_eq_true, Bool.not_eq_true'] at o
  exact e.cg (fun k => fr_i f o.1.1.1.1.1 k) (fun k => fr_i f o.1.1.1.1.2 k) (fun k => fr_i f o.1.1.1.2 k) (fun k => fr_i f o.1.1.2 k) (fun k => fr_i f o.1.2 k) (f.2 12 3 o.2).1
theorem ExS.mf {W : List Nat} {h h' : Hp_} (e : ExS h) (f : Mf W h h') (o : exoS W = true) : ExS h' := by
  unfold exoS at o
  simp only [Bool.and_eq_true, Bool.not_eq_true'] at o
  exact e.cg (fun k => (f.2.2.2 34 k (by decide) (off_inw o.1.1.1.1.1 k)).1) (fun k => f.2.1 227 (by decide) (by decide) k) (fun k => f.2.1 228 (by decide) (by decide) k) (fun k => f.2.1 229 (by decide) (by decide) k) (fun k => f.2.1 230 (by decide) (by decide) k) (f.2.2.2 12 3 (by decide) o.2).1
theorem z227 {h : Hp_} (I : Iv h) (k : Nat) : (h_i h 227 k).toNatClampNeg ≤ 150 ∧ (((h_i h 227 k).toNatClampNeg : Nat) : Int) = (h_i h 227 k).toInt := by
  have rg := I.2.1 227 k
  rw [tfa_tf (show tfa 227 = some (0, 150) by decide +kernel)] at rg
  have r0 : 0 ≤ (h_i h 227 k).toInt := rg.1
  have r1 : (h_i h 227 k).toInt ≤ 150 := rg.2
  have n := n_nat r0
  exact ⟨by omega, by omega⟩
theorem ExS.bt {N : Nat} {h h1 h2 : Hp_} {r1 r2 : Int32} (T : LiT N h) (L : ExS h) (k1 : Iv h1 ∧ Fr wbx h h1 ∧ Btx h r1 h1) (k2 : (Iv h2 ∧ J2 h2) ∧ Btm (h_i h 31) (xn h) h1 r2 h2) : ExS h2 := by
  obtain ⟨I1, F1, kn, ky⟩ := k1
  obtain ⟨⟨I2, JJ⟩, F2, c8, mn, my⟩ := k2
  have a42 : h_i h1 1 42 = h_i h 12 3 := (F1.2 1 42 (by decide +kernel)).1.trans T.r2.symm
  rw [a42] at mn my
  have b123 : h_i h2 12 3 = h_i h1 12 3 := (F2.2 12 3 (by decide +kernel)).1
  have f227 : ∀ k, h_i h1 227 k = h_i h 227 k := fun k => fr_i F1 (by decide +kernel) k
  have f228 : ∀ k, h_i h1 228 k = h_i h 228 k := fun k => fr_i F1 (by decide +kernel) k
  have f229 : ∀ k, h_i h1 229 k = h_i h 229 k := fun k => fr_i F1 (by decide +kernel) k
  have f230 : ∀ k, h_i h1 230 k = h_i h 230 k := fun k => fr_i F1 (by decide +kernel) k
  have g34 : ∀ k, h_i h2 34 k = h_i h1 34 k := fun k => fr_i F2 (by decide +kernel) k
  have bb1 : bB h1 = 150 * (h_i h 12 3).toNatClampNeg := by
    show 150 * (h_i h1 1 42).toNatClampNeg = _
    rw [a42]
  have b3 := x12_in T.1
  have n3 := n_nat b3.1
  have lw : ∀ k, k < (h_i h 12 3).toNatClampNeg → (∀ z, z < 150 * (h_i h 12 3).toNatClampNeg → h_i h1 34 z = h_i h 34 z) → h_i h2 227 k = h_i h 227 k → ∀ i, i < (h_i h2 227 k).toNatClampNeg → h_i h2 34 (150 * k + i) = pkS (sB h2 k i) ∧ stR (sB h2 k i) := fun k hk x w i hi => by
    rw [w] at hi
    have zk := (z227 T.1 k).1
    have q := L k hk i hi
    have cc := c8 (150 * k + i) (by rw [bb1]; omega)
    have es : sB h2 k i = sB h k i := by
      unfold sB
      rw [cc.1, cc.2.1, cc.2.2, f228, f229, f230]
    rw [g34, x _ (by omega), es]
    exact q
  by_cases o : okB (h_i h 31) (xn h) (h_i h 12 3)
  · have ky := ky o
    have my := my o
    have t1 : (1 : Int32).toInt = 1 := rfl
    have ex : (h_i h 12 3 + 1).toInt = (h_i h 12 3).toInt + 1 := tx_add (by rw [t1]; omega) (by rw [t1]; omega)
    have n4 := n_nat (x := h_i h 12 3 + 1) (by omega)
    intro k hk
    rw [b123, ky.2.1] at hk
    have w : h_i h2 227 k = if k = (h_i h 12 3).toNatClampNeg then Int32.ofNat (beo (h_i h 31) (xn h)).length else h_i h 227 k := by rw [my.2.2.2.1 k, f227]
    rcases Nat.lt_or_ge k (h_i h 12 3).toNatClampNeg with u | u
    · have nk : ¬ k = (h_i h 12 3).toNatClampNeg := by omega
      rw [if_neg nk] at w
      exact lw k u ky.2.2.2.2.2.2 w
    · have ek : k = (h_i h 12 3).toNatClampNeg := by omega
      rw [if_pos ek] at w
      intro i hi
      have l150 := o.2.2
      rw [w, on_k (by omega)] at hi
      have gi : (beo (h_i h 31) (xn h))[i]? = some ((beo (h_i h 31) (xn h))[i]'hi) := List.getElem?_eq_getElem hi
      have p := ky.2.2.2.2.2.1 i _ gi
      have m := my.2.2.2.2.1 i _ gi
      have s := my.2.2.2.2.2 _ (List.getElem_mem hi)
      rw [bb1, ← ek] at m
      rw [← ek] at p
      have es : sB h2 k i = (beo (h_i h 31) (xn h))[i]'hi := by
        unfold sB
        rw [m.1, m.2.1, m.2.2]
      rw [g34, p, es]
      exact ⟨rfl, s⟩
  · have kn := kn o
    have mn := mn o
    intro k hk
    rw [b123, kn.2.1] at hk
    exact lw k hk (fun z _ => kn.2.2.2.2.2 z) ((mn.2.2.2 k).trans (f227 k))
noncomputable abbrev okWx (m x1 x2 x3 : Int32) : Prop := (0 ≤ x1 ∧ x1 < 16) ∧ (0 ≤ x2 ∧ x2 ≤ 1440) ∧ (x2 ≤ x3 ∧ x3 ≤ 1440) ∧ m < 8
noncomputable abbrev okWn (m x1 x2 x3 : Int32) : Prop := (0 ≤ x1 ∧ x1 ≤ 15) ∧ (0 ≤ x2 ∧ x2 ≤ 1440) ∧ (x2 ≤ x3 ∧ x3 ≤ 1440) ∧ ¬ m = 8
theorem okW_eq {m x1 x2 x3 : Int32} (b : m.toInt ≤ 8) : okWx m x1 x2 x3 ↔ okWn m x1 x2 x3 := by
  unfold okWx okWn
  rw [p15, nz_lt (n := 8) b]
/-- the watches -/
noncomputable def ExW (h : Hp_) : Prop := h_i h 20 3 = h_i h 1 108 ∧ ∀ k, k < (h_i h 20 3).toNatClampNeg → (h_i h 92 k = h_i h 281 k ∧ h_i h 93 k = h_i h 282 k ∧ h_i h 94 k = h_i h 283 k) ∧ (0 ≤ (h_i h 92 k).toInt ∧ (h_i h 92 k).toInt ≤ 15) ∧ (0 ≤ (h_i h 93 k).toInt ∧ (h_i h 94 k).toInt ≤ 1440)
noncomputable def exoW (ws : List Nat) : Bool := off ws 92 && off ws 93 && off ws 94 && off ws 281 && off ws 282 && off ws 283 && !inw ws 20 3 && !inw ws 1 108
theorem ExW.cg {h h' : Hp_} (e : ExW h) (a : ∀ k, h_i h' 92 k = h_i h 92 k) (b : ∀ k, h_i h' 93 k = h_i h 93 k) (c : ∀ k, h_i h' 94 k = h_i h 94 k) (d : ∀ k, h_i h' 281 k = h_i h 281 k) (f : ∀ k, h_i h' 282 k = h_i h 282 k) (g : ∀ k, h_i h' 283 k = h_i h 283 k) (n : h_i h' 20 3 = h_i h 20 3) (m : h_i h' 1 108 = h_i h 1 108) : ExW h' := by
  refine ⟨by rw [n, m]; exact e.1, fun k hk => ?_⟩
  rw [n] at hk
  rw [a, b, c, d, f, g]
  exact e.2 k hk
theorem ExW.fr {ws : List Nat} {h h' : Hp_} (e : ExW h) (f : Fr ws h h') (o : exoW ws = true) : ExW h' := by
  unfold exoW at o
  simp only [Bool.and_eq_true, Bool.not_eq_true'] at o
  exact e.cg (fun k => fr_i f o.1.1.1.1.1.1.1 k) (fun k => fr_i f o.1.1.1.1.1.1.2 k) (fun k => fr_i f o.1.1.1.1.1.2 k) (fun k => fr_i f o.1.1.1.1.2 k) (fun k => fr_i f o.1.1.1.2 k) (fun k => fr_i f o.1.1.2 k) (f.2 20 3 o.1.2).1 (f.2 1 108 o.2).1
theorem ExW.mf {W : List Nat} {h h' : Hp_} (e : ExW h) (f : Mf W h h') (o : exoW W = true) : ExW h' := by
  unfold exoW at o
  simp only [Bool.and_eq_true, Bool.not_eq_true'] at o
  exact e.cg (fun k => (f.2.2.2 92 k (by decide) (off_inw o.1.1.1.1.1.1.1 k)).1) (fun k => (f.2.2.2 93 k (by decide) (off_inw o.1.1.1.1.1.1.2 k)).1) (fun k => (f.2.2.2 94 k (by decide) (off_inw o.1.1.1.1.1.2 k)).1) (fun k => f.2.1 281 (by decide) (by decide) k) (fun k => f.2.1 282 (by decide) (by decide) k) (fun k => f.2.1 283 (by decide) (by decide) k) (f.2.2.2 20 3 (by decide) o.1.2).1 (f.1 108)
noncomputable def WtX (x1 x2 x3 : Int32) (h : Hp_) (r : Int32) (h' : Hp_) : Prop := Fr [20003, 92999, 93999, 94999] h h' ∧ oca (okWx (h_i h 20 3) x1 x2 x3) (h_i h 20 3) r (h_i h' 20 3) ∧ (∀ k, h_i h' 92 k = if okWx (h_i h 20 3) x1 x2 x3 ∧ k = (h_i h 20 3).toNatClampNeg then x1 else h_i h 92 k) ∧ (∀ k, h_i h' 93 k = if okWx (h_i h 20 3) x1 x2 x3 ∧ k = (h_i h 20 3).toNatClampNeg then x2 else h_i h 93 k) ∧ (∀ k, h_i h' 94 k = if okWx (h_i h 20 3) x1 x2 x3 ∧ k = (h_i h 20 3).toNatClampNeg then x3 else h_i h 94 k)
noncomputable def WtM (x1 x2 x3 : Int32) (h : Hp_) (r : Int32) (h' : Hp_) : Prop := Fr [1108, 281999, 282999, 283999] h h' ∧ oca (okWn (h_i h 1 108) x1 x2 x3) (h_i h 1 108) r (h_i h' 1 108) ∧ (∀ k, h_i h' 281 k = if okWn (h_i h 1 108) x1 x2 x3 ∧ k = (h_i h 1 108).toNatClampNeg then x1 else h_i h 281 k) ∧ (∀ k, h_i h' 282 k = if okWn (h_i h 1 108) x1 x2 x3 ∧ k = (h_i h 1 108).toNatClampNeg then x2 else h_i h 282 k) ∧ (∀ k, h_i h' 283 k = if okWn (h_i h 1 108) x1 x2 x3 ∧ k = (h_i h 1 108).toNatClampNeg then x3 else h_i h 283 k)
theorem ExW.wt {h h1 h2 : Hp_} {x1 x2 x3 r1 r2 : Int32} (I : Iv h) (L : ExW h) (k1 : WtX x1 x2 x3 h r1 h1) (k2 : WtM x1 x2 x3 h1 r2 h2) : ExW h2 ∧ r1 = r2 := by
  obtain ⟨f1, kp, a1, a2, a3⟩ := k1
  obtain ⟨f2, kq, b1, b2, b3⟩ := k2
  have e1 : h_i h1 1 108 = h_i h 20 3 := ((f1.2 1 108 (by decide +kernel)).1).trans L.1.symm
  rw [e1] at kq b1 b2 b3
  have rg := I.2.1 20 3
  rw [show tf 20 3 = (0, 8) by decide +kernel] at rg
  have r0 : 0 ≤ (h_i h 20 3).toInt := rg.1
  have r8 : (h_i h 20 3).toInt ≤ 8 := rg.2
  have oe := okW_eq (x1 := x1) (x2 := x2) (x3 := x3) (m := h_i h 20 3) r8
  have z := oca_eq oe kp kq
  have g1 : ∀ k, h_i h1 281 k = h_i h 281 k := fun k => fr_i f1 (by decide +kernel) k
  have g2 : ∀ k, h_i h1 282 k = h_i h 282 k := fun k => fr_i f1 (by decide +kernel) k
  have g3 : ∀ k, h_i h1 283 k = h_i h 283 k := fun k => fr_i f1 (by decide +kernel) k
  have c1 : ∀ k, h_i h2 92 k = h_i h1 92 k := fun k => fr_i f2 (by decide +kernel) k
  have c2 : ∀ k, h_i h2 93 k = h_i h1 93 k := fun k => fr_i f2 (by decide +kernel) k
  have c3 : ∀ k, h_i h2 94 k = h_i h1 94 k := fun k => fr_i f2 (by decide +kernel) k
  have e20 : h_i h2 20 3 = h_i h1 20 3 := (f2.2 20 3 (by decide +kernel)).1
  refine ⟨⟨e20.trans z.2, fun k hk => ?_⟩, z.1⟩
  rw [e20] at hk
  by_cases o : okWx (h_i h 20 3) x1 x2 x3
  · have o' := oe.mp o
    rcases kp with ⟨_, _, m⟩ | ⟨n, _⟩
    · have t1 : (1 : Int32).toInt = 1 := rfl
      have t0 : (0 : Int32).toInt = 0 := rfl
      have t16 : (16 : Int32).toInt = 16 := rfl
      have t14 : (1440 : Int32).toInt = 1440 := rfl
      have ex : (h_i h 20 3 + 1).toInt = (h_i h 20 3).toInt + 1 := tx_add (by rw [t1]; omega) (by rw [t1]; omega)
      have n0 := n_nat (x := h_i h 20 3) r0
      have n1 := n_nat (x := h_i h 20 3 + 1) (by omega)
      rw [m] at hk
      by_cases q : k = (h_i h 20 3).toNatClampNeg
      · rw [show h_i h2 92 k = x1 by rw [c1, a1, if_pos ⟨o, q⟩], show h_i h2 93 k = x2 by rw [c2, a2, if_pos ⟨o, q⟩], show h_i h2 94 k = x3 by rw [c3, a3, if_pos ⟨o, q⟩], show h_i h2 281 k = x1 by rw [b1, if_pos ⟨o', q⟩], show h_i h2 282 k = x2 by rw [b2, if_pos ⟨o', q⟩], show h_i h2 283 k = x3 by rw [b3, if_pos ⟨o', q⟩]]
        have u1 := q_le.mp o.1.1
        have u2 := q_lt.mp o.1.2
        have u3 := q_le.mp o.2.1.1
        have u4 := q_le.mp o.2.2.1.2
        exact ⟨⟨rfl, rfl, rfl⟩, ⟨by omega, by omega⟩, ⟨by omega, by omega⟩⟩
      · rw [show h_i h2 92 k = h_i h 92 k by rw [c1, a1, if_neg (fun y => q y.2)], show h_i h2 93 k = h_i h 93 k by rw [c2, a2, if_neg (fun y => q y.2)], show h_i h2 94 k = h_i h 94 k by rw [c3, a3, if_neg (fun y => q y.2)], show h_i h2 281 k = h_i h 281 k by rw [b1, if_neg (fun y => q y.2), g1], show h_i h2 282 k = h_i h 282 k by rw [b2, if_neg (fun y => q y.2), g2], show h_i h2 283 k = h_i h 283 k by rw [b3, if_neg (fun y => q y.2), g3]]
        exact L.2 k (by omega)
    · exact absurd o n
  · have o' : ¬ okWn (h_i h 20 3) x1 x2 x3 := fun y => o (oe.mpr y)
    rcases kp with ⟨y, _⟩ | ⟨_, _, m⟩
    · exact absurd y o
    · rw [m] at hk
      rw [show h_i h2 92 k = h_i h 92 k by rw [c1, a1, if_neg (fun y => o y.1)], show h_i h2 93 k = h_i h 93 k by rw [c2, a2, if_neg (fun y => o y.1)], show h_i h2 94 k = h_i h 94 k by rw [c3, a3, if_neg (fun y => o y.1)], show h_i h2 281 k = h_i h 281 k by rw [b1, if_neg (fun y => o' y.1), g1], show h_i h2 282 k = h_i h 282 k by rw [b2, if_neg (fun y => o' y.1), g2], show h_i h2 283 k = h_i h 283 k by rw [b3, if_neg (fun y => o' y.1), g3]]
      exact L.2 k hk
/-! what a beat sees -/
theorem bL_l (h : Hp_) (k : Nat) : (bL h k).length = (h_i h 227 k).toNatClampNeg := by
  unfold bL
  rw [List.length_map, List.length_range]
theorem bL_g {h : Hp_} {k i : Nat} (hi : i < (h_i h 227 k).toNatClampNeg) : (bL h k)[i]? = some (sB h k i) := by
  unfold bL
  rw [List.getElem?_map, List.getElem?_range hi]
  rfl
theorem bL_m {h : Hp_} {k : Nat} {x : Sp3} (hx : x ∈ bL h k) : ∃ i, i < (h_i h 227 k).toNatClampNeg ∧ x = sB h k i := by
  unfold bL at hx
  obtain ⟨i, hi, e⟩ := List.mem_map.mp hx
  exact ⟨i, List.mem_range.mp hi, e.symm⟩
end
