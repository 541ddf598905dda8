/-! the tape read: what is found from a place on -/
def skb (b : Nat → Int32) (n : Nat) : Nat → Nat → Nat
  | 0, a => a
  | k + 1, a => if a < n ∧ b a = 32 then skb b n k (a + 1) else a
def ska (b : Nat → Int32) (n a : Nat) : Nat := skb b n (n - a) a
def skv (b : Nat → Int32) (n a : Nat) : Int32 := if ska b n a < n then b (ska b n a) else -1
theorem ska_s {b : Nat → Int32} {n a : Nat} (h : a < n ∧ b a = 32) : ska b n a = ska b n (a + 1) := by
  unfold ska
  rw [show n - a = (n - (a + 1)) + 1 by omega]
  show (if a < n ∧ b a = 32 then skb b n (n - (a + 1)) (a + 1) else a) = _
  rw [if_pos h]
theorem ska_n {b : Nat → Int32} {n a : Nat} (h : ¬ (a < n ∧ b a = 32)) : ska b n a = a := by
  unfold ska
  cases n - a with
  | zero => rfl
  | succ k =>
    show (if a < n ∧ b a = 32 then skb b n k (a + 1) else a) = _
    rw [if_neg h]
theorem ska_p {b : Nat → Int32} {n : Nat} : ∀ (k a : Nat), n - a ≤ k → a ≤ ska b n a ∧ (a ≤ n → ska b n a ≤ n) ∧ (ska b n a < n → ¬ b (ska b n a) = 32) ∧ ska b n (ska b n a) = ska b n a
  | 0, a, h => by
    have e : ska b n a = a := ska_n (fun c => by have := c.1; omega)
    rw [e]
    exact ⟨Nat.le_refl _, fun h => h, fun c => by omega, e⟩
  | k + 1, a, h => by
    by_cases c : a < n ∧ b a = 32
    · have ih := ska_p (b := b) (n := n) k (a + 1) (by omega)
      rw [ska_s c]
      exact ⟨by omega, fun _ => ih.2.1 (by omega), ih.2.2.1, ih.2.2.2⟩
    · have e : ska b n a = a := ska_n c
      rw [e]
      exact ⟨Nat.le_refl _, fun h => h, fun l y => c ⟨l, y⟩, e⟩
theorem ska_ge {b : Nat → Int32} {n a : Nat} : a ≤ ska b n a := (ska_p (n - a) a (Nat.le_refl _)).1
theorem ska_le {b : Nat → Int32} {n a : Nat} (h : a ≤ n) : ska b n a ≤ n := (ska_p (n - a) a (Nat.le_refl _)).2.1 h
theorem ska_i {b : Nat → Int32} {n a : Nat} : ska b n (ska b n a) = ska b n a := (ska_p (n - a) a (Nat.le_refl _)).2.2.2
theorem skv_i {b : Nat → Int32} {n a : Nat} : skv b n (ska b n a) = skv b n a := by
  unfold skv
  rw [ska_i]
theorem skv_l {b : Nat → Int32} {n a : Nat} (h : ¬ skv b n a = -1) : ska b n a < n := by
  by_cases c : ska b n a < n
  · exact c
  · exact absurd (if_neg c) h
/-- what a reader finds: whether it goes through, and the place behind it or that of the fault -/
abbrev Rcg := Nat → Bool × Nat
def Cnr (b : Nat → Int32) (n : Nat) (f : Rcg) : Prop := ∀ a, f (ska b n a) = f a
/-- the place behind lies further on, and no sign but blanks stands ahead of it -/
def Fwd (b : Nat → Int32) (n : Nat) (f : Rcg) : Prop := ∀ a, (f a).1 = true → ska b n a < (f a).2 ∧ (f a).2 ≤ n ∧ ska b n (f a).2 = (f a).2
def sqr (f g : Rcg) : Rcg := fun a => if (f a).1 = true then g (f a).2 else f a
def lpr (b : Nat → Int32) (n : Nat) (sp : Int32 → Bool) (f : Rcg) : Nat → Rcg
  | 0, a => (true, ska b n a)
  | k + 1, a => if sp (skv b n a) = true then (if (f (ska b n a + 1)).1 = true then lpr b n sp f k (f (ska b n a + 1)).2 else f (ska b n a + 1)) else (true, ska b n a)
theorem sqr_c {b : Nat → Int32} {n : Nat} {f g : Rcg} (h : Cnr b n f) : Cnr b n (sqr f g) := fun a => by
  unfold sqr
  rw [h a]
theorem sqr_a (f g k : Rcg) : sqr (sqr f g) k = sqr f (sqr g k) := funext (fun a => by
  unfold sqr
  by_cases c : (f a).1 = true
  · rw [if_pos c, if_pos c]
  · rw [if_neg c, if_neg c, if_neg c])
theorem sqr_f {b : Nat → Int32} {n : Nat} {f g : Rcg} (hf : Fwd b n f) (hg : ∀ p, ska b n p = p → p ≤ n → (g p).1 = true → p ≤ (g p).2 ∧ (g p).2 ≤ n ∧ ska b n (g p).2 = (g p).2) : Fwd b n (sqr f g) := fun a h => by
  unfold sqr at h ⊢
  by_cases c : (f a).1 = true
  · rw [if_pos c] at h ⊢
    have q := hf a c
    have r := hg _ q.2.2 q.2.1 h
    exact ⟨by omega, r.2.1, r.2.2⟩
  · rw [if_neg c] at h
    exact absurd h c
theorem lpr_c {b : Nat → Int32} {n : Nat} {sp : Int32 → Bool} {f : Rcg} (k : Nat) : Cnr b n (lpr b n sp f k) := fun a => by
  cases k with
  | zero =>
    show (true, ska b n (ska b n a)) = (true, ska b n a)
    rw [ska_i]
  | succ k =>
    show (if sp (skv b n (ska b n a)) = true then (if (f (ska b n (ska b n a) + 1)).1 = true then lpr b n sp f k (f (ska b n (ska b n a) + 1)).2 else f (ska b n (ska b n a) + 1)) else (true, ska b n (ska b n a))) = _
    rw [ska_i, skv_i]
    rfl
theorem lpr_f {b : Nat → Int32} {n : Nat} {sp : Int32 → Bool} {f : Rcg} (hf : Fwd b n f) : ∀ (k p : Nat), ska b n p = p → p ≤ n → (lpr b n sp f k p).1 = true → p ≤ (lpr b n sp f k p).2 ∧ (lpr b n sp f k p).2 ≤ n ∧ ska b n (lpr b n sp f k p).2 = (lpr b n sp f k p).2
  | 0, p, e, l, _ => by
    show p ≤ ska b n p ∧ ska b n p ≤ n ∧ ska b n (ska b n p) = ska b n p
    rw [e]
    exact ⟨Nat.le_refl _, l, e⟩
  | k + 1, p, e, l, h => by
    unfold lpr at h ⊢
    by_cases c : sp (skv b n p) = true
    · rw [if_pos c] at h ⊢
      by_cases d : (f (ska b n p + 1)).1 = true
      · rw [if_pos d] at h ⊢
        have q := hf _ d
        have g := ska_ge (b := b) (n := n) (a := ska b n p + 1)
        have r := lpr_f hf k _ q.2.2 q.2.1 h
        have g2 := ska_ge (b := b) (n := n) (a := p)
        exact ⟨by omega, r.2⟩
      · rw [if_neg d] at h
        exact absurd h d
    · rw [if_neg c]
      show p ≤ ska b n p ∧ ska b n p ≤ n ∧ ska b n (ska b n p) = ska b n p
      rw [e]
      exact ⟨Nat.le_refl _, l, e⟩
def exr (b : Nat → Int32) (n : Nat) (c : Int32) : Rcg := fun a => if skv b n a = c then (true, ska b n (ska b n a + 1)) else (false, ska b n a)
theorem exr_c {b : Nat → Int32} {n : Nat} {c : Int32} : Cnr b n (exr b n c) := fun a => by
  unfold exr
  rw [skv_i, ska_i]
/-- one sign of a set -/
def onr (b : Nat → Int32) (n : Nat) (sp : Int32 → Bool) : Rcg := fun a => if sp (skv b n a) = true then (true, ska b n (ska b n a + 1)) else (false, ska b n a)
theorem onr_c {b : Nat → Int32} {n : Nat} {sp : Int32 → Bool} : Cnr b n (onr b n sp) := fun a => by
  unfold onr
  rw [skv_i, ska_i]
theorem nxt_f {b : Nat → Int32} {n a : Nat} (h : ska b n a < n) : ska b n a < ska b n (ska b n a + 1) ∧ ska b n (ska b n a + 1) ≤ n ∧ ska b n (ska b n (ska b n a + 1)) = ska b n (ska b n a + 1) := by
  have g := ska_ge (b := b) (n := n) (a := ska b n a + 1)
  exact ⟨by omega, ska_le (by omega), ska_i⟩
theorem exr_f {b : Nat → Int32} {n : Nat} {c : Int32} (hc : ¬ c = -1) : Fwd b n (exr b n c) := fun a h => by
  unfold exr at h ⊢
  by_cases q : skv b n a = c
  · rw [if_pos q] at h ⊢
    exact nxt_f (skv_l (by rw [q]; exact hc))
  · rw [if_neg q] at h
    exact absurd h (by simp)
theorem onr_f {b : Nat → Int32} {n : Nat} {sp : Int32 → Bool} (hc : sp (-1) = false) : Fwd b n (onr b n sp) := fun a h => by
  unfold onr at h ⊢
  by_cases q : sp (skv b n a) = true
  · rw [if_pos q] at h ⊢
    refine nxt_f (skv_l (fun e => ?_))
    rw [e, hc] at q
    exact absurd q (by decide)
  · rw [if_neg q] at h
    exact absurd h (by simp)
theorem Fwd.w {b : Nat → Int32} {n : Nat} {f : Rcg} (hf : Fwd b n f) (p : Nat) (_ : ska b n p = p) (_ : p ≤ n) (h : (f p).1 = true) : p ≤ (f p).2 ∧ (f p).2 ≤ n ∧ ska b n (f p).2 = (f p).2 := by
  have q := hf p h
  have g := ska_ge (b := b) (n := n) (a := p)
  exact ⟨by omega, q.2⟩
/-- numbers of at most four digits -/
def dgb (x : Int32) : Bool := decide (¬ x < 48 ∧ ¬ 57 < x)
def nml (b : Nat → Int32) (n : Nat) : Nat → Int32 → Nat → Bool × Nat × Int32
  | 0, v, a => if a < n ∧ dgb (b a) = true then (false, a, v) else (true, a, v)
  | k + 1, v, a => if a < n ∧ dgb (b a) = true then nml b n k (((v * 10) + b a) - 48) (a + 1) else (true, a, v)
theorem nml_p {b : Nat → Int32} {n : Nat} : ∀ (k : Nat) (v : Int32) (a : Nat), a ≤ n → a ≤ (nml b n k v a).2.1 ∧ (nml b n k v a).2.1 ≤ n ∧ (a < n ∧ dgb (b a) = true ∧ (nml b n k v a).1 = true → a < (nml b n k v a).2.1)
  | 0, v, a, h => by
    unfold nml
    by_cases c : a < n ∧ dgb (b a) = true
    · rw [if_pos c]
      exact ⟨Nat.le_refl _, h, fun z => absurd z.2.2 (by simp)⟩
    · rw [if_neg c]
      exact ⟨Nat.le_refl _, h, fun z => absurd ⟨z.1, z.2.1⟩ c⟩
  | k + 1, v, a, h => by
    unfold nml
    by_cases c : a < n ∧ dgb (b a) = true
    · rw [if_pos c]
      have ih := nml_p (b := b) (n := n) k (((v * 10) + b a) - 48) (a + 1) (by omega)
      exact ⟨by omega, ih.2.1, fun _ => by omega⟩
    · rw [if_neg c]
      exact ⟨Nat.le_refl _, h, fun z => absurd ⟨z.1, z.2.1⟩ c⟩
theorem nml_v {b : Nat → Int32} {n : Nat} : ∀ (k : Nat) (v : Int32) (a m : Nat), 0 ≤ v.toInt → v.toInt ≤ (m : Int) → (m + 1) * 10 ^ k ≤ 100000 → (nml b n k v a).1 = true → 0 ≤ (nml b n k v a).2.2.toInt ∧ (nml b n k v a).2.2.toInt + 1 ≤ (((m + 1) * 10 ^ k : Nat) : Int)
  | 0, v, a, m, h0, h1, h2, h => by
    unfold nml at h ⊢
    by_cases c : a < n ∧ dgb (b a) = true
    · rw [if_pos c] at h
      exact absurd h (by simp)
    · rw [if_neg c]
      show 0 ≤ v.toInt ∧ v.toInt + 1 ≤ (((m + 1) * 10 ^ 0 : Nat) : Int)
      rw [Nat.pow_zero, Nat.mul_one]
      omega
  | k + 1, v, a, m, h0, h1, h2, h => by
    unfold nml at h ⊢
    have pk : 1 ≤ 10 ^ k := Nat.pow_pos (by decide)
    have e10 : (m + 1) * 10 ^ (k + 1) = (10 * m + 9 + 1) * 10 ^ k := by
      rw [Nat.pow_succ, Nat.mul_comm (10 ^ k) 10, ← Nat.mul_assoc]
      congr 1
      omega
    by_cases c : a < n ∧ dgb (b a) = true
    · rw [if_pos c] at h ⊢
      have cb := of_decide_eq_true c.2
      have b0 := q_nlt cb.1
      have b1 := q_nlt cb.2
      have t48 : (48 : Int32).toInt = 48 := rfl
      have t57 : (57 : Int32).toInt = 57 := rfl
      have t10 : (10 : Int32).toInt = 10 := rfl
      rw [t48] at b0
      rw [t57] at b1
      have lm : m + 1 ≤ 100000 := Nat.le_trans (Nat.le_mul_of_pos_right _ (Nat.pow_pos (by decide))) h2
      have e1 : (v * 10).toInt = v.toInt * 10 := by rw [tx_mul (by rw [t10]; omega) (by rw [t10]; omega), t10]
      have e2 : (v * 10 + b a).toInt = v.toInt * 10 + (b a).toInt := by rw [tx_add (by omega) (by omega), e1]
      have e3 : (v * 10 + b a - 48).toInt = v.toInt * 10 + (b a).toInt - 48 := by rw [tx_sub (by rw [t48]; omega) (by rw [t48]; omega), t48, e2]
      have ih := nml_v (b := b) (n := n) k (((v * 10) + b a) - 48) (a + 1) (10 * m + 9) (by omega) (by omega) (by rw [← e10]; exact h2) h
      rw [← e10] at ih
      exact ih
    · rw [if_neg c]
      show 0 ≤ v.toInt ∧ v.toInt + 1 ≤ (((m + 1) * 10 ^ (k + 1) : Nat) : Int)
      have l : m + 1 ≤ (m + 1) * 10 ^ (k + 1) := Nat.le_mul_of_pos_right _ (Nat.pow_pos (by decide))
      omega
def nmr (b : Nat → Int32) (n : Nat) (lo hi : Int32) : Nat → Bool × Nat × Int32 := fun a => if dgb (skv b n a) = true then (if (nml b n 4 0 (ska b n a)).1 = true then (if lo ≤ (nml b n 4 0 (ska b n a)).2.2 ∧ (nml b n 4 0 (ska b n a)).2.2 ≤ hi then (true, ska b n (nml b n 4 0 (ska b n a)).2.1, (nml b n 4 0 (ska b n a)).2.2) else (false, (nml b n 4 0 (ska b n a)).2.1 - 1, -1)) else (false, (nml b n 4 0 (ska b n a)).2.1, -1)) else (false, ska b n a, -1)
def nm0 (b : Nat → Int32) (n : Nat) : Rcg := fun a => if dgb (skv b n a) = true then (if (nml b n 4 0 (ska b n a)).1 = true then (true, ska b n (nml b n 4 0 (ska b n a)).2.1) else (false, (nml b n 4 0 (ska b n a)).2.1)) else (false, ska b n a)
theorem dgb_l {b : Nat → Int32} {n a : Nat} (h : dgb (skv b n a) = true) : ska b n a < n ∧ dgb (b (ska b n a)) = true := by
  have l : ska b n a < n := skv_l (fun e => by rw [e] at h; exact absurd h (by decide))
  refine ⟨l, ?_⟩
  unfold skv at h
  rw [if_pos l] at h
  exact h
theorem nmr_0 {b : Nat → Int32} {n a : Nat} : (nmr b n 0 9999 a).1 = (nm0 b n a).1 ∧ (nmr b n 0 9999 a).2.1 = (nm0 b n a).2 := by
  unfold nmr nm0
  by_cases c : dgb (skv b n a) = true
  · rw [if_pos c, if_pos c]
    by_cases d : (nml b n 4 0 (ska b n a)).1 = true
    · rw [if_pos d, if_pos d]
      have v := nml_v (b := b) (n := n) 4 0 (ska b n a) 0 (by decide) (by decide) (by decide) d
      have p : (((0 + 1) * 10 ^ 4 : Nat) : Int) = 10000 := by decide
      rw [p] at v
      have t0 : (0 : Int32).toInt = 0 := rfl
      have t9 : (9999 : Int32).toInt = 9999 := rfl
      rw [if_pos ⟨q_le.mpr (by rw [t0]; exact v.1), q_le.mpr (by rw [t9]; omega)⟩]
      exact ⟨rfl, rfl⟩
    · rw [if_neg d, if_neg d]
      exact ⟨rfl, rfl⟩
  · rw [if_neg c, if_neg c]
    exact ⟨rfl, rfl⟩
theorem nm0_c {b : Nat → Int32} {n : Nat} : Cnr b n (nm0 b n) := fun a => by
  unfold nm0
  rw [skv_i, ska_i]
theorem nm0_f {b : Nat → Int32} {n : Nat} : Fwd b n (nm0 b n) := fun a h => by
  unfold nm0 at h ⊢
  by_cases c : dgb (skv b n a) = true
  · rw [if_pos c] at h ⊢
    by_cases d : (nml b n 4 0 (ska b n a)).1 = true
    · rw [if_pos d] at h ⊢
      have l := dgb_l c
      have q := nml_p (b := b) (n := n) 4 0 (ska b n a) (Nat.le_of_lt l.1)
      have g := ska_ge (b := b) (n := n) (a := (nml b n 4 0 (ska b n a)).2.1)
      have k := q.2.2 ⟨l.1, l.2, d⟩
      exact ⟨by show ska b n a < ska b n (nml b n 4 0 (ska b n a)).2.1; omega, ska_le q.2.1, ska_i⟩
    · rw [if_neg d] at h
      exact absurd h (by simp)
  · rw [if_neg c] at h
    exact absurd h (by simp)
/-! sums, conditions, clauses -/
def isq (c x : Int32) : Bool := decide (x = c)
def atm (b : Nat → Int32) (n : Nat) (lt : Int32 → Bool) (z : Bool) (f : Rcg) : Rcg := fun a => if dgb (skv b n a) = true then nm0 b n a else if skv b n a = 91 then (if z = true then (false, ska b n a) else sqr f (exr b n 93) (ska b n a + 1)) else onr b n lt a
def trm (b : Nat → Int32) (n : Nat) (f : Rcg) : Rcg := sqr f (lpr b n (isq 42) f 160)
def pmb (x : Int32) : Bool := decide (x = 43 ∨ x = 45)
def smm (b : Nat → Int32) (n : Nat) (f : Rcg) : Rcg := sqr (trm b n f) (lpr b n pmb (trm b n f) 160)
def sms (b : Nat → Int32) (n : Nat) (lt : Int32 → Bool) : Nat → Rcg
  | 0 => smm b n (atm b n lt true (fun a => (false, a)))
  | r + 1 => smm b n (atm b n lt false (sms b n lt r))
def sgb (x : Int32) : Bool := decide (x = 61 ∨ x = 60 ∨ x = 62)
def cmq (b : Nat → Int32) (n : Nat) (f : Rcg) : Rcg := fun a => if sgb (skv b n a) = true then f (ska b n a + 1) else (false, ska b n a)
def mun (b : Nat → Int32) (n : Nat) (u : Rcg) : Rcg := lpr b n (isq 38) u 160
def prt (b : Nat → Int32) (n : Nat) (u : Rcg) : Rcg := sqr u (mun b n u)
def mpt (b : Nat → Int32) (n : Nat) (u : Rcg) : Rcg := sqr (mun b n u) (lpr b n (isq 124) (prt b n u) 160)
def cnd (b : Nat → Int32) (n : Nat) (u : Rcg) : Rcg := sqr u (mpt b n u)
def unt (b : Nat → Int32) (n : Nat) (lt : Int32 → Bool) : Nat → Rcg
  | 0 => fun a => if skv b n a = 33 ∨ skv b n a = 40 then (false, ska b n a) else sqr (sms b n lt 0) (cmq b n (sms b n lt 0)) a
  | r + 1 => fun a => if skv b n a = 33 then unt b n lt r (ska b n a + 1) else if skv b n a = 40 then sqr (cnd b n (unt b n lt r)) (exr b n 41) (ska b n a + 1) else sqr (sms b n lt (r + 1)) (cmq b n (sms b n lt (r + 1))) a
def vdb (x : Int32) : Bool := decide (x = 120 ∨ x = 110 ∨ x = 114 ∨ x = 116)
def lta (x : Int32) : Bool := decide (x = 107 ∨ x = 119 ∨ x = 112 ∨ x = 104 ∨ x = 100 ∨ x = 99 ∨ x = 110 ∨ x = 101 ∨ x = 116)
def ltp (x : Int32) : Bool := decide (x = 99 ∨ x = 121 ∨ x = 109 ∨ x = 120 ∨ x = 116 ∨ x = 97)
def ltb (s : Nat) : Int32 → Bool := if s = 1 then lta else ltp
def acl (b : Nat → Int32) (n : Nat) : Rcg := sqr (cnd b n (unt b n lta 6)) (sqr (exr b n 63) (onr b n vdb))
def pan (b : Nat → Int32) (n : Nat) : Rcg := sqr (exr b n 63) (sms b n ltp 6)
def pcl_ (b : Nat → Int32) (n : Nat) : Rcg := fun a => if skv b n a = 33 ∨ skv b n a = 40 then sqr (cnd b n (unt b n ltp 6)) (pan b n) a else sqr (sms b n ltp 6) (fun p => if sgb (skv b n p) = true then sqr (cmq b n (sms b n ltp 6)) (sqr (mpt b n (unt b n ltp 6)) (pan b n)) p else (true, p)) a
def ruq (b : Nat → Int32) (n : Nat) (cl : Rcg) : Rcg := sqr cl (lpr b n (isq 59) cl 160)
/-- all of the tape: none left over -/
def enq (b : Nat → Int32) (n : Nat) (f : Rcg) : Int32 := if (f 0).1 = true then (if (f 0).2 < n then Int32.ofNat (f 0).2 else -1) else Int32.ofNat (f 0).2
theorem atm_c {b : Nat → Int32} {n : Nat} {lt : Int32 → Bool} {z : Bool} {f : Rcg} : Cnr b n (atm b n lt z f) := fun a => by
  unfold atm
  rw [skv_i, ska_i, nm0_c a, onr_c a]
theorem sqr_x {b : Nat → Int32} {n : Nat} {f : Rcg} {c : Int32} (hf : Fwd b n f) (hc : ¬ c = -1) : Fwd b n (sqr f (exr b n c)) := sqr_f hf (exr_f hc).w
theorem Fwd.st {b : Nat → Int32} {n : Nat} {f : Rcg} (hf : Fwd b n f) {a : Nat} (h : (f (ska b n a + 1)).1 = true) : ska b n a < (f (ska b n a + 1)).2 ∧ (f (ska b n a + 1)).2 ≤ n ∧ ska b n (f (ska b n a + 1)).2 = (f (ska b n a + 1)).2 := by
  have q := hf _ h
  have g := ska_ge (b := b) (n := n) (a := ska b n a + 1)
  exact ⟨by omega, q.2⟩
theorem atm_f {b : Nat → Int32} {n : Nat} {lt : Int32 → Bool} {z : Bool} {f : Rcg} (hl : lt (-1) = false) (hf : z = true ∨ Fwd b n f) : Fwd b n (atm b n lt z f) := fun a h => by
  unfold atm at h ⊢
  by_cases c : dgb (skv b n a) = true
  · rw [if_pos c] at h ⊢
    exact nm0_f a h
  · rw [if_neg c] at h ⊢
    by_cases d : skv b n a = 91
    · rw [if_pos d] at h ⊢
      by_cases e : z = true
      · rw [if_pos e] at h
        exact absurd h (by simp)
      · rw [if_neg e] at h ⊢
        rcases hf with hf | hf
        · exact absurd hf e
        · exact (sqr_x hf (by decide)).st h
    · rw [if_neg d] at h ⊢
      exact onr_f hl a h
theorem trm_c {b : Nat → Int32} {n : Nat} {f : Rcg} (h : Cnr b n f) : Cnr b n (trm b n f) := sqr_c h
theorem trm_f {b : Nat → Int32} {n : Nat} {f : Rcg} (h : Fwd b n f) : Fwd b n (trm b n f) := sqr_f h (fun p e l q => lpr_f h 160 p e l q)
theorem smm_c {b : Nat → Int32} {n : Nat} {f : Rcg} (h : Cnr b n f) : Cnr b n (smm b n f) := sqr_c (trm_c h)
theorem smm_f {b : Nat → Int32} {n : Nat} {f : Rcg} (h : Fwd b n f) : Fwd b n (smm b n f) := sqr_f (trm_f h) (fun p e l q => lpr_f (trm_f h) 160 p e l q)
theorem sms_c {b : Nat → Int32} {n : Nat} {lt : Int32 → Bool} (r : Nat) : Cnr b n (sms b n lt r) := by
  cases r with
  | zero => exact smm_c atm_c
  | succ r => exact smm_c atm_c
theorem sms_f {b : Nat → Int32} {n : Nat} {lt : Int32 → Bool} (hl : lt (-1) = false) : ∀ (r : Nat), Fwd b n (sms b n lt r)
  | 0 => smm_f (atm_f hl (Or.inl rfl))
  | r + 1 => smm_f (atm_f hl (Or.inr (sms_f hl r)))
theorem cmq_c {b : Nat → Int32} {n : Nat} {f : Rcg} : Cnr b n (cmq b n f) := fun a => by
  unfold cmq
  rw [skv_i, ska_i]
theorem cmq_f {b : Nat → Int32} {n : Nat} {f : Rcg} (hf : Fwd b n f) : Fwd b n (cmq b n f) := fun a h => by
  unfold cmq at h ⊢
  by_cases c : sgb (skv b n a) = true
  · rw [if_pos c] at h ⊢
    exact hf.st h
  · rw [if_neg c] at h
    exact absurd h (by simp)
theorem mun_c {b : Nat → Int32} {n : Nat} {u : Rcg} : Cnr b n (mun b n u) := lpr_c 160
theorem mun_w {b : Nat → Int32} {n : Nat} {u : Rcg} (hu : Fwd b n u) (p : Nat) (e : ska b n p = p) (l : p ≤ n) (h : (mun b n u p).1 = true) : p ≤ (mun b n u p).2 ∧ (mun b n u p).2 ≤ n ∧ ska b n (mun b n u p).2 = (mun b n u p).2 := lpr_f hu 160 p e l h
theorem prt_c {b : Nat → Int32} {n : Nat} {u : Rcg} (h : Cnr b n u) : Cnr b n (prt b n u) := sqr_c h
theorem prt_f {b : Nat → Int32} {n : Nat} {u : Rcg} (h : Fwd b n u) : Fwd b n (prt b n u) := sqr_f h (mun_w h)
theorem mpt_c {b : Nat → Int32} {n : Nat} {u : Rcg} : Cnr b n (mpt b n u) := sqr_c mun_c
theorem sqr_w {b : Nat → Int32} {n : Nat} {f g : Rcg} (hf : ∀ p, ska b n p = p → p ≤ n → (f p).1 = true → p ≤ (f p).2 ∧ (f p).2 ≤ n ∧ ska b n (f p).2 = (f p).2) (hg : ∀ p, ska b n p = p → p ≤ n → (g p).1 = true → p ≤ (g p).2 ∧ (g p).2 ≤ n ∧ ska b n (g p).2 = (g p).2) (p : Nat) (e : ska b n p = p) (l : p ≤ n) (h : (sqr f g p).1 = true) : p ≤ (sqr f g p).2 ∧ (sqr f g p).2 ≤ n ∧ ska b n (sqr f g p).2 = (sqr f g p).2 := by
  unfold sqr at h ⊢
  by_cases c : (f p).1 = true
  · rw [if_pos c] at h ⊢
    have q := hf p e l c
    have r := hg _ q.2.2 q.2.1 h
    exact ⟨by omega, r.2⟩
  · rw [if_neg c] at h
    exact absurd h c
theorem mpt_w {b : Nat → Int32} {n : Nat} {u : Rcg} (hu : Fwd b n u) (p : Nat) (e : ska b n p = p) (l : p ≤ n) (h : (mpt b n u p).1 = true) : p ≤ (mpt b n u p).2 ∧ (mpt b n u p).2 ≤ n ∧ ska b n (mpt b n u p).2 = (mpt b n u p).2 := sqr_w (mun_w hu) (fun p e l q => lpr_f (prt_f hu) 160 p e l q) p e l h
theorem cnd_c {b : Nat → Int32} {n : Nat} {u : Rcg} (h : Cnr b n u) : Cnr b n (cnd b n u) := sqr_c h
theorem cnd_f {b : Nat → Int32} {n : Nat} {u : Rcg} (h : Fwd b n u) : Fwd b n (cnd b n u) := sqr_f h (mpt_w h)
theorem unt_c {b : Nat → Int32} {n : Nat} {lt : Int32 → Bool} (r : Nat) : Cnr b n (unt b n lt r) := fun a => by
  cases r with
  | zero =>
    show (if skv b n (ska b n a) = 33 ∨ skv b n (ska b n a) = 40 then (false, ska b n (ska b n a)) else sqr (sms b n lt 0) (cmq b n (sms b n lt 0)) (ska b n a)) = _
    rw [skv_i, ska_i, sqr_c (sms_c 0) a]
    rfl
  | succ r =>
    show (if skv b n (ska b n a) = 33 then unt b n lt r (ska b n (ska b n a) + 1) else if skv b n (ska b n a) = 40 then sqr (cnd b n (unt b n lt r)) (exr b n 41) (ska b n (ska b n a) + 1) else sqr (sms b n lt (r + 1)) (cmq b n (sms b n lt (r + 1))) (ska b n a)) = _
    rw [skv_i, ska_i, sqr_c (sms_c (r + 1)) a]
    rfl
theorem unt_f {b : Nat → Int32} {n : Nat} {lt : Int32 → Bool} (hl : lt (-1) = false) : ∀ (r : Nat), Fwd b n (unt b n lt r)
  | 0 => fun a h => by
    unfold unt at h ⊢
    by_cases c : skv b n a = 33 ∨ skv b n a = 40
    · rw [if_pos c] at h
      exact absurd h (by simp)
    · rw [if_neg c] at h ⊢
      exact sqr_f (sms_f hl 0) (cmq_f (sms_f hl 0)).w a h
  | r + 1 => fun a h => by
    unfold unt at h ⊢
    by_cases c : skv b n a = 33
    · rw [if_pos c] at h ⊢
      exact (unt_f hl r).st h
    · rw [if_neg c] at h ⊢
      by_cases d : skv b n a = 40
      · rw [if_pos d] at h ⊢
        exact (sqr_x (cnd_f (unt_f hl r)) (by decide)).st h
      · rw [if_neg d] at h ⊢
        exact sqr_f (sms_f hl (r + 1)) (cmq_f (sms_f hl (r + 1))).w a h
theorem acl_c {b : Nat → Int32} {n : Nat} : Cnr b n (acl b n) := sqr_c (cnd_c (unt_c 6))
theorem acl_f {b : Nat → Int32} {n : Nat} : Fwd b n (acl b n) := sqr_f (cnd_f (unt_f (by decide) 6)) (sqr_w (exr_f (by decide)).w (onr_f (by decide)).w)
theorem pan_w {b : Nat → Int32} {n : Nat} : ∀ p, ska b n p = p → p ≤ n → (pan b n p).1 = true → p ≤ (pan b n p).2 ∧ (pan b n p).2 ≤ n ∧ ska b n (pan b n p).2 = (pan b n p).2 := sqr_w (exr_f (by decide)).w (sms_f (by decide) 6).w
theorem pcl_c {b : Nat → Int32} {n : Nat} : Cnr b n (pcl_ b n) := fun a => by
  unfold pcl_
  rw [skv_i, sqr_c (cnd_c (unt_c 6)) a, sqr_c (sms_c 6) a]
theorem pcl_f {b : Nat → Int32} {n : Nat} : Fwd b n (pcl_ b n) := fun a h => by
  unfold pcl_ at h ⊢
  by_cases c : skv b n a = 33 ∨ skv b n a = 40
  · rw [if_pos c] at h ⊢
    exact sqr_f (cnd_f (unt_f (by decide) 6)) pan_w a h
  · rw [if_neg c] at h ⊢
    refine sqr_f (sms_f (by decide) 6) (fun p e l q => ?_) a h
    by_cases d : sgb (skv b n p) = true
    · rw [if_pos d] at q ⊢
      exact sqr_w (cmq_f (sms_f (by decide) 6)).w (sqr_w (mpt_w (unt_f (by decide) 6)) pan_w) p e l q
    · rw [if_neg d]
      exact ⟨Nat.le_refl _, l, e⟩
theorem prt_a {b : Nat → Int32} {n : Nat} {u : Rcg} : cnd b n u = sqr (prt b n u) (lpr b n (isq 124) (prt b n u) 160) := by
  unfold cnd mpt
  rw [← sqr_a]
  rfl
/-! the reference's reader, by what stands on the tape -/
abbrev tn (h : Hp_) : Nat := (h_i h 1 32).toNatClampNeg
abbrev ta (h : Hp_) : Nat := (h_i h 1 33).toNatClampNeg
theorem ta_i {h : Hp_} (I : Iv h) : (ta h : Int) = pa h := n_nat (pa_in I).1
theorem tn_i {h : Hp_} (I : Iv h) : (tn h : Int) = pz h := n_nat (pz_in I).1
def Tp (b : Nat → Int32) (n : Nat) (h : Hp_) : Prop := (∀ k, k < n → h_i h 225 k = b k) ∧ tn h = n
theorem Tp.fr {b : Nat → Int32} {n : Nat} {ws : List Nat} {h h' : Hp_} (t : Tp b n h) (f : Fr ws h h') (o : (off ws 225 && !inw ws 1 32) = true) : Tp b n h' := by
  rw [Bool.and_eq_true, Bool.not_eq_true'] at o
  exact ⟨fun k hk => (fr_i f o.1 k).trans (t.1 k hk), by show (h_i h' 1 32).toNatClampNeg = n; rw [(f.2 1 32 o.2).1]; exact t.2⟩
/-- what was found, as place and fault say it -/
def Ft (b : Nat → Int32) (n : Nat) (R : Bool × Nat) (h : Hp_) : Prop := (h_i h 1 34 = -1 ∧ R.1 = true ∧ ska b n (ta h) = R.2) ∨ (¬ h_i h 1 34 = -1 ∧ R.1 = false ∧ h_i h 1 34 = Int32.ofNat R.2)
theorem Ft.mv {b : Nat → Int32} {n : Nat} {R : Bool × Nat} {h h' : Hp_} (F : Ft b n R h) (e4 : h_i h' 1 34 = h_i h 1 34) (e3 : h_i h' 1 33 = h_i h 1 33) : Ft b n R h' := by
  unfold Ft ta
  rw [e4, e3]
  exact F
theorem Ft.fr {b : Nat → Int32} {n : Nat} {R : Bool × Nat} {ws : List Nat} {h h' : Hp_} (F : Ft b n R h) (f : Fr ws h h') (o : (!inw ws 1 34 && !inw ws 1 33) = true) : Ft b n R h' := by
  rw [Bool.and_eq_true, Bool.not_eq_true', Bool.not_eq_true'] at o
  exact F.mv (f.2 1 34 o.1).1 (f.2 1 33 o.2).1
theorem Ft.ok {b : Nat → Int32} {n : Nat} {R : Bool × Nat} {h : Hp_} (F : Ft b n R h) (w : h_i h 1 34 = -1) : R.1 = true ∧ ska b n (ta h) = R.2 := by
  rcases F with F | F
  · exact F.2
  · exact absurd w F.1
theorem Ft.no {b : Nat → Int32} {n : Nat} {R : Bool × Nat} {h : Hp_} (F : Ft b n R h) (w : ¬ h_i h 1 34 = -1) : R.1 = false ∧ h_i h 1 34 = Int32.ofNat R.2 := by
  rcases F with F | F
  · exact absurd F.1 w
  · exact F.2
theorem Ft.ne {b : Nat → Int32} {n : Nat} {R : Bool × Nat} {h : Hp_} (w : ¬ h_i h 1 34 = -1) (e : h_i h 1 34 = Int32.ofNat R.2) (f : R.1 = false) : Ft b n R h := Or.inr ⟨w, f, e⟩
def Lkf (b : Nat → Int32) (n : Nat) (h : Hp_) (r : Int32) (h' : Hp_) : Prop := Lk h r h' ∧ ta h' = ska b n (ta h) ∧ r = skv b n (ta h)
theorem Lkf.i {b : Nat → Int32} {n : Nat} {h h' : Hp_} {r : Int32} (L : Lkf b n h r h') : ska b n (ta h') = ta h' := by rw [L.2.1, ska_i]
theorem Ft.lk {b : Nat → Int32} {n : Nat} {R : Bool × Nat} {h h' : Hp_} {r : Int32} (F : Ft b n R h) (L : Lkf b n h r h') : Ft b n R h' := by
  have e4 : h_i h' 1 34 = h_i h 1 34 := (L.1.2.1.2 1 34 (by decide +kernel)).1
  unfold Ft
  rw [e4, L.i, L.2.1]
  exact F
theorem Lkf.t {b : Nat → Int32} {n : Nat} {h h' : Hp_} {r : Int32} (L : Lkf b n h r h') (t : Tp b n h) : Tp b n h' := t.fr L.1.2.1 (by decide +kernel)
theorem c_lookf (d : Nat) {b : Nat → Int32} {n : Nat} {h : Hp_} (I : Iv h) (t : Tp b n h) : Ci (m_X12_look (d + 0) 0 0) [.ref 1] h (fun r h' => Lkf b n h r h') := by
  have t1 : (1 : Int32).toInt = 1 := rfl
  have ni := tn_i I
  rw [t.2] at ni
  have ni' : (n : Int) = (h_i h 1 32).toInt := ni
  have z1 : (h_i h 1 32).toInt ≤ 160 := (pz_in I).2
  have fin1 : ∀ h2, Iv h2 → Fr [1033] h h2 → pa h ≤ pa h2 → (pa h2 ≤ pa h ∨ pa h2 ≤ pz h) → ska b n (ta h2) = ska b n (ta h) → h_i h2 1 32 ≤ h_i h2 1 33 → Lkf b n h (-1) h2 := fun h2 I2 F2 l1 l2 sk y => by
    have ai := ta_i I2
    rw [(F2.2 1 32 (by decide +kernel)).1] at y
    have y' : pz h ≤ pa h2 := q_le.mp y
    have e : ska b n (ta h2) = ta h2 := ska_n (fun c => by have := c.1; omega)
    have e' : ska b n (ta h) = ta h2 := sk.symm.trans e
    refine ⟨⟨I2, F2, l1, l2, Or.inl ⟨rfl, y'⟩⟩, e'.symm, ?_⟩
    unfold skv
    rw [e', if_neg (by omega)]
  have fin2 : ∀ h2, Iv h2 → Fr [1033] h h2 → pa h ≤ pa h2 → (pa h2 ≤ pa h ∨ pa h2 ≤ pz h) → ska b n (ta h2) = ska b n (ta h) → ¬ h_i h2 1 32 ≤ h_i h2 1 33 → ¬ h_i h2 225 (ta h2) = 32 → Lkf b n h (h_i h2 225 (h_i h2 1 33).toNatClampNeg) h2 := fun h2 I2 F2 l1 l2 sk y nb => by
    have ai := ta_i I2
    have et : ∀ k, k < n → h_i h2 225 k = b k := (t.fr F2 (by decide +kernel)).1
    rw [(F2.2 1 32 (by decide +kernel)).1] at y
    have y' : pa h2 < pz h := q_nle y
    have e : ska b n (ta h2) = ta h2 := ska_n (fun c => nb ((et _ c.1).trans c.2))
    have e' : ska b n (ta h) = ta h2 := sk.symm.trans e
    refine ⟨⟨I2, F2, l1, l2, Or.inr ⟨y', fr_i F2 (by decide +kernel) _⟩⟩, e'.symm, ?_⟩
    unfold skv
    rw [e', if_pos (by omega)]
    exact et (ta h2) (by omega)
  have lp : ∀ (q : Nat) (h2 : Hp_), Iv h2 → Fr [1033] h h2 → pa h ≤ pa h2 → (pa h2 ≤ pa h ∨ pa h2 ≤ pz h) → ska b n (ta h2) = ska b n (ta h) → pz h - pa h2 ≤ q → AW (m_X12_look (d + 0) 0 0) 0 0 0 [(0, .ref 1)] [] h2 (kI (fun r h' => Lkf b n h r h')) := by
    intro q
    induction q with
    | zero =>
      intro h2 I2 F2 l1 l2 sk m
      refine t_X12_look_0 d h2 I2.1 _ ⟨fun y => ⟨fun _ => fin1 h2 I2 F2 l1 l2 sk y, fun z => absurd y z⟩, fun z => ?_⟩
      rw [(F2.2 1 32 (by decide +kernel)).1] at z
      have z := q_nle z
      have m' : (h_i h 1 32).toInt - (h_i h2 1 33).toInt ≤ 0 := m
      omega
    | succ q ih =>
      intro h2 I2 F2 l1 l2 sk m
      have ez : h_i h2 1 32 = h_i h 1 32 := (F2.2 1 32 (by decide +kernel)).1
      have et : ∀ k, k < n → h_i h2 225 k = b k := (t.fr F2 (by decide +kernel)).1
      have ai : (ta h2 : Int) = (h_i h2 1 33).toInt := ta_i I2
      have p0 : 0 ≤ (h_i h2 1 33).toInt := (pa_in I2).1
      have m' : (h_i h 1 32).toInt - (h_i h2 1 33).toInt ≤ (q + 1 : Nat) := m
      refine t_X12_look_0 d h2 I2.1 _ ⟨fun y => ⟨fun _ => fin1 h2 I2 F2 l1 l2 sk y, fun z => absurd y z⟩, fun z => ?_⟩
      have z' := z
      rw [ez] at z'
      have z' := q_nle z'
      have v : vp_in (h_i h2 1 33) 160 := dp_in (lo := 0) (hi := 159) ⟨p0, by show _ ≤ (159 : Int); omega⟩ (by decide) (by decide)
      refine ⟨v, fun nb => ⟨fun y => absurd y z, fun _ => ⟨v, fin2 h2 I2 F2 l1 l2 sk z nb⟩⟩, fun yb => ?_⟩
      have ex : (h_i h2 1 33 + 1).toInt = (h_i h2 1 33).toInt + 1 := tx_add (by rw [t1]; omega) (by rw [t1]; omega)
      have l1' : (h_i h 1 33).toInt ≤ (h_i h2 1 33).toInt := l1
      have I3 := i33 I2 (x := h_i h2 1 33 + 1) ⟨by show (0 : Int) ≤ _; omega, by show _ ≤ (180 : Int); omega⟩
      have F3 : Fr [1033] h (h_im h2 1 33 (h_i h2 1 33 + 1)) := F2.im (by decide +kernel)
      have pe : pa (h_im h2 1 33 (h_i h2 1 33 + 1)) = (h_i h2 1 33).toInt + 1 := by
        show (h_i (h_im h2 1 33 _) 1 33).toInt = _
        rw [im_at, ex]
      have a3 : ta (h_im h2 1 33 (h_i h2 1 33 + 1)) = ta h2 + 1 := by
        have k := ta_i I3
        omega
      have sk3 : ska b n (ta (h_im h2 1 33 (h_i h2 1 33 + 1))) = ska b n (ta h) := by
        rw [a3, ← ska_s ⟨by omega, by rw [← et _ (by omega)]; exact yb⟩]
        exact sk
      exact ih _ I3 F3 (by rw [pe]; show (h_i h 1 33).toInt ≤ _; omega) (Or.inr (by rw [pe]; show _ ≤ (h_i h 1 32).toInt; omega)) sk3 (by rw [pe]; show (h_i h 1 32).toInt - _ ≤ _; omega)
  refine Ct.of (fun _ _ _ => trivial) rfl (Nat.le_of_ble_eq_true rfl) ?_
  have z0 : 0 ≤ (h_i h 1 32).toInt := (pz_in I).1
  have p0 : 0 ≤ (h_i h 1 33).toInt := (pa_in I).1
  exact lp 160 h I (Fr.rf _ _) (Int.le_refl _) (Or.inl (Int.le_refl _)) rfl (by show (h_i h 1 32).toInt - (h_i h 1 33).toInt ≤ 160; omega)
theorem c_badf (d : Nat) {h : Hp_} (I : Iv h) (w : h_i h 1 34 = -1) : Cv (m_X12_bad (d + 0) 0 0) [.ref 1] h (fun h' => Iv h' ∧ Fr [1034] h h' ∧ ¬ h_i h' 1 34 = -1 ∧ h_i h' 1 34 = Int32.ofNat (ta h)) := by
  have p0 : 0 ≤ (h_i h 1 33).toInt := (pa_in I).1
  refine t_X12_bad d h I.1 _ ⟨fun z => absurd w z, fun _ => ⟨i34 I _, (Fr.rf _ _).im (by decide +kernel), ?_, ?_⟩⟩
  · rw [im_at]
    intro e
    rw [e] at p0
    exact absurd p0 (by decide)
  · rw [im_at]
    exact (of_nat32 p0).symm
/-- a number read -/
def Nmf (b : Nat → Int32) (n : Nat) (h : Hp_) (r : Int32) (h' : Hp_) : Prop := Nu h h' ∧ Ft b n (nm0 b n (ta h)) h' ∧ (h_i h' 1 34 = -1 → dgb (skv b n (ta h)) = true ∧ nml b n 4 0 (ska b n (ta h)) = (true, ta h', r))
theorem dg_eq (x : Int32) : dgb x = true ↔ (¬ x < 48 ∧ ¬ 57 < x) := decide_eq_true_iff
theorem nu_loopf (d : Nat) {b : Nat → Int32} {n : Nat} (h : Hp_) (I : Iv h) (t : Tp b n h) (c0 : dgb (skv b n (ta h)) = true) : ∀ (k : Nat) (x1 x2 : Int32) (h2 : Hp_), x2.toInt + k = 4 ∧ k ≤ 4 → Iv h2 → Fr [1033, 1034] h h2 → h_i h2 1 34 = -1 → pa h ≤ pa h2 → pa h2 ≤ pz h → nml b n 4 0 (ska b n (ta h)) = nml b n k x1 (ta h2) → ((pa h < pa h2) ∨ (ta h2 = ska b n (ta h))) →
    AW (m_X12_number (d + 1) 0 0) 0 0 20 [(0, .ref 1), (1, .int x1), (2, .int x2)] [] h2 (kI (fun r h' => Nmf b n h r h')) := by
  have t1 : (1 : Int32).toInt = 1 := rfl
  have t4 : (4 : Int32).toInt = 4 := rfl
  have z1 : (h_i h 1 32).toInt ≤ 160 := (pz_in I).2
  have ni := tn_i I
  rw [t.2] at ni
  have ni' : (n : Int) = (h_i h 1 32).toInt := ni
  have nm : ∀ q, nml b n 4 0 (ska b n (ta h)) = (true, q) → (nm0 b n (ta h)) = (true, ska b n q.1) := fun q e => by
    unfold nm0
    rw [if_pos c0, e]
    exact if_pos rfl
  have nf : ∀ q, nml b n 4 0 (ska b n (ta h)) = (false, q) → (nm0 b n (ta h)) = (false, q.1) := fun q e => by
    unfold nm0
    rw [if_pos c0, e]
    exact if_neg (by simp)
  have l0 := dgb_l c0
  have fin : ∀ (k : Nat) (x1 : Int32) (h2 : Hp_), Iv h2 → Fr [1033, 1034] h h2 → h_i h2 1 34 = -1 → pa h ≤ pa h2 → pa h2 ≤ pz h → nml b n 4 0 (ska b n (ta h)) = nml b n k x1 (ta h2) → ((pa h < pa h2) ∨ (ta h2 = ska b n (ta h))) → ¬ (ta h2 < n ∧ dgb (b (ta h2)) = true) → Nmf b n h x1 h2 := fun k x1 h2 I2 F2 w l1 l2 e c nn => by
    have e2 : nml b n k x1 (ta h2) = (true, ta h2, x1) := by
      cases k with
      | zero =>
        unfold nml
        exact if_neg nn
      | succ k =>
        unfold nml
        exact if_neg nn
    rw [e2] at e
    refine ⟨⟨I2, F2, l1, l2, fun _ => ?_⟩, Or.inl ⟨w, ?_, ?_⟩, fun _ => ⟨c0, e⟩⟩
    · rcases c with c | c
      · exact c
      · rw [← c] at l0
        exact absurd l0 nn
    · rw [nm _ e]
    · rw [nm _ e]
  intro k
  induction k with
  | zero =>
    intro x1 x2 h2 ek I2 F2 w l1 l2 e c
    have ez : h_i h2 1 32 = h_i h 1 32 := (F2.2 1 32 (by decide +kernel)).1
    have et : ∀ k, k < n → h_i h2 225 k = b k := (t.fr F2 (by decide +kernel)).1
    have ai : (ta h2 : Int) = (h_i h2 1 33).toInt := ta_i I2
    have p0 : 0 ≤ (h_i h2 1 33).toInt := (pa_in I2).1
    have x4 : x2 = 4 := Int32.toInt_inj.mp (by rw [t4]; omega)
    refine t_X12_number_20 d h2 I2.1 x1 x2 _ ⟨fun z => fin 0 x1 h2 I2 F2 w l1 l2 e c (fun y => ?_), fun z => ?_⟩
    · rw [ez] at z
      have z := q_le.mp z
      have := y.1
      omega
    · rw [ez] at z
      have z := q_nle z
      have v : vp_in (h_i h2 1 33) 160 := dp_in (lo := 0) (hi := 159) ⟨p0, by show _ ≤ (159 : Int); omega⟩ (by decide) (by decide)
      refine ⟨v, Ci.mono (c_isDigit d h2 _) (fun r h3 q => ?_)⟩
      obtain ⟨e3, q⟩ := q
      subst e3
      refine ⟨I2.1, fun r0 => fin 0 x1 h3 I2 F2 w l1 l2 e c (fun y => ?_), fun r1 => ⟨fun n4 => absurd x4 n4, fun _ => ?_⟩⟩
      · rcases q with q | q
        · rw [r0] at q
          exact absurd q.1 (by decide)
        · have y2 := (dg_eq _).mp y.2
          rw [← et _ y.1] at y2
          exact q.2 y2
      · have dg : ta h3 < n ∧ dgb (b (ta h3)) = true := by
          refine ⟨by omega, (dg_eq _).mpr ?_⟩
          rcases q with q | q
          · rw [← et _ (by omega)]
            exact q.2
          · exact absurd q.1 r1
        have e2 : nml b n 0 x1 (ta h3) = (false, ta h3, x1) := by
          unfold nml
          exact if_pos dg
        rw [e2] at e
        refine Cv.mono (c_badf d I2 w) (fun h4 k4 => ⟨k4.1.1, ⟨k4.1, F2.tr (k4.2.1.more (by decide +kernel)), ?_, ?_, fun y => absurd y k4.2.2.1⟩, Or.inr ⟨k4.2.2.1, ?_, ?_⟩, fun y => absurd y k4.2.2.1⟩)
        · show (h_i h 1 33).toInt ≤ (h_i h4 1 33).toInt
          rw [(k4.2.1.2 1 33 (by decide +kernel)).1]; exact l1
        · show (h_i h4 1 33).toInt ≤ (h_i h 1 32).toInt
          rw [(k4.2.1.2 1 33 (by decide +kernel)).1]; exact l2
        · rw [nf _ e]
        · rw [nf _ e]
          exact k4.2.2.2
  | succ k ih =>
    intro x1 x2 h2 ek I2 F2 w l1 l2 e c
    have ez : h_i h2 1 32 = h_i h 1 32 := (F2.2 1 32 (by decide +kernel)).1
    have et : ∀ k, k < n → h_i h2 225 k = b k := (t.fr F2 (by decide +kernel)).1
    have ai : (ta h2 : Int) = (h_i h2 1 33).toInt := ta_i I2
    have p0 : 0 ≤ (h_i h2 1 33).toInt := (pa_in I2).1
    have l1' : (h_i h 1 33).toInt ≤ (h_i h2 1 33).toInt := l1
    refine t_X12_number_20 d h2 I2.1 x1 x2 _ ⟨fun z => fin (k + 1) x1 h2 I2 F2 w l1 l2 e c (fun y => ?_), fun z => ?_⟩
    · rw [ez] at z
      have z := q_le.mp z
      have := y.1
      omega
    · rw [ez] at z
      have z := q_nle z
      have v : vp_in (h_i h2 1 33) 160 := dp_in (lo := 0) (hi := 159) ⟨p0, by show _ ≤ (159 : Int); omega⟩ (by decide) (by decide)
      refine ⟨v, Ci.mono (c_isDigit d h2 _) (fun r h3 q => ?_)⟩
      obtain ⟨e3, q⟩ := q
      subst e3
      refine ⟨I2.1, fun r0 => fin (k + 1) x1 h3 I2 F2 w l1 l2 e c (fun y => ?_), fun r1 => ⟨fun n4 => ⟨v, ?_⟩, fun y4 => ?_⟩⟩
      · rcases q with q | q
        · rw [r0] at q
          exact absurd q.1 (by decide)
        · have y2 := (dg_eq _).mp y.2
          rw [← et _ y.1] at y2
          exact q.2 y2
      · have dg : ta h3 < n ∧ dgb (b (ta h3)) = true := by
          refine ⟨by omega, (dg_eq _).mpr ?_⟩
          rcases q with q | q
          · rw [← et _ (by omega)]
            exact q.2
          · exact absurd q.1 r1
        have ex : (h_i h3 1 33 + 1).toInt = (h_i h3 1 33).toInt + 1 := tx_add (by rw [t1]; omega) (by rw [t1]; omega)
        have I3 := i33 I2 (x := h_i h3 1 33 + 1) ⟨by show (0 : Int) ≤ _; omega, by show _ ≤ (180 : Int); omega⟩
        have pe : pa (h_im h3 1 33 (h_i h3 1 33 + 1)) = (h_i h3 1 33).toInt + 1 := by
          show (h_i (h_im h3 1 33 _) 1 33).toInt = _
          rw [im_at, ex]
        have a3 : ta (h_im h3 1 33 (h_i h3 1 33 + 1)) = ta h3 + 1 := by
          have kk := ta_i I3
          omega
        have ex2 : (x2 + 1).toInt = x2.toInt + 1 := tx_add (by rw [t1]; omega) (by rw [t1]; omega)
        refine ih _ _ _ ⟨by omega, by omega⟩ I3 (F2.im (by decide +kernel)) (by rw [f_ne (by decide)]; exact w) (by rw [pe]; show (h_i h 1 33).toInt ≤ _; omega) (by rw [pe]; show _ ≤ (h_i h 1 32).toInt; omega) ?_ (Or.inl (by rw [pe]; show (h_i h 1 33).toInt < _; omega))
        rw [e, a3, et _ dg.1]
        show (if ta h3 < n ∧ dgb (b (ta h3)) = true then nml b n k (((x1 * 10) + b (ta h3)) - 48) (ta h3 + 1) else (true, ta h3, x1)) = _
        rw [if_pos dg, Int32.mul_comm]
      · rw [y4, t4] at ek
        omega
theorem c_numberf (d : Nat) {b : Nat → Int32} {n : Nat} {h : Hp_} (I : Iv h) (t : Tp b n h) (w : h_i h 1 34 = -1) (l : pa h ≤ pz h) : Ci (m_X12_number (d + 1) 0 0) [.ref 1] h (fun r h' => Nmf b n h r h') := by
  have z1 : (h_i h 1 32).toInt ≤ 160 := (pz_in I).2
  refine t_X12_number d h I.1 _ (Ci.mono (c_lookf d I t) (fun r h2 LL => ?_))
  obtain ⟨L, ea, er⟩ := LL
  obtain ⟨I2, F2, l1, l2, lr⟩ := L
  have l2' : (h_i h2 1 33).toInt ≤ (h_i h 1 32).toInt := by
    have l' : (h_i h 1 33).toInt ≤ (h_i h 1 32).toInt := l
    rcases l2 with u | u
    · have u' : (h_i h2 1 33).toInt ≤ (h_i h 1 33).toInt := u
      omega
    · exact u
  have F2' : Fr [1033, 1034] h h2 := F2.more (by decide +kernel)
  have w2 : h_i h2 1 34 = -1 := by rw [(F2.2 1 34 (by decide +kernel)).1]; exact w
  refine ⟨I2.1, Ci.mono (c_isDigit d h2 r) (fun r6 h4 k => ?_)⟩
  obtain ⟨e4, k⟩ := k
  subst e4
  refine ⟨I2.1, fun n0 => ?_, fun y0 => ?_⟩
  · rcases k with k | k
    · exact nu_loopf d h I t ((dg_eq _).mpr (er ▸ k.2)) 4 0 0 h4 ⟨by decide, by decide⟩ I2 F2' w2 l1 l2' (by rw [ea]) (Or.inr ea)
    · exact absurd k.1 n0
  · have nd : ¬ dgb (skv b n (ta h)) = true := fun z => by
      rcases k with k | k
      · rw [y0] at k
        exact absurd k.1 (by decide)
      · have z := (dg_eq _).mp z
        rw [← er] at z
        exact k.2 z
    have nn : nm0 b n (ta h) = (false, ska b n (ta h)) := by
      unfold nm0
      exact if_neg nd
    refine Cv.mono (c_badf d I2 w2) (fun h5 k5 => ⟨k5.1.1, ⟨k5.1, F2'.tr (k5.2.1.more (by decide +kernel)), ?_, ?_, fun y => absurd y k5.2.2.1⟩, Or.inr ⟨k5.2.2.1, ?_, ?_⟩, fun y => absurd y k5.2.2.1⟩)
    · show (h_i h 1 33).toInt ≤ (h_i h5 1 33).toInt
      rw [(k5.2.1.2 1 33 (by decide +kernel)).1]; exact l1
    · show (h_i h5 1 33).toInt ≤ (h_i h 1 32).toInt
      rw [(k5.2.1.2 1 33 (by decide +kernel)).1]; exact l2'
    · rw [nn]
    · rw [nn]
      show h_i h5 1 34 = Int32.ofNat (ska b n (ta h))
      rw [← ea]
      exact k5.2.2.2
/-! the reference: sums and conditions, by what stands on the tape -/
def Rdf (b : Nat → Int32) (n s : Nat) (D : Int) (S : Rcg) (C : Nat → Hp_ → (Hp_ → Prop) → Prop) : Prop := ∀ (d : Nat) (h : Hp_), Iv h → Pq h → pd h = D → h_i h 1 37 = Int32.ofNat s → Tp b n h → C d h (fun h' => Pe s h h' ∧ Ft b n (S (ta h)) h')
theorem Pe.tp {b : Nat → Int32} {n s : Nat} {h h' : Hp_} (P : Pe s h h') (t : Tp b n h) : Tp b n h' := t.fr P.2.1 (by decide +kernel)
/-- what is still to be found behind this place, or it was found -/
def Sf (b : Nat → Int32) (n : Nat) (T : Bool × Nat) (g : Rcg) (h : Hp_) : Prop := (h_i h 1 34 = -1 → T = g (ta h)) ∧ (¬ h_i h 1 34 = -1 → Ft b n T h)
theorem Sf.mv {b : Nat → Int32} {n : Nat} {T : Bool × Nat} {g : Rcg} {h h' : Hp_} (F : Sf b n T g h) (e4 : h_i h' 1 34 = h_i h 1 34) (e3 : h_i h' 1 33 = h_i h 1 33) : Sf b n T g h' := by
  refine ⟨fun w => ?_, fun w => ?_⟩
  · rw [e4] at w
    show T = g (h_i h' 1 33).toNatClampNeg
    rw [e3]
    exact F.1 w
  · rw [e4] at w
    exact (F.2 w).mv e4 e3
theorem Sf.fr {b : Nat → Int32} {n : Nat} {T : Bool × Nat} {g : Rcg} {ws : List Nat} {h h' : Hp_} (F : Sf b n T g h) (f : Fr ws h h') (o : (!inw ws 1 34 && !inw ws 1 33) = true) : Sf b n T g h' := by
  rw [Bool.and_eq_true, Bool.not_eq_true', Bool.not_eq_true'] at o
  exact F.mv (f.2 1 34 o.1).1 (f.2 1 33 o.2).1
theorem Sf.lk {b : Nat → Int32} {n : Nat} {T : Bool × Nat} {g : Rcg} {h h' : Hp_} {r : Int32} (F : Sf b n T g h) (c : Cnr b n g) (L : Lkf b n h r h') : Sf b n T g h' := by
  have e4 : h_i h' 1 34 = h_i h 1 34 := (L.1.2.1.2 1 34 (by decide +kernel)).1
  refine ⟨fun w => ?_, fun w => ?_⟩
  · rw [e4] at w
    rw [L.2.1, c]
    exact F.1 w
  · rw [e4] at w
    exact (F.2 w).lk L
theorem sqf {b : Nat → Int32} {n : Nat} {f g : Rcg} {a : Nat} {h : Hp_} (c : Cnr b n g) (F : Ft b n (f a) h) : Sf b n (sqr f g a) g h := by
  refine ⟨fun w => ?_, fun w => ?_⟩
  · have k := F.ok w
    unfold sqr
    rw [if_pos k.1, ← k.2, c]
  · have k := F.no w
    have e : sqr f g a = f a := by
      unfold sqr
      exact if_neg (by rw [k.1]; decide)
    rw [e]
    exact F
theorem Sf.sq {b : Nat → Int32} {n : Nat} {T : Bool × Nat} {f g : Rcg} {h h2 : Hp_} (F : Sf b n T (sqr f g) h) (w : h_i h 1 34 = -1) (c : Cnr b n g) (G : Ft b n (f (ta h)) h2) : Sf b n T g h2 := by
  have k := sqf (f := f) c G
  rw [← F.1 w] at k
  exact k
theorem Sf.ft {b : Nat → Int32} {n : Nat} {T : Bool × Nat} {g : Rcg} {h h2 : Hp_} (F : Sf b n T g h) (w : h_i h 1 34 = -1) (G : Ft b n (g (ta h)) h2) : Ft b n T h2 := by
  rw [F.1 w]
  exact G
theorem lp0 {b : Nat → Int32} {n : Nat} {T : Bool × Nat} {sp : Int32 → Bool} {f : Rcg} {h h5 : Hp_} {r : Int32} (F : Sf b n T (lpr b n sp f 0) h) (w : h_i h 1 34 = -1) (L : Lkf b n h r h5) : Ft b n T h5 := by
  have e4 : h_i h5 1 34 = h_i h 1 34 := (L.1.2.1.2 1 34 (by decide +kernel)).1
  rw [F.1 w]
  exact Or.inl ⟨by rw [e4]; exact w, rfl, by rw [L.i, L.2.1]; rfl⟩
theorem lpx {b : Nat → Int32} {n k : Nat} {T : Bool × Nat} {sp : Int32 → Bool} {f : Rcg} {h h5 : Hp_} {r : Int32} (F : Sf b n T (lpr b n sp f (k + 1)) h) (w : h_i h 1 34 = -1) (L : Lkf b n h r h5) (ns : sp r = false) : Ft b n T h5 := by
  have e4 : h_i h5 1 34 = h_i h 1 34 := (L.1.2.1.2 1 34 (by decide +kernel)).1
  have e : lpr b n sp f (k + 1) (ta h) = (true, ska b n (ta h)) := by
    unfold lpr
    exact if_neg (by rw [← L.2.2, ns]; decide)
  rw [F.1 w, e]
  exact Or.inl ⟨by rw [e4]; exact w, rfl, by rw [L.i, L.2.1]⟩
theorem lps {b : Nat → Int32} {n k : Nat} {T : Bool × Nat} {sp : Int32 → Bool} {f : Rcg} {h h9 : Hp_} {r : Int32} (F : Sf b n T (lpr b n sp f (k + 1)) h) (w : h_i h 1 34 = -1) (er : r = skv b n (ta h)) (ys : sp r = true) (G : Ft b n (f (ska b n (ta h) + 1)) h9) : Sf b n T (lpr b n sp f k) h9 := by
  have e : T = sqr (fun _ => f (ska b n (ta h) + 1)) (lpr b n sp f k) (ta h) := by
    rw [F.1 w]
    unfold sqr
    show (if sp (skv b n (ta h)) = true then (if (f (ska b n (ta h) + 1)).1 = true then lpr b n sp f k (f (ska b n (ta h) + 1)).2 else f (ska b n (ta h) + 1)) else (true, ska b n (ta h))) = _
    rw [if_pos (by rw [← er]; exact ys)]
  rw [e]
  exact sqf (f := fun _ => f (ska b n (ta h) + 1)) (lpr_c k) G
/-- one sign further, behind a look -/
theorem nxa {b : Nat → Int32} {n : Nat} {h h5 h6 : Hp_} {r : Int32} (L : Lkf b n h r h5) (I6 : Iv h6) (e : pa h6 = pa h5 + 1) : ta h6 = ska b n (ta h) + 1 := by
  have a := ta_i I6
  have c := ta_i L.1.1
  have d := L.2.1
  omega
theorem c_termf {b : Nat → Int32} {n : Nat} (s e : Nat) (D : Int) (f : Rcg) (A : Rdf b n s D f (fun d h K => Cv (m_X12_atom (d + e + 51) 0 0) [.ref 1] h K)) : Rdf b n s D (trm b n f) (fun d h K => Cv (m_X12_term (d + e + 52) 0 0) [.ref 1] h K) := by
  intro d h I q eD es t
  have z1 : pz h ≤ 160 := (pz_in I).2
  have lp : ∀ (k : Nat) (h2 : Hp_), Pe s h h2 → Sf b n (trm b n f (ta h)) (lpr b n (isq 42) f k) h2 → pz h - pa h2 ≤ k → AW (m_X12_term (d + e + 52) 0 0) 0 0 4 [(0, .ref 1)] [] h2 (kV (fun h' => Pe s h h' ∧ Ft b n (trm b n f (ta h)) h')) := by
    intro k
    induction k with
    | zero =>
      intro h2 P F m
      refine t_X12_term_4 (d + e) h2 P.1.1 _ ⟨fun w => ⟨P, F.2 w⟩, fun w => Ci.mono (c_lookf (d + e) P.1 (P.tp t)) (fun r h5 L => ⟨L.1.1.1, fun _ => ⟨P.lk I L.1, lp0 F w L⟩, fun er => ?_⟩)⟩
      have z2 := zf P.2.1 (by decide +kernel)
      have l3 := L.1.2.2.1
      rcases L.1.2.2.2.2 with u | u
      · rw [er] at u; exact absurd u.1 (by decide)
      · have := u.1
        omega
    | succ k ih =>
      intro h2 P F m
      refine t_X12_term_4 (d + e) h2 P.1.1 _ ⟨fun w => ⟨P, F.2 w⟩, fun w => Ci.mono (c_lookf (d + e) P.1 (P.tp t)) (fun r h5 L => ⟨L.1.1.1, fun nr => ⟨P.lk I L.1, lpx F w L (decide_eq_false nr)⟩, fun er => ?_⟩)⟩
      have P5 := P.lk I L.1
      have w5 : h_i h5 1 34 = -1 := by rw [(L.1.2.1.2 1 34 (by decide +kernel)).1]; exact w
      have z2 := zf P.2.1 (by decide +kernel)
      have l3 := L.1.2.2.1
      have l5 : pa h5 < pz h := by
        rcases L.1.2.2.2.2 with u | u
        · rw [er] at u; exact absurd u.1 (by decide)
        · have := u.1
          omega
      obtain ⟨I6, F6, a6, q6, d6, s6⟩ := P5.nx I q w5 l5
      refine Cv.mono (A d _ I6 q6 (by omega) (by rw [s6]; exact es) ((P5.tp t).fr F6 (by decide +kernel))) (fun h9 Q => ⟨Q.1.1.1, Cv.mono (c_say (d + e) Q.1.1 42 (Q.1.room I6 q6)) (fun h12 S => ?_)⟩)
      have P12 := P5.op w5 I I6 F6 (by omega) Q.1 S (by decide)
      have e33 : pa h12 = pa h9 := by show (h_i h12 1 33).toInt = _; rw [(S.2.1.2 1 33 (by decide +kernel)).1]
      have q4 := Q.1.2.2.2.1
      have G := Q.2
      rw [nxa L I6 a6] at G
      exact ⟨S.1.1, ih h12 P12 ((lps F w L.2.2 (decide_eq_true er) G).fr S.2.1 (by decide +kernel)) (by omega)⟩
  refine t_X12_term (d + e) h I.1 _ (Cv.mono (A d h I q eD es t) (fun h1 P => ⟨P.1.1.1, lp 160 h1 P.1 (sqf (f := f) (lpr_c 160) P.2) ?_⟩))
  have a1 : 0 ≤ pa h1 := (pa_in P.1.1).1
  omega
theorem c_sumf {b : Nat → Int32} {n : Nat} (s e : Nat) (D : Int) (f : Rcg) (A : Rdf b n s D (trm b n f) (fun d h K => Cv (m_X12_term (d + e + 52) 0 0) [.ref 1] h K)) : Rdf b n s D (smm b n f) (fun d h K => Cv (m_X12_sum (d + e + 53) 0 0) [.ref 1] h K) := by
  intro d h I q eD es t
  have z1 : pz h ≤ 160 := (pz_in I).2
  have ni := tn_i I
  rw [t.2] at ni
  have lp : ∀ (k : Nat) (x1 : Int32) (h4 : Hp_), Pe s h h4 → Sf b n (smm b n f (ta h)) (lpr b n pmb (trm b n f) k) h4 → (x1 = skv b n (ta h4) ∧ ska b n (ta h4) = ta h4) → (x1 = -1 ∨ pa h4 < pz h) → pz h - pa h4 ≤ k → AW (m_X12_sum (d + e + 53) 0 0) 0 0 9 [(0, .ref 1), (1, .int x1)] [] h4 (kV (fun h' => Pe s h h' ∧ Ft b n (smm b n f (ta h)) h')) := by
    intro k
    induction k with
    | zero =>
      intro x1 h4 P F er c m
      have fin : h_i h4 1 34 = -1 → Ft b n (smm b n f (ta h)) h4 := fun w => by
        rw [F.1 w]
        exact Or.inl ⟨w, rfl, rfl⟩
      refine t_X12_sum_9 (d + e) h4 P.1.1 x1 _ ⟨fun w => ⟨P, F.2 w⟩, fun w => ⟨fun e1 => ?_, fun _ => ⟨fun _ => ⟨P, fin w⟩, fun e1 => ?_⟩⟩⟩
      · rcases c with u | u
        · rw [e1] at u; exact absurd u (by decide)
        · omega
      · rcases c with u | u
        · rw [e1] at u; exact absurd u (by decide)
        · omega
    | succ k ih =>
      intro x1 h4 P F er c m
      have go : h_i h4 1 34 = -1 → pmb x1 = true → opc x1 = true → ¬ x1 = -1 → Cv (m_X12_term (d + e + 52) 0 0) [.ref 1] (h_im h4 1 33 ((h_i h4 1 33) + 1)) (fun h9 => Wf h9 ∧ (Cv (m_X12_say (d + e + 0) 0 0) [.ref 1, .int x1] h9 (fun h12 => Wf h12 ∧ (Ci (m_X12_look (d + e + 0) 0 0) [.ref 1] h12 (fun r17 h15 => Wf h15 ∧ (AW (m_X12_sum (d + e + 53) 0 0) 0 0 9 [(0, .ref 1), (1, .int r17)] [] h15 (kV (fun h' => Pe s h h' ∧ Ft b n (smm b n f (ta h)) h')))))))) := by
        intro w hp ho hn
        have l5 : pa h4 < pz h := by
          rcases c with u | u
          · exact absurd u hn
          · exact u
        obtain ⟨I6, F6, a6, q6, d6, s6⟩ := P.nx I q w l5
        refine Cv.mono (A d _ I6 q6 (by omega) (by rw [s6]; exact es) ((P.tp t).fr F6 (by decide +kernel))) (fun h9 Q => ⟨Q.1.1.1, Cv.mono (c_say (d + e) Q.1.1 x1 (Q.1.room I6 q6)) (fun h12 S => ?_)⟩)
        have P12 := P.op w I I6 F6 (by omega) Q.1 S ho
        have e33 : pa h12 = pa h9 := by show (h_i h12 1 33).toInt = _; rw [(S.2.1.2 1 33 (by decide +kernel)).1]
        have q4 := Q.1.2.2.2.1
        have G := Q.2
        have a6' : ta (h_im h4 1 33 ((h_i h4 1 33) + 1)) = ska b n (ta h4) + 1 := by
          have k1 := ta_i I6
          have k2 := ta_i P.1
          rw [er.2]
          omega
        rw [a6'] at G
        have F12 := (lps F w er.1 hp G).fr S.2.1 (by decide +kernel)
        refine ⟨S.1.1, Ci.mono (c_lookf (d + e) P12.1 (P12.tp t)) (fun r h15 L => ?_)⟩
        have l3 := L.1.2.2.1
        exact ⟨L.1.1.1, ih r h15 (P12.lk I L.1) (F12.lk (lpr_c k) L) ⟨by rw [L.2.1, skv_i]; exact L.2.2, L.i⟩ (L.1.fwd (zf P12.2.1 (by decide +kernel))) (by omega)⟩
      have fin : h_i h4 1 34 = -1 → ¬ x1 = 43 → ¬ x1 = 45 → Ft b n (smm b n f (ta h)) h4 := fun w n1 n2 => by
        have e : lpr b n pmb (trm b n f) (k + 1) (ta h4) = (true, ska b n (ta h4)) := by
          unfold lpr
          exact if_neg (by rw [← er.1]; exact fun y => (of_decide_eq_true y).elim n1 n2)
        rw [F.1 w, e]
        exact Or.inl ⟨w, rfl, rfl⟩
      refine t_X12_sum_9 (d + e) h4 P.1.1 x1 _ ⟨fun w => ⟨P, F.2 w⟩, fun w => ⟨fun e1 => go w (by rw [e1]; decide) (by rw [e1]; decide) (by rw [e1]; decide), fun n1 => ⟨fun n2 => ⟨P, fin w n1 n2⟩, fun e1 => go w (by rw [e1]; decide) (by rw [e1]; decide) (by rw [e1]; decide)⟩⟩⟩
  refine t_X12_sum (d + e) h I.1 _ (Cv.mono (A d h I q eD es t) (fun h1 P => ⟨P.1.1.1, Ci.mono (c_lookf (d + e) P.1.1 (P.1.tp t)) (fun r h4 L => ⟨L.1.1.1, lp 160 r h4 (P.1.lk I L.1) ((sqf (f := trm b n f) (lpr_c 160) P.2).lk (lpr_c 160) L) ⟨by rw [L.2.1, skv_i]; exact L.2.2, L.i⟩ (L.1.fwd (zf P.1.2.1 (by decide +kernel))) ?_⟩)⟩))
  have a1 : 0 ≤ pa h4 := (pa_in L.1.1).1
  omega
theorem c_badw (d : Nat) {h : Hp_} (I : Iv h) (w : ¬ h_i h 1 34 = -1) : Cv (m_X12_bad (d + 0) 0 0) [.ref 1] h (fun h' => Iv h' ∧ Fr [1034] h h' ∧ h_i h' 1 34 = h_i h 1 34) :=
  t_X12_bad d h I.1 _ ⟨fun _ => ⟨i34 I _, (Fr.rf _ _).im (by decide +kernel), im_at⟩, fun z => absurd z w⟩
theorem c_isSignf (d : Nat) (h : Hp_) (x : Int32) : Ci (m_X12_isSign (d + 0) 0 0) [.int x] h (fun r h' => h' = h ∧ ((r = 1 ∧ sgb x = true ∧ opc x = true ∧ ¬ x = -1) ∨ (r = 0 ∧ sgb x = false))) :=
  t_X12_isSign d h x _ ⟨fun e => ⟨rfl, Or.inl ⟨rfl, by rw [e]; decide, by rw [e]; decide, by rw [e]; decide⟩⟩, fun n1 => ⟨fun e => ⟨rfl, Or.inl ⟨rfl, by rw [e]; decide, by rw [e]; decide, by rw [e]; decide⟩⟩, fun n2 => ⟨fun n3 => ⟨rfl, Or.inr ⟨rfl, decide_eq_false (fun z => z.elim n1 (fun y => y.elim n2 n3))⟩⟩, fun e => ⟨rfl, Or.inl ⟨rfl, by rw [e]; decide, by rw [e]; decide, by rw [e]; decide⟩⟩⟩⟩⟩
theorem c_comparef {b : Nat → Int32} {n : Nat} (s e : Nat) (D : Int) (f : Rcg) (A : Rdf b n s D f (fun d h K => Cv (m_X12_sum (d + e + 53) 0 0) [.ref 1] h K)) (d : Nat) {h h2 : Hp_} (I : Iv h) (q : Pq h) (eD : pd h = D) (es : h_i h 1 37 = Int32.ofNat s) (t : Tp b n h) (P : Pe s h h2) {T : Bool × Nat} (F : Sf b n T (cmq b n f) h2) : Cv (m_X12_compare (d + e + 54) 0 0) [.ref 1] h2 (fun h' => Pe s h h' ∧ Ft b n T h') := by
  refine t_X12_compare (d + e) h2 P.1.1 _ ⟨fun w => Ci.mono (c_isSignf (d + e) h2 (-1)) (fun r h3 k => ?_), fun w => Ci.mono (c_lookf (d + e) P.1 (P.tp t)) (fun r h5 L => ⟨L.1.1.1, Ci.mono (c_isSignf (d + e) h5 r) (fun r2 h6 k => ?_)⟩)⟩
  · obtain ⟨e3, k⟩ := k
    subst e3
    refine ⟨P.1.1, fun r0 => ?_, fun _ => Cv.mono (c_badw (d + e) P.1 w) (fun h4 b4 => ⟨b4.1.1, P.bad I q b4.1 b4.2.1 (by rw [b4.2.2]; exact w), (F.2 w).mv b4.2.2 (b4.2.1.2 1 33 (by decide +kernel)).1⟩)⟩
    rcases k with k | k
    · exact absurd rfl k.2.2.2
    · exact absurd k.1 r0
  · obtain ⟨e6, k⟩ := k
    subst e6
    have P5 := P.lk I L.1
    have w5 : h_i h6 1 34 = -1 := by rw [(L.1.2.1.2 1 34 (by decide +kernel)).1]; exact w
    refine ⟨L.1.1.1, fun r0 => ?_, fun r0 => Cv.mono (c_badf (d + e) L.1.1 w5) (fun h4 b4 => ⟨b4.1.1, P5.bad I q b4.1 b4.2.1 b4.2.2.1, ?_⟩)⟩
    · rcases k with k | k
      · have l5 : pa h6 < pz h := by
          rcases L.1.fwd (zf P.2.1 (by decide +kernel)) with u | u
          · exact absurd u k.2.2.2
          · exact u
        obtain ⟨I6, F6, a6, q6, d6, s6⟩ := P5.nx I q w5 l5
        refine Cv.mono (A d _ I6 q6 (by omega) (by rw [s6]; exact es) ((P5.tp t).fr F6 (by decide +kernel))) (fun h9 Q => ⟨Q.1.1.1, Cv.mono (c_say (d + e) Q.1.1 r (Q.1.room I6 q6)) (fun h12 S => ⟨S.1.1, P5.op w5 I I6 F6 (by omega) Q.1 S k.2.2.1, ?_⟩)⟩)
        have G := Q.2
        rw [nxa L I6 a6] at G
        refine Ft.fr ?_ S.2.1 (by decide +kernel)
        rw [F.1 w]
        unfold cmq
        rw [if_pos (by rw [← L.2.2]; exact k.2.1)]
        exact G
      · exact absurd k.1 r0
    · rcases k with k | k
      · rw [r0] at k
        exact absurd k.1 (by decide)
      · rw [F.1 w]
        unfold cmq
        rw [if_neg (by rw [← L.2.2, k.2]; decide)]
        exact Or.inr ⟨b4.2.2.1, rfl, by rw [b4.2.2.2, L.2.1]⟩
