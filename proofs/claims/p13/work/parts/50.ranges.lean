/-! A CHECK OF RANGES: whole numbers, ranges of ints and what the operations do to them -/
def ile : Int → Int → Bool
  | .ofNat a, .ofNat b => Nat.ble a b
  | .negSucc _, .ofNat _ => true
  | .ofNat _, .negSucc _ => false
  | .negSucc a, .negSucc b => Nat.ble b a
theorem ile_iff {a b : Int} : ile a b = true ↔ a ≤ b := by
  cases a with
  | ofNat a => cases b with
    | ofNat b => show Nat.ble a b = true ↔ (a : Int) ≤ (b : Int); rw [Nat.ble_eq]; omega
    | negSucc b => exact ⟨fun h => (nomatch h), fun h => by have h : (a : Int) ≤ Int.negSucc b := h; omega⟩
  | negSucc a => cases b with
    | ofNat b => exact ⟨fun _ => by show Int.negSucc a ≤ (b : Int); omega, fun _ => rfl⟩
    | negSucc b => show Nat.ble b a = true ↔ Int.negSucc a ≤ Int.negSucc b; rw [Nat.ble_eq]; omega
abbrev Rg : Type := Int × Int
/-- a whole number lies in a range -/
def rin (x : Int) (r : Rg) : Prop := r.1 ≤ x ∧ x ≤ r.2
def rtop : Rg := (-2147483648, 2147483647)
theorem rtop_in (x : Int32) : rin x.toInt rtop := ⟨Int32.le_toInt x, by have := Int32.toInt_le x; exact this⟩
def rok (r : Rg) : Bool := ile (-2147483648) r.1 && ile r.2 2147483647
def rfit (r : Rg) : Rg := if rok r then r else rtop
theorem rok_iff {r : Rg} : rok r = true ↔ -2147483648 ≤ r.1 ∧ r.2 ≤ 2147483647 := by
  unfold rok
  rw [Bool.and_eq_true, ile_iff, ile_iff]
theorem rfit_in {x : Int32} {y : Int} {r : Rg} (hy : rin y r) (h : -2147483648 ≤ y → y ≤ 2147483647 → x.toInt = y) : rin x.toInt (rfit r) := by
  unfold rfit
  split
  · rename_i c
    have c := rok_iff.mp c
    have e := h (Int.le_trans c.1 hy.1) (Int.le_trans hy.2 c.2)
    rw [e]; exact hy
  · exact rtop_in x
def rmin (a b : Int) : Int := if ile a b then a else b
def rmax (a b : Int) : Int := if ile a b then b else a
theorem rmin_le {a b : Int} : rmin a b ≤ a ∧ rmin a b ≤ b := by
  unfold rmin
  split
  · rename_i h; have := ile_iff.mp h; omega
  · rename_i h; have h : ¬ a ≤ b := fun z => h (ile_iff.mpr z); omega
theorem le_rmax {a b : Int} : a ≤ rmax a b ∧ b ≤ rmax a b := by
  unfold rmax
  split
  · rename_i h; have := ile_iff.mp h; omega
  · rename_i h; have h : ¬ a ≤ b := fun z => h (ile_iff.mpr z); omega
theorem le_rmin {a b c : Int} (h1 : c ≤ a) (h2 : c ≤ b) : c ≤ rmin a b := by unfold rmin; split <;> assumption
theorem rmax_le {a b c : Int} (h1 : a ≤ c) (h2 : b ≤ c) : rmax a b ≤ c := by unfold rmax; split <;> assumption
def rsub (a b : Rg) : Bool := ile b.1 a.1 && ile a.2 b.2
theorem rsub_in {a b : Rg} {x : Int} (h : rsub a b = true) (hx : rin x a) : rin x b := by
  unfold rsub at h
  rw [Bool.and_eq_true, ile_iff, ile_iff] at h
  exact ⟨Int.le_trans h.1 hx.1, Int.le_trans hx.2 h.2⟩
def rmeet (a b : Rg) : Rg := (rmax a.1 b.1, rmin a.2 b.2)
theorem rmeet_in {a b : Rg} {x : Int} (h1 : rin x a) (h2 : rin x b) : rin x (rmeet a b) := ⟨rmax_le h1.1 h2.1, le_rmin h1.2 h2.2⟩
/-- what an operation on ints does to ranges -/
def opok (f : Int32 → Int32 → Int32) (o : Rg → Rg → Rg) : Prop := ∀ (x y : Int32) (a b : Rg), rin x.toInt a → rin y.toInt b → rin (f x y).toInt (o a b)
def o_add (a b : Rg) : Rg := rfit (a.1 + b.1, a.2 + b.2)
theorem ok_add : opok (fun x y => x + y) o_add := by
  intro x y a b ha hb
  refine rfit_in (y := x.toInt + y.toInt) ⟨by have := ha.1; have := hb.1; show a.1 + b.1 ≤ _; omega, by have := ha.2; have := hb.2; show _ ≤ a.2 + b.2; omega⟩ (fun l u => ?_)
  show (x + y).toInt = _
  rw [Int32.toInt_add, Int.bmod_eq_of_le (by omega) (by omega)]
def o_sub (a b : Rg) : Rg := rfit (a.1 - b.2, a.2 - b.1)
theorem ok_sub : opok (fun x y => x - y) o_sub := by
  intro x y a b ha hb
  refine rfit_in (y := x.toInt - y.toInt) ⟨by have := ha.1; have := hb.2; show a.1 - b.2 ≤ _; omega, by have := ha.2; have := hb.1; show _ ≤ a.2 - b.1; omega⟩ (fun l u => ?_)
  show (x - y).toInt = _
  rw [Int32.toInt_sub, Int.bmod_eq_of_le (by omega) (by omega)]
def o_mul (a b : Rg) : Rg := if ile 0 a.1 && ile 0 b.1 then rfit (a.1 * b.1, a.2 * b.2) else rtop
theorem ok_mul : opok (fun x y => x * y) o_mul := by
  intro x y a b ha hb
  unfold o_mul
  split
  · rename_i h
    rw [Bool.and_eq_true, ile_iff, ile_iff] at h
    have x0 : 0 ≤ x.toInt := Int.le_trans h.1 ha.1
    have y0 : 0 ≤ y.toInt := Int.le_trans h.2 hb.1
    refine rfit_in (y := x.toInt * y.toInt) ⟨Int.mul_le_mul ha.1 hb.1 h.2 x0, Int.mul_le_mul ha.2 hb.2 y0 (Int.le_trans x0 ha.2)⟩ (fun l u => ?_)
    show (x * y).toInt = _
    rw [Int32.toInt_mul, Int.bmod_eq_of_le (by omega) (by omega)]
  · exact rtop_in _
theorem ti_div {x y : Int32} (x0 : 0 ≤ x.toInt) (y0 : 1 ≤ y.toInt) : (x / y).toInt = x.toInt / y.toInt := by
  rw [Int32.toInt_div, Int.tdiv_eq_ediv_of_nonneg x0]
  have h1 : 0 ≤ x.toInt / y.toInt := Int.ediv_nonneg x0 (by omega)
  have h2 : x.toInt / y.toInt ≤ x.toInt := Int.ediv_le_self _ x0
  have h3 := Int32.toInt_le x
  have h3 : x.toInt ≤ 2147483647 := h3
  exact Int.bmod_eq_of_le (by omega) (by omega)
def o_div (a b : Rg) : Rg := if ile 0 a.1 && ile 1 b.1 then (0, a.2 / b.1) else rtop
theorem ok_div : opok (fun x y => x / y) o_div := by
  intro x y a b ha hb
  unfold o_div
  split
  · rename_i h
    rw [Bool.and_eq_true, ile_iff, ile_iff] at h
    have x0 : 0 ≤ x.toInt := Int.le_trans h.1 ha.1
    have y0 : 1 ≤ y.toInt := Int.le_trans h.2 hb.1
    show rin (x / y).toInt _
    rw [ti_div x0 y0]
    refine ⟨Int.ediv_nonneg x0 (by omega), ?_⟩
    show x.toInt / y.toInt ≤ a.2 / b.1
    have h1 : x.toInt / y.toInt ≤ x.toInt / b.1 := by
      refine (Int.le_ediv_iff_mul_le (by omega)).mpr ?_
      have q0 : 0 ≤ x.toInt / y.toInt := Int.ediv_nonneg x0 (by omega)
      exact Int.le_trans (Int.mul_le_mul_of_nonneg_left hb.1 q0) (Int.ediv_mul_le _ (by omega))
    exact Int.le_trans h1 (Int.ediv_le_ediv (by omega) ha.2)
  · exact rtop_in _
def o_rem (a b : Rg) : Rg := if ile 1 b.1 then (if ile 0 a.1 then (0, rmin a.2 (b.2 - 1)) else (-(b.2 - 1), b.2 - 1)) else rtop
theorem ti_rem (x y : Int32) (y0 : 1 ≤ y.toInt) : (x - x / y * y).toInt = x.toInt.tmod y.toInt := by
  have e : x - x / y * y = x % y := by
    have q := Int32.toInt_inj (x := x - x / y * y) (y := x % y)
    refine q.mp ?_
    rw [Int32.toInt_mod, Int32.toInt_sub, Int32.toInt_mul, Int32.toInt_div]
    have hb := Int32.le_toInt x
    have hc := Int32.toInt_le x
    have hy := Int32.toInt_le y
    have hx1 : -2147483648 ≤ x.toInt := hb
    have hx2 : x.toInt ≤ 2147483647 := hc
    have hy2 : y.toInt ≤ 2147483647 := hy
    have e1 : x.toInt.tmod y.toInt + x.toInt.tdiv y.toInt * y.toInt = x.toInt := Int.tmod_add_tdiv_mul ..
    have l1 : (x.toInt.tmod y.toInt).natAbs < y.toInt.natAbs := by
      rw [Int.natAbs_tmod]; exact Nat.mod_lt _ (by omega)
    have l2 : (x.toInt.tdiv y.toInt).natAbs ≤ x.toInt.natAbs := Int.natAbs_tdiv_le_natAbs ..
    have l3 : (x.toInt.tmod y.toInt).natAbs ≤ x.toInt.natAbs := by rw [Int.natAbs_tmod]; exact Nat.mod_le ..
    have l4 : (0 ≤ x.toInt → 0 ≤ x.toInt.tmod y.toInt) ∧ (x.toInt < 0 → x.toInt.tmod y.toInt ≤ 0) := by
      refine ⟨fun c => Int.tmod_nonneg _ c, fun c => ?_⟩
      have q := Int.tmod_nonneg (a := -x.toInt) y.toInt (by omega)
      rw [Int.neg_tmod] at q
      omega
    have e2 : (x.toInt.tdiv y.toInt).bmod (2 ^ 32) = x.toInt.tdiv y.toInt ∨ x.toInt.tdiv y.toInt = 2147483648 := by
      by_cases c : x.toInt.tdiv y.toInt = 2147483648
      · exact Or.inr c
      · exact Or.inl (Int.bmod_eq_of_le (by omega) (by omega))
    rcases e2 with e2 | e2
    · rw [e2, Int.bmod_eq_of_le (n := x.toInt.tdiv y.toInt * y.toInt) (by omega) (by omega), Int.bmod_eq_of_le (by omega) (by omega)]
      omega
    · exfalso
      rw [e2] at e1
      omega
  rw [e, Int32.toInt_mod]
theorem ok_rem : opok (fun x y => x - x / y * y) o_rem := by
  intro x y a b ha hb
  unfold o_rem
  split
  · rename_i h
    have h := ile_iff.mp h
    have y0 : 1 ≤ y.toInt := Int.le_trans h hb.1
    have l1 : (x.toInt.tmod y.toInt).natAbs < y.toInt.natAbs := by
      rw [Int.natAbs_tmod]; exact Nat.mod_lt _ (by omega)
    have yb := hb.2
    show rin (x - x / y * y).toInt _
    rw [ti_rem x y y0]
    split
    · rename_i h2
      have h2 := ile_iff.mp h2
      have x0 : 0 ≤ x.toInt := Int.le_trans h2 ha.1
      have n0 : 0 ≤ x.toInt.tmod y.toInt := Int.tmod_nonneg _ x0
      have l3 : x.toInt.tmod y.toInt ≤ x.toInt := by
        have q : (x.toInt.tmod y.toInt).natAbs ≤ x.toInt.natAbs := by rw [Int.natAbs_tmod]; exact Nat.mod_le ..
        omega
      have xb := ha.2
      exact ⟨n0, le_rmin (by omega) (by omega)⟩
    · exact ⟨show -(b.2 - 1) ≤ _ by omega, show _ ≤ b.2 - 1 by omega⟩
  · exact rtop_in _
def nv (x : Int32) : Nat := x.toBitVec.toNat
theorem nv_ti (x : Int32) : x.toInt = if 2 * nv x < 4294967296 then (nv x : Int) else (nv x : Int) - 4294967296 := BitVec.toInt_eq_toNat_cond x.toBitVec
theorem nv_lt (x : Int32) : nv x < 4294967296 := x.toBitVec.isLt
theorem nv_pos {x : Int32} (h : nv x < 2147483648) : x.toInt = nv x := by rw [nv_ti, if_pos (by omega)]
theorem nv_of {x : Int32} (h : 0 ≤ x.toInt) : x.toInt = nv x ∧ nv x < 2147483648 := by
  have a := nv_ti x
  have b := nv_lt x
  by_cases c : 2 * nv x < 4294967296
  · rw [if_pos c] at a; exact ⟨a, by omega⟩
  · rw [if_neg c] at a; omega
theorem nv_and (x y : Int32) : nv (x &&& y) = nv x &&& nv y := by show (x &&& y).toBitVec.toNat = _; rw [Int32.toBitVec_and, BitVec.toNat_and]; rfl
theorem nv_or (x y : Int32) : nv (x ||| y) = nv x ||| nv y := by show (x ||| y).toBitVec.toNat = _; rw [Int32.toBitVec_or, BitVec.toNat_or]; rfl
theorem nv_xor (x y : Int32) : nv (x ^^^ y) = nv x ^^^ nv y := by show (x ^^^ y).toBitVec.toNat = _; rw [Int32.toBitVec_xor, BitVec.toNat_xor]; rfl
def o_and (a b : Rg) : Rg := if ile 0 b.1 then (if ile 0 a.1 then (0, rmin a.2 b.2) else (0, b.2)) else (if ile 0 a.1 then (0, a.2) else rtop)
theorem and_r {x y : Int32} (h : 0 ≤ y.toInt) : 0 ≤ (x &&& y).toInt ∧ (x &&& y).toInt ≤ y.toInt := by
  have a := nv_of h
  have b : nv (x &&& y) ≤ nv y := by rw [nv_and]; exact Nat.and_le_right
  have c := nv_pos (x := x &&& y) (by omega)
  omega
theorem and_l {x y : Int32} (h : 0 ≤ x.toInt) : 0 ≤ (x &&& y).toInt ∧ (x &&& y).toInt ≤ x.toInt := by
  have a := nv_of h
  have b : nv (x &&& y) ≤ nv x := by rw [nv_and]; exact Nat.and_le_left
  have c := nv_pos (x := x &&& y) (by omega)
  omega
theorem ok_and : opok (fun x y => x &&& y) o_and := by
  intro x y a b ha hb
  unfold o_and
  show rin (x &&& y).toInt _
  split
  · rename_i h
    have q := and_r (x := x) (Int.le_trans (ile_iff.mp h) hb.1)
    have yb := hb.2
    split
    · rename_i h2
      have q2 := and_l (y := y) (Int.le_trans (ile_iff.mp h2) ha.1)
      have xb := ha.2
      exact ⟨q.1, le_rmin (by omega) (by omega)⟩
    · exact ⟨q.1, by show _ ≤ b.2; omega⟩
  · split
    · rename_i h2
      have q2 := and_l (y := y) (Int.le_trans (ile_iff.mp h2) ha.1)
      have xb := ha.2
      exact ⟨q2.1, by show _ ≤ a.2; omega⟩
    · exact rtop_in _
/-- the least 2^k - 1 (k up to 31) that both bounds keep -/
def pw (m : Int) : Nat → Nat → Nat
  | 0, _ => 31
  | f + 1, k => if ile m ((2 ^ k : Nat) - 1 : Int) then k else pw m f (k + 1)
def o_or (a b : Rg) : Rg := if ile 0 a.1 && ile 0 b.1 then
    (let k := pw (rmax a.2 b.2) 31 0
     if ile a.2 ((2 ^ k : Nat) - 1 : Int) && ile b.2 ((2 ^ k : Nat) - 1 : Int) && Nat.ble k 31 then (0, ((2 ^ k : Nat) - 1 : Int)) else rtop) else rtop
theorem or_bd (f : Nat → Nat → Nat) (hf : ∀ k x y, x < 2 ^ k → y < 2 ^ k → f x y < 2 ^ k) (F : Int32 → Int32 → Int32) (hF : ∀ x y, nv (F x y) = f (nv x) (nv y)) : opok F o_or := by
  intro x y a b ha hb
  unfold o_or
  split
  · rename_i h
    rw [Bool.and_eq_true, ile_iff, ile_iff] at h
    generalize pw (rmax a.2 b.2) 31 0 = k
    show rin _ (if _ then _ else _)
    split
    · rename_i c
      rw [Bool.and_eq_true, Bool.and_eq_true, ile_iff, ile_iff, Nat.ble_eq] at c
      have x1 := nv_of (Int.le_trans h.1 ha.1)
      have y1 := nv_of (Int.le_trans h.2 hb.1)
      have x2 := ha.2
      have y2 := hb.2
      have p0 : 0 < 2 ^ k := Nat.two_pow_pos k
      have l := hf k (nv x) (nv y) (by omega) (by omega)
      have p : 2 ^ k ≤ 2 ^ 31 := Nat.pow_le_pow_right (by omega) c.2
      have e := hF x y
      have r := nv_pos (x := F x y) (by omega)
      exact ⟨by show 0 ≤ _; omega, by show _ ≤ ((2 ^ k : Nat) - 1 : Int); omega⟩
    · exact rtop_in _
  · exact rtop_in _
theorem ok_or : opok (fun x y => x ||| y) o_or := or_bd (fun x y => x ||| y) (fun _ _ _ h1 h2 => Nat.or_lt_two_pow h1 h2) _ nv_or
theorem ok_xor : opok (fun x y => x ^^^ y) o_or := or_bd (fun x y => x ^^^ y) (fun _ _ _ h1 h2 => Nat.xor_lt_two_pow h1 h2) _ nv_xor
theorem sh_amt {y : Int32} (h0 : 0 ≤ y.toInt) (h1 : y.toInt ≤ 31) : nv (y &&& 31) = nv y := by
  have a := nv_of h0
  rw [nv_and]
  have e : nv 31 = 2 ^ 5 - 1 := by decide
  rw [e, Nat.and_two_pow_sub_one_eq_mod, Nat.mod_eq_of_lt (by omega)]
theorem nv_shl {x y : Int32} (h0 : 0 ≤ y.toInt) (h1 : y.toInt ≤ 31) : nv (x <<< (y &&& 31)) = (nv x * 2 ^ nv y) % 4294967296 := by
  have e : nv (y &&& 31) = nv y := sh_amt h0 h1
  have b := nv_of h0
  have s : (x <<< (y &&& 31)).toBitVec = x.toBitVec <<< ((y &&& 31).toBitVec.smod 32) := Int32.toBitVec_shiftLeft ..
  show (x <<< (y &&& 31)).toBitVec.toNat = _
  have m : ((y &&& 31).toBitVec.smod 32).toNat = nv y := by
    have g : (y &&& 31).toBitVec.toNat = nv y := e
    have z1 : (y &&& 31).toBitVec.msb = false := by rw [BitVec.msb_eq_false_iff_two_mul_lt]; omega
    rw [BitVec.smod_eq, z1]
    have z2 : (32 : BitVec 32).msb = false := by decide
    rw [z2]
    show ((y &&& 31).toBitVec.umod 32).toNat = _
    show ((y &&& 31).toBitVec % 32).toNat = _
    rw [BitVec.toNat_umod, g]
    exact Nat.mod_eq_of_lt (show nv y < 32 by omega)
  rw [s]
  show (x.toBitVec <<< ((y &&& 31).toBitVec.smod 32).toNat).toNat = _
  rw [m, BitVec.toNat_shiftLeft, Nat.shiftLeft_eq]
  rfl
theorem nv_shr {x y : Int32} (hx : 0 ≤ x.toInt) (h0 : 0 ≤ y.toInt) (h1 : y.toInt ≤ 31) : nv (x >>> (y &&& 31)) = nv x / 2 ^ nv y := by
  have e : nv (y &&& 31) = nv y := sh_amt h0 h1
  have b := nv_of h0
  have a := nv_of hx
  have s : (x >>> (y &&& 31)).toBitVec = x.toBitVec.sshiftRight' ((y &&& 31).toBitVec.smod 32) := Int32.toBitVec_shiftRight ..
  have m : ((y &&& 31).toBitVec.smod 32).toNat = nv y := by
    have g : (y &&& 31).toBitVec.toNat = nv y := e
    have z1 : (y &&& 31).toBitVec.msb = false := by rw [BitVec.msb_eq_false_iff_two_mul_lt]; omega
    rw [BitVec.smod_eq, z1]
    have z2 : (32 : BitVec 32).msb = false := by decide
    rw [z2]
    show ((y &&& 31).toBitVec % 32).toNat = _
    rw [BitVec.toNat_umod, g]
    exact Nat.mod_eq_of_lt (show nv y < 32 by omega)
  show (x >>> (y &&& 31)).toBitVec.toNat = _
  rw [s]
  show (x.toBitVec.sshiftRight ((y &&& 31).toBitVec.smod 32).toNat).toNat = _
  have z3 : x.toBitVec.msb = false := by rw [BitVec.msb_eq_false_iff_two_mul_lt]; show 2 * nv x < _; omega
  rw [m, BitVec.sshiftRight_eq_of_msb_false z3, BitVec.toNat_ushiftRight, Nat.shiftRight_eq_div_pow]
  rfl
def o_shl (a b : Rg) : Rg := if ile 0 a.1 && ile 0 b.1 && ile b.2 31 && ile (a.2 * (2 ^ b.2.toNat : Nat)) 2147483647 then (a.1 * (2 ^ b.1.toNat : Nat), a.2 * (2 ^ b.2.toNat : Nat)) else rtop
theorem ok_shl : opok (fun x y => x <<< (y &&& 31)) o_shl := by
  intro x y a b ha hb
  unfold o_shl
  split
  · rename_i h
    simp only [Bool.and_eq_true, ile_iff] at h
    obtain ⟨⟨⟨h1, h2⟩, h3⟩, h4⟩ := h
    have x1 := nv_of (Int.le_trans h1 ha.1)
    have y1 := nv_of (Int.le_trans h2 hb.1)
    have x2 := ha.2
    have y2 := hb.2
    have x3 := ha.1
    have y3 := hb.1
    have e := nv_shl (x := x) (Int.le_trans h2 hb.1) (Int.le_trans hb.2 h3)
    have p1 : 2 ^ nv y ≤ 2 ^ b.2.toNat := Nat.pow_le_pow_right (by omega) (by omega)
    have p2 : 2 ^ b.1.toNat ≤ 2 ^ nv y := Nat.pow_le_pow_right (by omega) (by omega)
    have q1 : nv x * 2 ^ nv y ≤ a.2.toNat * 2 ^ b.2.toNat := Nat.mul_le_mul (by omega) p1
    have q2 : a.1.toNat * 2 ^ b.1.toNat ≤ nv x * 2 ^ nv y := Nat.mul_le_mul (by omega) p2
    have c1 : ((a.2.toNat * 2 ^ b.2.toNat : Nat) : Int) = a.2 * (2 ^ b.2.toNat : Nat) := by rw [Int.natCast_mul, Int.toNat_of_nonneg (by omega)]
    have c2 : ((a.1.toNat * 2 ^ b.1.toNat : Nat) : Int) = a.1 * (2 ^ b.1.toNat : Nat) := by rw [Int.natCast_mul, Int.toNat_of_nonneg (by omega)]
    rw [Nat.mod_eq_of_lt (by omega)] at e
    have r := nv_pos (x := x <<< (y &&& 31)) (by omega)
    exact ⟨by show a.1 * (2 ^ b.1.toNat : Nat) ≤ (x <<< (y &&& 31)).toInt; omega, by show (x <<< (y &&& 31)).toInt ≤ a.2 * (2 ^ b.2.toNat : Nat); omega⟩
  · exact rtop_in _
def o_shr (a b : Rg) : Rg := if ile 0 a.1 && ile 0 b.1 && ile b.2 31 then (0, ((a.2.toNat / 2 ^ b.1.toNat : Nat) : Int)) else if ile 0 b.1 && ile b.2 31 && ile b.2 b.1 then (a.1 / ((2 ^ b.1.toNat : Nat) : Int), a.2 / ((2 ^ b.1.toNat : Nat) : Int)) else rtop
theorem ti_shr {x y : Int32} (h0 : 0 ≤ y.toInt) (h1 : y.toInt ≤ 31) : (x >>> (y &&& 31)).toInt = x.toInt / ((2 ^ nv y : Nat) : Int) := by
  have e : nv (y &&& 31) = nv y := sh_amt h0 h1
  have b := nv_of h0
  have s : (x >>> (y &&& 31)).toBitVec = x.toBitVec.sshiftRight' ((y &&& 31).toBitVec.smod 32) := Int32.toBitVec_shiftRight ..
  have m : ((y &&& 31).toBitVec.smod 32).toNat = nv y := by
    have g : (y &&& 31).toBitVec.toNat = nv y := e
    have z1 : (y &&& 31).toBitVec.msb = false := by rw [BitVec.msb_eq_false_iff_two_mul_lt]; omega
    rw [BitVec.smod_eq, z1]
    have z2 : (32 : BitVec 32).msb = false := by decide
    rw [z2]
    show ((y &&& 31).toBitVec % 32).toNat = _
    rw [BitVec.toNat_umod, g]
    exact Nat.mod_eq_of_lt (show nv y < 32 by omega)
  show (x >>> (y &&& 31)).toBitVec.toInt = _
  rw [s]
  show (x.toBitVec.sshiftRight ((y &&& 31).toBitVec.smod 32).toNat).toInt = _
  rw [BitVec.toInt_sshiftRight, m, Int.shiftRight_eq_div_pow]
  rfl
theorem ok_shr : opok (fun x y => x >>> (y &&& 31)) o_shr := by
  intro x y a b ha hb
  unfold o_shr
  split
  · rename_i h
    simp only [Bool.and_eq_true, ile_iff] at h
    obtain ⟨⟨h1, h2⟩, h3⟩ := h
    have x1 := nv_of (Int.le_trans h1 ha.1)
    have y1 := nv_of (Int.le_trans h2 hb.1)
    have x2 := ha.2
    have y2 := hb.2
    have y3 := hb.1
    have e := nv_shr (x := x) (Int.le_trans h1 ha.1) (Int.le_trans h2 hb.1) (Int.le_trans hb.2 h3)
    have p2 : 2 ^ b.1.toNat ≤ 2 ^ nv y := Nat.pow_le_pow_right (by omega) (by omega)
    have d1 : nv x / 2 ^ nv y ≤ a.2.toNat / 2 ^ b.1.toNat := Nat.le_trans (Nat.div_le_div_left p2 (Nat.two_pow_pos _)) (Nat.div_le_div_right (by omega))
    have d2 : nv x / 2 ^ nv y ≤ nv x := Nat.div_le_self ..
    have r := nv_pos (x := x >>> (y &&& 31)) (by omega)
    exact ⟨by show (0 : Int) ≤ (x >>> (y &&& 31)).toInt; omega, by show (x >>> (y &&& 31)).toInt ≤ ((a.2.toNat / 2 ^ b.1.toNat : Nat) : Int); omega⟩
  · split
    · rename_i h
      simp only [Bool.and_eq_true, ile_iff] at h
      obtain ⟨⟨h1, h2⟩, h3⟩ := h
      have y1 := nv_of (Int.le_trans h1 hb.1)
      have y2 := hb.2
      have y3 := hb.1
      have e := ti_shr (x := x) (y := y) (Int.le_trans h1 hb.1) (Int.le_trans hb.2 h2)
      have k : nv y = b.1.toNat := by omega
      rw [k] at e
      have p0 : 0 < 2 ^ b.1.toNat := Nat.two_pow_pos _
      have p : (0 : Int) < ((2 ^ b.1.toNat : Nat) : Int) := by omega
      show rin (x >>> (y &&& 31)).toInt _
      rw [e]
      exact ⟨Int.ediv_le_ediv p ha.1, Int.ediv_le_ediv p ha.2⟩
    · exact rtop_in _
def o_top (_ _ : Rg) : Rg := rtop
theorem ok_top (f : Int32 → Int32 → Int32) : opok f o_top := fun x y _ _ _ _ => rtop_in _
/-- operations on one int -/
def unok (f : Int32 → Int32) (o : Rg → Rg) : Prop := ∀ (x : Int32) (a : Rg), rin x.toInt a → rin (f x).toInt (o a)
def o_neg (a : Rg) : Rg := rfit (-a.2, -a.1)
theorem ok_neg : unok (fun x => -x) o_neg := by
  intro x a ha
  refine rfit_in (y := -x.toInt) ⟨by have := ha.2; show -a.2 ≤ _; omega, by have := ha.1; show _ ≤ -a.1; omega⟩ (fun l u => ?_)
  show (-x).toInt = _
  rw [Int32.toInt_neg, Int.bmod_eq_of_le (by omega) (by omega)]
def o_i2b (a : Rg) : Rg := if ile (-128) a.1 && ile a.2 127 then a else (-128, 127)
theorem ti_i2b (x : Int32) : x.toInt8.toInt32.toInt = x.toInt.bmod 256 := by
  rw [Int8.toInt_toInt32, Int32.toInt_toInt8]
theorem ok_i2b : unok (fun x => x.toInt8.toInt32) o_i2b := by
  intro x a ha
  unfold o_i2b
  show rin x.toInt8.toInt32.toInt _
  rw [ti_i2b]
  split
  · rename_i h
    rw [Bool.and_eq_true, ile_iff, ile_iff] at h
    have h1 := ha.1
    have h2 := ha.2
    rw [Int.bmod_eq_of_le (by omega) (by omega)]
    exact ha
  · exact ⟨by have := Int.le_bmod (x := x.toInt) (m := 256) (by omega); exact this, by have := Int.bmod_lt (x := x.toInt) (m := 256) (by omega); show _ ≤ (127 : Int); omega⟩
def o_i2c (_ : Rg) : Rg := (0, 65535)
theorem ok_i2c : unok (fun x => (x.toUInt32 % 65536).toInt32) o_i2c := by
  intro x a ha
  have e : nv ((x.toUInt32 % 65536).toInt32) = (x.toUInt32 % 65536).toNat := rfl
  have l : (x.toUInt32 % 65536).toNat < 65536 := by
    rw [UInt32.toNat_mod]
    exact Nat.mod_lt _ (by decide)
  have r := nv_pos (x := (x.toUInt32 % 65536).toInt32) (by omega)
  exact ⟨by show 0 ≤ ((x.toUInt32 % 65536).toInt32).toInt; omega, by show ((x.toUInt32 % 65536).toInt32).toInt ≤ (65535 : Int); omega⟩
def o_min (a b : Rg) : Rg := (rmin a.1 b.1, rmin a.2 b.2)
theorem ok_min : opok (fun x y => if y < x then y else x) o_min := by
  intro x y a b ha hb
  show rin (if y < x then y else x).toInt _
  have q := @rmin_le a.1 b.1
  split
  · rename_i h
    have h := Int32.lt_iff_toInt_lt.mp h
    have h1 := ha.2
    have h2 := hb.1
    exact ⟨by show rmin a.1 b.1 ≤ _; omega, le_rmin (by omega) hb.2⟩
  · rename_i h
    have h : ¬ y.toInt < x.toInt := fun z => h (Int32.lt_iff_toInt_lt.mpr z)
    have h1 := ha.1
    have h2 := hb.2
    exact ⟨by show rmin a.1 b.1 ≤ _; omega, le_rmin ha.2 (by omega)⟩
def o_max (a b : Rg) : Rg := (rmax a.1 b.1, rmax a.2 b.2)
theorem ok_max : opok (fun x y => if x < y then y else x) o_max := by
  intro x y a b ha hb
  show rin (if x < y then y else x).toInt _
  have q := @le_rmax a.2 b.2
  split
  · rename_i h
    have h := Int32.lt_iff_toInt_lt.mp h
    have h1 := ha.1
    have h2 := hb.2
    exact ⟨rmax_le (by omega) hb.1, by show _ ≤ rmax a.2 b.2; omega⟩
  · rename_i h
    have h : ¬ x.toInt < y.toInt := fun z => h (Int32.lt_iff_toInt_lt.mpr z)
    have h1 := ha.2
    have h2 := hb.1
    exact ⟨rmax_le ha.1 (by omega), by show _ ≤ rmax a.2 b.2; omega⟩
