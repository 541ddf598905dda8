/-! the walk from stop to stop -/
abbrev Ms : Type := List (Nat × Nat)
abbrev Cut : Type := Nat × Ab × Ms
def gz (la : List (Nat × Av)) : List (Nat × Av) := la.map (fun p => (p.1, match p.2 with
  | .inl (r, _, _) => .inl (r, (0, 0), bif Nat.ble 100000 p.1 then none else some (2 * p.1, 0))
  | .inr n => .inr n))
def gof (lv : List (Nat × Value)) (j : Nat) : Int := match lk j lv with
  | some (.int x) => x.toInt
  | _ => 0
theorem lk_of_mem {j : Nat} {v : Value} : ∀ {lv : List (Nat × Value)}, lv_rise lv = true → (j, v) ∈ lv → lk j lv = some v
  | q :: t, r, h => by
    have r := rise_mem r
    unfold lk
    rcases List.mem_cons.mp h with z | z
    · rw [← z, Nat.beq_refl]; rfl
    · have l := r.1 _ z
      have l : q.1 < j := l
      have c : Nat.beq q.1 j = false := by
        cases y : Nat.beq q.1 j with
        | false => rfl
        | true => have := Nat.eq_of_beq_eq_true y; omega
      rw [c]
      exact lk_of_mem r.2 z
theorem gof_mem {j : Nat} {x : Int32} {lv : List (Nat × Value)} (r : lv_rise lv = true) (h : (j, Value.int x) ∈ lv) : gof lv j = x.toInt := by unfold gof; rw [lk_of_mem r h]
/-- the number of a field: 100000 + 1000 * cell + slot -/
def gfo (lv : List (Nat × Value)) (h : Hp_) (j : Nat) : Int := bif Nat.ble 100000 j then (h_i h ((j - 100000) / 1000) ((j - 100000) % 1000)).toInt else gof lv j
theorem gfo_mem {j : Nat} {x : Int32} {lv : List (Nat × Value)} {h : Hp_} (hj : j < 100000) (r : lv_rise lv = true) (m : (j, Value.int x) ∈ lv) : gfo lv h j = x.toInt := by
  unfold gfo
  have c : Nat.ble 100000 j = false := by
    cases z : Nat.ble 100000 j with
    | false => rfl
    | true => have := Nat.ble_eq.mp z; omega
  rw [c]
  exact gof_mem r m
def lmn (h : Hp_) : List (Nat × Value) → List (Nat × Av) → Prop
  | [], [] => True
  | q :: t, p :: u => q.1 = p.1 ∧ bn h q.2 p.2 ∧ lmn h t u
  | _, _ => False
/-- what holds at a stop -/
def Cg (ws : List Nat) (h0 : Hp_) (A : Ab) (lv : List (Nat × Value)) (st : List Value) (h : Hp_) : Prop := lmn h lv A.1 ∧ am h st A.2.1 ∧ (hm h A.2.2.1 ∧ em lv h A.2.2.2.1) ∧ Iv h ∧ Fr ws h0 h ∧ lv_rise lv = true
theorem lm_gz {h : Hp_} {g : Nat → Int} : ∀ {lv : List (Nat × Value)} {la : List (Nat × Av)}, (∀ j x, (j, Value.int x) ∈ lv → j < 100000 → g j = x.toInt) → lmn h lv la → lm g h lv (gz la)
  | [], [], _, _ => trivial
  | q :: t, p :: u, hg, m => by
    refine ⟨m.1, ?_, lm_gz (fun j x hx => hg j x (List.mem_cons_of_mem _ hx)) m.2.2⟩
    have b := m.2.1
    show bm g h q.2 (match p.2 with | .inl (r, _, _) => .inl (r, (0, 0), bif Nat.ble 100000 p.1 then none else some (2 * p.1, 0)) | .inr n => .inr n)
    unfold bn noG at b
    split
    · rename_i r s gh w
      rw [w] at b
      obtain ⟨x, ex, hx, _⟩ := b
      refine ⟨x, ex, hx, fun o ho => ?_⟩
      cases c : Nat.ble 100000 p.1 with
      | true => rw [c] at ho; cases ho
      | false =>
        rw [c] at ho
        have ho := Option.some.inj ho
        have lt : p.1 < 100000 := by
          rcases Nat.lt_or_ge p.1 100000 with z | z
          · exact z
          · rw [Nat.ble_eq.mpr z] at c; cases c
        rw [← ho]
        have e9 : x.toInt = g (2 * p.1 / 2) + 0 := by
          rw [Nat.mul_div_cancel_left _ (by omega), hg p.1 x (by rw [← m.1, ← ex]; exact List.mem_cons_self) lt, Int.add_zero]
        exact ⟨Int.le_of_eq e9.symm, fun _ => e9⟩
    · rename_i n w; rw [w] at b; exact b
  | [], _ :: _, _, m => m.elim
  | _ :: _, [], _, m => m.elim
theorem sm_am {h : Hp_} {g : Nat → Int} {lv : List (Nat × Value)} : ∀ {st : List Value} {sa : List Av}, am h st sa → sm g h lv st (sa.map noG)
  | [], [], _ => trivial
  | _ :: _, _ :: _, m => ⟨bn_bm m.1, sl_noG, sm_am m.2⟩
  | [], _ :: _, m => m.elim
  | _ :: _, [], m => m.elim
def lsb : List (Nat × Av) → List (Nat × Av) → Bool
  | [], [] => true
  | p :: t, q :: u => Nat.beq p.1 q.1 && asub p.2 q.2 && lsb t u
  | _, _ => false
theorem lsb_ok {g : Nat → Int} {h : Hp_} : ∀ {lv : List (Nat × Value)} {la lc : List (Nat × Av)}, lm g h lv la → lsb la lc = true → lmn h lv lc
  | [], [], [], _, _ => trivial
  | q :: t, p :: u, o :: w, m, e => by
    simp only [lsb, Bool.and_eq_true] at e
    exact ⟨m.1.trans (Nat.eq_of_beq_eq_true e.1.1), asub_ok e.1.2 m.2.1, lsb_ok m.2.2 e.2⟩
  | [], [], _ :: _, _, e => (nomatch e)
  | _ :: _, _ :: _, [], _, e => (nomatch e)
  | [], _ :: _, _, m, _ => m.elim
  | _ :: _, [], _, m, _ => m.elim
def ssb : List Av → List Av → Bool
  | [], [] => true
  | p :: t, q :: u => asub p q && ssb t u
  | _, _ => false
theorem ssb_ok {g : Nat → Int} {h : Hp_} {lv : List (Nat × Value)} : ∀ {st : List Value} {sa sc : List Av}, sm g h lv st sa → ssb sa sc = true → am h st sc
  | [], [], [], _, _ => trivial
  | _ :: _, _ :: _, _ :: _, m, e => by
    simp only [ssb, Bool.and_eq_true] at e
    exact ⟨asub_ok e.1 m.1, ssb_ok m.2.2 e.2⟩
  | [], [], _ :: _, _, e => (nomatch e)
  | _ :: _, _ :: _, [], _, e => (nomatch e)
  | [], _ :: _, _, m, _ => m.elim
  | _ :: _, [], _, m, _ => m.elim
def mv (lv : List (Nat × Value)) (h : Hp_) (m : Nat × Nat) : Nat := match m.1 with
  | 0 => m.2
  | 1 => (2147483648 - gfo lv h m.2).toNat
  | 2 => (gfo lv h m.2 + 2147483648).toNat
  | _ => (2147483648 - gfo lv h m.2).toNat
def mvl (lv : List (Nat × Value)) (h : Hp_) : Ms → Nat
  | [] => 0
  | m :: t => mv lv h m * 1099511627776 ^ t.length + mvl lv h t
def mok (P : Ms) : Bool := P.all (fun m => Nat.ble m.2 1000000)
theorem gof_bd (lv : List (Nat × Value)) (j : Nat) : -2147483648 ≤ gof lv j ∧ gof lv j ≤ 2147483647 := by
  unfold gof
  split
  · rename_i x _; exact ⟨Int32.le_toInt x, by have := Int32.toInt_le x; exact this⟩
  · omega
theorem gfo_bd (lv : List (Nat × Value)) (h : Hp_) (j : Nat) : -2147483648 ≤ gfo lv h j ∧ gfo lv h j ≤ 2147483647 := by
  unfold gfo
  cases Nat.ble 100000 j with
  | true => exact rtop_in _
  | false => exact gof_bd lv j
theorem mv_lt {lv : List (Nat × Value)} {hh : Hp_} {m : Nat × Nat} (h : m.2 ≤ 1000000) : mv lv hh m < 1099511627776 := by
  have b := gfo_bd lv hh m.2
  unfold mv
  split <;> omega
theorem mvl_lt {lv : List (Nat × Value)} {hh : Hp_} : ∀ {P : Ms}, mok P = true → mvl lv hh P < 1099511627776 ^ P.length
  | [], _ => by show 0 < 1099511627776 ^ 0; decide
  | m :: t, h => by
    simp only [mok, List.all_cons, Bool.and_eq_true, Nat.ble_eq] at h
    have a := mv_lt (lv := lv) (hh := hh) h.1
    have b := mvl_lt (lv := lv) (hh := hh) (P := t) h.2
    show mv lv hh m * 1099511627776 ^ t.length + mvl lv hh t < 1099511627776 ^ (t.length + 1)
    rw [Nat.pow_succ]
    generalize 1099511627776 ^ t.length = B at b ⊢
    have c : (mv lv hh m + 1) * B ≤ 1099511627776 * B := Nat.mul_le_mul_right B a
    rw [Nat.add_mul, Nat.one_mul] at c
    rw [Nat.mul_comm B]
    omega
/-- the measure falls: by a number, a place of the frame that grows (1) or shrinks (2), a field that grows (3) -/
def dc : Ms → Ms → List (Nat × Av) → List ((Nat × Nat) × (Nat × Int)) → Bool
  | m :: P, q :: Q, la, gf => Nat.beq m.1 q.1 && (match m.1 with
    | 0 => Nat.ble (q.2 + 1) m.2 || (Nat.beq q.2 m.2 && dc P Q la gf)
    | 1 => Nat.beq q.2 m.2 && Nat.ble (m.2 + 1) 100000 && (match lk m.2 la with
      | some (.inl (_, _, some (j, d))) => Nat.beq (j / 2) m.2 && (ile 1 d || (ieq d 0 && dc P Q la gf))
      | _ => false)
    | 2 => Nat.beq q.2 m.2 && Nat.ble (m.2 + 1) 100000 && (match lk m.2 la with
      | some (.inl (_, _, some (j, d))) => Nat.beq (j / 2) m.2 && Nat.beq (j % 2) 0 && (ile d (-1) || (ieq d 0 && dc P Q la gf))
      | _ => false)
    | 3 => Nat.beq q.2 m.2 && Nat.ble 100000 m.2 && (match gfg ((m.2 - 100000) / 1000) ((m.2 - 100000) % 1000) gf with
      | some (j, d) => Nat.beq (j / 2) m.2 && (ile 1 d || (ieq d 0 && dc P Q la gf))
      | _ => false)
    | _ => false)
  | _, _, _, _ => false
theorem lex_lt {a b c d B : Nat} (h : a < b) (hc : c < B) : a * B + c < b * B + d := by
  have : (a + 1) * B ≤ b * B := Nat.mul_le_mul_right B h
  rw [Nat.add_mul, Nat.one_mul] at this
  omega
theorem dc_ok {h hh : Hp_} {lv0 lv : List (Nat × Value)} {la : List (Nat × Av)} {gf : List ((Nat × Nat) × (Nat × Int))} (m : lm (gfo lv0 hh) h lv la) (gm : gfm (gfo lv0 hh) h gf) (r : lv_rise lv = true) : ∀ {P Q : Ms}, mok P = true → mok Q = true → P.length = Q.length → dc P Q la gf = true → mvl lv h Q < mvl lv0 hh P
  | [], _, _, _, _, e => (nomatch e)
  | _ :: _, [], _, _, _, e => (nomatch e)
  | p :: P, q :: Q, hp, hq, hl, e => by
    have hp' := hp
    have hq' := hq
    simp only [mok, List.all_cons, Bool.and_eq_true, Nat.ble_eq] at hp' hq'
    have hl : P.length = Q.length := by simpa using hl
    have ih := fun e' => dc_ok m gm r (P := P) (Q := Q) hp'.2 hq'.2 hl e'
    have bq := mvl_lt (lv := lv) (hh := h) (P := Q) hq'.2
    simp only [dc, Bool.and_eq_true] at e
    have e1 := Nat.eq_of_beq_eq_true e.1
    show mv lv h q * 1099511627776 ^ Q.length + mvl lv h Q < mv lv0 hh p * 1099511627776 ^ P.length + mvl lv0 hh P
    rw [hl]
    have ev := e.2
    split at ev
    · rename_i w
      have a1 : mv lv0 hh p = p.2 := by unfold mv; rw [w]; rfl
      have a2 : mv lv h q = q.2 := by unfold mv; rw [← e1, w]; rfl
      rw [Bool.or_eq_true, Bool.and_eq_true, Nat.ble_eq] at ev
      rcases ev with z | z
      · exact lex_lt (by omega) bq
      · have z1 := Nat.eq_of_beq_eq_true z.1
        have z2 := ih z.2
        rw [a1, a2, z1]; omega
    · rename_i w
      simp only [Bool.and_eq_true, Nat.ble_eq] at ev
      have j1 := Nat.eq_of_beq_eq_true ev.1.1
      have jl := ev.1.2
      have ev := ev.2
      split at ev
      · rename_i r0 s0 j d lkq
        rw [Bool.and_eq_true, Bool.or_eq_true, Bool.and_eq_true, ile_iff, ieq_iff] at ev
        have j2 := Nat.eq_of_beq_eq_true ev.1
        obtain ⟨i, v, hi, x, ex, _, hx⟩ := lm_lk m lkq
        subst ex
        have gx := (hx _ rfl).1
        have gv := gfo_mem (h := h) (by omega) r (List.mem_of_getElem? hi)
        have gx : gfo lv0 hh (j / 2) + d ≤ x.toInt := gx
        rw [j2] at gx
        have a1 : mv lv0 hh p = (2147483648 - gfo lv0 hh p.2).toNat := by unfold mv; rw [w]; rfl
        have a2 : mv lv h q = (2147483648 - gfo lv h p.2).toNat := by unfold mv; rw [← e1, w, j1]; rfl
        have b1 := gfo_bd lv h p.2
        rcases ev.2 with z | z
        · exact lex_lt (by omega) bq
        · have z2 := ih z.2
          rcases Nat.lt_or_ge (mv lv h q) (mv lv0 hh p) with y | y
          · exact lex_lt y bq
          · have a3 : mv lv h q = mv lv0 hh p := by omega
            rw [a3]; omega
      · cases ev
    · rename_i w
      simp only [Bool.and_eq_true, Nat.ble_eq] at ev
      have j1 := Nat.eq_of_beq_eq_true ev.1.1
      have jl := ev.1.2
      have ev := ev.2
      split at ev
      · rename_i r0 s0 j d lkq
        rw [Bool.and_eq_true, Bool.and_eq_true, Bool.or_eq_true, Bool.and_eq_true, ile_iff, ieq_iff] at ev
        have j2 := Nat.eq_of_beq_eq_true ev.1.1
        have j3 := Nat.eq_of_beq_eq_true ev.1.2
        obtain ⟨i, v, hi, x, ex, _, hx⟩ := lm_lk m lkq
        subst ex
        have gx := (hx _ rfl).2 j3
        have gv := gfo_mem (h := h) (by omega) r (List.mem_of_getElem? hi)
        have gx : x.toInt = gfo lv0 hh (j / 2) + d := gx
        rw [j2] at gx
        have a1 : mv lv0 hh p = (gfo lv0 hh p.2 + 2147483648).toNat := by unfold mv; rw [w]; rfl
        have a2 : mv lv h q = (gfo lv h p.2 + 2147483648).toNat := by unfold mv; rw [← e1, w, j1]; rfl
        have b1 := gfo_bd lv h p.2
        rcases ev.2 with z | z
        · exact lex_lt (by omega) bq
        · have z2 := ih z.2
          rcases Nat.lt_or_ge (mv lv h q) (mv lv0 hh p) with y | y
          · exact lex_lt y bq
          · have a3 : mv lv h q = mv lv0 hh p := by omega
            rw [a3]; omega
      · cases ev
    · rename_i w
      simp only [Bool.and_eq_true, Nat.ble_eq] at ev
      have j1 := Nat.eq_of_beq_eq_true ev.1.1
      have jl := ev.1.2
      have ev := ev.2
      split at ev
      · rename_i j d gq9
        rw [Bool.and_eq_true, Bool.or_eq_true, Bool.and_eq_true, ile_iff, ieq_iff] at ev
        have j2 := Nat.eq_of_beq_eq_true ev.1
        have gx := (gfg_ok gm gq9).1
        have gx : gfo lv0 hh (j / 2) + d ≤ (h_i h ((p.2 - 100000) / 1000) ((p.2 - 100000) % 1000)).toInt := gx
        rw [j2] at gx
        have gv : gfo lv h p.2 = (h_i h ((p.2 - 100000) / 1000) ((p.2 - 100000) % 1000)).toInt := by unfold gfo; rw [Nat.ble_eq.mpr jl]; rfl
        have a1 : mv lv0 hh p = (2147483648 - gfo lv0 hh p.2).toNat := by unfold mv; rw [w]; rfl
        have a2 : mv lv h q = (2147483648 - gfo lv h p.2).toNat := by unfold mv; rw [← e1, w, j1]; rfl
        have b1 := gfo_bd lv h p.2
        rcases ev.2 with z | z
        · exact lex_lt (by omega) bq
        · have z2 := ih z.2
          rcases Nat.lt_or_ge (mv lv h q) (mv lv0 hh p) with y | y
          · exact lex_lt y bq
          · have a3 : mv lv h q = mv lv0 hh p := by omega
            rw [a3]; omega
      · cases ev
    · cases ev
def fil (la lc : List (Nat × Av)) : List (Nat × Av) := la.filter (fun p => lc.any (fun q => Nat.beq q.1 p.1))
/-- what a stop asks of elements, out of what is known -/
def emc (la : List (Nat × Av)) (l m : List ((Nat × Nat) × Rg)) : Bool := m.all (fun q => (match lk q.1.2 la with
  | some (.inl _) => true
  | _ => false) && (match tfa q.1.1 with
  | some r => rsub (rmeet r (efg q.1.1 q.1.2 l)) q.2
  | none => false))
def emk (lc : List (Nat × Av)) (m : List ((Nat × Nat) × Rg)) : Bool := m.all (fun q => lc.any (fun p => Nat.beq p.1 q.1.2))
theorem emc_ok {g : Nat → Int} {h : Hp_} {lv : List (Nat × Value)} {la : List (Nat × Av)} {l m : List ((Nat × Nat) × Rg)} (ml : lm g h lv la) (r : lv_rise lv = true) (I : Iv h) (e : em lv h l) (c : emc la l m = true) : em lv h m := fun q hq => by
  have w := List.all_eq_true.mp c q hq
  rw [Bool.and_eq_true] at w
  obtain ⟨w1, w2⟩ := w
  split at w1
  · rename_i p lq
    obtain ⟨j, v, hj, x, ex, _⟩ := lm_lk ml lq
    subst ex
    have hm := List.mem_of_getElem? hj
    refine ⟨x, hm, ?_⟩
    split at w2
    · rename_i rr t
      have hv := I.2.1 q.1.1 x.toNatClampNeg
      rw [tfa_tf t] at hv
      exact rsub_in w2 (rmeet_in hv (efg_in r hm e))
    · cases w2
  · cases w1
theorem em_fil {lv : List (Nat × Value)} {h : Hp_} {lc : List (Nat × Av)} {m : List ((Nat × Nat) × Rg)} (k : emk lc m = true) (e : em lv h m) : em (lv.filter (fun q => lc.any (fun o => Nat.beq o.1 q.1))) h m := fun q hq => by
  obtain ⟨i, m1, m2⟩ := e q hq
  exact ⟨i, List.mem_filter.mpr ⟨m1, List.all_eq_true.mp k q hq⟩, m2⟩
def arr (a A : Ab) (P : Option Ms) (Q : Ms) : Bool := lsb (fil a.1 A.1) A.1 && ssb a.2.1 A.2.1 && hmc a.2.2.1 A.2.2.1 && (emc a.1 a.2.2.2.1 A.2.2.2.1 && emk A.1 A.2.2.2.1) && (match P with
  | none => true
  | some P => Nat.beq P.length Q.length && mok P && mok Q && dc P Q (fil a.1 A.1) a.2.2.2.2)
def wk (code : List (Nat × Fx)) (cuts : List Cut) (P : Option Ms) : Nat → Nat → Ab → Bool
  | 0, _, _ => false
  | n + 1, pc, a => match lk pc cuts with
    | some (A, Q) => arr a A P Q
    | none => match lk pc code with
      | some f => (match f a with
        | some out => out.all (fun o => wk code cuts P n o.1 o.2)
        | none => false)
      | none => false
/-- the fields of a measure stand at their own numbers at a stop -/
def gzf (P : Ms) : List ((Nat × Nat) × (Nat × Int)) := (P.filter (fun m => Nat.beq m.1 3 && Nat.ble 100000 m.2)).map (fun m => (((m.2 - 100000) / 1000, (m.2 - 100000) % 1000), (2 * m.2, 0)))
theorem gzf_ok {lv : List (Nat × Value)} {h : Hp_} (P : Ms) : gfm (gfo lv h) h (gzf P) := fun q hq => by
  obtain ⟨m, hm, e⟩ := List.mem_map.mp hq
  have z := (List.mem_filter.mp hm).2
  rw [Bool.and_eq_true] at z
  rw [← e]
  have e9 : (h_i h ((m.2 - 100000) / 1000) ((m.2 - 100000) % 1000)).toInt = gfo lv h (2 * m.2 / 2) + 0 := by
    rw [Nat.mul_div_cancel_left _ (by omega)]
    unfold gfo
    rw [z.2, Int.add_zero]
    rfl
  exact ⟨Int.le_of_eq e9.symm, fun _ => e9⟩
def wc (code : List (Nat × Fx)) (cuts : List Cut) (n : Nat) (c : Cut) : Bool := match lk c.1 code with
  | some f => (match f (gz c.2.1.1, c.2.1.2.1.map noG, (c.2.1.2.2.1, c.2.1.2.2.2.1, gzf c.2.2)) with
    | some out => out.all (fun o => wk code cuts (some c.2.2) n o.1 o.2)
    | none => false)
  | none => false
section WALK
variable {ws : List Nat} {h0 : Hp_} {M : Mc_} {K : Option Value → Hp_ → Prop} {code : List (Nat × Fx)} {cuts : List Cut}
theorem wk_ok {g : Nat → Int} {P : Option Ms} {lv0 : List (Nat × Value)} {hh : Hp_} (hg : ∀ P0, P = some P0 → g = gfo lv0 hh) (hS : ∀ q ∈ code, Sd ws h0 M K q.1 q.2) (hI : ∀ c ∈ cuts, ∀ lv st h, Cg ws h0 c.2.1 lv st h → (∀ P0, P = some P0 → mvl lv h c.2.2 < mvl lv0 hh P0) → AW M 0 0 c.1 lv st h K) :
    ∀ n pc a, wk code cuts P n pc a = true → ∀ lv st h, Gm g ws h0 a lv st h → AW M 0 0 pc lv st h K
  | 0, _, _, e => (nomatch e)
  | n + 1, pc, a, e => by
    intro lv st h G
    unfold wk at e
    split at e
    · rename_i A Q q
      unfold arr at e
      simp only [Bool.and_eq_true] at e
      obtain ⟨⟨⟨⟨e1, e2⟩, e3⟩, e5, e6⟩, e4⟩ := e
      have m := lm_fil (f := fun key _ => A.1.any (fun q => Nat.beq q.1 key)) G.1
      have rs := rise_fil (f := fun q : Nat × Value => A.1.any (fun o => Nat.beq o.1 q.1)) G.2.2.2.2.2
      refine aw_fil (fun q => A.1.any (fun o => Nat.beq o.1 q.1)) (hI (pc, A, Q) (lk_mem q) _ st h ⟨lsb_ok m e1, ssb_ok G.2.1 e2, ⟨hmc_ok G.2.2.2.1 G.2.2.1.1 e3, em_fil e6 (emc_ok G.1 G.2.2.2.2.2 G.2.2.2.1 G.2.2.1.2.1 e5)⟩, G.2.2.2.1, G.2.2.2.2.1, rs⟩ (fun P0 hP => ?_))
      subst hP
      have e4 : (Nat.beq P0.length Q.length && mok P0 && mok Q && dc P0 Q (fil a.1 A.1) a.2.2.2.2) = true := e4
      simp only [Bool.and_eq_true] at e4
      obtain ⟨⟨⟨f1, f2⟩, f3⟩, f4⟩ := e4
      have eg := hg P0 rfl
      subst eg
      exact dc_ok m G.2.2.1.2.2 rs f2 f3 (Nat.eq_of_beq_eq_true f1) f4
    · split at e
      · rename_i f q
        split at e
        · rename_i out w
          refine hS (pc, f) (lk_mem q) g a out w lv st h G (fun o ho lv' st' h' G' => ?_)
          exact wk_ok hg hS hI n o.1 o.2 (List.all_eq_true.mp e o ho) lv' st' h' G'
        · cases e
      · cases e
theorem cut_ok (n : Nat) (hS : ∀ q ∈ code, Sd ws h0 M K q.1 q.2) (hc : cuts.all (wc code cuts n) = true) : ∀ N, ∀ c ∈ cuts, ∀ lv st h, Cg ws h0 c.2.1 lv st h → mvl lv h c.2.2 = N → AW M 0 0 c.1 lv st h K := by
  intro N
  induction N using Nat.strongRecOn with
  | _ N ih =>
    intro c hcm lv st h G eN
    have e := List.all_eq_true.mp hc c hcm
    unfold wc at e
    split at e
    · rename_i f q
      split at e
      · rename_i out w
        have G' : Gm (gfo lv h) ws h0 (gz c.2.1.1, c.2.1.2.1.map noG, (c.2.1.2.2.1, c.2.1.2.2.2.1, gzf c.2.2)) lv st h := ⟨lm_gz (fun j x hx lt => gfo_mem lt G.2.2.2.2.2 hx) G.1, sm_am G.2.1, ⟨G.2.2.1.1, G.2.2.1.2, gzf_ok _⟩, G.2.2.2.1, G.2.2.2.2.1, G.2.2.2.2.2⟩
        refine hS (c.1, f) (lk_mem q) (gfo lv h) _ out w lv st h G' (fun o ho lv' st' h' G2 => ?_)
        refine wk_ok (P := some c.2.2) (lv0 := lv) (hh := h) (fun _ _ => rfl) hS (fun c' hc' lv2 st2 h2 G3 hm => ?_) n o.1 o.2 (List.all_eq_true.mp e o ho) lv' st' h' G2
        exact ih (mvl lv2 h2 c'.2.2) (by rw [← eN]; exact hm c.2.2 rfl) c' hc' lv2 st2 h2 G3 rfl
      · cases e
    · cases e
def la_args : Nat → List Av → List (Nat × Av)
  | _, [] => []
  | i, a :: t => (i, noG a) :: la_args (i + ac a) t
theorem ac_noG (a : Av) : ac (noG a) = ac a := by unfold noG; split <;> rfl
theorem cat_nx (v : Value) (i : Nat) : (if v.category = 2 then i + 2 else i + 1) = i + v.category := by cases v <;> rfl
theorem lm_args {g : Nat → Int} {h : Hp_} : ∀ {vs : List Value} {es : List Av} {i : Nat}, am h vs es → lm g h (lv_args i vs) (la_args i es)
  | [], [], _, _ => trivial
  | v :: vs, e :: es, i, m => by
    have c := ac_cat m.1
    rw [ac_noG] at c
    show lm g h (lv_args i (v :: vs)) ((i, noG e) :: la_args (i + ac e) es)
    simp only [lv_args]
    rw [← c, cat_nx]
    exact ⟨rfl, bn_bm m.1, lm_args m.2⟩
  | [], _ :: _, _, m => m.elim
  | _ :: _, [], _, m => m.elim
theorem args_ge : ∀ {vs : List Value} {i : Nat} {q : Nat × Value}, q ∈ lv_args i vs → i ≤ q.1
  | [], _, q, h => by simp [lv_args] at h
  | v :: vs, i, q, h => by
    simp only [lv_args] at h
    rcases List.mem_cons.mp h with z | z
    · rw [z]; exact Nat.le_refl _
    · rw [cat_nx] at z; exact Nat.le_trans (Nat.le_add_right _ _) (args_ge z)
theorem args_rise : ∀ (vs : List Value) (i : Nat), lv_rise (lv_args i vs) = true
  | [], _ => rfl
  | v :: vs, i => by
    simp only [lv_args, lv_rise, Bool.and_eq_true, List.all_eq_true, decide_eq_true_eq]
    refine ⟨fun q hq => ?_, args_rise vs _⟩
    rw [cat_nx] at hq
    have a := args_ge hq
    have b : 1 ≤ v.category := by cases v <;> exact Nat.le_of_ble_eq_true rfl
    show i < q.1
    omega
theorem am_append {h : Hp_} : ∀ {a b : List Value} {x y : List Av}, am h a x → am h b y → am h (a ++ b) (x ++ y)
  | [], _, [], _, _, m => m
  | _ :: _, _, _ :: _, _, m, n => ⟨m.1, am_append m.2 n⟩
  | [], _, _ :: _, _, m, _ => m.elim
  | _ :: _, _, [], _, m, _ => m.elim
theorem am_rev {h : Hp_} : ∀ {vs : List Value} {es : List Av}, am h vs es → am h vs.reverse es.reverse
  | [], [], _ => trivial
  | v :: vs, e :: es, m => by
    rw [List.reverse_cons, List.reverse_cons]
    exact am_append (am_rev m.2) ⟨m.1, trivial⟩
  | [], _ :: _, m => m.elim
  | _ :: _, [], m => m.elim
theorem am_cat {h : Hp_} : ∀ {vs : List Value} {es : List Av}, am h vs es → (lg_sl vs).length = (es.map ac).sum
  | [], [], _ => rfl
  | v :: vs, e :: es, m => by
    have c := ac_cat m.1
    rw [ac_noG] at c
    have ih := am_cat m.2
    have s : (lg_sl (v :: vs)).length = v.category + (lg_sl vs).length := by
      unfold lg_sl
      rw [List.flatMap_cons, List.length_append]
      congr 1
      cases v <;> rfl
    rw [s, ih, List.map_cons, List.sum_cons, c]
  | [], _ :: _, m => m.elim
  | _ :: _, [], m => m.elim
def chk (code : List (Nat × Fx)) (cuts : List Cut) (c : Ctr) (n : Nat) : Bool := cuts.all (wc code cuts n) && wk code cuts none n 0 (la_args 0 c.1.reverse, [], (c.2.1, [], []))
theorem Hc_of {c : Ctr} {n : Nat} (hX : ∀ ad A s, mX M ad A s) (hy : plainName (mY M).cls = true) (hv : (c.1.reverse.map ac).sum ≤ mN M) (hS : ∀ h0, ∀ q ∈ code, Sd c.2.2.2.2 h0 M (Kc c.2.2.2.2 h0 c.2.2.1 c.2.2.2.1) q.1 q.2) (e : chk code cuts c n = true) : Hc M c := by
  intro vs h ma I hp
  unfold chk at e
  rw [Bool.and_eq_true] at e
  have mr := am_rev ma
  refine Ct.of hX hy (by rw [am_cat mr]; exact hv) ?_
  exact wk_ok (g := fun _ => 0) (P := none) (lv0 := []) (hh := h) (fun _ z => (nomatch z)) (hS h) (fun c' hc' lv st h' G _ => cut_ok n (hS h) e.1 _ c' hc' lv st h' G rfl) n 0 _ e.2 _ _ _ ⟨lm_args mr, trivial, ⟨hp, fun _ z => (nomatch z), fun _ z => (nomatch z)⟩, I, Fr.rf _ _, args_rise _ _⟩
end WALK
