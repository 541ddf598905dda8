/-! what is known of a value: an int in a range, where it was read from (1, i: place i of the frame; a + 2, k: field k of cell a), how it stands to a place of the frame at the last stop; or 0 a long, 1 null, 2 null or a constable, 3 a constable, 4 a text, 10 + a: cell a -/
abbrev Av : Type := (Rg × (Nat × Nat) × Option (Nat × Int)) ⊕ Nat
abbrev Hf : Type := List ((Nat × Nat) × Rg)
/-- what is known of the heap: fields; elements of rows at the number that a place of the frame holds -/
abbrev Hx : Type := Hf × List ((Nat × Nat) × Rg) × List ((Nat × Nat) × (Nat × Int))
abbrev Ab : Type := List (Nat × Av) × List Av × Hx
def Cn (h : Hp_) (c : Nat) : Prop := 401 ≤ c ∧ c ≤ 412 ∧ h_sh h c = some (12, 17)
def rm_ (h : Hp_) (v : Value) (n : Nat) : Prop := match n with
  | 0 => ∃ x, v = .long x
  | 1 => v = .null
  | 2 => v = .null ∨ ∃ c, v = .ref c ∧ Cn h c
  | 3 => ∃ c, v = .ref c ∧ Cn h c
  | 4 => ∃ i, i < 4 ∧ v = .ref (1000 + i)
  | n + 10 => v = .ref n
  | _ => False
/-- how an int stands to a number g k of the last stop: 2 k: equal to g k + d; 2 k + 1: not below it -/
def gq (g : Nat → Int) (x : Int32) (q : Nat × Int) : Prop := g (q.1 / 2) + q.2 ≤ x.toInt ∧ (q.1 % 2 = 0 → x.toInt = g (q.1 / 2) + q.2)
theorem gq_add {g : Nat → Int} {x y : Int32} {q : Nat × Int} {c : Int} (h : gq g x q) (e : y.toInt = x.toInt + c) : gq g y (q.1, q.2 + c) := by
  refine ⟨?_, fun z => ?_⟩
  · have := h.1; show g (q.1 / 2) + (q.2 + c) ≤ _; omega
  · have := h.2 z; show y.toInt = g (q.1 / 2) + (q.2 + c); omega
def bm (g : Nat → Int) (h : Hp_) (v : Value) (a : Av) : Prop := match a with
  | .inl (r, _, gh) => ∃ x : Int32, v = .int x ∧ rin x.toInt r ∧ ∀ q, gh = some q → gq g x q
  | .inr n => rm_ h v n
/-- where an int was read from -/
def lnk (h : Hp_) (lv : List (Nat × Value)) (x : Int32) (s : Nat × Nat) : Prop := (s.1 = 1 → (s.2, Value.int x) ∈ lv) ∧ (2 ≤ s.1 → s.1 < 1000 → h_i h (s.1 - 2) s.2 = x) ∧ (1000 ≤ s.1 → ∃ i : Int32, (s.2, Value.int i) ∈ lv ∧ h_i h (s.1 - 1000) i.toNatClampNeg = x)
theorem lnk_0 {h : Hp_} {lv : List (Nat × Value)} {x : Int32} : lnk h lv x (0, 0) := ⟨fun z => absurd z (by decide), fun z => absurd z (by decide), fun z => absurd z (by decide)⟩
def sl (h : Hp_) (lv : List (Nat × Value)) (v : Value) (a : Av) : Prop := match a with
  | .inl (_, s, _) => ∀ x : Int32, v = .int x → lnk h lv x s
  | .inr _ => True
def lm (g : Nat → Int) (h : Hp_) : List (Nat × Value) → List (Nat × Av) → Prop
  | [], [] => True
  | q :: t, p :: u => q.1 = p.1 ∧ bm g h q.2 p.2 ∧ lm g h t u
  | _, _ => False
def sm (g : Nat → Int) (h : Hp_) (lv : List (Nat × Value)) : List Value → List Av → Prop
  | [], [] => True
  | v :: t, p :: u => bm g h v p ∧ sl h lv v p ∧ sm g h lv t u
  | _, _ => False
def hm (h : Hp_) (l : Hf) : Prop := ∀ q ∈ l, rin (h_i h q.1.1 q.1.2).toInt q.2
def em (lv : List (Nat × Value)) (h : Hp_) (l : List ((Nat × Nat) × Rg)) : Prop := ∀ q ∈ l, ∃ i : Int32, (q.1.2, Value.int i) ∈ lv ∧ rin (h_i h q.1.1 i.toNatClampNeg).toInt q.2
/-- fields that stand in a known way to what they were at the last stop -/
def gfm (g : Nat → Int) (h : Hp_) (l : List ((Nat × Nat) × (Nat × Int))) : Prop := ∀ q ∈ l, gq g (h_i h q.1.1 q.1.2) q.2
def hx (g : Nat → Int) (lv : List (Nat × Value)) (h : Hp_) (l : Hx) : Prop := hm h l.1 ∧ em lv h l.2.1 ∧ gfm g h l.2.2
/-- look a number up -/
def lk {α : Type} (a : Nat) : List (Nat × α) → Option α
  | [] => none
  | q :: t => bif Nat.beq q.1 a then some q.2 else lk a t
theorem lk_mem {α : Type} {a : Nat} {b : α} : ∀ {l : List (Nat × α)}, lk a l = some b → (a, b) ∈ l
  | [], h => (nomatch h)
  | q :: t, h => by
    unfold lk at h
    cases c : Nat.beq q.1 a with
    | true =>
      rw [c] at h
      have e := Nat.eq_of_beq_eq_true c
      have h : some q.2 = some b := h
      have h := Option.some.inj h
      rw [← e, ← h]; exact List.mem_cons_self
    | false =>
      rw [c] at h
      exact List.mem_cons_of_mem _ (lk_mem h)
def cn (a : Nat) : Nat := bif Nat.ble 401 a && Nat.ble a 412 then 401 else a
def tf (a k : Nat) : Rg := match lk (cn a) tbl with
  | none => rtop
  | some (d, l) => (lk k l).getD d
def tfa (a : Nat) : Option Rg := match lk (cn a) tbl with
  | none => some rtop
  | some (d, []) => some d
  | _ => none
theorem tfa_tf {a : Nat} {r : Rg} (h : tfa a = some r) (k : Nat) : tf a k = r := by
  unfold tfa at h
  unfold tf
  split at h
  · rename_i e; rw [e]; exact Option.some.inj h
  · rename_i d e; rw [e]; exact Option.some.inj h
  · cases h
def shq (a : Nat) : Option (Nat × Nat) := lk a shL
def lk2 (a k : Nat) : List (Nat × Nat × Nat) → Option Nat
  | [] => none
  | q :: t => bif Nat.beq q.1 a && Nat.beq q.2.1 k then some q.2.2 else lk2 a k t
theorem lk2_mem {a k b : Nat} : ∀ {l : List (Nat × Nat × Nat)}, lk2 a k l = some b → (a, k, b) ∈ l
  | [], h => (nomatch h)
  | q :: t, h => by
    unfold lk2 at h
    cases c : Nat.beq q.1 a && Nat.beq q.2.1 k with
    | true =>
      rw [c] at h
      rw [Bool.and_eq_true] at c
      have e1 := Nat.eq_of_beq_eq_true c.1
      have e2 := Nat.eq_of_beq_eq_true c.2
      have h : some q.2.2 = some b := h
      have h := Option.some.inj h
      rw [← e1, ← e2, ← h]; exact List.mem_cons_self
    | false =>
      rw [c] at h
      exact List.mem_cons_of_mem _ (lk2_mem h)
/-- places that hand methods alone write -/
def jr (a : Nat) : Bool := Nat.beq a 228 || Nat.beq a 229 || Nat.beq a 231 || Nat.beq a 232
def jw (a k : Nat) : Bool := (Nat.beq a 0 && (Nat.beq k 0 || Nat.beq k 7)) || jr a
/-- the letters of a text of a sort -/
def okl (s : Nat) (c : Int32) : Bool := (bif Nat.beq s 1 then [99, 116, 107, 119, 112, 104, 100, 110, 101] else ([99, 116, 121, 109, 120, 97] : List Int32)).any (fun x => decide (x = c))
/-- one code of a told sum or condition at place i, the pile n high: where the next is, how high it is then -/
def pst (s : Nat) (cd : Nat → Int32) (i n : Nat) : Option (Nat × Nat) :=
  if cd i = 0 then (if n < 199 then some (i + 2, n + 1) else none)
  else if cd i = 1 then (if n < 199 ∧ okl s (cd (i + 1)) = true then some (i + 2, n + 1) else none)
  else if cd i = 33 then (if 1 ≤ n then some (i + 1, n) else none)
  else if cd i = 2 ∨ cd i = 3 then none
  else if 2 ≤ n then some (i + 1, n - 1) else none
def prun (s : Nat) (cd : Nat → Int32) : Nat → Nat → Nat → Nat → Nat → Prop
  | 0, i, n, j, m => i = j ∧ n = m
  | f + 1, i, n, j, m => ∃ i' n', pst s cd i n = some (i', n') ∧ prun s cd f i' n' j m
/-- the codes of a text: clauses, each a condition, a 2, an answer, a 3 -/
def pcl (s : Nat) (cd : Nat → Int32) : Nat → Nat → Nat → Prop
  | 0, i, e => i = e
  | f + 1, i, e => ∃ j k, (∃ g, prun s cd g i 0 j 1) ∧ cd j = 2 ∧ (∃ g, prun s cd g (j + 1) 0 k 1) ∧ cd k = 3 ∧ pcl s cd f (k + 1) e
/-- cells that are free for the history's rows -/
def Gr (sh : Nat → Option (Nat × Nat)) (N : Nat) : Prop := ∃ g : Nat, g ≤ 16 ∧ (g = 0 ∨ 2 ^ (g - 1) ≤ N ∨ N = 20000) ∧ ∀ a, 420 + g ≤ a → a < 1000 → sh a = none
/-- steps of the reference's beats; cells that are free still; the reference's texts -/
def Jv (h : Hp_) : Prop := (∀ k, h_i h 228 k ≠ 1 → rin (h_i h 229 k).toInt (0, 15)) ∧ (∀ j : Nat, j < 12 → (h_i h 0 7).toInt ≤ (j : Int) → h_sh h (401 + j) = none) ∧ (∀ c N, h_r h 0 15 = some c → h_sh h c = some (3, N) → Gr (h_sh h) N) ∧ (∀ t, t < 40 → ∃ f, pcl (t / 20 + 1) (h_i h 231) f (560 * t) (560 * t + (h_i h 232 t).toNatClampNeg))
theorem jw_of {a : Nat} (h : jr a = true) (k : Nat) : jw a k = true := by unfold jw; rw [h, Bool.or_true]
theorem Jv_same {h h' : Hp_} (e : ∀ a k, jw a k = true → h_i h' a k = h_i h a k) (s : h_sh h' = h_sh h) (r : h_r h' 0 15 = h_r h 0 15) (J : Jv h) : Jv h' := by
  refine ⟨fun k hk => ?_, fun j hj hm => ?_, fun c N => ?_, fun t ht => ?_⟩
  · rw [e 228 k (jw_of (by decide) _)] at hk
    rw [e 229 k (jw_of (by decide) _)]
    exact J.1 k hk
  · rw [e 0 7 rfl] at hm
    rw [s]; exact J.2.1 j hj hm
  · rw [r, s]; exact J.2.2.1 c N
  · rw [show h_i h' 231 = h_i h 231 from funext (fun k => e 231 k (jw_of (by decide) _)), e 232 t (jw_of (by decide) _)]
    exact J.2.2.2 t ht
/-- what stands between the calls -/
def Iv (h : Hp_) : Prop := Wf h ∧ (∀ a k, rin (h_i h a k).toInt (tf a k)) ∧ (∀ k, h_r h 15 k = none ∨ ∃ c, h_r h 15 k = some c ∧ Cn h c) ∧ (∃ i, i < 4 ∧ h_r h 11 4 = some (1000 + i)) ∧ (∃ c N, h_r h 0 15 = some c ∧ h_sh h c = some (3, N) ∧ N ≤ 20000 ∧ (h_i h 0 0).toInt ≤ N) ∧ Jv h
/-- the writes: 1000 * cell + slot of a field, 1000 * cell + 999 of a row -/
def kk (k : Nat) : Nat := bif Nat.ble k 998 then k else 999
def inw (ws : List Nat) (a k : Nat) : Bool := ws.any (fun w => Nat.beq w (1000 * cn a + kk k) || Nat.beq w (1000 * cn a + 999))
theorem inw_row {ws : List Nat} {a : Nat} (h : inw ws a 999 = true) (k : Nat) : inw ws a k = true := by
  unfold inw at h ⊢
  obtain ⟨w, hw, e⟩ := List.any_eq_true.mp h
  refine List.any_eq_true.mpr ⟨w, hw, ?_⟩
  rw [Bool.or_eq_true] at e ⊢
  exact Or.inr (e.elim id id)
/-- nothing of the cell is written -/
def off (ws : List Nat) (a : Nat) : Bool := ws.all (fun w => Nat.ble (w + 1) (1000 * cn a) || Nat.ble (1000 * cn a + 1000) w)
theorem kk_lt (k : Nat) : kk k < 1000 := by
  unfold kk
  cases c : Nat.ble k 998 with
  | true => have := Nat.ble_eq.mp c; show k < 1000; omega
  | false => show 999 < 1000; omega
theorem off_inw {ws : List Nat} {a : Nat} (h : off ws a = true) (k : Nat) : inw ws a k = false := by
  cases q : inw ws a k with
  | false => rfl
  | true =>
    exfalso
    unfold inw at q
    obtain ⟨w, hw, e⟩ := List.any_eq_true.mp q
    have z := List.all_eq_true.mp h w hw
    rw [Bool.or_eq_true, Nat.ble_eq, Nat.ble_eq] at z
    have l := kk_lt k
    rw [Bool.or_eq_true] at e
    rcases e with e | e <;> have e := Nat.eq_of_beq_eq_true e <;> omega
def Fr (ws : List Nat) (h0 h : Hp_) : Prop := h_sh h = h_sh h0 ∧ ∀ b k, inw ws b k = false → h_i h b k = h_i h0 b k ∧ h_l h b k = h_l h0 b k ∧ h_r h b k = h_r h0 b k
theorem Fr.rf (ws : List Nat) (h : Hp_) : Fr ws h h := ⟨rfl, fun _ _ _ => ⟨rfl, rfl, rfl⟩⟩
theorem Fr.tr {ws : List Nat} {h0 h h1 : Hp_} (a : Fr ws h0 h) (b : Fr ws h h1) : Fr ws h0 h1 := ⟨b.1.trans a.1, fun c k hc => ⟨(b.2 c k hc).1.trans (a.2 c k hc).1, (b.2 c k hc).2.1.trans (a.2 c k hc).2.1, (b.2 c k hc).2.2.trans (a.2 c k hc).2.2⟩⟩
def wsub (a b : List Nat) : Bool := a.all (fun x => b.any (fun y => Nat.beq y x))
theorem inw_sub {a b : List Nat} (h : wsub a b = true) {c k : Nat} (hc : inw b c k = false) : inw a c k = false := by
  cases q : inw a c k with
  | false => rfl
  | true =>
    exfalso
    unfold inw at q hc
    obtain ⟨x, hx, ex⟩ := List.any_eq_true.mp q
    obtain ⟨y, hy, ey⟩ := List.any_eq_true.mp (List.all_eq_true.mp h x hx)
    have e2 := Nat.eq_of_beq_eq_true ey
    have : List.any b (fun w => Nat.beq w (1000 * cn c + kk k) || Nat.beq w (1000 * cn c + 999)) = true := List.any_eq_true.mpr ⟨y, hy, by rw [e2]; exact ex⟩
    rw [hc] at this; cases this
theorem Fr.more {a b : List Nat} {h0 h : Hp_} (s : wsub a b = true) (f : Fr a h0 h) : Fr b h0 h := ⟨f.1, fun c k hc => f.2 c k (inw_sub s hc)⟩
def Gm (g : Nat → Int) (ws : List Nat) (h0 : Hp_) (a : Ab) (lv : List (Nat × Value)) (st : List Value) (h : Hp_) : Prop :=
  lm g h lv a.1 ∧ sm g h lv st a.2.1 ∧ hx g lv h a.2.2 ∧ Iv h ∧ Fr ws h0 h ∧ lv_rise lv = true
abbrev Fx : Type := Ab → Option (List (Nat × Ab))
/-- a step at pc, and that it is one -/
def Sd (ws : List Nat) (h0 : Hp_) (M : Mc_) (K : Option Value → Hp_ → Prop) (pc : Nat) (f : Fx) : Prop := ∀ (g : Nat → Int) (a : Ab) (out : List (Nat × Ab)), f a = some out → ∀ lv st h, Gm g ws h0 a lv st h →
  (∀ o ∈ out, ∀ lv' st' h', Gm g ws h0 o.2 lv' st' h' → AW M 0 0 o.1 lv' st' h' K) → AW M 0 0 pc lv st h K
theorem bm_sh {g : Nat → Int} {h h' : Hp_} (e : h_sh h' = h_sh h) {v : Value} {a : Av} (m : bm g h v a) : bm g h' v a := by
  have c : ∀ x, Cn h x → Cn h' x := fun x w => ⟨w.1, w.2.1, by rw [e]; exact w.2.2⟩
  unfold bm at m ⊢
  split at m
  · exact m
  · rename_i n
    unfold rm_ at m ⊢
    split at m
    · exact m
    · exact m
    · exact m.imp id (fun ⟨x, w, z⟩ => ⟨x, w, c x z⟩)
    · obtain ⟨x, w, z⟩ := m; exact ⟨x, w, c x z⟩
    · exact m
    · exact m
    · exact m
theorem lm_sh {g : Nat → Int} {h h' : Hp_} (e : h_sh h' = h_sh h) : ∀ {lv : List (Nat × Value)} {la : List (Nat × Av)}, lm g h lv la → lm g h' lv la
  | [], [], _ => trivial
  | _ :: _, _ :: _, m => ⟨m.1, bm_sh e m.2.1, lm_sh e m.2.2⟩
  | [], _ :: _, m => m.elim
  | _ :: _, [], m => m.elim
/-- a look into the locals -/
theorem lm_lk {g : Nat → Int} {h : Hp_} {i : Nat} {a : Av} : ∀ {lv : List (Nat × Value)} {la : List (Nat × Av)}, lm g h lv la → lk i la = some a → ∃ (j : Nat) (v : Value), lv[j]? = some (i, v) ∧ bm g h v a
  | [], [], _, e => (nomatch e)
  | q :: t, p :: u, m, e => by
    unfold lk at e
    cases c : Nat.beq p.1 i with
    | true =>
      rw [c] at e
      have e1 := Nat.eq_of_beq_eq_true c
      have e : some p.2 = some a := e
      have e := Option.some.inj e
      refine ⟨0, q.2, ?_, by rw [← e]; exact m.2.1⟩
      rw [List.getElem?_cons_zero, ← e1, ← m.1]
    | false =>
      rw [c] at e
      obtain ⟨j, v, w, b⟩ := lm_lk m.2.2 e
      exact ⟨j + 1, v, by rw [List.getElem?_cons_succ]; exact w, b⟩
  | [], _ :: _, m, _ => m.elim
  | _ :: _, [], m, _ => m.elim
def la_put (i : Nat) (v : Av) : List (Nat × Av) → List (Nat × Av)
  | [] => [(i, v)]
  | q :: t => bif Nat.beq q.1 i then (i, v) :: t else bif Nat.ble (i + 1) q.1 then (i, v) :: q :: t else q :: la_put i v t
theorem lm_put {g : Nat → Int} {h : Hp_} {i : Nat} {v : Value} {a : Av} (b : bm g h v a) : ∀ {lv : List (Nat × Value)} {la : List (Nat × Av)}, lm g h lv la → lm g h (lv_put i v lv) (la_put i a la)
  | [], [], _ => ⟨rfl, b, trivial⟩
  | q :: t, p :: u, m => by
    unfold lv_put la_put
    by_cases c : q.1 = i
    · have c' : Nat.beq p.1 i = true := by rw [← m.1, c]; exact Nat.beq_refl _
      rw [if_pos c, c']
      exact ⟨rfl, b, m.2.2⟩
    · have c' : Nat.beq p.1 i = false := by
        cases z : Nat.beq p.1 i with
        | false => rfl
        | true => exact absurd (m.1.trans (Nat.eq_of_beq_eq_true z)) c
      rw [if_neg c, c']
      by_cases d : i < q.1
      · have d' : Nat.ble (i + 1) p.1 = true := Nat.ble_eq.mpr (by rw [← m.1]; exact d)
        rw [if_pos d, d']
        exact ⟨rfl, b, m⟩
      · have d' : Nat.ble (i + 1) p.1 = false := by
          cases z : Nat.ble (i + 1) p.1 with
          | false => rfl
          | true => exact absurd (by rw [m.1]; exact Nat.ble_eq.mp z) d
        rw [if_neg d, d']
        exact ⟨m.1, m.2.1, lm_put b m.2.2⟩
  | [], _ :: _, m => m.elim
  | _ :: _, [], m => m.elim
theorem rise_mem {q : Nat × Value} {t : List (Nat × Value)} (r : lv_rise (q :: t) = true) : (∀ p ∈ t, q.1 < p.1) ∧ lv_rise t = true := by
  simp only [lv_rise, Bool.and_eq_true, List.all_eq_true, decide_eq_true_eq] at r
  exact r
theorem rise_uniq {i : Nat} {v w : Value} : ∀ {lv : List (Nat × Value)}, lv_rise lv = true → (i, v) ∈ lv → (i, w) ∈ lv → v = w
  | [], _, h, _ => (nomatch h)
  | q :: t, r, h1, h2 => by
    have r := rise_mem r
    rcases List.mem_cons.mp h1 with a | a <;> rcases List.mem_cons.mp h2 with b | b
    · exact (Prod.mk.inj (a.trans b.symm)).2
    · have := r.1 _ b; rw [← a] at this; exact absurd this (Nat.lt_irrefl _)
    · have := r.1 _ a; rw [← b] at this; exact absurd this (Nat.lt_irrefl _)
    · exact rise_uniq r.2 a b
theorem rise_put {i : Nat} {v : Value} : ∀ {lv : List (Nat × Value)}, lv_rise lv = true → lv_rise (lv_put i v lv) = true
  | [], _ => rfl
  | q :: t, r => by
    have r := rise_mem r
    unfold lv_put
    by_cases c : q.1 = i
    · rw [if_pos c]
      simp only [lv_rise, Bool.and_eq_true, List.all_eq_true, decide_eq_true_eq]
      exact ⟨fun p hp => by have := r.1 p hp; omega, r.2⟩
    · rw [if_neg c]
      by_cases d : i < q.1
      · rw [if_pos d]
        simp only [lv_rise, Bool.and_eq_true, List.all_eq_true, decide_eq_true_eq]
        refine ⟨fun p hp => ?_, fun p hp => r.1 p hp, r.2⟩
        rcases List.mem_cons.mp hp with z | z
        · rw [z]; exact d
        · have := r.1 p z; omega
      · rw [if_neg d]
        simp only [lv_rise, Bool.and_eq_true, List.all_eq_true, decide_eq_true_eq]
        refine ⟨fun p hp => ?_, rise_put r.2⟩
        rcases lv_put_mem hp with z | z
        · rw [z]; show q.1 < i; omega
        · exact r.1 p z
/-- take links to a place away -/
def kav (f : Nat × Nat → Bool) (a : Av) : Av := match a with
  | .inl (r, s, gh) => .inl (r, bif f s then (0, 0) else s, gh)
  | .inr n => .inr n
theorem bm_kav {f : Nat × Nat → Bool} {g : Nat → Int} {h : Hp_} {v : Value} {a : Av} (m : bm g h v a) : bm g h v (kav f a) := by
  unfold kav
  split <;> exact m
/-- the stack behind a change: links that may not hold any more are taken away -/
theorem sm_kav {f : Nat × Nat → Bool} {g : Nat → Int} {h h' : Hp_} {lv lv' : List (Nat × Value)} (e : h_sh h' = h_sh h)
    (k1 : ∀ s x, f s = false → lnk h lv x s → lnk h' lv' x s) :
    ∀ {st : List Value} {sa : List Av}, sm g h lv st sa → sm g h' lv' st (sa.map (kav f))
  | [], [], _ => trivial
  | v :: t, p :: u, m => by
    refine ⟨bm_kav (bm_sh e m.1), ?_, sm_kav e k1 m.2.2⟩
    have q := m.2.1
    unfold sl at q
    unfold sl kav
    split at q
    · rename_i r s gh
      show ∀ x : Int32, v = .int x → lnk h' lv' x (bif f s then (0, 0) else s)
      intro x hx
      cases c : f s with
      | true => exact lnk_0
      | false => exact k1 s x c (q x hx)
    · trivial
  | [], _ :: _, m => m.elim
  | _ :: _, [], m => m.elim
theorem sm_len {g : Nat → Int} {h : Hp_} {lv : List (Nat × Value)} : ∀ {st : List Value} {sa : List Av}, sm g h lv st sa → st.length = sa.length
  | [], [], _ => rfl
  | _ :: _, _ :: _, m => by rw [List.length_cons, List.length_cons, sm_len m.2.2]
  | [], _ :: _, m => m.elim
  | _ :: _, [], m => m.elim
/-- how wide a value is -/
def ac : Av → Nat
  | .inl _ => 1
  | .inr n => bif Nat.beq n 0 then 2 else 1
theorem ac_cat {g : Nat → Int} {h : Hp_} {v : Value} {a : Av} (m : bm g h v a) : v.category = ac a := by
  unfold bm at m
  split at m
  · obtain ⟨x, e, _⟩ := m; rw [e]; rfl
  · rename_i n
    unfold rm_ at m
    split at m
    · obtain ⟨x, e⟩ := m; rw [e]; rfl
    · rw [m]; rfl
    · rcases m with e | ⟨x, e, _⟩ <;> rw [e] <;> rfl
    · obtain ⟨x, e, _⟩ := m; rw [e]; rfl
    · obtain ⟨x, _, e⟩ := m; rw [e]; rfl
    · rename_i k; rw [m]; show 1 = (bif Nat.beq (k + 10) 0 then 2 else 1); rfl
    · exact m.elim
