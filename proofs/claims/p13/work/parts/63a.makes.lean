/-! what the class makes: rows of the history, men -/
theorem y_sh {h : Hp_} {a t n b : Nat} : h_sh (h_nw h a t n) b = if b = a then some (t, n) else h_sh h b := rfl
theorem y_i {h : Hp_} {a t n b : Nat} : h_i (h_nw h a t n) b = if b = a then (fun _ => 0) else h_i h b := rfl
theorem y_r {h : Hp_} {a t n b : Nat} : h_r (h_nw h a t n) b = if b = a then (fun _ => none) else h_r h b := rfl
theorem y_shL : shL.all (fun q => Nat.ble q.1 399) = true := by decide +kernel
theorem y_rfL : rfL.all (fun q => Nat.ble q.1 399 && !(Nat.beq q.1 0 && Nat.beq q.2.1 15) && !(Nat.beq q.1 15)) = true := by decide +kernel
theorem y_tbl : tbl.all (fun q => Nat.ble q.1 399) = true := by decide +kernel
theorem lk_none {α : Type} {a : Nat} : ∀ {l : List (Nat × α)}, (∀ q ∈ l, q.1 ≠ a) → lk a l = none
  | [], _ => rfl
  | q :: t, h => by
    unfold lk
    have n : Nat.beq q.1 a = false := by
      cases z : Nat.beq q.1 a with
      | false => rfl
      | true => exact absurd (Nat.eq_of_beq_eq_true z) (h q List.mem_cons_self)
    rw [n]
    exact lk_none (fun p hp => h p (List.mem_cons_of_mem _ hp))
theorem tf_far {a : Nat} (h : 400 ≤ a) (k : Nat) : tf a k = rtop := by
  have c : 400 ≤ cn a := by
    unfold cn
    cases z : Nat.ble 401 a && Nat.ble a 412 with
    | true => show 400 ≤ 401; omega
    | false => exact h
  have e : lk (cn a) tbl = none := lk_none (fun q hq z => by
    have := Nat.ble_eq.mp (List.all_eq_true.mp y_tbl q hq)
    omega)
  unfold tf
  rw [e]
/-- what tick, and what constable, of the class may write of the cells that stand -/
def wsX : List Nat := 0 :: 15 :: wz_X11_goOn
/-- what tick answers, and the minute then -/
def okt (m x : Int32) : Prop := (0 ≤ x ∧ x ≤ 1500) ∧ m.toInt + x.toInt ≤ 20000
def otk (m x r m' : Int32) : Prop := (okt m x ∧ r = m' ∧ m'.toInt = m.toInt + x.toInt) ∨ (¬ okt m x ∧ r = -1 ∧ m' = m)
def wsC : List Nat := 7 :: 15999 :: 401999 :: wz_X11_goOn
/-- the reference's ints stay, and of the class's all but those in W -/
def Mf (W : List Nat) (h h' : Hp_) : Prop := (∀ k, h_i h' 1 k = h_i h 1 k) ∧ (∀ a, 200 ≤ a → a < 300 → ∀ k, h_i h' a k = h_i h a k) ∧ h_sh h' 2 = h_sh h 2 ∧ ∀ a k, (a < 200 ∨ (401 ≤ a ∧ a ≤ 412)) → inw W a k = false → h_i h' a k = h_i h a k ∧ h_r h' a k = h_r h a k
theorem Mf.rf {W : List Nat} (h : Hp_) : Mf W h h := ⟨fun _ => rfl, fun _ _ _ _ => rfl, rfl, fun _ _ _ _ => ⟨rfl, rfl⟩⟩
theorem Mf.tr {W : List Nat} {h h1 h2 : Hp_} (a : Mf W h h1) (b : Mf W h1 h2) : Mf W h h2 := ⟨fun k => (b.1 k).trans (a.1 k), fun c h1 h2 k => (b.2.1 c h1 h2 k).trans (a.2.1 c h1 h2 k), b.2.2.1.trans a.2.2.1, fun c k hc hw => ⟨(b.2.2.2 c k hc hw).1.trans (a.2.2.2 c k hc hw).1, (b.2.2.2 c k hc hw).2.trans (a.2.2.2 c k hc hw).2⟩⟩
def mfo (W ws : List Nat) : Bool := ws.all (fun w => !(Nat.ble 1000 w && Nat.ble w 1999) && !(Nat.ble 200000 w && Nat.ble w 299999)) && wsub ws W
theorem Mf.fr {W ws : List Nat} {h h' : Hp_} (c0 : mfo W ws = true) (f : Fr ws h h') : Mf W h h' := by
  unfold mfo at c0
  rw [Bool.and_eq_true] at c0
  obtain ⟨c, c2⟩ := c0
  have key : ∀ a, (a = 1 ∨ (200 ≤ a ∧ a < 300)) → ∀ k, inw ws a k = false := by
    intro a ha k
    cases q : inw ws a k with
    | false => rfl
    | true =>
      exfalso
      unfold inw at q
      obtain ⟨w, hw, e⟩ := List.any_eq_true.mp q
      have z := List.all_eq_true.mp c w hw
      rw [Bool.and_eq_true, Bool.not_eq_true', Bool.not_eq_true', Bool.and_eq_false_iff, Bool.and_eq_false_iff] at z
      have l := kk_lt k
      have ca : cn a = a := by
        unfold cn
        cases y : Nat.ble 401 a && Nat.ble a 412 with
        | false => rfl
        | true =>
          rw [Bool.and_eq_true, Nat.ble_eq] at y
          omega
      rw [ca, Bool.or_eq_true] at e
      have g : ∀ {x y : Nat}, Nat.ble x y = false → y < x := fun {x y} v => by
        rcases Nat.lt_or_ge y x with u | u
        · exact u
        · rw [Nat.ble_eq.mpr u] at v; cases v
      rcases e with e | e <;> have e := Nat.eq_of_beq_eq_true e <;> rcases z.1 with z1 | z1 <;> rcases z.2 with z2 | z2 <;> have z1 := g z1 <;> have z2 := g z2 <;> omega
  exact ⟨fun k => (f.2 1 k (key 1 (Or.inl rfl) k)).1, fun a h1 h2 k => (f.2 a k (key a (Or.inr ⟨h1, h2⟩) k)).1, congrFun f.1 2, fun a k _ hw => ⟨(f.2 a k (inw_sub c2 hw)).1, (f.2 a k (inw_sub c2 hw)).2.2⟩⟩
theorem pw15 : 2 ^ 15 = 32768 := by decide
/-- a longer row for the history -/
theorem Iv_hist {h h' : Hp_} {c N W g : Nat} (I : Iv h) (hc : h_r h 0 15 = some c) (hN : h_sh h c = some (3, N)) (g1 : g ≤ 15) (hg : 2 ^ g ≤ W ∨ W = 20000) (hf : ∀ a, 420 + g ≤ a → a < 1000 → h_sh h a = none) (lW : W ≤ 20000) (lN : N ≤ W)
    (sh : ∀ a, h_sh h' a = if a = 420 + g then some (3, W) else h_sh h a) (hi : ∀ a k, a ≠ 420 + g → h_i h' a k = h_i h a k) (hr : ∀ a k, a ≠ 420 + g → ¬ (a = 0 ∧ k = 15) → h_r h' a k = h_r h a k) (h15 : h_r h' 0 15 = some (420 + g)) : Iv h' := by
  have cn' : ∀ x, Cn h x → Cn h' x := fun x z => ⟨z.1, z.2.1, by rw [sh, if_neg (by have := z.2.1; omega)]; exact z.2.2⟩
  refine ⟨⟨fun q hq => ?_, fun q hq => ?_⟩, fun a k => ?_, fun k => ?_, ?_, ⟨420 + g, W, h15, by rw [sh, if_pos rfl], lW, ?_⟩, fun k hk => ?_, fun j hj hm => ?_, fun x M hx hM => ?_, fun t ht => ?_⟩
  · have := Nat.ble_eq.mp (List.all_eq_true.mp y_shL q hq)
    rw [sh, if_neg (by omega)]
    exact I.1.1 q hq
  · have z := List.all_eq_true.mp y_rfL q hq
    rw [Bool.and_eq_true, Bool.and_eq_true, Nat.ble_eq, Bool.not_eq_true'] at z
    rw [hr q.1 q.2.1 (by omega) (fun y => by have z2 := z.1.2; rw [y.1, y.2] at z2; exact absurd z2 (by decide))]
    exact I.1.2 q hq
  · by_cases e : a = 420 + g
    · rw [tf_far (by omega)]; exact rtop_in _
    · rw [hi a k e]; exact I.2.1 a k
  · rw [hr 15 k (by omega) (fun y => absurd y.1 (by decide))]
    rcases I.2.2.1 k with z | ⟨x, z, y⟩
    · exact Or.inl z
    · exact Or.inr ⟨x, z, cn' x y⟩
  · rw [hr 11 4 (by omega) (fun y => absurd y.1 (by decide))]
    exact I.2.2.2.1
  · obtain ⟨c2, N2, d1, d2, d3, d4⟩ := I.2.2.2.2.1
    rw [hc] at d1
    cases d1
    rw [hN] at d2
    cases d2
    rw [hi 0 0 (by omega)]
    omega
  · rw [hi 228 k (by omega)] at hk
    rw [hi 229 k (by omega)]
    exact I.2.2.2.2.2.1 k hk
  · rw [hi 0 7 (by omega)] at hm
    rw [sh, if_neg (by omega)]
    exact I.2.2.2.2.2.2.1 j hj hm
  · rw [h15] at hx
    cases hx
    rw [sh, if_pos rfl] at hM
    cases hM
    refine ⟨g + 1, by omega, ?_, fun a h1 h2 => ?_⟩
    · rcases hg with z | z
      · exact Or.inr (Or.inl z)
      · exact Or.inr (Or.inr z)
    · rw [sh, if_neg (by omega)]
      exact hf a (by omega) h2
  · rw [show h_i h' 231 = h_i h 231 from funext (fun k => hi 231 k (by omega)), hi 232 t (by omega)]
    exact I.2.2.2.2.2.2.2.2 t ht
theorem Iv_now {h : Hp_} {x : Int32} (I : Iv h) (hx : rin x.toInt (0, 20000)) (hN : ∀ c N, h_r h 0 15 = some c → h_sh h c = some (3, N) → x.toInt ≤ (N : Int)) : Iv (h_im h 0 0 x) := by
  have ne : ∀ b j, ¬ (b = 0 ∧ j = 0) → h_i (h_im h 0 0 x) b j = h_i h b j := fun b j z => by rw [h_i_im, if_neg z]
  refine ⟨I.1.im 0 0 x, fun b j => ?_, I.2.2.1, I.2.2.2.1, ?_, fun k hk => ?_, fun j hj hm => ?_, I.2.2.2.2.2.2.2.1, fun t ht => ?_⟩
  · by_cases z : b = 0 ∧ j = 0
    · rw [h_i_im, if_pos z, z.1, z.2]
      rw [show tf 0 0 = (0, 20000) by decide +kernel]
      exact hx
    · rw [ne b j z]; exact I.2.1 b j
  · obtain ⟨c, N, c1, c2, c3, _⟩ := I.2.2.2.2.1
    refine ⟨c, N, c1, c2, c3, ?_⟩
    rw [h_i_im, if_pos ⟨rfl, rfl⟩]
    exact hN c N c1 c2
  · rw [ne 228 k (by omega)] at hk
    rw [ne 229 k (by omega)]
    exact I.2.2.2.2.2.1 k hk
  · rw [ne 0 7 (by omega)] at hm
    exact I.2.2.2.2.2.2.1 j hj hm
  · rw [show h_i (h_im h 0 0 x) 231 = h_i h 231 from funext (fun k => ne 231 k (by omega)), ne 232 t (by omega)]
    exact I.2.2.2.2.2.2.2.2 t ht
/-- one man more -/
theorem Iv_man {h h' : Hp_} {j : Nat} (I : Iv h) (hj : j < 12) (e7 : h_i h 0 7 = Int32.ofNat j) (sh : ∀ a, h_sh h' a = if a = 401 + j then some (12, 17) else h_sh h a) (hi : ∀ a k, a ≠ 401 + j → ¬ (a = 0 ∧ k = 7) → h_i h' a k = h_i h a k) (h7 : h_i h' 0 7 = Int32.ofNat (j + 1))
    (hr : ∀ a k, a ≠ 401 + j → ¬ (a = 15 ∧ k = j) → h_r h' a k = h_r h a k) (h15 : h_r h' 15 j = some (401 + j)) : Iv h' := by
  have o7 : (Int32.ofNat j).toInt = (j : Int) := Int32.toInt_ofNat_of_lt (by omega)
  have o8 : (Int32.ofNat (j + 1)).toInt = ((j + 1 : Nat) : Int) := Int32.toInt_ofNat_of_lt (by omega)
  have fr : h_sh h (401 + j) = none := I.2.2.2.2.2.2.1 j hj (by rw [e7, o7]; exact Int.le_refl _)
  have cn' : ∀ x, Cn h x → Cn h' x := fun x z => ⟨z.1, z.2.1, by
    by_cases e : x = 401 + j
    · rw [sh, if_pos e]
    · rw [sh, if_neg e]; exact z.2.2⟩
  refine ⟨⟨fun q hq => ?_, fun q hq => ?_⟩, fun a k => ?_, fun k => ?_, ?_, ?_, fun k hk => ?_, fun i hi2 hm => ?_, fun x M hx hM => ?_, fun t ht => ?_⟩
  · have := Nat.ble_eq.mp (List.all_eq_true.mp y_shL q hq)
    rw [sh, if_neg (by omega)]
    exact I.1.1 q hq
  · have z := List.all_eq_true.mp y_rfL q hq
    rw [Bool.and_eq_true, Bool.and_eq_true, Nat.ble_eq] at z
    rw [hr q.1 q.2.1 (by omega) (fun y => by have z2 := z.2; rw [y.1] at z2; exact absurd z2 (by decide))]
    exact I.1.2 q hq
  · by_cases e : a = 401 + j
    · rw [tf_far (by omega)]; exact rtop_in _
    · by_cases e2 : a = 0 ∧ k = 7
      · rw [e2.1, e2.2, h7, show tf 0 7 = (0, 12) by decide +kernel, o8]
        exact ⟨by show (0 : Int) ≤ _; omega, by show _ ≤ (12 : Int); omega⟩
      · rw [hi a k e e2]; exact I.2.1 a k
  · by_cases e : k = j
    · rw [e, h15]
      exact Or.inr ⟨_, rfl, by omega, by omega, by rw [sh, if_pos rfl]⟩
    · rw [hr 15 k (by omega) (fun y => e y.2)]
      rcases I.2.2.1 k with z | ⟨x, z, y⟩
      · exact Or.inl z
      · exact Or.inr ⟨x, z, cn' x y⟩
  · rw [hr 11 4 (by omega) (fun y => absurd y.1 (by decide))]
    exact I.2.2.2.1
  · obtain ⟨c, N, c1, c2, c3, c4⟩ := I.2.2.2.2.1
    refine ⟨c, N, by rw [hr 0 15 (by omega) (fun y => absurd y.1 (by decide))]; exact c1, ?_, c3, by rw [hi 0 0 (by omega) (fun y => absurd y.2 (by decide))]; exact c4⟩
    rw [sh, if_neg (fun z => by rw [z, fr] at c2; cases c2)]
    exact c2
  · rw [hi 228 k (by omega) (by omega)] at hk
    rw [hi 229 k (by omega) (by omega)]
    exact I.2.2.2.2.2.1 k hk
  · rw [h7, o8] at hm
    rw [sh, if_neg (by omega)]
    exact I.2.2.2.2.2.2.1 i hi2 (by rw [e7, o7]; omega)
  · rw [hr 0 15 (by omega) (fun y => absurd y.1 (by decide))] at hx
    by_cases e : x = 401 + j
    · rw [sh, if_pos e] at hM; cases hM
    · rw [sh, if_neg e] at hM
      obtain ⟨g, g1, g2, g3⟩ := I.2.2.2.2.2.2.2.1 x M hx hM
      refine ⟨g, g1, g2, fun a h1 h2 => ?_⟩
      rw [sh, if_neg (by omega)]
      exact g3 a h1 h2
  · rw [show h_i h' 231 = h_i h 231 from funext (fun k => hi 231 k (by omega) (by omega)), hi 232 t (by omega) (by omega)]
    exact I.2.2.2.2.2.2.2.2 t ht
