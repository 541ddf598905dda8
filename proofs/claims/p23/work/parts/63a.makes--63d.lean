section
/-! what the class makes: rows of the history, men -/
theorem y_sh {h : Hp_} {a t n b : Nat} : h_sh (h_nw h a t n) b = if b = a then some (t, n) else h_sh h b := rfl
theorem y_i {h : Hp_} {a t n b : Nat} : h_i (h_nw h a t n) b = if b = a then (fun _ => 0) else h_i h b := rfl
theorem y_r {h : Hp_} {a t n b : Nat} : h_r (h_nw h a t n) b = if b = a then (fun _ => none) else h_r h b := rfl
theorem y_shL : shL.all (fun q => Nat.ble q.1 399) = true := by decide +kernel
theorem y_rfL : rfL.all (fun q => Nat.ble q.1 399 && !(Nat.beq q.1 0 && Nat.beq q.2.1 15) && !(Nat.beq q.1 15)) = true := by decide +kernel
theorem y_tbl : tbl.all (fun q => Nat.ble q.1 399) = true := by decide +kernel
theorem lk_none {α : Type} {a : Nat} : ∀ {l : List (Nat × α)}, (∀ q ∈ l, q.1 ≠ a) → lk a l = none
  | [], _ => rfl
  | q :: t, h => by
    unfold lk
    have n : Nat.beq q.1 a = false := by
      cases z : Nat.beq q.1 a with
      | false => rfl
      | true => exact absurd (Nat.eq_of_beq_eq_true z) (h q List.mem_cons_self)
    rw [n]
    exact lk_none (fun p hp => h p (List.mem_cons_of_mem _ hp))
theorem tf_far {a : Nat} (h : 400 ≤ a) (k : Nat) : tf a k = rtop := by
  have c : 400 ≤ cn a := by
    unfold cn
    cases z : Nat.ble 401 a && Nat.ble a 412 with
    | true => show 400 ≤ 401; omega
    | false => exact h
  have e : lk (cn a) tbl = none := lk_none (fun q hq z => by
    have := Nat.ble_eq.mp (List.all_eq_true.mp y_tbl q hq)
    omega)
  unfold tf
  rw [e]
/-- what tick, and what constable, of the class may write of the cells that stand -/
def wsX : List Nat := 0 :: 15 :: wz_X11_goOn
/-- what tick answers, and the minute then -/
def okt (m x : Int32) : Prop := (0 ≤ x ∧ x ≤ 1500) ∧ m.toInt + x.toInt ≤ 20000
def otk (m x r m' : Int32) : Prop := (okt m x ∧ r = m' ∧ m'.toInt = m.toInt + x.toInt) ∨ (¬ okt m x ∧ r = -1 ∧ m' = m)
def wsC : List Nat := 7 :: 15999 :: 401999 :: wz_X11_goOn
/-- the reference's ints stay, and of the class's all but those in W -/
def Mf (W : List Nat) (h h' : Hp_) : Prop := (∀ k, h_i h' 1 k = h_i h 1 k) ∧ (∀ a, 200 ≤ a → a < 300 → ∀ k, h_i h' a k = h_i h a k) ∧ h_sh h' 2 = h_sh h 2 ∧ ∀ a k, (a < 200 ∨ (401 ≤ a ∧ a ≤ 412)) → inw W a k = false → h_i h' a k = h_i h a k ∧ h_r h' a k = h_r h a k
theorem Mf.rf {W : List Nat} (h : Hp_) : Mf W h h := ⟨fun _ => rfl, fun _ _ _ _ => rfl, rfl, fun _ _ _ _ => ⟨rfl, rfl⟩⟩
theorem Mf.tr {W : List Nat} {h h1 h2 : Hp_} (a : Mf W h h1) (b : Mf W h1 h2) : Mf W h h2 := ⟨fun k => (b.1 k).trans (a.1 k), fun c h1 h2 k => (b.2.1 c h1 h2 k).trans (a.2.1 c h1 h2 k), b.2.2.1.trans a.2.2.1, fun c k hc hw => ⟨(b.2.2.2 c k hc hw).1.trans (a.2.2.2 c k hc hw).1, (b.2.2.2 c k hc hw).2.trans (a.2.2.2 c k hc hw).2⟩⟩
def mfo (W ws : List Nat) : Bool := ws.all (fun w => !(Nat.ble 1000 w && Nat.ble w 1999) && !(Nat.ble 200000 w && Nat.ble w 299999)) && wsub ws W
theorem Mf.fr {W ws : List Nat} {h h' : Hp_} (c0 : mfo W ws = true) (f : Fr ws h h') : Mf W h h' := by
  unfold mfo at c0
  rw [Bool.and_eq_true] at c0
  obtain ⟨c, c2⟩ := c0
  have key : ∀ a, (a = 1 ∨ (200 ≤ a ∧ a < 300)) → ∀ k, inw ws a k = false := by
    intro a ha k
    cases q : inw ws a k with
    | false => rfl
    | true =>
      exfalso
      unfold inw at q
      obtain ⟨w, hw, e⟩ := List.any_eq_true.mp q
      have z := List.all_eq_true.mp c w hw
      rw [Bool.and_eq_true, Bool.not_eq_true', Bool.not_eq_true', Bool.and_eq_false_iff, Bool.and_eq_false_iff] at z
      have l := kk_lt k
      have ca : cn a = a := by
        unfold cn
        cases y : Nat.ble 401 a && Nat.ble a 412 with
        | false => rfl
        | true =>
          rw [Bool.and_eq_true, Nat.ble_eq] at y
          omega
      rw [ca, Bool.or_eq_true] at e
      have g : ∀ {x y : Nat}, Nat.ble x y = false → y < x := fun {x y} v => by
        rcases Nat.lt_or_ge y x with u | u
        · exact u
        · rw [Nat.ble_eq.mpr u] at v; cases v
      rcases e with e | e <;> have e := Nat.eq_of_beq_eq_true e <;> rcases z.1 with z1 | z1 <;> rcases z.2 with z2 | z2 <;> have z1 := g z1 <;> have z2 := g z2 <;> omega
  exact ⟨fun k => (f.2 1 k (key 1 (Or.inl rfl) k)).1, fun a h1 h2 k => (f.2 a k (key a (Or.inr ⟨h1, h2⟩) k)).1, congrFun f.1 2, fun a k _ hw => ⟨(f.2 a k (inw_sub c2 hw)).1, (f.2 a k (inw_sub c2 hw)).2.2⟩⟩
theorem pw15 : 2 ^ 15 = 32768 := by decide
/-- a longer row for the history -/
theorem Iv_hist {h h' : Hp_} {c N W g : Nat} (I : Iv h) (hc : h_r h 0 15 = some c) (hN : h_sh h c = some (3, N)) (g1 : g ≤ 15) (hg : 2 ^ g ≤ W ∨ W = 20000) (hf : ∀ a, 420 + g ≤ a → a < 1000 → h_sh h a = none) (lW : W ≤ 20000) (lN : N ≤ W)
    (sh : ∀ a, h_sh h' a = if a = 420 + g then some (3, W) else h_sh h a) (hi : ∀ a k, a ≠ 420 + g → h_i h' a k = h_i h a k) (hr : ∀ a k, a ≠ 420 + g → ¬ (a = 0 ∧ k = 15) → h_r h' a k = h_r h a k) (h15 : h_r h' 0 15 = some (420 + g)) : Iv h' := by
  have cn' : ∀ x, Cn h x → Cn h' x := fun x z => ⟨z.1, z.2.1, by rw [sh, if_neg (by have := z.2.1; omega)]; exact z.2.2⟩
  refine ⟨⟨fun q hq => ?_, fun q hq => ?_⟩, fun a k => ?_, fun k => ?_, ?_, ⟨420 + g, W, h15, by rw [sh, if_pos rfl], lW, ?_⟩, fun k hk => ?_, fun j hj hm => ?_, fun x M hx hM => ?_, fun t ht => ?_⟩
  · have := Nat.ble_eq.mp (List.all_eq_true.mp y_shL q hq)
    rw [sh, if_neg (by omega)]
    exact I.1.1 q hq
  · have z := List.all_eq_true.mp y_rfL q hq
    rw [Bool.and_eq_true, Bool.and_eq_true, Nat.ble_eq, Bool.not_eq_true'] at z
    rw [hr q.1 q.2.1 (by omega) (fun y => by have z2 := z.1.2; rw [y.1, y.2] at z2; exact absurd z2 (by decide))]
    exact I.1.2 q hq
  · by_cases e : a = 420 + g
    · rw [tf_far (by omega)]; exact rtop_in _
    · rw [hi a k e]; exact I.2.1 a k
  · rw [hr 15 k (by omega) (fun y => absurd y.1 (by decide))]
    rcases I.2.2.1 k with z | ⟨x, z, y⟩
    · exact Or.inl z
    · exact Or.inr ⟨x, z, cn' x y⟩
  · rw [hr 11 4 (by omega) (fun y => absurd y.1 (by decide))]
    exact I.2.2.2.1
  · obtain ⟨c2, N2, d1, d2, d3, d4⟩ := I.2.2.2.2.1
    rw [hc] at d1
    cases d1
    rw [hN] at d2
    cases d2
    rw [hi 0 0 (by omega)]
    omega
  · rw [hi 228 k (by omega)] at hk
    rw [hi 229 k (by omega)]
    exact I.2.2.2.2.2.1 k hk
  · rw [hi 0 7 (by omega)] at hm
    rw [sh, if_neg (by omega)]
    exact I.2.2.2.2.2.2.1 j hj hm
  · rw [h15] at hx
    cases hx
    rw [sh, if_pos rfl] at hM
    cases hM
    refine ⟨g + 1, by omega, ?_, fun a h1 h2 => ?_⟩
    · rcases hg with z | z
      · exact Or.inr (Or.inl z)
      · exact Or.inr (Or.inr z)
    · rw [sh, if_neg (by omega)]
      exact hf a (by omega) h2
  · rw [show h_i h' 231 = h_i h 231 from funext (fun k => hi 231 k (by omega)), hi 232 t (by omega)]
    exact I.2.2.2.2.2.2.2.2 t ht
theorem Iv_now {h : Hp_} {x : Int32} (I : Iv h) (hx : rin x.toInt (0, 20000)) (hN : ∀ c N, h_r h 0 15 = some c → h_sh h c = some (3, N) → x.toInt ≤ (N : Int)) : Iv (h_im h 0 0 x) := by
  have ne : ∀ b j, ¬ (b = 0 ∧ j = 0) → h_i (h_im h 0 0 x) b j = h_i h b j := fun b j z => by rw [h_i_im, if_neg z]
  refine ⟨I.1.im 0 0 x, fun b j => ?_, I.2.2.1, I.2.2.2.1, ?_, fun k hk => ?_, fun j hj hm => ?_, I.2.2.2.2.2.2.2.1, fun t ht => ?_⟩
  · by_cases z : b = 0 ∧ j = 0
    · rw [h_i_im, if_pos z, z.1, z.2]
      rw [show tf 0 0 = (0, 20000) by decide +kernel]
      exact hx
    · rw [ne b j z]; exact I.2.1 b j
  · obtain ⟨c, N, c1, c2, c3, _⟩ := I.2.2.2.2.1
    refine ⟨c, N, c1, c2, c3, ?_⟩
    rw [h_i_im, if_pos ⟨rfl, rfl⟩]
    exact hN c N c1 c2
  · rw [ne 228 k (by omega)] at hk
    rw [ne 229 k (by omega)]
    exact I.2.2.2.2.2.1 k hk
  · rw [ne 0 7 (by omega)] at hm
    exact I.2.2.2.2.2.2.1 j hj hm
  · rw [show h_i (h_im h 0 0 x) 231 = h_i h 231 from funext (fun k => ne 231 k (by omega)), ne 232 t (by omega)]
    exact I.2.2.2.2.2.2.2.2 t ht
/-- one man more -/
theorem Iv_man {h h' : Hp_} {j : Nat} (I : Iv h) (hj : j < 12) (e7 : h_i h 0 7 = Int32.ofNat j) (sh : ∀ a, h_sh h' a = if a = 401 + j then some (12, 17) else h_sh h a) (hi : ∀ a k, a ≠ 401 + j → ¬ (a = 0 ∧ k = 7) → h_i h' a k = h_i h a k) (h7 : h_i h' 0 7 = Int32.ofNat (j + 1))
    (hr : ∀ a k, a ≠ 401 + j → ¬ (a = 15 ∧ k = j) → h_r h' a k = h_r h a k) (h15 : h_r h' 15 j = some (401 + j)) : Iv h' := by
  have o7 : (Int32.ofNat j).toInt = (j : Int) := Int32.toInt_ofNat_of_lt (by omega)
  have o8 : (Int32.ofNat (j + 1)).toInt = ((j + 1 : Nat) : Int) := Int32.toInt_ofNat_of_lt (by omega)
  have fr : h_sh h (401 + j) = none := I.2.2.2.2.2.2.1 j hj (by rw [e7, o7]; exact Int.le_refl _)
  have cn' : ∀ x, Cn h x → Cn h' x := fun x z => ⟨z.1, z.2.1, by
    by_cases e : x = 401 + j
    · rw [sh, if_pos e]
    · rw [sh, if_neg e]; exact z.2.2⟩
  refine ⟨⟨fun q hq => ?_, fun q hq => ?_⟩, fun a k => ?_, fun k => ?_, ?_, ?_, fun k hk => ?_, fun i hi2 hm => ?_, fun x M hx hM => ?_, fun t ht => ?_⟩
  · have := Nat.ble_eq.mp (List.all_eq_true.mp y_shL q hq)
    rw [sh, if_neg (by omega)]
    exact I.1.1 q hq
  · have z := List.all_eq_true.mp y_rfL q hq
    rw [Bool.and_eq_true, Bool.and_eq_true, Nat.ble_eq] at z
    rw [hr q.1 q.2.1 (by omega) (fun y => by have z2 := z.2; rw [y.1] at z2; exact absurd z2 (by decide))]
    exact I.1.2 q hq
  · by_cases e : a = 401 + j
    · rw [tf_far (by omega)]; exact rtop_in _
    · by_cases e2 : a = 0 ∧ k = 7
      · rw [e2.1, e2.2, h7, show tf 0 7 = (0, 12) by decide +kernel, o8]
        exact ⟨by show (0 : Int) ≤ _; omega, by show _ ≤ (12 : Int); omega⟩
      · rw [hi a k e e2]; exact I.2.1 a k
  · by_cases e : k = j
    · rw [e, h15]
      exact Or.inr ⟨_, rfl, by omega, by omega, by rw [sh, if_pos rfl]⟩
    · rw [hr 15 k (by omega) (fun y => e y.2)]
      rcases I.2.2.1 k with z | ⟨x, z, y⟩
      · exact Or.inl z
      · exact Or.inr ⟨x, z, cn' x y⟩
  · rw [hr 11 4 (by omega) (fun y => absurd y.1 (by decide))]
    exact I.2.2.2.1
  · obtain ⟨c, N, c1, c2, c3, c4⟩ := I.2.2.2.2.1
    refine ⟨c, N, by rw [hr 0 15 (by omega) (fun y => absurd y.1 (by decide))]; exact c1, ?_, c3, by rw [hi 0 0 (by omega) (fun y => absurd y.2 (by decide))]; exact c4⟩
    rw [sh, if_neg (fun z => by rw [z, fr] at c2; cases c2)]
    exact c2
  · rw [hi 228 k (by omega) (by omega)] at hk
    rw [hi 229 k (by omega) (by omega)]
    exact I.2.2.2.2.2.1 k hk
  · rw [h7, o8] at hm
    rw [sh, if_neg (by omega)]
    exact I.2.2.2.2.2.2.1 i hi2 (by rw [e7, o7]; omega)
  · rw [hr 0 15 (by omega) (fun y => absurd y.1 (by decide))] at hx
    by_cases e : x = 401 + j
    · rw [sh, if_pos e] at hM; cases hM
    · rw [sh, if_neg e] at hM
      obtain ⟨g, g1, g2, g3⟩ := I.2.2.2.2.2.2.2.1 x M hx hM
      refine ⟨g, g1, g2, fun a h1 h2 => ?_⟩
      rw [sh, if_neg (by omega)]
      exact g3 a h1 h2
  · rw [show h_i h' 231 = h_i h 231 from funext (fun k => hi 231 k (by omega) (by omega)), hi 232 t (by omega) (by omega)]
    exact I.2.2.2.2.2.2.2.2 t ht
end
section
/-! the history's row grows -/
section CPL
variable {M : Mc_} {kc ks pc : Nat} {lv : List (Nat × Value)} {rest : List Value} {h : Hp_} {K : Option Value → Hp_ → Prop}
theorem aw_copyl {a b n0 n1 idx : Nat} {n : Int32} (hs0 : h_sh h a = some (3, n0)) (hs1 : h_sh h b = some (3, n1)) (hn0 : ¬ n < 0) (h4 : n.toNatClampNeg ≤ n0) (h5 : n.toNatClampNeg ≤ n1) (hlk : Cond.methodLink (mY M).cls idx arraycopyName ∈ lw_g) (hfr : 1 ≤ (mR M).frames) (hlo : (rest.map (fun v => v.category)).sum + (nativeFrameWords "java/lang/System" "arraycopy" 5 + 11) ≤ (mR M).locals) (hd : decode (mC M) pc = .ok (.invokestatic idx, 3)) (k : ∀ f, AW M kc ks (pc + 3) lv rest (h_lw h b f) K) : AW M kc ks pc lv (.int n :: .int 0 :: .ref b :: .int 0 :: .ref a :: rest) h K := by
  intro l p e s m args below meth c dC dI cy A ad0 adV ad dom0 dom H locs ls hf hX hT hE hW hS hl ho hs
  obtain ⟨q0, hq0, hw0⟩ := h_W_get (cy := cy) (ad := ad) (h := h) (wd_in hW hs0)
  obtain ⟨q1, hq1, hw1⟩ := h_W_get (cy := cy) (ad := ad) (h := h) (wd_in hW hs1)
  rw [h_ce_arr hs0 (by decide)] at hw0
  rw [h_ce_arr hs1 (by decide)] at hw1
  have z0 : (0 : Int32).toNatClampNeg = 0 := by simp
  have hz0 : ¬ (0 : Int32) < 0 := by decide
  have g4 : (0 : Int32).toNatClampNeg + n.toNatClampNeg ≤ n0 := by rw [z0, Nat.zero_add]; exact h4
  have g5 : (0 : Int32).toNatClampNeg + n.toNatClampNeg ≤ n1 := by rw [z0, Nat.zero_add]; exact h5
  refine va_copyl (t0 := 3) (t1 := 3) (q0 := q0) (q1 := q1) (ty := .long) hf.1 hf.2.1 (hf.2.2.1.trans hl.1.symm) hf.2.2.2.2.2.1 (hf.2.2.2.2.2.2.2.1 _ hlk) (hf.2.2.2.2.2.2.2.1 _ tw_nat) (hf.2.2.2.2.2.2.2.1 _ tw_1013) (hf.2.2.2.2.2.2.2.1 _ tw_21) hf.2.2.2.2.2.2.2.2.1.1 hW.2.1 hW.2.2 hS hw0 hw1 rfl rfl rfl hz0 hz0 hn0 g4 g5 ?_ hfr (by rw [cat_cv]; exact hlo) hd (fun H1 locs1 hP1 hD1 hS1 => ?_)
  · intro i hi; trivial
  have hW1 : wd_ dC dI cy A ad dom (h_lw h b (va_cpy (h_l h a) (h_l h b) (0 : Int32).toNatClampNeg (0 : Int32).toNatClampNeg n.toNatClampNeg)) H1 := wd_l hW hq1 (ce_lw hs1) hP1 hD1
  exact k (va_cpy (h_l h a) (h_l h b) (0 : Int32).toNatClampNeg (0 : Int32).toNatClampNeg n.toNatClampNeg) l p e s m args below meth c dC dI cy A ad0 adV ad dom0 dom H1 locs1 ls hf hX hT hE hW1 hS1 hl ho (ok_t (ok_t (ok_t (ok_t (ok_t hs)))))
end CPL
theorem on_i {n : Nat} (h : n ≤ 20000) : (Int32.ofNat n).toInt = (n : Int) := Int32.toInt_ofNat_of_lt (by omega)
theorem on_c {n : Nat} (h : n ≤ 20000) : (Int32.ofNat n).toNatClampNeg = n := by
  show (Int32.ofNat n).toInt.toNat = n
  rw [on_i h]; rfl
theorem c_copyOf (d : Nat) {h : Hp_} {c N W b : Nat} (hs : h_sh h c = some (3, N)) (hb : h_sh h b = none) (hbl : b < 1000) (hNW : N < W) (hW : W ≤ 20000) : Ct (m_J7_copyOf_c38d5 (d + 1) 1 W) [.ref c, .int (Int32.ofNat W)] h (fun v h' => v = some (.ref b) ∧ ∃ f, h' = h_lw (h_nw h b 3 W) b f) := by
  have eW := on_i hW
  have eN := on_i (n := N) (by omega)
  have cW := on_c hW
  have cN := on_c (n := N) (by omega)
  have z : (0 : Int32).toInt = 0 := rfl
  have cb : c ≠ b := fun e => by rw [e, hb] at hs; cases hs
  refine Ct.of (fun _ _ _ => trivial) rfl (Nat.le_of_ble_eq_true rfl) ?_
  show AW (m_J7_copyOf_c38d5 (d + 1) 1 W) 0 0 0 [(0, .ref c), (1, .int (Int32.ofNat W))] [] h _
  refine aw_iload_n (i := 1) rfl d_J7_copyOf_c38d5_0 1 rfl ?_
  refine aw_aload_n (i := 0) rfl d_J7_copyOf_c38d5_1 0 rfl ?_
  refine aw_alen (t := 3) (n := N) (v := Int32.ofNat N) hs (by decide) rfl d_J7_copyOf_c38d5_2 ?_
  refine aw_icmp_ne (tgt := 14) d_J7_copyOf_c38d5_3 rfl (fun _ => ?_) (fun e => by have := congrArg Int32.toInt e; omega)
  refine aw_iload_n (i := 1) rfl d_J7_copyOf_c38d5_14 1 rfl ?_
  refine aw_newa (t := 3) (atype := .long) b W (by decide) rfl tw_426 hb hbl xs0 (fun y => by have := q_lt.mp y; omega) cW (show W * 8 ≤ 536870912 by omega) (show 0 + 1 ≤ 1 by omega) (show 0 + W ≤ W by omega) d_J7_copyOf_c38d5_15 ?_
  have s0 : h_sh (h_nw h b 3 W) c = some (3, N) := by rw [y_sh, if_neg cb]; exact hs
  have s1 : h_sh (h_nw h b 3 W) b = some (3, W) := by rw [y_sh, if_pos rfl]
  refine aw_astore_n (i := 2) rfl [(0, .ref c), (1, .int (Int32.ofNat W)), (2, .ref b)] d_J7_copyOf_c38d5_17 (Nat.le_of_ble_eq_true rfl) rfl rfl ?_
  refine aw_aload_n (i := 0) rfl d_J7_copyOf_c38d5_18 0 rfl ?_
  refine aw_iconst (v := 0) d_J7_copyOf_c38d5_19 ic_0 ?_
  refine aw_aload_n (i := 2) rfl d_J7_copyOf_c38d5_20 2 rfl ?_
  refine aw_iconst (v := 0) d_J7_copyOf_c38d5_21 ic_0 ?_
  refine aw_aload_n (i := 0) rfl d_J7_copyOf_c38d5_22 0 rfl ?_
  refine aw_alen (t := 3) (n := N) (v := Int32.ofNat N) s0 (by decide) rfl d_J7_copyOf_c38d5_23 ?_
  refine aw_iload_n (i := 1) rfl d_J7_copyOf_c38d5_24 1 rfl ?_
  refine aw_mmin d_J7_copyOf_c38d5_25 tw_1011 (show 1 ≤ d + 1 by omega) (Nat.le_trans (Nat.le_of_ble_eq_true rfl) (show 100 ≤ 100 * (d + 1) by omega)) ⟨show 0 + 1 ≤ 1 by omega, show 0 + W ≤ W by omega⟩ ?_
  refine aw_vi (v2 := Int32.ofNat N) (if_neg (fun y => by have := q_lt.mp y; omega)) ?_
  refine aw_copyl s0 s1 (fun y => by have := q_lt.mp y; omega) (by omega) (by omega) tw_1012 (show 1 ≤ d + 1 by omega) (show 0 + (nativeFrameWords "java/lang/System" "arraycopy" 5 + 11) ≤ 100 * (d + 1) from Nat.le_trans (by decide) (show 100 ≤ 100 * (d + 1) by omega)) d_J7_copyOf_c38d5_28 (fun f => ?_)
  refine aw_aload_n (i := 2) rfl d_J7_copyOf_c38d5_31 2 rfl ?_
  exact aw_aret rfl (Or.inr ⟨_, rfl⟩) d_J7_copyOf_c38d5_32 ⟨show 0 + 1 ≤ 1 by omega, show 0 + W ≤ W by omega⟩ ⟨rfl, f, rfl⟩
/-- how long the history's row is to be -/
def hwant (n N : Nat) : Nat := max n (min (2 * N) 20000)
theorem c_makeHistory0 (d mc ms : Nat) {h : Hp_} (I : Iv h) {c N n : Nat} (hc : h_r h 0 15 = some c) (hs : h_sh h c = some (3, N)) (hN : N ≤ 20000) (hn : n ≤ N) : Cv (m_X11_makeHistory (d + 2) mc ms) [.ref 0, .int (Int32.ofNat n)] h (fun h' => h' = h) := by
  have w := I.1
  have e1 := on_i hN
  have e2 := on_i (n := n) (by omega)
  refine Ct.of (fun _ _ _ => trivial) rfl (Nat.le_of_ble_eq_true rfl) ?_
  show AW (m_X11_makeHistory (d + 2) mc ms) 0 0 0 [(0, .ref 0), (1, .int (Int32.ofNat n))] [] h (kV _)
  refine aw_iload_n (i := 1) rfl d_X11_makeHistory_0 1 rfl ?_
  refine aw_aload_n (i := 0) rfl d_X11_makeHistory_1 0 rfl ?_
  refine aw_getr (k0 := 15) kc_11 (ws_0 w) (Nat.le_of_ble_eq_true rfl) tw_502 d_X11_makeHistory_2 rfl hc ?_
  refine aw_alen (t := 3) (n := N) (v := Int32.ofNat N) hs (by decide) rfl d_X11_makeHistory_5 ?_
  refine aw_icmp_le (tgt := 39) d_X11_makeHistory_6 rfl (fun _ => ?_) (fun y => by have := q_nle y; omega)
  exact aw_vret rfl d_X11_makeHistory_39 ⟨Nat.zero_le _, Nat.zero_le _⟩ ⟨rfl, rfl⟩
theorem c_makeHistory1 (d : Nat) {h : Hp_} (I : Iv h) {c N n : Nat} (hc : h_r h 0 15 = some c) (hs : h_sh h c = some (3, N)) (hN : N ≤ 20000) (hn : N < n) (hn2 : n ≤ 20000) : Cv (m_X11_makeHistory (d + 2) 1 (hwant n N)) [.ref 0, .int (Int32.ofNat n)] h (fun h' => Iv h' ∧ Mf wsX h h' ∧ h_i h' 0 = h_i h 0 ∧ ∃ c', h_r h' 0 15 = some c' ∧ h_sh h' c' = some (3, hwant n N)) := by
  have w := I.1
  have e1 := on_i hN
  have e2 := on_i (n := n) (by omega)
  have t2 : (2 : Int32).toInt = 2 := rfl
  have t20 : (20000 : Int32).toInt = 20000 := rfl
  have lW : hwant n N ≤ 20000 := by unfold hwant; omega
  have gW : N < hwant n N := by unfold hwant; omega
  have eW := on_i lW
  obtain ⟨g, g1, g2, g3⟩ := I.2.2.2.2.2.2.2.1 c N hc hs
  have k15 : g ≤ 15 := by
    rcases Nat.lt_or_ge 15 g with y | y
    · exfalso
      have p : 2 ^ 15 ≤ 2 ^ (g - 1) := Nat.pow_le_pow_right (by omega) (by omega)
      rw [pw15] at p
      rcases g2 with q | q | q
      · omega
      · omega
      · omega
    · exact y
  have hgW : 2 ^ g ≤ hwant n N ∨ hwant n N = 20000 := by
    rcases g2 with q | q | q
    · left; rw [q]; show 1 ≤ _; omega
    · rcases Nat.lt_or_ge 20000 (2 * N) with y | y
      · right; unfold hwant; omega
      · left
        rcases Nat.eq_zero_or_pos g with u | u
        · rw [u]; show 1 ≤ _; omega
        · have : 2 ^ g = 2 * 2 ^ (g - 1) := by rw [← Nat.pow_succ']; congr 1; omega
          rw [this]
          unfold hwant
          omega
    · omega
  have fb := g3 (420 + g) (Nat.le_refl _) (by omega)
  refine Ct.of (fun _ _ _ => trivial) rfl (Nat.le_of_ble_eq_true rfl) ?_
  show AW (m_X11_makeHistory (d + 2) 1 (hwant n N)) 0 0 0 [(0, .ref 0), (1, .int (Int32.ofNat n))] [] h (kV _)
  refine aw_iload_n (i := 1) rfl d_X11_makeHistory_0 1 rfl ?_
  refine aw_aload_n (i := 0) rfl d_X11_makeHistory_1 0 rfl ?_
  refine aw_getr (k0 := 15) kc_11 (ws_0 w) (Nat.le_of_ble_eq_true rfl) tw_502 d_X11_makeHistory_2 rfl hc ?_
  refine aw_alen (t := 3) (n := N) (v := Int32.ofNat N) hs (by decide) rfl d_X11_makeHistory_5 ?_
  refine aw_icmp_le (tgt := 39) d_X11_makeHistory_6 rfl (fun y => by have := q_le.mp y; omega) (fun _ => ?_)
  refine aw_iload_n (i := 1) rfl d_X11_makeHistory_9 1 rfl ?_
  refine aw_iconst (v := 2) d_X11_makeHistory_10 ic_2 ?_
  refine aw_aload_n (i := 0) rfl d_X11_makeHistory_11 0 rfl ?_
  refine aw_getr (k0 := 15) kc_11 (ws_0 w) (Nat.le_of_ble_eq_true rfl) tw_502 d_X11_makeHistory_12 rfl hc ?_
  refine aw_alen (t := 3) (n := N) (v := Int32.ofNat N) hs (by decide) rfl d_X11_makeHistory_15 ?_
  refine aw_imul d_X11_makeHistory_16 ?_
  have em : (2 * Int32.ofNat N).toInt = 2 * (N : Int) := by rw [tx_mul (by rw [t2]; omega) (by rw [t2]; omega), t2, e1]
  refine aw_sipush (v := 20000) d_X11_makeHistory_17 is_20000 ?_
  refine aw_mmin d_X11_makeHistory_20 tw_999 (show 1 ≤ d + 2 by omega) (Nat.le_trans (Nat.le_of_ble_eq_true rfl) (show 100 ≤ 100 * (d + 2) by omega)) ⟨Nat.zero_le _, Nat.zero_le _⟩ ?_
  refine aw_mmax d_X11_makeHistory_23 tw_1000 (show 1 ≤ d + 2 by omega) (Nat.le_trans (Nat.le_of_ble_eq_true rfl) (show 100 ≤ 100 * (d + 2) by omega)) ⟨Nat.zero_le _, Nat.zero_le _⟩ ?_
  refine aw_vi (v2 := Int32.ofNat (hwant n N)) (by
    refine Int32.toInt_inj.mp ?_
    rw [eW]
    unfold hwant
    split
    · rename_i y
      have y := q_lt.mp y
      split
      · rename_i z
        have z := q_lt.mp z
        omega
      · rename_i z
        have z := q_nlt z
        omega
    · rename_i y
      have y := q_nlt y
      split
      · rename_i z
        have z := q_lt.mp z
        omega
      · rename_i z
        have z := q_nlt z
        omega) ?_
  refine aw_istore_n (i := 2) rfl [(0, .ref 0), (1, .int (Int32.ofNat n)), (2, .int (Int32.ofNat (hwant n N)))] d_X11_makeHistory_26 (Nat.le_of_ble_eq_true rfl) rfl rfl ?_
  refine aw_aload_n (i := 0) rfl d_X11_makeHistory_27 0 rfl ?_
  refine aw_aload_n (i := 0) rfl d_X11_makeHistory_28 0 rfl ?_
  refine aw_getr (k0 := 15) kc_11 (ws_0 w) (Nat.le_of_ble_eq_true rfl) tw_502 d_X11_makeHistory_29 rfl hc ?_
  refine aw_iload_n (i := 2) rfl d_X11_makeHistory_32 2 rfl ?_
  refine aw_callS (vs := [.ref c, .int (Int32.ofNat (hwant n N))]) (rest := [.ref 0]) d_X11_makeHistory_33 (cS_J7_copyOf_c38d5 (d + 1) 1 (hwant n N)).1 (cS_J7_copyOf_c38d5 (d + 1) 1 (hwant n N)).2 tw_1001 rfl ⟨show d + 1 + 1 ≤ d + 2 by omega, show 8 + (3 + 11) + 100 * (d + 1) ≤ 100 * (d + 2) by omega⟩ (by decide) ⟨show 0 + 1 ≤ 1 by omega, show 0 + hwant n N ≤ hwant n N by omega⟩ xs0 (c_copyOf d hs fb (by omega) gW lW) (fun v h' kk => ?_)
  obtain ⟨ev, f, eh⟩ := kk
  rw [ev, eh]
  have s0 : h_sh (h_lw (h_nw h (420 + g) 3 (hwant n N)) (420 + g) f) 0 = some (21, 16) := by rw [h_sh_lw, y_sh, if_neg (by omega)]; exact ws_0 w
  refine aw_putr (k0 := 15) kc_11 s0 (Nat.le_of_ble_eq_true rfl) tw_502 d_X11_makeHistory_36 rfl rfl ?_
  have sh : ∀ a, h_sh (h_rm (h_lw (h_nw h (420 + g) 3 (hwant n N)) (420 + g) f) 0 15 (some (420 + g))) a = if a = 420 + g then some (3, hwant n N) else h_sh h a := fun a => by rw [h_sh_rm, h_sh_lw, y_sh]
  have hi : ∀ a k, a ≠ 420 + g → h_i (h_rm (h_lw (h_nw h (420 + g) 3 (hwant n N)) (420 + g) f) 0 15 (some (420 + g))) a k = h_i h a k := fun a k z => by
    rw [h_i_rm]
    show h_i (h_nw h (420 + g) 3 (hwant n N)) a k = _
    rw [y_i, if_neg z]
  have hr : ∀ a k, a ≠ 420 + g → ¬ (a = 0 ∧ k = 15) → h_r (h_rm (h_lw (h_nw h (420 + g) 3 (hwant n N)) (420 + g) f) 0 15 (some (420 + g))) a k = h_r h a k := fun a k z z2 => by
    rw [h_r_rm, if_neg z2]
    show h_r (h_nw h (420 + g) 3 (hwant n N)) a k = _
    rw [y_r, if_neg z]
  have h15 : h_r (h_rm (h_lw (h_nw h (420 + g) 3 (hwant n N)) (420 + g) f) 0 15 (some (420 + g))) 0 15 = some (420 + g) := by rw [h_r_rm, if_pos ⟨rfl, rfl⟩]
  exact aw_vret rfl d_X11_makeHistory_39 ⟨show 0 + 1 ≤ 1 by omega, show 0 + hwant n N ≤ hwant n N by omega⟩ ⟨rfl, Iv_hist I hc hs k15 hgW g3 lW (by omega) sh hi hr h15, ⟨fun k => hi 1 k (by omega), fun a h1 h2 k => hi a k (by omega), by rw [sh, if_neg (by omega)], fun a k ha hw => ⟨hi a k (by omega), hr a k (by omega) (fun z => by rw [z.1, z.2] at hw; exact absurd hw (by decide +kernel))⟩⟩, funext (fun k => hi 0 k (by omega)), 420 + g, h15, by rw [sh, if_pos rfl]⟩
end
section
/-! the class's tick -/
theorem aw_Vk {M M' : Mc_} {K : Option Value → Hp_ → Prop} {kc ks pc n idx ci N a : Nat} {lv : List (Nat × Value)} {rest : List Value} {h : Hp_} {c : Ctr} {T : u_T} (vs : List Value) (hC : Hc M' c) (ma : am h (vs.reverse ++ [.ref a]) c.1) (I : Iv h) (hp : hm h c.2.1) (hd : decode (mC M) pc = .ok (.invokevirtual idx, 3)) (hm : cV_ M' n) (hkc : kc_ ci (mY M').cls T N) (hs : h_sh h a = some (ci + 10, N)) (hlk : Cond.methodLink (mY M).cls idx (mY M') ∈ lw_g) (hn : vs.length = n) (hc : (rest.map (fun v => v.category)).sum ≤ 8) (hz : ((mR M').frames + 1 ≤ (mR M).frames ∧ 8 + (mN M' + 11) + (mR M').locals ≤ (mR M).locals) ∧ (mR M').cells = 0 ∧ (mR M').slots = 0 ∧ xs_ M) (hk : kc ≤ (mR M).cells ∧ ks ≤ (mR M).slots)
    (k : ∀ v h', Kc c.2.2.2.2 h c.2.2.1 c.2.2.2.1 v h' → AW M kc ks (pc + 3) lv (v.toList ++ rest) h' K) : AW M kc ks pc lv (vs.reverse ++ .ref a :: rest) h K := by
  have C := hC _ h ma I hp
  rw [List.reverse_append, List.reverse_reverse, List.reverse_singleton, List.singleton_append] at C
  exact aw_callV hd hm.1 hkc hs hm.2.1 hm.2.2 hlk hn hz.1 hc ⟨by rw [hz.2.1]; exact hk.1, by rw [hz.2.2.1]; exact hk.2⟩ hz.2.2.2 C (fun v h' kv => by rw [hz.2.1, hz.2.2.1]; exact k v h' kv)
/-- what stands while the minutes pass -/
def Tk (h0 : Hp_) (c N : Nat) (y : Int32) (h : Hp_) : Prop := Iv h ∧ Mf wsX h0 h ∧ h_r h 0 15 = some c ∧ h_sh h c = some (3, N) ∧ h_i h 0 0 = y
def tK (h0 : Hp_) (c N : Nat) (F : Int) : Option Value → Hp_ → Prop := kI (fun r h' => Iv h' ∧ Mf wsX h0 h' ∧ h_r h' 0 15 = some c ∧ h_sh h' c = some (3, N) ∧ r = h_i h' 0 0 ∧ (h_i h' 0 0).toInt = F)
theorem tk_fr {h0 h h' : Hp_} {c N : Nat} {y : Int32} (t : Tk h0 c N y h) (I : Iv h') (f : Fr wz_X11_goOn h h') : Tk h0 c N y h' :=
  ⟨I, t.2.1.tr (Mf.fr (by decide +kernel) f), by rw [(f.2 0 15 (by decide +kernel)).2.2]; exact t.2.2.1, by rw [f.1]; exact t.2.2.2.1, by rw [(f.2 0 0 (by decide +kernel)).1]; exact t.2.2.2.2⟩
theorem tk_in {F : Int} (d mc ms kc ks : Nat) (hk : kc ≤ mc ∧ ks ≤ ms) (h0 : Hp_) (c N : Nat) (x1 x2 y : Int32)
    (O : ∀ h, Tk h0 c N y h → AW (m_X11_tick (d + 8) mc ms) kc ks 112 [(0, .ref 0), (1, .int x1), (2, .int x2)] [] h (tK h0 c N F)) :
    ∀ (r : Nat) (x3 : Int32) (h : Hp_), 0 ≤ x3.toInt → 12 - x3.toInt ≤ r → Tk h0 c N y h → AW (m_X11_tick (d + 8) mc ms) kc ks 67 [(0, .ref 0), (1, .int x1), (2, .int x2), (3, .int x3)] [] h (tK h0 c N F) := by
  have t1 : (1 : Int32).toInt = 1 := rfl
  intro r
  induction r with
  | zero =>
    intro x3 h p3 m3 t
    have I := t.1
    have w := I.1
    have e7 : rin (h_i h 0 7).toInt (0, 12) := by
      have := I.2.1 0 7
      rwa [show tf 0 7 = (0, 12) by decide +kernel] at this
    have e71 : (h_i h 0 7).toInt ≤ 12 := e7.2
    refine aw_iload_n (i := 3) rfl d_X11_tick_67 3 rfl ?_
    refine aw_aload_n (i := 0) rfl d_X11_tick_68 0 rfl ?_
    refine aw_geti (k0 := 7) kc_11 (ws_0 w) (Nat.le_of_ble_eq_true rfl) tw_494 d_X11_tick_69 rfl ?_
    refine aw_icmp_ge (tgt := 112) d_X11_tick_72 rfl (fun _ => aw_lvp [0, 1, 2] _ rfl (O h t)) (fun z => ?_)
    have z := q_nle z
    omega
  | succ r ih =>
    intro x3 h p3 m3 t
    have I := t.1
    have w := I.1
    have e7 : rin (h_i h 0 7).toInt (0, 12) := by
      have := I.2.1 0 7
      rwa [show tf 0 7 = (0, 12) by decide +kernel] at this
    have e71 : (h_i h 0 7).toInt ≤ 12 := e7.2
    refine aw_iload_n (i := 3) rfl d_X11_tick_67 3 rfl ?_
    refine aw_aload_n (i := 0) rfl d_X11_tick_68 0 rfl ?_
    refine aw_geti (k0 := 7) kc_11 (ws_0 w) (Nat.le_of_ble_eq_true rfl) tw_494 d_X11_tick_69 rfl ?_
    refine aw_icmp_ge (tgt := 112) d_X11_tick_72 rfl (fun _ => aw_lvp [0, 1, 2] _ rfl (O h t)) (fun z => ?_)
    have z := q_nle z
    have e1 : (x3 + 1).toInt = x3.toInt + 1 := tx_add (by rw [t1]; omega) (by rw [t1]; omega)
    have on : ∀ (v : Value) (h' : Hp_), Tk h0 c N y h' → AW (m_X11_tick (d + 8) mc ms) kc ks 106 [(0, .ref 0), (1, .int x1), (2, .int x2), (3, .int x3), (4, v)] [] h' (tK h0 c N F) := by
      intro v h' t'
      refine aw_lvp [0, 1, 2, 3] [(0, .ref 0), (1, .int x1), (2, .int x2), (3, .int x3)] rfl ?_
      refine aw_iinc (v := (x3 + 1)) [(0, .ref 0), (1, .int x1), (2, .int x2), (3, .int (x3 + 1))] d_X11_tick_106 3 rfl rfl (Nat.le_of_ble_eq_true rfl) rfl rfl ?_
      refine aw_goto (tgt := 67) d_X11_tick_109 rfl ?_
      exact ih (x3 + 1) h' (by omega) (by omega) t'
    refine aw_aload_n (i := 0) rfl d_X11_tick_75 0 rfl ?_
    refine aw_getr (k0 := 6) kc_11 (ws_0 w) (Nat.le_of_ble_eq_true rfl) tw_493 d_X11_tick_76 rfl (wr_0_6 w) ?_
    refine aw_iload_n (i := 3) rfl d_X11_tick_79 3 rfl ?_
    have hv : vp_in x3 12 := dp_in (lo := 0) (hi := 11) ⟨p3, by show _ ≤ (11 : Int); omega⟩ (by decide) (by decide)
    rcases I.2.2.1 x3.toNatClampNeg with q | ⟨b, q, hb⟩
    · refine aw_aaldn (ws_15 w) hv q d_X11_tick_80 ?_
      refine aw_astoreN (i := 4) [(0, .ref 0), (1, .int x1), (2, .int x2), (3, .int x3), (4, .null)] d_X11_tick_81 (Nat.le_of_ble_eq_true rfl) rfl rfl ?_
      refine aw_aloadN (i := 4) d_X11_tick_83 4 rfl ?_
      refine aw_ifnullN (tgt := 106) d_X11_tick_85 rfl ?_
      exact on _ h t
    · refine aw_aaldr (ws_15 w) hv q d_X11_tick_80 ?_
      refine aw_astore (i := 4) [(0, .ref 0), (1, .int x1), (2, .int x2), (3, .int x3), (4, .ref b)] d_X11_tick_81 (Nat.le_of_ble_eq_true rfl) rfl rfl ?_
      refine aw_aload d_X11_tick_83 4 rfl ?_
      refine aw_ifnull d_X11_tick_85 ?_
      refine aw_aload d_X11_tick_88 4 rfl ?_
      refine aw_geti (k0 := 7) kc_2 hb.2.2 (Nat.le_of_ble_eq_true rfl) tw_587 d_X11_tick_90 rfl ?_
      refine aw_aload_n (i := 0) rfl d_X11_tick_93 0 rfl ?_
      refine aw_geti (k0 := 0) kc_11 (ws_0 w) (Nat.le_of_ble_eq_true rfl) tw_487 d_X11_tick_94 rfl ?_
      refine aw_icmp_ne (tgt := 106) d_X11_tick_97 rfl (fun _ => on _ h t) (fun _ => ?_)
      refine aw_aload_n (i := 0) rfl d_X11_tick_100 0 rfl ?_
      refine aw_aload d_X11_tick_101 4 rfl ?_
      refine aw_Vk (M' := m_X11_goOn (d + 7) 0 0) [.ref b] (hc_X11_goOn d) ⟨⟨b, rfl, hb⟩, rfl, trivial⟩ I (fun p hp => ?_) d_X11_tick_103 (cV_X11_goOn (d + 7) 0 0) kc_11 (ws_0 w) tw_1015 rfl (Nat.le_of_ble_eq_true rfl) ⟨⟨show d + 7 + 1 ≤ d + 8 by omega, show 8 + (_ + 11) + 100 * (d + 7) ≤ 100 * (d + 8) from Nat.le_trans (Nat.add_le_add_right (Nat.le_of_ble_eq_true rfl : 8 + (_ + 11) ≤ 100) _) (by omega)⟩, rfl, rfl, xs0⟩ hk (fun v h' kv => ?_)
      · rw [mem1 hp]
        exact ⟨show (1 : Int) ≤ (h_i h 0 7).toInt by omega, e71⟩
      · have ev : v = none := kv.2.2.2
        subst ev
        exact on _ h' (tk_fr t kv.1 kv.2.1)
theorem tk_out {F : Int} (d mc ms kc ks : Nat) (hk : kc ≤ mc ∧ ks ≤ ms) (h0 : Hp_) (c N : Nat) (x1 : Int32) (hx1 : rin x1.toInt (0, 1500)) (hN : N ≤ 20000) :
    ∀ (r : Nat) (x2 y : Int32) (h : Hp_), 0 ≤ x2.toInt → x1.toInt - x2.toInt ≤ r → x2.toInt ≤ x1.toInt → 0 ≤ y.toInt → (y.toInt + (x1.toInt - x2.toInt) ≤ (N : Int) ∧ y.toInt + (x1.toInt - x2.toInt) = F) → Tk h0 c N y h → AW (m_X11_tick (d + 8) mc ms) kc ks 37 [(0, .ref 0), (1, .int x1), (2, .int x2)] [] h (tK h0 c N F) := by
  have t1 : (1 : Int32).toInt = 1 := rfl
  have b0 : 0 ≤ x1.toInt := hx1.1
  have b1 : x1.toInt ≤ 1500 := hx1.2
  intro r
  induction r with
  | zero =>
    intro x2 y h p2 m2 u2 py my t
    have w := t.1.1
    refine aw_iload_n (i := 2) rfl d_X11_tick_37 2 rfl ?_
    refine aw_iload_n (i := 1) rfl d_X11_tick_38 1 rfl ?_
    refine aw_icmp_ge (tgt := 118) d_X11_tick_39 rfl (fun _ => ?_) (fun z => by have z := q_nle z; omega)
    refine aw_aload_n (i := 0) rfl d_X11_tick_118 0 rfl ?_
    refine aw_geti (k0 := 0) kc_11 (ws_0 w) (Nat.le_of_ble_eq_true rfl) tw_487 d_X11_tick_119 rfl ?_
    exact aw_iret rfl d_X11_tick_122 hk ⟨_, rfl, t.1, t.2.1, t.2.2.1, t.2.2.2.1, rfl, by rw [t.2.2.2.2]; omega⟩
  | succ r ih =>
    intro x2 y h p2 m2 u2 py my t
    have I := t.1
    have w := I.1
    refine aw_iload_n (i := 2) rfl d_X11_tick_37 2 rfl ?_
    refine aw_iload_n (i := 1) rfl d_X11_tick_38 1 rfl ?_
    refine aw_icmp_ge (tgt := 118) d_X11_tick_39 rfl (fun zz => ?_) (fun z => ?_)
    · have zz := q_le.mp zz
      refine aw_aload_n (i := 0) rfl d_X11_tick_118 0 rfl ?_
      refine aw_geti (k0 := 0) kc_11 (ws_0 w) (Nat.le_of_ble_eq_true rfl) tw_487 d_X11_tick_119 rfl ?_
      exact aw_iret rfl d_X11_tick_122 hk ⟨_, rfl, t.1, t.2.1, t.2.2.1, t.2.2.2.1, rfl, by rw [t.2.2.2.2]; omega⟩
    · have z := q_nle z
      have ey := t.2.2.2.2
      have e1 : (y + 1).toInt = y.toInt + 1 := tx_add (by rw [t1]; omega) (by rw [t1]; omega)
      have e2 : (x2 + 1).toInt = x2.toInt + 1 := tx_add (by rw [t1]; omega) (by rw [t1]; omega)
      refine aw_aload_n (i := 0) rfl d_X11_tick_42 0 rfl ?_
      refine aw_getr (k0 := 15) kc_11 (ws_0 w) (Nat.le_of_ble_eq_true rfl) tw_502 d_X11_tick_43 rfl t.2.2.1 ?_
      refine aw_aload_n (i := 0) rfl d_X11_tick_46 0 rfl ?_
      refine aw_geti (k0 := 0) kc_11 (ws_0 w) (Nat.le_of_ble_eq_true rfl) tw_487 d_X11_tick_47 rfl ?_
      refine aw_vi (v2 := y) ey ?_
      refine aw_aload_n (i := 0) rfl d_X11_tick_50 0 rfl ?_
      refine aw_getl (k0 := 14) kc_11 (ws_0 w) (Nat.le_of_ble_eq_true rfl) tw_501 d_X11_tick_51 rfl ?_
      refine aw_last t.2.2.2.1 (dp_in (lo := 0) (hi := (N : Int) - 1) ⟨py, by show _ ≤ (N : Int) - 1; omega⟩ (by omega) (by omega)) d_X11_tick_54 ?_
      have I1 : Iv (h_lm h c y.toNatClampNeg (h_l h 0 14)) := I.lm
      generalize hg : h_lm h c y.toNatClampNeg (h_l h 0 14) = h1 at I1 ⊢
      have s1 : h_sh h1 = h_sh h := by rw [← hg]; rfl
      have i1 : h_i h1 = h_i h := by rw [← hg]; rfl
      have r1 : h_r h1 = h_r h := by rw [← hg]; rfl
      refine aw_aload_n (i := 0) rfl d_X11_tick_55 0 rfl ?_
      refine aw_dup d_X11_tick_56 rfl ?_
      refine aw_geti (k0 := 0) kc_11 (ws_0 I1.1) (Nat.le_of_ble_eq_true rfl) tw_487 d_X11_tick_57 rfl ?_
      refine aw_iconst (v := 1) d_X11_tick_60 ic_1 ?_
      refine aw_iadd d_X11_tick_61 ?_
      refine aw_vi (v2 := y + 1) (by rw [i1, ey]) ?_
      refine aw_puti (k0 := 0) kc_11 (ws_0 I1.1) (Nat.le_of_ble_eq_true rfl) tw_487 d_X11_tick_62 rfl rfl nf_i ?_
      have I2 : Iv (h_im h1 0 0 (y + 1)) := Iv_now I1 ⟨by show (0 : Int) ≤ _; omega, by show _ ≤ (20000 : Int); omega⟩ (fun c' N' a1 a2 => by
        rw [r1, t.2.2.1] at a1
        cases a1
        rw [s1, t.2.2.2.1] at a2
        cases a2
        omega)
      refine aw_iconst (v := 0) d_X11_tick_65 ic_0 ?_
      refine aw_istore_n (i := 3) rfl [(0, .ref 0), (1, .int x1), (2, .int x2), (3, .int 0)] d_X11_tick_66 (Nat.le_of_ble_eq_true rfl) rfl rfl ?_
      refine tk_in d mc ms kc ks hk h0 c N x1 x2 (y + 1) (fun h' t' => ?_) 12 0 _ (by decide) (by decide) ⟨I2, ⟨fun k => ?_, fun a h1' h2' k => ?_, ?_, fun a k ha hw => ?_⟩, ?_, ?_, ?_⟩
      · refine aw_iinc (v := (x2 + 1)) [(0, .ref 0), (1, .int x1), (2, .int (x2 + 1))] d_X11_tick_112 2 rfl rfl (Nat.le_of_ble_eq_true rfl) rfl rfl ?_
        refine aw_goto (tgt := 37) d_X11_tick_115 rfl ?_
        exact ih (x2 + 1) (y + 1) h' (by omega) (by omega) (by omega) (by omega) (by omega) t'
      · rw [h_i_im, if_neg (fun z => absurd z.1 (by decide)), i1]; exact t.2.1.1 k
      · rw [h_i_im, if_neg (fun z => by omega), i1]; exact t.2.1.2.1 a h1' h2' k
      · show h_sh h1 2 = _
        rw [s1]; exact t.2.1.2.2.1
      · exact ⟨by rw [h_i_im, if_neg (fun z => by rw [z.1, z.2] at hw; exact absurd hw (by decide +kernel)), i1]; exact (t.2.1.2.2.2 a k ha hw).1, by show h_r h1 a k = _; rw [r1]; exact (t.2.1.2.2.2 a k ha hw).2⟩
      · show h_r h1 0 15 = _
        rw [r1]; exact t.2.2.1
      · show h_sh h1 c = _
        rw [s1]; exact t.2.2.2.1
      · rw [h_i_im, if_pos ⟨rfl, rfl⟩]
/-- what a tick costs: nothing, or a row at least twice as long, or the longest -/
def hcost (mc ms N N' : Nat) : Prop := (mc = 0 ∧ ms = 0 ∧ N' = N) ∨ (mc = 1 ∧ ms = N' ∧ N < N' ∧ (2 * N ≤ N' ∨ N' = 20000))
theorem c_tick (d : Nat) {h : Hp_} (I : Iv h) (x : Int32) {c N : Nat} (hc : h_r h 0 15 = some c) (hs : h_sh h c = some (3, N)) (hN : N ≤ 20000) : ∃ mc ms N', N' ≤ 20000 ∧ hcost mc ms N N' ∧ Ci (m_X11_tick (d + 8) mc ms) [.ref 0, .int x] h (fun r h' => Iv h' ∧ Mf wsX h h' ∧ (∃ c', h_r h' 0 15 = some c' ∧ h_sh h' c' = some (3, N')) ∧ otk (h_i h 0 0) x r (h_i h' 0 0)) := by
  have w := I.1
  have t20 : (20000 : Int32).toInt = 20000 := rfl
  have t15 : (1500 : Int32).toInt = 1500 := rfl
  have t0 : (0 : Int32).toInt = 0 := rfl
  have nr : rin (h_i h 0 0).toInt (0, 20000) := by
    have := I.2.1 0 0
    rwa [show tf 0 0 = (0, 20000) by decide +kernel] at this
  have n0 : 0 ≤ (h_i h 0 0).toInt := nr.1
  have n1 : (h_i h 0 0).toInt ≤ 20000 := nr.2
  by_cases ok : (0 ≤ x ∧ x ≤ 1500) ∧ (h_i h 0 0).toInt + x.toInt ≤ 20000
  · have x0 : 0 ≤ x.toInt := by have := q_le.mp ok.1.1; omega
    have x1 : x.toInt ≤ 1500 := by have := q_le.mp ok.1.2; omega
    have es : (h_i h 0 0 + x).toInt = (h_i h 0 0).toInt + x.toInt := tx_add (by omega) (by omega)
    have en : h_i h 0 0 + x = Int32.ofNat ((h_i h 0 0).toInt + x.toInt).toNat := by
      refine Int32.toInt_inj.mp ?_
      rw [on_i (by omega), es]
      omega
    have go : ∀ mc ms N' : Nat, N' ≤ 20000 → (h_i h 0 0).toInt + x.toInt ≤ (N' : Int) → Cv (m_X11_makeHistory (d + 7) mc ms) [.ref 0, .int (Int32.ofNat ((h_i h 0 0).toInt + x.toInt).toNat)] h (fun h' => Iv h' ∧ Mf wsX h h' ∧ h_i h' 0 = h_i h 0 ∧ ∃ c', h_r h' 0 15 = some c' ∧ h_sh h' c' = some (3, N')) →
        Ci (m_X11_tick (d + 8) mc ms) [.ref 0, .int x] h (fun r h' => Iv h' ∧ Mf wsX h h' ∧ (∃ c', h_r h' 0 15 = some c' ∧ h_sh h' c' = some (3, N')) ∧ otk (h_i h 0 0) x r (h_i h' 0 0)) := by
      intro mc ms N' lN' gN' hm
      refine Ct.of (fun _ _ _ => trivial) rfl (Nat.le_of_ble_eq_true rfl) ?_
      show AW (m_X11_tick (d + 8) mc ms) 0 0 0 [(0, .ref 0), (1, .int x)] [] h (kI _)
      refine aw_iload_n (i := 1) rfl d_X11_tick_0 1 rfl ?_
      refine aw_iconst (v := 0) d_X11_tick_1 ic_0 ?_
      refine aw_sipush (v := 1500) d_X11_tick_2 is_1500 ?_
      refine aw_Si [.int x, .int 0, .int 1500] [] d_X11_tick_5 (cS_X11_within (d + 7) 0 0) tw_543 rfl ⟨⟨show d + 7 + 1 ≤ d + 8 by omega, show 8 + (3 + 11) + 100 * (d + 7) ≤ 100 * (d + 8) by omega⟩, Nat.zero_le _, Nat.zero_le _⟩ (by decide) xs0 (s_X11_within (d + 7) h x 0 1500) (fun _ _ kk => ?_)
      obtain ⟨e1, e2⟩ := kk
      rw [e1, e2]
      refine aw_ifb_eq (tgt := 23) d_X11_tick_8 rfl (fun z => absurd ok.1 z) (fun _ => ?_)
      refine aw_aload_n (i := 0) rfl d_X11_tick_11 0 rfl ?_
      refine aw_geti (k0 := 0) kc_11 (ws_0 w) (Nat.le_of_ble_eq_true rfl) tw_487 d_X11_tick_12 rfl ?_
      refine aw_iload_n (i := 1) rfl d_X11_tick_15 1 rfl ?_
      refine aw_iadd d_X11_tick_16 ?_
      refine aw_sipush (v := 20000) d_X11_tick_17 is_20000 ?_
      refine aw_icmp_le (tgt := 25) d_X11_tick_20 rfl (fun _ => ?_) (fun z => by have := q_nle z; omega)
      refine aw_aload_n (i := 0) rfl d_X11_tick_25 0 rfl ?_
      refine aw_aload_n (i := 0) rfl d_X11_tick_26 0 rfl ?_
      refine aw_geti (k0 := 0) kc_11 (ws_0 w) (Nat.le_of_ble_eq_true rfl) tw_487 d_X11_tick_27 rfl ?_
      refine aw_iload_n (i := 1) rfl d_X11_tick_30 1 rfl ?_
      refine aw_iadd d_X11_tick_31 ?_
      refine aw_vi (v2 := Int32.ofNat ((h_i h 0 0).toInt + x.toInt).toNat) en ?_
      refine aw_Vv 0 [.int (Int32.ofNat ((h_i h 0 0).toInt + x.toInt).toNat)] [] d_X11_tick_32 (cV_X11_makeHistory (d + 7) mc ms) kc_11 (ws_0 w) tw_995 rfl ⟨⟨show d + 7 + 1 ≤ d + 8 by omega, show 8 + (3 + 11) + 100 * (d + 7) ≤ 100 * (d + 8) by omega⟩, show 0 + 0 + mc ≤ mc by omega, show 0 + 0 + ms ≤ ms by omega⟩ (by decide) xs0 hm (fun h1 kk => ?_)
      obtain ⟨I1, M1, i1, c', r1, s1⟩ := kk
      refine aw_iconst (v := 0) d_X11_tick_35 ic_0 ?_
      refine aw_istore_n (i := 2) rfl [(0, .ref 0), (1, .int x), (2, .int 0)] d_X11_tick_36 (Nat.le_of_ble_eq_true rfl) rfl rfl ?_
      refine AW.mono (tk_out (F := (h_i h 0 0).toInt + x.toInt) d mc ms _ _ ⟨show 0 + 0 + mc ≤ mc by omega, show 0 + 0 + ms ≤ ms by omega⟩ h c' N' x ⟨x0, x1⟩ lN' 1500 0 (h_i h 0 0) h1 (by decide) (by omega) (by omega) n0 (by omega) ⟨I1, M1, r1, s1, by rw [i1]⟩) (fun v h' q => ?_)
      obtain ⟨r, ev, q1, q2, q3, q4, q5, q6⟩ := q
      exact ⟨r, ev, q1, q2, ⟨c', q3, q4⟩, Or.inl ⟨ok, q5, q6⟩⟩
    rcases Nat.lt_or_ge N ((h_i h 0 0).toInt + x.toInt).toNat with g | g
    · refine ⟨1, hwant ((h_i h 0 0).toInt + x.toInt).toNat N, hwant ((h_i h 0 0).toInt + x.toInt).toNat N, by unfold hwant; omega, Or.inr ⟨rfl, rfl, by unfold hwant; omega, by unfold hwant; omega⟩, go 1 _ _ (by unfold hwant; omega) (by unfold hwant; omega) ?_⟩
      exact c_makeHistory1 (d + 5) I hc hs hN g (by omega)
    · refine ⟨0, 0, N, hN, Or.inl ⟨rfl, rfl, rfl⟩, go 0 0 N hN (by omega) ?_⟩
      exact Cv.mono (c_makeHistory0 (d + 5) 0 0 I hc hs hN g) (fun h' e => by rw [e]; exact ⟨I, Mf.rf h, rfl, c, hc, hs⟩)
  · refine ⟨0, 0, N, hN, Or.inl ⟨rfl, rfl, rfl⟩, ?_⟩
    have bad : ∀ lv, AW (m_X11_tick (d + 8) 0 0) 0 0 23 lv [] h (kI (fun r h' => Iv h' ∧ Mf wsX h h' ∧ (∃ c', h_r h' 0 15 = some c' ∧ h_sh h' c' = some (3, N)) ∧ otk (h_i h 0 0) x r (h_i h' 0 0))) := fun lv => by
      refine aw_iconst (v := -1) d_X11_tick_23 ic_m1 ?_
      exact aw_iret rfl d_X11_tick_24 ⟨Nat.le_refl _, Nat.le_refl _⟩ ⟨_, rfl, I, Mf.rf h, ⟨c, hc, hs⟩, Or.inr ⟨ok, rfl, rfl⟩⟩
    refine Ct.of (fun _ _ _ => trivial) rfl (Nat.le_of_ble_eq_true rfl) ?_
    show AW (m_X11_tick (d + 8) 0 0) 0 0 0 [(0, .ref 0), (1, .int x)] [] h (kI _)
    refine aw_iload_n (i := 1) rfl d_X11_tick_0 1 rfl ?_
    refine aw_iconst (v := 0) d_X11_tick_1 ic_0 ?_
    refine aw_sipush (v := 1500) d_X11_tick_2 is_1500 ?_
    refine aw_Si [.int x, .int 0, .int 1500] [] d_X11_tick_5 (cS_X11_within (d + 7) 0 0) tw_543 rfl ⟨⟨show d + 7 + 1 ≤ d + 8 by omega, show 8 + (3 + 11) + 100 * (d + 7) ≤ 100 * (d + 8) by omega⟩, Nat.zero_le _, Nat.zero_le _⟩ (by decide) xs0 (s_X11_within (d + 7) h x 0 1500) (fun _ _ kk => ?_)
    obtain ⟨e1, e2⟩ := kk
    rw [e1, e2]
    refine aw_ifb_eq (tgt := 23) d_X11_tick_8 rfl (fun _ => bad _) (fun z => ?_)
    have x0 : 0 ≤ x.toInt := by have := q_le.mp z.1; omega
    have x1 : x.toInt ≤ 1500 := by have := q_le.mp z.2; omega
    have es : (h_i h 0 0 + x).toInt = (h_i h 0 0).toInt + x.toInt := tx_add (by omega) (by omega)
    refine aw_aload_n (i := 0) rfl d_X11_tick_11 0 rfl ?_
    refine aw_geti (k0 := 0) kc_11 (ws_0 w) (Nat.le_of_ble_eq_true rfl) tw_487 d_X11_tick_12 rfl ?_
    refine aw_iload_n (i := 1) rfl d_X11_tick_15 1 rfl ?_
    refine aw_iadd d_X11_tick_16 ?_
    refine aw_sipush (v := 20000) d_X11_tick_17 is_20000 ?_
    refine aw_icmp_le (tgt := 25) d_X11_tick_20 rfl (fun y => ?_) (fun _ => bad _)
    have y := q_le.mp y
    exact absurd ⟨z, by omega⟩ ok
end
section
/-! the class's constable -/
theorem c_manInit (d : Nat) (h : Hp_) (a : Nat) (x1 x2 x3 x4 : Int32) (hs : h_sh h a = some (12, 17)) : Cv (m_X2_init (d + 1) 0 0) [.ref a, .int x1, .int x2, .int x3, .int x4] h (fun h' => h_sh h' = h_sh h ∧ h_r h' = h_r h ∧ (∀ b k, b ≠ a → h_i h' b k = h_i h b k) ∧ h_i h' a 0 = x1 ∧ h_i h' a 1 = x2) := by
  refine Ct.of (fun _ _ _ => trivial) rfl (Nat.le_of_ble_eq_true rfl) ?_
  show AW (m_X2_init (d + 1) 0 0) 0 0 0 [(0, .ref a), (1, .int x1), (2, .int x2), (3, .int x3), (4, .int x4)] [] h (kV _)
  refine aw_aload_n (i := 0) rfl d_X2_init_0 0 rfl ?_
  refine aw_objInit (rest := []) d_X2_init_1 tw_570 tw_33 tw_34 (show 1 ≤ d + 1 by omega) (show 0 + 12 ≤ 100 * (d + 1) by omega) ?_
  refine aw_aload_n (i := 0) rfl d_X2_init_4 0 rfl ?_
  refine aw_iconst (v := 0) d_X2_init_5 ic_0 ?_
  refine aw_puti (k0 := 4) kc_2 hs (Nat.le_of_ble_eq_true rfl) tw_580 d_X2_init_6 rfl rfl nf_i ?_
  refine aw_aload_n (i := 0) rfl d_X2_init_9 0 rfl ?_
  refine aw_iconst (v := (-1)) d_X2_init_10 ic_m1 ?_
  refine aw_puti (k0 := 5) kc_2 hs (Nat.le_of_ble_eq_true rfl) tw_582 d_X2_init_11 rfl rfl nf_i ?_
  refine aw_aload_n (i := 0) rfl d_X2_init_14 0 rfl ?_
  refine aw_iconst (v := (-1)) d_X2_init_15 ic_m1 ?_
  refine aw_puti (k0 := 6) kc_2 hs (Nat.le_of_ble_eq_true rfl) tw_584 d_X2_init_16 rfl rfl nf_i ?_
  refine aw_aload_n (i := 0) rfl d_X2_init_19 0 rfl ?_
  refine aw_iconst (v := (-1)) d_X2_init_20 ic_m1 ?_
  refine aw_puti (k0 := 7) kc_2 hs (Nat.le_of_ble_eq_true rfl) tw_586 d_X2_init_21 rfl rfl nf_i ?_
  refine aw_aload_n (i := 0) rfl d_X2_init_24 0 rfl ?_
  refine aw_iload_n (i := 1) rfl d_X2_init_25 1 rfl ?_
  refine aw_putiF (k0 := 0) kc_2 hs (Nat.le_of_ble_eq_true rfl) tw_571 d_X2_init_26 rfl rfl rfl rfl nf_i ?_
  refine aw_aload_n (i := 0) rfl d_X2_init_29 0 rfl ?_
  refine aw_iload_n (i := 2) rfl d_X2_init_30 2 rfl ?_
  refine aw_putiF (k0 := 1) kc_2 hs (Nat.le_of_ble_eq_true rfl) tw_574 d_X2_init_31 rfl rfl rfl rfl nf_i ?_
  refine aw_aload_n (i := 0) rfl d_X2_init_34 0 rfl ?_
  refine aw_iload_n (i := 3) rfl d_X2_init_35 3 rfl ?_
  refine aw_putiF (k0 := 2) kc_2 hs (Nat.le_of_ble_eq_true rfl) tw_576 d_X2_init_36 rfl rfl rfl rfl nf_i ?_
  refine aw_aload_n (i := 0) rfl d_X2_init_39 0 rfl ?_
  refine aw_iload d_X2_init_40 4 rfl ?_
  refine aw_putiF (k0 := 3) kc_2 hs (Nat.le_of_ble_eq_true rfl) tw_578 d_X2_init_42 rfl rfl rfl rfl nf_i ?_
  refine aw_vret rfl d_X2_init_45 ⟨Nat.le_refl _, Nat.le_refl _⟩ ⟨rfl, rfl, rfl, fun b k hb => ?_, ?_, ?_⟩
  · rw [hi_n _ _ _ _ _ _ hb, hi_n _ _ _ _ _ _ hb, hi_n _ _ _ _ _ _ hb, hi_n _ _ _ _ _ _ hb, hi_n _ _ _ _ _ _ hb, hi_n _ _ _ _ _ _ hb, hi_n _ _ _ _ _ _ hb, hi_n _ _ _ _ _ _ hb]
  · rw [h_i_im, if_neg (fun y => absurd y.2 (by decide)), h_i_im, if_neg (fun y => absurd y.2 (by decide)), h_i_im, if_neg (fun y => absurd y.2 (by decide)), h_i_im, if_pos ⟨rfl, rfl⟩]
  · rw [h_i_im, if_neg (fun y => absurd y.2 (by decide)), h_i_im, if_neg (fun y => absurd y.2 (by decide)), h_i_im, if_pos ⟨rfl, rfl⟩]
/-- what a call of the class that makes cells leaves -/
def Cx (h h' : Hp_) : Prop := Iv h' ∧ Mf wsC h h' ∧ h_r h' 0 15 = h_r h 0 15 ∧ ∀ c N, h_r h 0 15 = some c → h_sh h c = some (3, N) → h_sh h' c = some (3, N)
theorem Cx.fr {ws : List Nat} {h0 h h' : Hp_} (x : Cx h0 h) (I : Iv h') (f : Fr ws h h') (c : (mfo wsC ws && !(inw ws 0 15)) = true) : Cx h0 h' := by
  rw [Bool.and_eq_true, Bool.not_eq_true'] at c
  exact ⟨I, x.2.1.tr (Mf.fr c.1 f), by rw [(f.2 0 15 c.2).2.2]; exact x.2.2.1, fun a N h1 h2 => by rw [f.1]; exact x.2.2.2 a N h1 h2⟩
theorem Cx.rf {h : Hp_} (I : Iv h) : Cx h h := ⟨I, Mf.rf h, rfl, fun _ _ _ z => z⟩
/-- constable is taken -/
def okc (m x1 x2 x3 : Int32) : Prop := (1 ≤ x1 ∧ x1 ≤ 4) ∧ (0 ≤ x2 ∧ x2 ≤ 40) ∧ (0 ≤ x3 ∧ x3 < 16) ∧ m < 12
/-- what constable answers, and how many men there are then -/
def ocs (m x1 x2 x3 r m' : Int32) : Prop := (okc m x1 x2 x3 ∧ r = m ∧ m' = m + 1) ∨ (¬ okc m x1 x2 x3 ∧ r = -1 ∧ m' = m)
/-- the men that are counted are there -/
def Mn (h : Hp_) : Prop := ∀ k : Nat, k < 12 → (k : Int) < (h_i h 0 7).toInt → h_r h 15 k ≠ none
/-- the man that comes, and the men that were -/
def Cz (ok : Prop) (m x1 : Int32) (h h' : Hp_) : Prop := (ok → h_r h' 15 m.toNatClampNeg = some (401 + m.toNatClampNeg) ∧ h_i h' (401 + m.toNatClampNeg) 0 = m ∧ h_i h' (401 + m.toNatClampNeg) 1 = x1) ∧ ∀ k, (k ≠ m.toNatClampNeg ∨ ¬ ok) → h_r h' 15 k = h_r h 15 k ∧ (k < 12 → ∀ f, f ≤ 3 → h_i h' (401 + k) f = h_i h (401 + k) f)
def Cy (x1 x2 x3 : Int32) (h : Hp_) (r : Int32) (h' : Hp_) : Prop := Cx h h' ∧ ocs (h_i h 0 7) x1 x2 x3 r (h_i h' 0 7) ∧ (Mn h → Mn h') ∧ Cz (okc (h_i h 0 7) x1 x2 x3) (h_i h 0 7) x1 h h'
theorem inw_ce {ws : List Nat} {a b k : Nat} (e : cn a = cn b) : inw ws a k = inw ws b k := by unfold inw; rw [e]
theorem cn_man {j : Nat} (h : j < 12) : cn (401 + j) = 401 := by
  unfold cn
  have a : Nat.ble 401 (401 + j) = true := Nat.ble_eq.mpr (by omega)
  have b : Nat.ble (401 + j) 412 = true := Nat.ble_eq.mpr (by omega)
  rw [a, b]
  rfl
theorem c_constable (d : Nat) {h : Hp_} (I : Iv h) (x1 x2 x3 : Int32) : Ci (m_X11_constable (d + 2) 1 17) [.ref 0, .int x1, .int x2, .int x3] h (Cy x1 x2 x3 h) := by
  have w := I.1
  have t12 : (12 : Int32).toInt = 12 := rfl
  have er : rin (h_i h 0 7).toInt (0, 12) := by
    have := I.2.1 0 7
    rwa [show tf 0 7 = (0, 12) by decide +kernel] at this
  have er0 : 0 ≤ (h_i h 0 7).toInt := er.1
  have bad : ¬ okc (h_i h 0 7) x1 x2 x3 → ∀ lv, AW (m_X11_constable (d + 2) 1 17) 0 0 47 lv [] h (kI (Cy x1 x2 x3 h)) := fun no lv => by
    refine aw_iconst (v := (-1)) d_X11_constable_47 ic_m1 ?_
    exact aw_iret rfl d_X11_constable_48 ⟨Nat.le_of_ble_eq_true rfl, Nat.le_of_ble_eq_true rfl⟩ ⟨_, rfl, Cx.rf I, Or.inr ⟨no, rfl, rfl⟩, id, fun o => absurd o no, fun _ _ => ⟨rfl, fun _ _ _ => rfl⟩⟩
  have no : ¬ okc (h_i h 0 7) x1 x2 x3 → AW (m_X11_constable (d + 2) 1 17) 0 0 30 [(0, .ref 0), (1, .int x1), (2, .int x2), (3, .int x3)] [] h (kI (Cy x1 x2 x3 h)) := fun no => by
    refine aw_iconst (v := 0) d_X11_constable_30 ic_0 ?_
    refine aw_istore [(0, .ref 0), (1, .int x1), (2, .int x2), (3, .int x3), (4, .int 0)] d_X11_constable_31 (Nat.le_of_ble_eq_true rfl) rfl rfl ?_
    refine aw_iload d_X11_constable_33 4 rfl ?_
    refine aw_if_eq (tgt := 47) d_X11_constable_35 rfl (fun _ => bad no _) (fun z => absurd rfl z)
  have rr2 : ∀ {y : MethodName} {cc : ByteArray} {nL : Nat} {ret : Option FieldType}, nL ≤ 81 → rr_ (fun _ _ _ => True, y, cc, nL, ret, { frames := d + 0, cells := 0, slots := 0, locals := 100 * (d + 0) }) (m_X11_constable (d + 2) 1 17) 0 0 := fun {y cc nL ret} hn => ⟨⟨show d + 0 + 1 ≤ d + 2 by omega, show 8 + (nL + 11) + 100 * (d + 0) ≤ 100 * (d + 2) by omega⟩, Nat.zero_le _, Nat.zero_le _⟩
  refine Ct.of (fun _ _ _ => trivial) rfl (Nat.le_of_ble_eq_true rfl) ?_
  show AW (m_X11_constable (d + 2) 1 17) 0 0 0 [(0, .ref 0), (1, .int x1), (2, .int x2), (3, .int x3)] [] h (kI (Cy x1 x2 x3 h))
  refine aw_iload_n (i := 1) rfl d_X11_constable_0 1 rfl ?_
  refine aw_iconst (v := 1) d_X11_constable_1 ic_1 ?_
  refine aw_iconst (v := 4) d_X11_constable_2 ic_4 ?_
  refine aw_Si [.int x1, .int 1, .int 4] [] d_X11_constable_3 (cS_X11_within (d + 0) 0 0) tw_543 rfl (rr2 (Nat.le_of_ble_eq_true rfl)) (by decide) xs0 (s_X11_within _ _ x1 1 4) (fun _ _ kk => ?_)
  obtain ⟨e1, e2⟩ := kk
  rw [e1, e2]
  refine aw_ifb_eq (tgt := 30) d_X11_constable_6 rfl (fun z => no (fun o => z o.1)) (fun c1 => ?_)
  refine aw_iload_n (i := 2) rfl d_X11_constable_9 2 rfl ?_
  refine aw_iconst (v := 0) d_X11_constable_10 ic_0 ?_
  refine aw_bipush (v := 40) d_X11_constable_11 ib_40 ?_
  refine aw_Si [.int x2, .int 0, .int 40] [] d_X11_constable_13 (cS_X11_within (d + 0) 0 0) tw_543 rfl (rr2 (Nat.le_of_ble_eq_true rfl)) (by decide) xs0 (s_X11_within _ _ x2 0 40) (fun _ _ kk => ?_)
  obtain ⟨e1, e2⟩ := kk
  rw [e1, e2]
  refine aw_ifb_eq (tgt := 30) d_X11_constable_16 rfl (fun z => no (fun o => z o.2.1)) (fun c2 => ?_)
  refine aw_iload_n (i := 3) rfl d_X11_constable_19 3 rfl ?_
  refine aw_Si [.int x3] [] d_X11_constable_20 (cS_X11_isPlace (d + 0) 0 0) tw_540 rfl (rr2 (Nat.le_of_ble_eq_true rfl)) (by decide) xs0 (s_X11_isPlace _ _ x3) (fun _ _ kk => ?_)
  obtain ⟨e1, e2⟩ := kk
  rw [e1, e2]
  refine aw_ifb_eq (tgt := 30) d_X11_constable_23 rfl (fun z => no (fun o => z o.2.2.1)) (fun c3 => ?_)
  refine aw_iconst (v := 1) d_X11_constable_26 ic_1 ?_
  refine aw_goto (tgt := 31) d_X11_constable_27 rfl ?_
  refine aw_istore [(0, .ref 0), (1, .int x1), (2, .int x2), (3, .int x3), (4, .int 1)] d_X11_constable_31 (Nat.le_of_ble_eq_true rfl) rfl rfl ?_
  refine aw_iload d_X11_constable_33 4 rfl ?_
  refine aw_if_eq (tgt := 47) d_X11_constable_35 rfl (fun z => absurd z (by decide)) (fun _ => ?_)
  refine aw_aload_n (i := 0) rfl d_X11_constable_38 0 rfl ?_
  refine aw_geti (k0 := 7) kc_11 (ws_0 w) (Nat.le_of_ble_eq_true rfl) tw_494 d_X11_constable_39 rfl ?_
  refine aw_bipush (v := 12) d_X11_constable_42 ib_12 ?_
  refine aw_icmp_lt (tgt := 49) d_X11_constable_44 rfl (fun z => ?_) (fun z => bad (fun o => z o.2.2.2) _)
  have ok : okc (h_i h 0 7) x1 x2 x3 := ⟨c1, c2, c3, z⟩
  have z := q_lt.mp z
  obtain ⟨j, ej, hj⟩ : ∃ j : Nat, h_i h 0 7 = Int32.ofNat j ∧ j < 12 := ⟨(h_i h 0 7).toInt.toNat, by
    refine Int32.toInt_inj.mp ?_
    rw [on_i (by omega)]
    omega, by omega⟩
  have oj := on_i (n := j) (by omega)
  have cj := on_c (n := j) (by omega)
  have fr : h_sh h (401 + j) = none := I.2.2.2.2.2.2.1 j hj (by rw [ej, oj]; exact Int.le_refl _)
  refine aw_new (ci := 2) (401 + j) kc_2 tw_144 tw_566 tw_15 fr (by omega) xs0 (Nat.le_of_ble_eq_true rfl) (Nat.le_of_ble_eq_true rfl) d_X11_constable_49 ?_
  have s1 : h_sh (h_nw h (401 + j) (2 + 10) 17) (401 + j) = some (12, 17) := by rw [y_sh, if_pos rfl]
  have s0 : h_sh (h_nw h (401 + j) (2 + 10) 17) 0 = some (21, 16) := by rw [y_sh, if_neg (by omega)]; exact ws_0 w
  refine aw_dup d_X11_constable_52 rfl ?_
  refine aw_aload_n (i := 0) rfl d_X11_constable_53 0 rfl ?_
  refine aw_geti (k0 := 7) kc_11 s0 (Nat.le_of_ble_eq_true rfl) tw_494 d_X11_constable_54 rfl ?_
  refine aw_iload_n (i := 1) rfl d_X11_constable_57 1 rfl ?_
  refine aw_iload_n (i := 2) rfl d_X11_constable_58 2 rfl ?_
  refine aw_iload_n (i := 3) rfl d_X11_constable_59 3 rfl ?_
  refine aw_callI (vs := [.int (h_i (h_nw h (401 + j) (2 + 10) 17) 0 7), .int x1, .int x2, .int x3]) (a := 401 + j) (rest := [.ref (401 + j)]) d_X11_constable_60 (cI_X2_init (d + 1) 0 0) ⟨rfl, rfl⟩ tw_568 tw_567 rfl ⟨show d + 1 + 1 ≤ d + 2 by omega, show 8 + (5 + 11) + 100 * (d + 1) ≤ 100 * (d + 2) by omega⟩ (Nat.le_of_ble_eq_true rfl) ⟨Nat.le_of_ble_eq_true rfl, Nat.le_of_ble_eq_true rfl⟩ xs0 (c_manInit d _ (401 + j) _ x1 x2 x3 s1) (fun v h2 kk => ?_)
  obtain ⟨ev, s2, r2, i2, n2, q2⟩ := kk
  rw [ev]
  have sA : ∀ a, h_sh h2 a = if a = 401 + j then some (12, 17) else h_sh h a := fun a => by rw [s2, y_sh]
  have iA : ∀ a k, a ≠ 401 + j → h_i h2 a k = h_i h a k := fun a k ha => by rw [i2 a k ha, y_i, if_neg ha]
  have rA : ∀ a k, a ≠ 401 + j → h_r h2 a k = h_r h a k := fun a k ha => by rw [r2, y_r, if_neg ha]
  have w20 : h_sh h2 0 = some (21, 16) := by rw [sA, if_neg (by omega)]; exact ws_0 w
  have w215 : h_sh h2 15 = some (4, 12) := by rw [sA, if_neg (by omega)]; exact ws_15 w
  have w2r : h_r h2 0 6 = some 15 := by rw [rA 0 6 (by omega)]; exact wr_0_6 w
  have w2s : h_sh h2 (401 + j) = some (12, 17) := by rw [sA, if_pos rfl]
  have e7 : h_i h2 0 7 = Int32.ofNat j := by rw [iA 0 7 (by omega)]; exact ej
  refine aw_astore [(0, .ref 0), (1, .int x1), (2, .int x2), (3, .int x3), (4, .int 1), (5, .ref (401 + j))] d_X11_constable_63 (Nat.le_of_ble_eq_true rfl) rfl rfl ?_
  refine aw_aload_n (i := 0) rfl d_X11_constable_65 0 rfl ?_
  refine aw_getr (k0 := 6) kc_11 w20 (Nat.le_of_ble_eq_true rfl) tw_493 d_X11_constable_66 rfl w2r ?_
  refine aw_aload_n (i := 0) rfl d_X11_constable_69 0 rfl ?_
  refine aw_geti (k0 := 7) kc_11 w20 (Nat.le_of_ble_eq_true rfl) tw_494 d_X11_constable_70 rfl ?_
  refine aw_vi (v2 := Int32.ofNat j) e7 ?_
  refine aw_aload d_X11_constable_73 5 rfl ?_
  refine aw_aast w215 (dp_in (lo := 0) (hi := 11) ⟨by show (0 : Int) ≤ _; omega, by show _ ≤ (11 : Int); omega⟩ (by decide) (by decide)) w2s d_X11_constable_75 ?_
  rw [cj]
  refine aw_aload_n (i := 0) rfl d_X11_constable_76 0 rfl ?_
  refine aw_dup d_X11_constable_77 rfl ?_
  refine aw_geti (k0 := 7) kc_11 (h := h_rm h2 15 j (some (401 + j))) w20 (Nat.le_of_ble_eq_true rfl) tw_494 d_X11_constable_78 rfl ?_
  refine aw_iconst (v := 1) d_X11_constable_81 ic_1 ?_
  refine aw_iadd d_X11_constable_82 ?_
  have t1 : (1 : Int32).toInt = 1 := rfl
  refine aw_vi (v2 := Int32.ofNat (j + 1)) (by
    show h_i h2 0 7 + 1 = _
    rw [e7]
    refine Int32.toInt_inj.mp ?_
    rw [tx_add (by rw [t1]; omega) (by rw [t1]; omega), oj, t1, on_i (by omega)]
    omega) ?_
  refine aw_puti (k0 := 7) kc_11 (h := h_rm h2 15 j (some (401 + j))) w20 (Nat.le_of_ble_eq_true rfl) tw_494 d_X11_constable_83 rfl rfl nf_i ?_
  have I4 : Iv (h_im (h_rm h2 15 j (some (401 + j))) 0 7 (Int32.ofNat (j + 1))) := by
    refine Iv_man I hj ej (fun a => sA a) (fun a k ha hk => ?_) (by rw [h_i_im, if_pos ⟨rfl, rfl⟩]) (fun a k ha hk => ?_) ?_
    · rw [h_i_im, if_neg hk]; exact iA a k ha
    · show h_r (h_rm h2 15 j (some (401 + j))) a k = _
      rw [h_r_rm, if_neg hk]; exact rA a k ha
    · show h_r (h_rm h2 15 j (some (401 + j))) 15 j = _
      rw [h_r_rm, if_pos ⟨rfl, rfl⟩]
  have x4 : Cx h (h_im (h_rm h2 15 j (some (401 + j))) 0 7 (Int32.ofNat (j + 1))) := by
    refine ⟨I4, ⟨fun k => ?_, fun a h1 h2' k => ?_, ?_, fun a k ha hw => ?_⟩, ?_, fun c N hc hN => ?_⟩
    · rw [h_i_im, if_neg (fun y => absurd y.1 (by decide))]; exact iA 1 k (by omega)
    · rw [h_i_im, if_neg (fun y => by omega)]; exact iA a k (by omega)
    · show h_sh h2 2 = _
      rw [sA, if_neg (by omega)]
    · have na : a ≠ 401 + j := fun y => by rw [y, inw_ce (b := 401) ((cn_man hj).trans (by decide)), inw_row (a := 401) (by decide +kernel) k] at hw; cases hw
      refine ⟨by rw [h_i_im, if_neg (fun y => by rw [y.1, y.2] at hw; exact absurd hw (by decide +kernel))]; exact iA a k na, ?_⟩
      show h_r (h_rm h2 15 j (some (401 + j))) a k = _
      rw [h_r_rm, if_neg (fun y => by rw [y.1, inw_row (a := 15) (by decide +kernel) k] at hw; cases hw)]
      exact rA a k na
    · show h_r (h_rm h2 15 j (some (401 + j))) 0 15 = _
      rw [h_r_rm, if_neg (fun y => absurd y.1 (by decide))]; exact rA 0 15 (by omega)
    · show h_sh h2 c = _
      rw [sA, if_neg (fun y => by rw [y, fr] at hN; cases hN)]; exact hN
  have cn4 : Cn (h_im (h_rm h2 15 j (some (401 + j))) 0 7 (Int32.ofNat (j + 1))) (401 + j) := ⟨by omega, by omega, w2s⟩
  have m4 : h_i (h_im (h_rm h2 15 j (some (401 + j))) 0 7 (Int32.ofNat (j + 1))) 0 7 = h_i h 0 7 + 1 := by
    rw [h_i_im, if_pos ⟨rfl, rfl⟩, ej]
    refine Int32.toInt_inj.mp ?_
    rw [tx_add (by rw [t1]; omega) (by rw [t1]; omega), oj, t1, on_i (by omega)]
    omega
  have n4 : h_i (h_im (h_rm h2 15 j (some (401 + j))) 0 7 (Int32.ofNat (j + 1))) (401 + j) 0 = h_i h 0 7 := by
    rw [h_i_im, if_neg (fun y => by omega)]
    show h_i h2 (401 + j) 0 = _
    rw [n2, y_i, if_neg (by omega)]
  have q4 : h_i (h_im (h_rm h2 15 j (some (401 + j))) 0 7 (Int32.ofNat (j + 1))) (401 + j) 1 = x1 := by
    rw [h_i_im, if_neg (fun y => by omega)]
    exact q2
  have i4 : ∀ k f, k ≠ j → h_i (h_im (h_rm h2 15 j (some (401 + j))) 0 7 (Int32.ofNat (j + 1))) (401 + k) f = h_i h (401 + k) f := fun k f ne => by
    rw [h_i_im, if_neg (fun y => by omega)]
    exact iA (401 + k) f (by omega)
  have r4 : ∀ k, h_r (h_im (h_rm h2 15 j (some (401 + j))) 0 7 (Int32.ofNat (j + 1))) 15 k = if k = j then some (401 + j) else h_r h 15 k := fun k => by
    show h_r (h_rm h2 15 j (some (401 + j))) 15 k = _
    rw [h_r_rm]
    by_cases e : k = j
    · rw [if_pos ⟨rfl, e⟩, if_pos e]
    · rw [if_neg (fun y => e y.2), if_neg e]; exact rA 15 k (by omega)
  generalize h_im (h_rm h2 15 j (some (401 + j))) 0 7 (Int32.ofNat (j + 1)) = h4 at I4 x4 cn4 m4 n4 r4 q4 i4 ⊢
  refine aw_aload_n (i := 0) rfl d_X11_constable_86 0 rfl ?_
  refine aw_aload d_X11_constable_87 5 rfl ?_
  refine aw_iload_n (i := 3) rfl d_X11_constable_89 3 rfl ?_
  refine aw_Vk (M' := m_X11_putAt (d + 0) 0 0) [.ref (401 + j), .int x3] (hc_X11_putAt d) ⟨⟨x3, rfl, rtop_in _, fun _ y => (nomatch y)⟩, ⟨401 + j, rfl, cn4⟩, rfl, trivial⟩ I4 (fun _ y => (nomatch y)) d_X11_constable_90 (cV_X11_putAt (d + 0) 0 0) kc_11 (ws_0 I4.1) tw_634 rfl (Nat.le_of_ble_eq_true rfl) ⟨⟨show d + 0 + 1 ≤ d + 2 by omega, show 8 + (_ + 11) + 100 * (d + 0) ≤ 100 * (d + 2) from Nat.le_trans (Nat.add_le_add_right (Nat.le_of_ble_eq_true rfl : 8 + (_ + 11) ≤ 200) _) (by omega)⟩, rfl, rfl, xs0⟩ ⟨Nat.le_of_ble_eq_true rfl, Nat.le_of_ble_eq_true rfl⟩ (fun v h5 kv => ?_)
  have ev : v = none := kv.2.2.2
  subst ev
  refine aw_aload d_X11_constable_93 5 rfl ?_
  refine aw_geti (k0 := 0) kc_2 (Cn_fr kv.2.1 cn4).2.2 (Nat.le_of_ble_eq_true rfl) tw_573 d_X11_constable_95 rfl ?_
  refine aw_iret rfl d_X11_constable_98 ⟨Nat.le_of_ble_eq_true rfl, Nat.le_of_ble_eq_true rfl⟩ ⟨_, rfl, x4.fr kv.1 kv.2.1 (by decide +kernel), Or.inl ⟨ok, by rw [(kv.2.1.2 (401 + j) 0 (by rw [inw_ce (b := 401) ((cn_man hj).trans (by decide))]; decide +kernel)).1]; exact n4, by rw [(kv.2.1.2 0 7 (by decide +kernel)).1]; exact m4⟩, fun mn k hk hm => ?_, fun _ => ?_, fun k hk => ⟨?_, fun l f lf => ?_⟩⟩
  · rw [(kv.2.1.2 0 7 (by decide +kernel)).1, m4, ej, tx_add (by rw [t1, oj]; omega) (by rw [t1, oj]; omega), oj, t1] at hm
    rw [(kv.2.1.2 15 k (off_inw (by decide +kernel) k)).2.2, r4]
    by_cases e : k = j
    · rw [if_pos e]; exact fun y => by cases y
    · rw [if_neg e]; exact mn k hk (by rw [ej, oj]; omega)
  · rw [ej, cj, (kv.2.1.2 15 j (off_inw (by decide +kernel) j)).2.2, r4, if_pos rfl, (kv.2.1.2 (401 + j) 0 (by rw [inw_ce (b := 401) ((cn_man hj).trans (by decide))]; decide +kernel)).1, (kv.2.1.2 (401 + j) 1 (by rw [inw_ce (b := 401) ((cn_man hj).trans (by decide))]; decide +kernel)).1, n4, q4]
    exact ⟨rfl, ej, rfl⟩
  · have nk : k ≠ j := fun e => hk.elim (fun y => y (by rw [ej, cj]; exact e)) (fun y => y ok)
    rw [(kv.2.1.2 15 k (off_inw (by decide +kernel) k)).2.2, r4, if_neg nk]
  · have nk : k ≠ j := fun e => hk.elim (fun y => y (by rw [ej, cj]; exact e)) (fun y => y ok)
    have z : inw wz_X11_putAt (401 + k) f = false := by
      rw [inw_ce (b := 401) ((cn_man l).trans (by decide))]
      have zz : (List.range 4).all (fun f => !inw wz_X11_putAt 401 f) = true := by decide +kernel
      have y := List.all_eq_true.mp zz f (List.mem_range.mpr (by omega))
      rw [Bool.not_eq_true'] at y
      exact y
    rw [(kv.2.1.2 (401 + k) f z).1]
    exact i4 k f nk
end
