section
/-! what the class makes: rows of the history, men -/
theorem y_sh {h : Hp_} {a t n b : Nat} : h_sh (h_nw h a t n) b = if b = a then some (t, n) else h_sh h b := rfl
theorem y_i {h : Hp_} {a t n b : Nat} : h_i (h_nw h a t n) b = if b = a then (fun _ => 0) else h_i h b := rfl
theorem y_r {h : Hp_} {a t n b : Nat} : h_r (h_nw h a t n) b = if b = a then (fun _ => none) else h_r h b := rfl
theorem y_shL : shL.all (fun q => Nat.ble q.1 399) = true := by decide +kernel
theorem y_rfL : rfL.all (fun q => Nat.ble q.1 399 && !(Nat.beq q.1 0 && Nat.beq q.2.1 15) && !(Nat.beq q.1 15)) = true := by decide +kernel
theorem y_tbl : tbl.all (fun q => Nat.ble q.1 399) = true := by decide +kernel
theorem lk_none {α : Type} {a : Nat} : ∀ {l : List (Nat × α)}, (∀ q ∈ l, q.1 ≠ a) → lk a l = none
  | [], _ => rfl
  | q :: t, h => by
    rw [lk_cons]
    have n : Nat.beq q.1 a = false := by
      cases z : Nat.beq q.1 a with
      | false => rfl
      | true => exact absurd (Nat.eq_of_beq_eq_true z) (h q List.mem_cons_self)
    rw [n]
    exact lk_none (fun p hp => h p (List.mem_cons_of_mem _ hp))
theorem tf_far {a : Nat} (h : 400 ≤ a) (k : Nat) : tf a k = rtop := by
  have c : 400 ≤ cn a := by
    unfold cn
    cases z : Nat.ble 401 a && Nat.ble a 412 with
    | true => show 400 ≤ 401; omega
    | false => exact h
  have e : lk (cn a) tbl = none := lk_none (fun q hq z => by
    have := Nat.ble_eq.mp (List.all_eq_true.mp y_tbl q hq)
    omega)
  unfold tf
  rw [e]
/-- what tick, and what constable, of the class may write of the cells that stand -/
noncomputable def wsX : List Nat := 0 :: 15 :: wz_X11_goOn
/-- what tick answers, and the minute then -/
noncomputable def okt (m x : Int32) : Prop := (0 ≤ x ∧ x ≤ 1500) ∧ m.toInt + x.toInt ≤ 20000
noncomputable def otk (m x r m' : Int32) : Prop := (okt m x ∧ r = m' ∧ m'.toInt = m.toInt + x.toInt) ∨ (¬ okt m x ∧ r = -1 ∧ m' = m)
noncomputable def wsC : List Nat := 7 :: 15999 :: 401999 :: wz_X11_goOn
/-- the reference's ints stay, and of the class's all but those in W -/
noncomputable def Mf (W : List Nat) (h h' : Hp_) : Prop := (∀ k, h_i h' 1 k = h_i h 1 k) ∧ (∀ a, 200 ≤ a → a < 300 → ∀ k, h_i h' a k = h_i h a k) ∧ h_sh h' 2 = h_sh h 2 ∧ ∀ a k, (a < 200 ∨ (401 ≤ a ∧ a ≤ 412)) → inw W a k = false → h_i h' a k = h_i h a k ∧ h_r h' a k = h_r h a k
theorem Mf.rf {W : List Nat} (h : Hp_) : Mf W h h := ⟨fun _ => rfl, fun _ _ _ _ => rfl, rfl, fun _ _ _ _ => ⟨rfl, rfl⟩⟩
theorem Mf.tr {W : List Nat} {h h1 h2 : Hp_} (a : Mf W h h1) (b : Mf W h1 h2) : Mf W h h2 := ⟨fun k => (b.1 k).trans (a.1 k), fun c h1 h2 k => (b.2.1 c h1 h2 k).trans (a.2.1 c h1 h2 k), b.2.2.1.trans a.2.2.1, fun c k hc hw => ⟨(b.2.2.2 c k hc hw).1.trans (a.2.2.2 c k hc hw).1, (b.2.2.2 c k hc hw).2.trans (a.2.2.2 c k hc hw).2⟩⟩
noncomputable def mfo (W ws : List Nat) : Bool := ws.all (fun w => !(Nat.ble 1000 w && Nat.ble w 1999) && !(Nat.ble 200000 w && Nat.ble w 299999)) && wsub ws W
theorem Mf.fr {W ws : List Nat} {h h' : Hp_} (c0 : mfo W ws = true) (f : Fr ws h h') : Mf W h h' := by
  unfold mfo at c0
  rw [Bool.and_eq_true] at c0
  obtain ⟨c, c2⟩ := c0
  have key : ∀ a, (a = 1 ∨ (200 ≤ a ∧ a < 300)) → ∀ k, inw ws a k = false := by
    intro a ha k
    cases q : inw ws a k with
    | false => rfl
    | true =>
      exfalso
      unfold inw at q
      obtain ⟨w, hw, e⟩ := List.any_eq_true.mp q
      have z := List.all_eq_true.mp c w hw
      rw [Bool.and_eq_true, Bool.not_eq_true', Bool.not_eq_true', Bool.and_eq_false_iff, Bool.and_eq_false_iff] at z
      have l := kk_lt k
      have ca : cn a = a := by
        unfold cn
        cases y : Nat.ble 401 a && Nat.ble a 412 with
        | false => rfl
        | true =>
          rw [Bool.and_eq_true, Nat.ble_eq] at y
          omega
      rw [ca, Bool.or_eq_true] at e
      have g : ∀ {x y : Nat}, Nat.ble x y = false → y < x := fun {x y} v => by
        rcases Nat.lt_or_ge y x with u | u
        · exact u
        · rw [Nat.ble_eq.mpr u] at v; cases v
      rcases e with e | e <;> have e := Nat.eq_of_beq_eq_true e <;> rcases z.1 with z1 | z1 <;> rcases z.2 with z2 | z2 <;> have z1 := g z1 <;> have z2 := g z2 <;> omega
  exact ⟨fun k => (f.2 1 k (key 1 (Or.inl rfl) k)).1, fun a h1 h2 k => (f.2 a k (key a (Or.inr ⟨h1, h2⟩) k)).1, congrFun f.1 2, fun a k _ hw => ⟨(f.2 a k (inw_sub c2 hw)).1, (f.2 a k (inw_sub c2 hw)).2.2⟩⟩
theorem pw15 : 2 ^ 15 = 32768 := by decide
/-- a longer row for the history -/
theorem Iv_hist {h h' : Hp_} {c N W g : Nat} (I : Iv h) (hc : h_r h 0 15 = some c) (hN : h_sh h c = some (3, N)) (g1 : g ≤ 15) (hg : 2 ^ g ≤ W ∨ W = 20000) (hf : ∀ a, 420 + g ≤ a → a < 1000 → h_sh h a = none) (lW : W ≤ 20000) (lN : N ≤ W)
    (sh : ∀ a, h_sh h' a = if a = 420 + g then some (3, W) else h_sh h a) (hi : ∀ a k, a ≠ 420 + g → h_i h' a k = h_i h a k) (hr : ∀ a k, a ≠ 420 + g → ¬ (a = 0 ∧ k = 15) → h_r h' a k = h_r h a k) (h15 : h_r h' 0 15 = some (420 + g)) : Iv h' := by
  have cn' : ∀ x, Cn h x → Cn h' x := fun x z => ⟨z.1, z.2.1, by rw [sh, if_neg (by have := z.2.1; omega)]; exact z.2.2⟩
  refine ⟨⟨fun q hq => ?_, fun q hq => ?_⟩, fun a k => ?_, fun k => ?_, ?_, ⟨420 + g, W, h15, by rw [sh, if_pos rfl], lW, ?_⟩, fun k hk => ?_, fun j hj hm => ?_, fun x M hx hM => ?_, fun t ht => ?_⟩
  · have := Nat.ble_eq.mp (List.all_eq_true.mp y_shL q hq)
    rw [sh, if_neg (by omega)]
    exact I.1.1 q hq
  · have z := List.all_eq_true.mp y_rfL q hq
    rw [Bool.and_eq_true, Bool.and_eq_true, Nat.ble_eq, Bool.not_eq_true'] at z
    rw [hr q.1 q.2.1 (by omega) (fun y => by have z2 := z.1.2; rw [y.1, y.2] at z2; exact absurd z2 (by decide))]
    exact I.1.2 q hq
  · by_cases e : a = 420 + g
    · rw [tf_far (by omega)]; exact rtop_in _
    · rw [hi a k e]; exact I.2.1 a k
  · rw [hr 15 k (by omega) (fun y => absurd y.1 (by decide))]
    rcases I.2.2.1 k with z | ⟨x, z, y⟩
    · exact Or.inl z
    · exact Or.inr ⟨x, z, cn' x y⟩
  · rw [hr 11 4 (by omega) (fun y => absurd y.1 (by decide))]
    exact I.2.2.2.1
  · obtain ⟨c2, N2, d1, d2, d3, d4⟩ := I.2.2.2.2.1
    rw [hc] at d1
    cases d1
    rw [hN] at d2
    cases d2
    rw [hi 0 0 (by omega)]
    omega
  · rw [hi 228 k (by omega)] at hk
    rw [hi 229 k (by omega)]
    exact I.2.2.2.2.2.1 k hk
  · rw [hi 0 7 (by omega)] at hm
    rw [sh, if_neg (by omega)]
    exact I.2.2.2.2.2.2.1 j hj hm
  · rw [h15] at hx
    cases hx
    rw [sh, if_pos rfl] at hM
    cases hM
    refine ⟨g + 1, by omega, ?_, fun a h1 h2 => ?_⟩
    · rcases hg with z | z
      · exact Or.inr (Or.inl z)
      · exact Or.inr (Or.inr z)
    · rw [sh, if_neg (by omega)]
      exact hf a (by omega) h2
  · rw [show h_i h' 231 = h_i h 231 from funext (fun k => hi 231 k (by omega)), hi 232 t (by omega)]
    exact I.2.2.2.2.2.2.2.2 t ht
theorem Iv_now {h : Hp_} {x : Int32} (I : Iv h) (hx : rin x.toInt (0, 20000)) (hN : ∀ c N, h_r h 0 15 = some c → h_sh h c = some (3, N) → x.toInt ≤ (N : Int)) : Iv (h_im h 0 0 x) := by
  have ne : ∀ b j, ¬ (b = 0 ∧ j = 0) → h_i (h_im h 0 0 x) b j = h_i h b j := fun b j z => by rw [h_i_im, if_neg z]
  refine ⟨I.1.im 0 0 x, fun b j => ?_, I.2.2.1, I.2.2.2.1, ?_, fun k hk => ?_, fun j hj hm => ?_, I.2.2.2.2.2.2.2.1, fun t ht => ?_⟩
  · by_cases z : b = 0 ∧ j = 0
    · rw [h_i_im, if_pos z, z.1, z.2]
      rw [show tf 0 0 = (0, 20000) by decide +kernel]
      exact hx
    · rw [ne b j z]; exact I.2.1 b j
  · obtain ⟨c, N, c1, c2, c3, _⟩ := I.2.2.2.2.1
    refine ⟨c, N, c1, c2, c3, ?_⟩
    rw [h_i_im, if_pos ⟨rfl, rfl⟩]
    exact hN c N c1 c2
  · rw [ne 228 k (by omega)] at hk
    rw [ne 229 k (by omega)]
    exact I.2.2.2.2.2.1 k hk
  · rw [ne 0 7 (by omega)] at hm
    exact I.2.2.2.2.2.2.1 j hj hm
  · rw [show h_i (h_im h 0 0 x) 231 = h_i h 231 from funext (fun k => ne 231 k (by omega)), ne 232 t (by omega)]
    exact I.2.2.2.2.2.2.2.2 t ht
/-- one man more -/
theorem Iv_man {h h' : Hp_} {j : Nat} (I : Iv h) (hj : j < 12) (e7 : h_i h 0 7 = Int32.ofNat j) (sh : ∀ a, h_sh h' a = if a = 401 + j then some (12, 17) else h_sh h a) (hi : ∀ a k, a ≠ 401 + j → ¬ (a = 0 ∧ k = 7) → h_i h' a k = h_i h a k) (h7 : h_i h' 0 7 = Int32.ofNat (j + 1))
    (hr : ∀ a k, a ≠ 401 + j → ¬ (a = 15 ∧ k = j) → h_r h' a k = h_r h a k) (h15 : h_r h' 15 j = some (401 + j)) : Iv h' := by
  have o7 : (Int32.ofNat j).toInt = (j : Int) := Int32.toInt_ofNat_of_lt (by omega)
  have o8 : (Int32.ofNat (j + 1)).toInt = ((j + 1 : Nat) : Int) := Int32.toInt_ofNat_of_lt (by omega)
  have fr : h_sh h (401 + j) = none := I.2.2.2.2.2.2.1 j hj (by rw [e7, o7]; exact Int.le_refl _)
  have cn' : ∀ x, Cn h x → Cn h' x := fun x z => ⟨z.1, z.2.1, by
    by_cases e : x = 401 + j
    · rw [sh, if_pos e]
    · rw [sh, if_neg e]; exact z.2.2⟩
  refine ⟨⟨fun q hq => ?_, fun q hq => ?_⟩, fun a k => ?_, fun k => ?_, ?_, ?_, fun k hk => ?_, fun i hi2 hm => ?_, fun x M hx hM => ?_, fun t ht => ?_⟩
  · have := Nat.ble_eq.mp (List.all_eq_true.mp y_shL q hq)
    rw [sh, if_neg (by omega)]
    exact I.1.1 q hq
  · have z := List.all_eq_true.mp y_rfL q hq
    rw [Bool.and_eq_true, Bool.and_eq_true, Nat.ble_eq] at z
    rw [hr q.1 q.2.1 (by omega) (fun y => by have z2 := z.2; rw [y.1] at z2; exact absurd z2 (by decide))]
    exact I.1.2 q hq
  · by_cases e : a = 401 + j
    · rw [tf_far (by omega)]; exact rtop_in _
    · by_cases e2 : a = 0 ∧ k = 7
      · rw [e2.1, e2.2, h7, show tf 0 7 = (0, 12) by decide +kernel, o8]
        exact ⟨by show (0 : Int) ≤ _; omega, by show _ ≤ (12 : Int); omega⟩
      · rw [hi a k e e2]; exact I.2.1 a k
  · by_cases e : k = j
    · rw [e, h15]
      exact Or.inr ⟨_, rfl, by omega, by omega, by rw [sh, if_pos rfl]⟩
    · rw [hr 15 k (by omega) (fun y => e y.2)]
      rcases I.2.2.1 k with z | ⟨x, z, y⟩
      · exact Or.inl z
      · exact Or.inr ⟨x, z, cn' x y⟩
  · rw [hr 11 4 (by omega) (fun y => absurd y.1 (by decide))]
    exact I.2.2.2.1
  · obtain ⟨c, N, c1, c2, c3, c4⟩ := I.2.2.2.2.1
    refine ⟨c, N, by rw [hr 0 15 (by omega) (fun y => absurd y.1 (by decide))]; exact c1, ?_, c3, by rw [hi 0 0 (by omega) (fun y => absurd y.2 (by decide))]; exact c4⟩
    rw [sh, if_neg (fun z => by rw [z, fr] at c2; cases c2)]
    exact c2
  · rw [hi 228 k (by omega) (by omega)] at hk
    rw [hi 229 k (by omega) (by omega)]
    exact I.2.2.2.2.2.1 k hk
  · rw [h7, o8] at hm
    rw [sh, if_neg (by omega)]
    exact I.2.2.2.2.2.2.1 i hi2 (by rw [e7, o7]; omega)
  · rw [hr 0 15 (by omega) (fun y => absurd y.1 (by decide))] at hx
    by_cases e : x = 401 + j
    · rw [sh, if_pos e] at hM; cases hM
    · rw [sh, if_neg e] at hM
      obtain ⟨g, g1, g2, g3⟩ := I.2.2.2.2.2.2.2.1 x M hx hM
      refine ⟨g, g1, g2, fun a h1 h2 => ?_⟩
      rw [sh, if_neg (by omega)]
      exact g3 a h1 h2
  · rw [show h_i h' 231 = h_i h 231 from funext (fun k => hi 231 k (by omega) (by omega)), hi 232 t (by omega) (by omega)]
    exact I.2.2.2.2.2.2.2.2 t ht
end
section
/-! the history's row grows -/
section CPL
variable {M : Mc_} {kc ks pc : Nat} {lv : List (Nat × Value)} {rest : List Value} {h : Hp_} {K : Option Value → Hp_ → Prop}
theorem aw_copyl {a b n0 n1 idx : Nat} {n : Int32} (hs0 : h_sh h a = some (3, n0)) (hs1 : h_sh h b = some (3, n1)) (hn0 : ¬ n < 0) (h4 : n.toNatClampNeg ≤ n0) (h5 : n.toNatClampNeg ≤ n1) (hlk : Cond.methodLink (mY M).cls idx arraycopyName ∈ lw_g) (hfr : 1 ≤ (mR M).frames) (hlo : (rest.map (fun v => v.category)).sum + (nativeFrameWords "java/lang/System" "arraycopy" 5 + 11) ≤ (mR M).locals) (hd : decode (mC M) pc = .ok (.invokestatic idx, 3)) (k : ∀ f, AW M kc ks (pc + 3) lv rest (h_lw h b f) K) : AW M kc ks pc lv (.int n :: .int 0 :: .ref b :: .int 0 :: .ref a :: rest) h K := by
  intro l p e s m args below meth c dC dI cy A ad0 adV ad dom0 dom H locs ls hf hX hT hE hW hS hl ho hs
  obtain ⟨q0, hq0, hw0⟩ := h_W_get (cy := cy) (ad := ad) (h := h) (wd_in hW hs0)
  obtain ⟨q1, hq1, hw1⟩ := h_W_get (cy := cy) (ad := ad) (h := h) (wd_in hW hs1)
  rw [h_ce_arr hs0 (by decide)] at hw0
  rw [h_ce_arr hs1 (by decide)] at hw1
  have z0 : (0 : Int32).toNatClampNeg = 0 := by simp
  have hz0 : ¬ (0 : Int32) < 0 := by decide
  have g4 : (0 : Int32).toNatClampNeg + n.toNatClampNeg ≤ n0 := by rw [z0, Nat.zero_add]; exact h4
  have g5 : (0 : Int32).toNatClampNeg + n.toNatClampNeg ≤ n1 := by rw [z0, Nat.zero_add]; exact h5
  refine va_copyl (t0 := 3) (t1 := 3) (q0 := q0) (q1 := q1) (ty := .long) hf.1 hf.2.1 (hf.2.2.1.trans hl.1.symm) hf.2.2.2.2.2.1 (hf.2.2.2.2.2.2.2.1 _ hlk) (hf.2.2.2.2.2.2.2.1 _ tw_nat) (hf.2.2.2.2.2.2.2.1 _ tw_1013) (hf.2.2.2.2.2.2.2.1 _ tw_21) hf.2.2.2.2.2.2.2.2.1.1 hW.2.1 hW.2.2 hS hw0 hw1 rfl rfl rfl hz0 hz0 hn0 g4 g5 ?_ hfr (by rw [cat_cv]; exact hlo) hd (fun H1 locs1 hP1 hD1 hS1 => ?_)
  · intro i hi; trivial
  have hW1 : wd_ dC dI cy A ad dom (h_lw h b (va_cpy (h_l h a) (h_l h b) (0 : Int32).toNatClampNeg (0 : Int32).toNatClampNeg n.toNatClampNeg)) H1 := wd_l hW hq1 (ce_lw hs1) hP1 hD1
  exact k (va_cpy (h_l h a) (h_l h b) (0 : Int32).toNatClampNeg (0 : Int32).toNatClampNeg n.toNatClampNeg) l p e s m args below meth c dC dI cy A ad0 adV ad dom0 dom H1 locs1 ls hf hX hT hE hW1 hS1 hl ho (ok_t (ok_t (ok_t (ok_t (ok_t hs)))))
end CPL
theorem on_i {n : Nat} (h : n ≤ 20000) : (Int32.ofNat n).toInt = (n : Int) := Int32.toInt_ofNat_of_lt (by omega)
theorem on_c {n : Nat} (h : n ≤ 20000) : (Int32.ofNat n).toNatClampNeg = n := by
  show (Int32.ofNat n).toInt.toNat = n
  rw [on_i h]; rfl
theorem c_copyOf (d : Nat) {h : Hp_} {c N W b : Nat} (hs : h_sh h c = some (3, N)) (hb : h_sh h b = none) (hbl : b < 1000) (hNW : N < W) (hW : W ≤ 20000) : Ct (m_J7_copyOf_c38d5 (d + 1) 1 W) [.ref c, .int (Int32.ofNat W)] h (fun v h' => v = some (.ref b) ∧ ∃ f, h' = h_lw (h_nw h b 3 W) b f) := by
  have eW := on_i hW
  have eN := on_i (n := N) (by omega)
  have cW := on_c hW
  have cN := on_c (n := N) (by omega)
  have z : (0 : Int32).toInt = 0 := rfl
  have cb : c ≠ b := fun e => by rw [e, hb] at hs; cases hs
  refine Ct.of (fun _ _ _ => trivial) rfl (Nat.le_of_ble_eq_true rfl) ?_
  show AW (m_J7_copyOf_c38d5 (d + 1) 1 W) 0 0 0 [(0, .ref c), (1, .int (Int32.ofNat W))] [] h _
  refine aw_iload_n (i := 1) rfl d_J7_copyOf_c38d5_0 1 rfl ?_
  refine aw_aload_n (i := 0) rfl d_J7_copyOf_c38d5_1 0 rfl ?_
  refine aw_alen (t := 3) (n := N) (v := Int32.ofNat N) hs (by decide) rfl d_J7_copyOf_c38d5_2 ?_
  refine aw_icmp_ne (tgt := 14) d_J7_copyOf_c38d5_3 rfl (fun _ => ?_) (fun e => by have := congrArg Int32.toInt e; omega)
  refine aw_iload_n (i := 1) rfl d_J7_copyOf_c38d5_14 1 rfl ?_
  refine aw_newa (t := 3) (atype := .long) b W (by decide) rfl tw_426 hb hbl xs0 (fun y => by have := q_lt.mp y; omega) cW (show W * 8 ≤ 536870912 by omega) (show 0 + 1 ≤ 1 by omega) (show 0 + W ≤ W by omega) d_J7_copyOf_c38d5_15 ?_
  have s0 : h_sh (h_nw h b 3 W) c = some (3, N) := by rw [y_sh, if_neg cb]; exact hs
  have s1 : h_sh (h_nw h b 3 W) b = some (3, W) := by rw [y_sh, if_pos rfl]
  refine aw_astore_n (i := 2) rfl [(0, .ref c), (1, .int (Int32.ofNat W)), (2, .ref b)] d_J7_copyOf_c38d5_17 (Nat.le_of_ble_eq_true rfl) rfl rfl ?_
  refine aw_aload_n (i := 0) rfl d_J7_copyOf_c38d5_18 0 rfl ?_
  refine aw_iconst (v := 0) d_J7_copyOf_c38d5_19 ic_0 ?_
  refine aw_aload_n (i := 2) rfl d_J7_copyOf_c38d5_20 2 rfl ?_
  refine aw_iconst (v := 0) d_J7_copyOf_c38d5_21 ic_0 ?_
  refine aw_aload_n (i := 0) rfl d_J7_copyOf_c38d5_22 0 rfl ?_
  refine aw_alen (t := 3) (n := N) (v := Int32.ofNat N) s0 (by decide) rfl d_J7_copyOf_c38d5_23 ?_
  refine aw_iload_n (i := 1) rfl d_J7_copyOf_c38d5_24 1 rfl ?_
  refine aw_mmin d_J7_copyOf_c38d5_25 tw_1011 (show 1 ≤ d + 1 by omega) (Nat.le_trans (Nat.le_of_ble_eq_true rfl) (show 100 ≤ 100 * (d + 1) by omega)) ⟨show 0 + 1 ≤ 1 by omega, show 0 + W ≤ W by omega⟩ ?_
  refine aw_vi (v2 := Int32.ofNat N) (if_neg (fun y => by have := q_lt.mp y; omega)) ?_
  refine aw_copyl s0 s1 (fun y => by have := q_lt.mp y; omega) (by omega) (by omega) tw_1012 (show 1 ≤ d + 1 by omega) (show 0 + (nativeFrameWords "java/lang/System" "arraycopy" 5 + 11) ≤ 100 * (d + 1) from Nat.le_trans (by decide) (show 100 ≤ 100 * (d + 1) by omega)) d_J7_copyOf_c38d5_28 (fun f => ?_)
  refine aw_aload_n (i := 2) rfl d_J7_copyOf_c38d5_31 2 rfl ?_
  exact aw_aret rfl (Or.inr ⟨_, rfl⟩) d_J7_copyOf_c38d5_32 ⟨show 0 + 1 ≤ 1 by omega, show 0 + W ≤ W by omega⟩ ⟨rfl, f, rfl⟩
/-- how long the history's row is to be -/
noncomputable def hwant (n N : Nat) : Nat := max n (min (2 * N) 20000)
theorem c_makeHistory0 (d mc ms : Nat) {h : Hp_} (I : Iv h) {c N n : Nat} (hc : h_r h 0 15 = some c) (hs : h_sh h c = some (3, N)) (hN : N ≤ 20000) (hn : n ≤ N) : Cv (m_X11_makeHistory (d + 2) mc ms) [.ref 0, .int (Int32.ofNat n)] h (fun h' => h' = h) := by
  have w := I.1
  have e1 := on_i hN
  have e2 := on_i (n := n) (by omega)
  refine Ct.of (fun _ _ _ => trivial) pn_X11 (Nat.le_of_ble_eq_true rfl) ?_
  show AW (m_X11_makeHistory (d + 2) mc ms) 0 0 0 [(0, .ref 0), (1, .int (Int32.ofNat n))] [] h (kV _)
  refine aw_iload_n (i := 1) rfl d_X11_makeHistory_0 1 rfl ?_
  refine aw_aload_n (i := 0) rfl d_X11_makeHistory_1 0 rfl ?_
  refine aw_getr (k0 := 15) kc_11 (ws_0 w) (Nat.le_of_ble_eq_true rfl) tw_502 d_X11_makeHistory_2 rfl hc ?_
  refine aw_alen (t := 3) (n := N) (v := Int32.ofNat N) hs (by decide) rfl d_X11_makeHistory_5 ?_
  refine aw_icmp_le (tgt := 39) d_X11_makeHistory_6 rfl (fun _ => ?_) (fun y => by have := q_nle y; omega)
  exact aw_vret rfl d_X11_makeHistory_39 ⟨Nat.zero_le _, Nat.zero_le _⟩ ⟨rfl, rfl⟩
theorem c_makeHistory1 (d : Nat) {h : Hp_} (I : Iv h) {c N n : Nat} (hc : h_r h 0 15 = some c) (hs : h_sh h c = some (3, N)) (hN : N ≤ 20000) (hn : N < n) (hn2 : n ≤ 20000) : Cv (m_X11_makeHistory (d + 2) 1 (hwant n N)) [.ref 0, .int (Int32.ofNat n)] h (fun h' => Iv h' ∧ Mf wsX h h' ∧ h_i h' 0 = h_i h 0 ∧ ∃ c', h_r h' 0 15 = some c' ∧ h_sh h' c' = some (3, hwant n N)) := by
  have w := I.1
  have e1 := on_i hN
  have e2 := on_i (n := n) (by omega)
  have t2 : (2 : Int32).toInt = 2 := rfl
  have t20 : (20000 : Int32).toInt = 20000 := rfl
  have lW : hwant n N ≤ 20000 := by unfold hwant; omega
  have gW : N < hwant n N := by unfold hwant; omega
  have eW := on_i lW
  obtain ⟨g, g1, g2, g3⟩ := I.2.2.2.2.2.2.2.1 c N hc hs
  have k15 : g ≤ 15 := by
    rcases Nat.lt_or_ge 15 g with y | y
    · exfalso
      have p : 2 ^ 15 ≤ 2 ^ (g - 1) := Nat.pow_le_pow_right (by omega) (by omega)
      rw [pw15] at p
      rcases g2 with q | q | q
      · omega
      · omega
      · omega
    · exact y
  have hgW : 2 ^ g ≤ hwant n N ∨ hwant n N = 20000 := by
    rcases g2 with q | q | q
    · left; rw [q]; show 1 ≤ _; omega
    · rcases Nat.lt_or_ge 20000 (2 * N) with y | y
      · right; unfold hwant; omega
      · left
        rcases Nat.eq_zero_or_pos g with u | u
        · rw [u]; show 1 ≤ _; omega
        · have : 2 ^ g = 2 * 2 ^ (g - 1) := by rw [← Nat.pow_succ']; congr 1; omega
          rw [this]
          unfold hwant
          omega
    · omega
  have fb := g3 (420 + g) (Nat.le_refl _) (by omega)
  refine Ct.of (fun _ _ _ => trivial) pn_X11 (Nat.le_of_ble_eq_true rfl) ?_
  show AW (m_X11_makeHistory (d + 2) 1 (hwant n N)) 0 0 0 [(0, .ref 0), (1, .int (Int32.ofNat n))] [] h (kV _)
  refine aw_iload_n (i := 1) rfl d_X11_makeHistory_0 1 rfl ?_
  refine aw_aload_n (i := 0) rfl d_X11_makeHistory_1 0 rfl ?_
  refine aw_getr (k0 := 15) kc_11 (ws_0 w) (Nat.le_of_ble_eq_true rfl) tw_502 d_X11_makeHistory_2 rfl hc ?_
  refine aw_alen (t := 3) (n := N) (v := Int32.ofNat N) hs (by decide) rfl d_X11_makeHistory_5 ?_
  refine aw_icmp_le (tgt := 39) d_X11_makeHistory_6 rfl (fun y => by have := q_le.mp y; omega) (fun _ => ?_)
  refine aw_iload_n (i := 1) rfl d_X11_makeHistory_9 1 rfl ?_
  refine aw_iconst (v := 2) d_X11_makeHistory_10 ic_2 ?_
  refine aw_aload_n (i := 0) rfl d_X11_makeHistory_11 0 rfl ?_
  refine aw_getr (k0 := 15) kc_11 (ws_0 w) (Nat.le_of_ble_eq_true rfl) tw_502 d_X11_makeHistory_12 rfl hc ?_
  refine aw_alen (t := 3) (n := N) (v := Int32.ofNat N) hs (by decide) rfl d_X11_makeHistory_15 ?_
  refine aw_imul d_X11_makeHistory_16 ?_
  have em : (2 * Int32.ofNat N).toInt = 2 * (N : Int) := by rw [tx_mul (by rw [t2]; omega) (by rw [t2]; omega), t2, e1]
  refine aw_sipush (v := 20000) d_X11_makeHistory_17 is_20000 ?_
  refine aw_mmin d_X11_makeHistory_20 tw_999 (show 1 ≤ d + 2 by omega) (Nat.le_trans (Nat.le_of_ble_eq_true rfl) (show 100 ≤ 100 * (d + 2) by omega)) ⟨Nat.zero_le _, Nat.zero_le _⟩ ?_
  refine aw_mmax d_X11_makeHistory_23 tw_1000 (show 1 ≤ d + 2 by omega) (Nat.le_trans (Nat.le_of_ble_eq_true rfl) (show 100 ≤ 100 * (d + 2) by omega)) ⟨Nat.zero_le _, Nat.zero_le _⟩ ?_
  refine aw_vi (v2 := Int32.ofNat (hwant n N)) (by
    refine Int32.toInt_inj.mp ?_
    rw [eW]
    unfold hwant
    split
    · rename_i y
      have y := q_lt.mp y
      split
      · rename_i z
        have z := q_lt.mp z
        omega
      · rename_i z
        have z := q_nlt z
        omega
    · rename_i y
      have y := q_nlt y
      split
      · rename_i z
        have z := q_lt.mp z
        omega
      · rename_i z
        have z := q_nlt z
        omega) ?_
  refine aw_istore_n (i := 2) rfl [(0, .ref 0), (1, .int (Int32.ofNat n)), (2, .int (Int32.ofNat (hwant n N)))] d_X11_makeHistory_26 (Nat.le_of_ble_eq_true rfl) rfl rfl ?_
  refine aw_aload_n (i := 0) rfl d_X11_makeHistory_27 0 rfl ?_
  refine aw_aload_n (i := 0) rfl d_X11_makeHistory_28 0 rfl ?_
  refine aw_getr (k0 := 15) kc_11 (ws_0 w) (Nat.le_of_ble_eq_true rfl) tw_502 d_X11_makeHistory_29 rfl hc ?_
  refine aw_iload_n (i := 2) rfl d_X11_makeHistory_32 2 rfl ?_
  refine aw_callS (vs := [.ref c, .int (Int32.ofNat (hwant n N))]) (rest := [.ref 0]) d_X11_makeHistory_33 (cS_J7_copyOf_c38d5 (d + 1) 1 (hwant n N)).1 (cS_J7_copyOf_c38d5 (d + 1) 1 (hwant n N)).2 tw_1001 rfl ⟨show d + 1 + 1 ≤ d + 2 by omega, show 8 + (3 + 11) + 100 * (d + 1) ≤ 100 * (d + 2) by omega⟩ (by decide) ⟨show 0 + 1 ≤ 1 by omega, show 0 + hwant n N ≤ hwant n N by omega⟩ xs0 (c_copyOf d hs fb (by omega) gW lW) (fun v h' kk => ?_)
  obtain ⟨ev, f, eh⟩ := kk
  rw [ev, eh]
  have s0 : h_sh (h_lw (h_nw h (420 + g) 3 (hwant n N)) (420 + g) f) 0 = some (21, 16) := by rw [h_sh_lw, y_sh, if_neg (by omega)]; exact ws_0 w
  refine aw_putr (k0 := 15) kc_11 s0 (Nat.le_of_ble_eq_true rfl) tw_502 d_X11_makeHistory_36 rfl rfl ?_
  have sh : ∀ a, h_sh (h_rm (h_lw (h_nw h (420 + g) 3 (hwant n N)) (420 + g) f) 0 15 (some (420 + g))) a = if a = 420 + g then some (3, hwant n N) else h_sh h a := fun a => by rw [h_sh_rm, h_sh_lw, y_sh]
  have hi : ∀ a k, a ≠ 420 + g → h_i (h_rm (h_lw (h_nw h (420 + g) 3 (hwant n N)) (420 + g) f) 0 15 (some (420 + g))) a k = h_i h a k := fun a k z => by
    rw [h_i_rm]
    show h_i (h_nw h (420 + g) 3 (hwant n N)) a k = _
    rw [y_i, if_neg z]
  have hr : ∀ a k, a ≠ 420 + g → ¬ (a = 0 ∧ k = 15) → h_r (h_rm (h_lw (h_nw h (420 + g) 3 (hwant n N)) (420 + g) f) 0 15 (some (420 + g))) a k = h_r h a k := fun a k z z2 => by
    rw [h_r_rm, if_neg z2]
    show h_r (h_nw h (420 + g) 3 (hwant n N)) a k = _
    rw [y_r, if_neg z]
  have h15 : h_r (h_rm (h_lw (h_nw h (420 + g) 3 (hwant n N)) (420 + g) f) 0 15 (some (420 + g))) 0 15 = some (420 + g) := by rw [h_r_rm, if_pos ⟨rfl, rfl⟩]
  exact aw_vret rfl d_X11_makeHistory_39 ⟨show 0 + 1 ≤ 1 by omega, show 0 + hwant n N ≤ hwant n N by omega⟩ ⟨rfl, Iv_hist I hc hs k15 hgW g3 lW (by omega) sh hi hr h15, ⟨fun k => hi 1 k (by omega), fun a h1 h2 k => hi a k (by omega), by rw [sh, if_neg (by omega)], fun a k ha hw => ⟨hi a k (by omega), hr a k (by omega) (fun z => by rw [z.1, z.2] at hw; exact absurd hw (by decide +kernel))⟩⟩, funext (fun k => hi 0 k (by omega)), 420 + g, h15, by rw [sh, if_pos rfl]⟩
end
section
/-! the class's tick -/
theorem aw_Vk {M M' : Mc_} {K : Option Value → Hp_ → Prop} {kc ks pc n idx ci N a : Nat} {lv : List (Nat × Value)} {rest : List Value} {h : Hp_} {c : Ctr} {T : u_T} (vs : List Value) (hC : Hc M' c) (ma : am h (vs.reverse ++ [.ref a]) c.1) (I : Iv h) (hp : hm h c.2.1) (hd : decode (mC M) pc = .ok (.invokevirtual idx, 3)) (hm : cV_ M' n) (hkc : kc_ ci (mY M').cls T N) (hs : h_sh h a = some (ci + 10, N)) (hlk : Cond.methodLink (mY M).cls idx (mY M') ∈ lw_g) (hn : vs.length = n) (hc : (rest.map (fun v => v.category)).sum ≤ 8) (hz : ((mR M').frames + 1 ≤ (mR M).frames ∧ 8 + (mN M' + 11) + (mR M').locals ≤ (mR M).locals) ∧ (mR M').cells = 0 ∧ (mR M').slots = 0 ∧ xs_ M) (hk : kc ≤ (mR M).cells ∧ ks ≤ (mR M).slots)
    (k : ∀ v h', Kc c.2.2.2.2 h c.2.2.1 c.2.2.2.1 v h' → AW M kc ks (pc + 3) lv (v.toList ++ rest) h' K) : AW M kc ks pc lv (vs.reverse ++ .ref a :: rest) h K := by
  have C := hC _ h ma I hp
  rw [List.reverse_append, List.reverse_reverse, List.reverse_singleton, List.singleton_append] at C
  exact aw_callV hd hm.1 hkc hs hm.2.1 hm.2.2 hlk hn hz.1 hc ⟨by rw [hz.2.1]; exact hk.1, by rw [hz.2.2.1]; exact hk.2⟩ hz.2.2.2 C (fun v h' kv => by rw [hz.2.1, hz.2.2.1]; exact k v h' kv)
/-- what stands while the minutes pass -/
noncomputable def Tk (h0 : Hp_) (c N : Nat) (y : Int32) (h : Hp_) : Prop := Iv h ∧ Mf wsX h0 h ∧ h_r h 0 15 = some c ∧ h_sh h c = some (3, N) ∧ h_i h 0 0 = y
noncomputable def tK (h0 : Hp_) (c N : Nat) (F : Int) : Option Value → Hp_ → Prop := kI (fun r h' => Iv h' ∧ Mf wsX h0 h' ∧ h_r h' 0 15 = some c ∧ h_sh h' c = some (3, N) ∧ r = h_i h' 0 0 ∧ (h_i h' 0 0).toInt = F)
theorem tk_fr {h0 h h' : Hp_} {c N : Nat} {y : Int32} (t : Tk h0 c N y h) (I : Iv h') (f : Fr wz_X11_goOn h h') : Tk h0 c N y h' :=
  ⟨I, t.2.1.tr (Mf.fr (by decide +kernel) f), by rw [(f.2 0 15 (by decide +kernel)).2.2]; exact t.2.2.1, by rw [f.1]; exact t.2.2.2.1, by rw [(f.2 0 0 (by decide +kernel)).1]; exact t.2.2.2.2⟩
theorem tk_in {F : Int} (d mc ms kc ks : Nat) (hk : kc ≤ mc ∧ ks ≤ ms) (h0 : Hp_) (c N : Nat) (x1 x2 y : Int32)
    (O : ∀ h, Tk h0 c N y h → AW (m_X11_tick (d + 8) mc ms) kc ks 112 [(0, .ref 0), (1, .int x1), (2, .int x2)] [] h (tK h0 c N F)) :
    ∀ (r : Nat) (x3 : Int32) (h : Hp_), 0 ≤ x3.toInt → 12 - x3.toInt ≤ r → Tk h0 c N y h → AW (m_X11_tick (d + 8) mc ms) kc ks 67 [(0, .ref 0), (1, .int x1), (2, .int x2), (3, .int x3)] [] h (tK h0 c N F) := by
  have t1 : (1 : Int32).toInt = 1 := rfl
  intro r
  induction r with
  | zero =>
    intro x3 h p3 m3 t
    have I := t.1
    have w := I.1
    have e7 : rin (h_i h 0 7).toInt (0, 12) := by
      have := I.2.1 0 7
      rwa [show tf 0 7 = (0, 12) by decide +kernel] at this
    have e71 : (h_i h 0 7).toInt ≤ 12 := e7.2
    refine aw_iload_n (i := 3) rfl d_X11_tick_67 3 rfl ?_
    refine aw_aload_n (i := 0) rfl d_X11_tick_68 0 rfl ?_
    refine aw_geti (k0 := 7) kc_11 (ws_0 w) (Nat.le_of_ble_eq_true rfl) tw_494 d_X11_tick_69 rfl ?_
    refine aw_icmp_ge (tgt := 112) d_X11_tick_72 rfl (fun _ => aw_lvp [0, 1, 2] _ rfl (O h t)) (fun z => ?_)
    have z := q_nle z
    omega
  | succ r ih =>
    intro x3 h p3 m3 t
    have I := t.1
    have w := I.1
    have e7 : rin (h_i h 0 7).toInt (0, 12) := by
      have := I.2.1 0 7
      rwa [show tf 0 7 = (0, 12) by decide +kernel] at this
    have e71 : (h_i h 0 7).toInt ≤ 12 := e7.2
    refine aw_iload_n (i := 3) rfl d_X11_tick_67 3 rfl ?_
    refine aw_aload_n (i := 0) rfl d_X11_tick_68 0 rfl ?_
    refine aw_geti (k0 := 7) kc_11 (ws_0 w) (Nat.le_of_ble_eq_true rfl) tw_494 d_X11_tick_69 rfl ?_
    refine aw_icmp_ge (tgt := 112) d_X11_tick_72 rfl (fun _ => aw_lvp [0, 1, 2] _ rfl (O h t)) (fun z => ?_)
    have z := q_nle z
    have e1 : (x3 + 1).toInt = x3.toInt + 1 := tx_add (by rw [t1]; omega) (by rw [t1]; omega)
    have on : ∀ (v : Value) (h' : Hp_), Tk h0 c N y h' → AW (m_X11_tick (d + 8) mc ms) kc ks 106 [(0, .ref 0), (1, .int x1), (2, .int x2), (3, .int x3), (4, v)] [] h' (tK h0 c N F) := by
      intro v h' t'
      refine aw_lvp [0, 1, 2, 3] [(0, .ref 0), (1, .int x1), (2, .int x2), (3, .int x3)] rfl ?_
      refine aw_iinc (v := (x3 + 1)) [(0, .ref 0), (1, .int x1), (2, .int x2), (3, .int (x3 + 1))] d_X11_tick_106 3 rfl rfl (Nat.le_of_ble_eq_true rfl) rfl rfl ?_
      refine aw_goto (tgt := 67) d_X11_tick_109 rfl ?_
      exact ih (x3 + 1) h' (by omega) (by omega) t'
    refine aw_aload_n (i := 0) rfl d_X11_tick_75 0 rfl ?_
    refine aw_getr (k0 := 6) kc_11 (ws_0 w) (Nat.le_of_ble_eq_true rfl) tw_493 d_X11_tick_76 rfl (wr_0_6 w) ?_
    refine aw_iload_n (i := 3) rfl d_X11_tick_79 3 rfl ?_
    have hv : vp_in x3 12 := dp_in (lo := 0) (hi := 11) ⟨p3, by show _ ≤ (11 : Int); omega⟩ (by decide) (by decide)
    rcases I.2.2.1 x3.toNatClampNeg with q | ⟨b, q, hb⟩
    · refine aw_aaldn (ws_15 w) hv q d_X11_tick_80 ?_
      refine aw_astoreN (i := 4) [(0, .ref 0), (1, .int x1), (2, .int x2), (3, .int x3), (4, .null)] d_X11_tick_81 (Nat.le_of_ble_eq_true rfl) rfl rfl ?_
      refine aw_aloadN (i := 4) d_X11_tick_83 4 rfl ?_
      refine aw_ifnullN (tgt := 106) d_X11_tick_85 rfl ?_
      exact on _ h t
    · refine aw_aaldr (ws_15 w) hv q d_X11_tick_80 ?_
      refine aw_astore (i := 4) [(0, .ref 0), (1, .int x1), (2, .int x2), (3, .int x3), (4, .ref b)] d_X11_tick_81 (Nat.le_of_ble_eq_true rfl) rfl rfl ?_
      refine aw_aload d_X11_tick_83 4 rfl ?_
      refine aw_ifnull d_X11_tick_85 ?_
      refine aw_aload d_X11_tick_88 4 rfl ?_
      refine aw_geti (k0 := 7) kc_2 hb.2.2 (Nat.le_of_ble_eq_true rfl) tw_587 d_X11_tick_90 rfl ?_
      refine aw_aload_n (i := 0) rfl d_X11_tick_93 0 rfl ?_
      refine aw_geti (k0 := 0) kc_11 (ws_0 w) (Nat.le_of_ble_eq_true rfl) tw_487 d_X11_tick_94 rfl ?_
      refine aw_icmp_ne (tgt := 106) d_X11_tick_97 rfl (fun _ => on _ h t) (fun _ => ?_)
      refine aw_aload_n (i := 0) rfl d_X11_tick_100 0 rfl ?_
      refine aw_aload d_X11_tick_101 4 rfl ?_
      refine aw_Vk (M' := m_X11_goOn (d + 7) 0 0) [.ref b] (hc_X11_goOn d) ⟨⟨b, rfl, hb⟩, rfl, trivial⟩ I (fun p hp => ?_) d_X11_tick_103 (cV_X11_goOn (d + 7) 0 0) kc_11 (ws_0 w) tw_1015 rfl (Nat.le_of_ble_eq_true rfl) ⟨⟨show d + 7 + 1 ≤ d + 8 by omega, show 8 + (_ + 11) + 100 * (d + 7) ≤ 100 * (d + 8) from Nat.le_trans (Nat.add_le_add_right (Nat.le_of_ble_eq_true rfl : 8 + (_ + 11) ≤ 100) _) (by omega)⟩, rfl, rfl, xs0⟩ hk (fun v h' kv => ?_)
      · rw [mem1 hp]
        exact ⟨show (1 : Int) ≤ (h_i h 0 7).toInt by omega, e71⟩
      · have ev : v = none := kv.2.2.2
        subst ev
        exact on _ h' (tk_fr t kv.1 kv.2.1)
theorem tk_out {F : Int} (d mc ms kc ks : Nat) (hk : kc ≤ mc ∧ ks ≤ ms) (h0 : Hp_) (c N : Nat) (x1 : Int32) (hx1 : rin x1.toInt (0, 1500)) (hN : N ≤ 20000) :
    ∀ (r : Nat) (x2 y : Int32) (h : Hp_), 0 ≤ x2.toInt → x1.toInt - x2.toInt ≤ r → x2.toInt ≤ x1.toInt → 0 ≤ y.toInt → (y.toInt + (x1.toInt - x2.toInt) ≤ (N : Int) ∧ y.toInt + (x1.toInt - x2.toInt) = F) → Tk h0 c N y h → AW (m_X11_tick (d + 8) mc ms) kc ks 37 [(0, .ref 0), (1, .int x1), (2, .int x2)] [] h (tK h0 c N F) := by
  have t1 : (1 : Int32).toInt = 1 := rfl
  have b0 : 0 ≤ x1.toInt := hx1.1
  have b1 : x1.toInt ≤ 1500 := hx1.2
  intro r
  induction r with
  | zero =>
    intro x2 y h p2 m2 u2 py my t
    have w := t.1.1
    refine aw_iload_n (i := 2) rfl d_X11_tick_37 2 rfl ?_
    refine aw_iload_n (i := 1) rfl d_X11_tick_38 1 rfl ?_
    refine aw_icmp_ge (tgt := 118) d_X11_tick_39 rfl (fun _ => ?_) (fun z => by have z := q_nle z; omega)
    refine aw_aload_n (i := 0) rfl d_X11_tick_118 0 rfl ?_
    refine aw_geti (k0 := 0) kc_11 (ws_0 w) (Nat.le_of_ble_eq_true rfl) tw_487 d_X11_tick_119 rfl ?_
    exact aw_iret rfl d_X11_tick_122 hk ⟨_, rfl, t.1, t.2.1, t.2.2.1, t.2.2.2.1, rfl, by rw [t.2.2.2.2]; omega⟩
  | succ r ih =>
    intro x2 y h p2 m2 u2 py my t
    have I := t.1
    have w := I.1
    refine aw_iload_n (i := 2) rfl d_X11_tick_37 2 rfl ?_
    refine aw_iload_n (i := 1) rfl d_X11_tick_38 1 rfl ?_
    refine aw_icmp_ge (tgt := 118) d_X11_tick_39 rfl (fun zz => ?_) (fun z => ?_)
    · have zz := q_le.mp zz
      refine aw_aload_n (i := 0) rfl d_X11_tick_118 0 rfl ?_
      refine aw_geti (k0 := 0) kc_11 (ws_0 w) (Nat.le_of_ble_eq_true rfl) tw_487 d_X11_tick_119 rfl ?_
      exact aw_iret rfl d_X11_tick_122 hk ⟨_, rfl, t.1, t.2.1, t.2.2.1, t.2.2.2.1, rfl, by rw [t.2.2.2.2]; omega⟩
    · have z := q_nle z
      have ey := t.2.2.2.2
      have e1 : (y + 1).toInt = y.toInt + 1 := tx_add (by rw [t1]; omega) (by rw [t1]; omega)
      have e2 : (x2 + 1).toInt = x2.toInt + 1 := tx_add (by rw [t1]; omega) (by rw [t1]; omega)
      refine aw_aload_n (i := 0) rfl d_X11_tick_42 0 rfl ?_
      refine aw_getr (k0 := 15) kc_11 (ws_0 w) (Nat.le_of_ble_eq_true rfl) tw_502 d_X11_tick_43 rfl t.2.2.1 ?_
      refine aw_aload_n (i := 0) rfl d_X11_tick_46 0 rfl ?_
      refine aw_geti (k0 := 0) kc_11 (ws_0 w) (Nat.le_of_ble_eq_true rfl) tw_487 d_X11_tick_47 rfl ?_
      refine aw_vi (v2 := y) ey ?_
      refine aw_aload_n (i := 0) rfl d_X11_tick_50 0 rfl ?_
      refine aw_getl (k0 := 14) kc_11 (ws_0 w) (Nat.le_of_ble_eq_true rfl) tw_501 d_X11_tick_51 rfl ?_
      refine aw_last t.2.2.2.1 (dp_in (lo := 0) (hi := (N : Int) - 1) ⟨py, by show _ ≤ (N : Int) - 1; omega⟩ (by omega) (by omega)) d_X11_tick_54 ?_
      have I1 : Iv (h_lm h c y.toNatClampNeg (h_l h 0 14)) := I.lm
      generalize hg : h_lm h c y.toNatClampNeg (h_l h 0 14) = h1 at I1 ⊢
      have s1 : h_sh h1 = h_sh h := by rw [← hg]; rfl
      have i1 : h_i h1 = h_i h := by rw [← hg]; rfl
      have r1 : h_r h1 = h_r h := by rw [← hg]; rfl
      refine aw_aload_n (i := 0) rfl d_X11_tick_55 0 rfl ?_
      refine aw_dup d_X11_tick_56 rfl ?_
      refine aw_geti (k0 := 0) kc_11 (ws_0 I1.1) (Nat.le_of_ble_eq_true rfl) tw_487 d_X11_tick_57 rfl ?_
      refine aw_iconst (v := 1) d_X11_tick_60 ic_1 ?_
      refine aw_iadd d_X11_tick_61 ?_
      refine aw_vi (v2 := y + 1) (by rw [i1, ey]) ?_
      refine aw_puti (k0 := 0) kc_11 (ws_0 I1.1) (Nat.le_of_ble_eq_true rfl) tw_487 d_X11_tick_62 rfl rfl nf_i ?_
      have I2 : Iv (h_im h1 0 0 (y + 1)) := Iv_now I1 ⟨by show (0 : Int) ≤ _; omega, by show _ ≤ (20000 : Int); omega⟩ (fun c' N' a1 a2 => by
        rw [r1, t.2.2.1] at a1
        cases a1
        rw [s1, t.2.2.2.1] at a2
        cases a2
        omega)
      refine aw_iconst (v := 0) d_X11_tick_65 ic_0 ?_
      refine aw_istore_n (i := 3) rfl [(0, .ref 0), (1, .int x1), (2, .int x2), (3, .int 0)] d_X11_tick_66 (Nat.le_of_ble_eq_true rfl) rfl rfl ?_
      refine tk_in d mc ms kc ks hk h0 c N x1 x2 (y + 1) (fun h' t' => ?_) 12 0 _ (by decide) (by decide) ⟨I2, ⟨fun k => ?_, fun a h1' h2' k => ?_, ?_, fun a k ha hw => ?_⟩, ?_, ?_, ?_⟩
      · refine aw_iinc (v := (x2 + 1)) [(0, .ref 0), (1, .int x1), (2, .int (x2 + 1))] d_X11_tick_112 2 rfl rfl (Nat.le_of_ble_eq_true rfl) rfl rfl ?_
        refine aw_goto (tgt := 37) d_X11_tick_115 rfl ?_
        exact ih (x2 + 1) (y + 1) h' (by omega) (by omega) (by omega) (by omega) (by omega) t'
      · rw [h_i_im, if_neg (fun z => absurd z.1 (by decide)), i1]; exact t.2.1.1 k
      · rw [h_i_im, if_neg (fun z => by omega), i1]; exact t.2.1.2.1 a h1' h2' k
      · show h_sh h1 2 = _
        rw [s1]; exact t.2.1.2.2.1
      · exact ⟨by rw [h_i_im, if_neg (fun z => by rw [z.1, z.2] at hw; exact absurd hw (by decide +kernel)), i1]; exact (t.2.1.2.2.2 a k ha hw).1, by show h_r h1 a k = _; rw [r1]; exact (t.2.1.2.2.2 a k ha hw).2⟩
      · show h_r h1 0 15 = _
        rw [r1]; exact t.2.2.1
      · show h_sh h1 c = _
        rw [s1]; exact t.2.2.2.1
      · rw [h_i_im, if_pos ⟨rfl, rfl⟩]
/-- what a tick costs: nothing, or a row at least twice as long, or the longest -/
noncomputable def hcost (mc ms N N' : Nat) : Prop := (mc = 0 ∧ ms = 0 ∧ N' = N) ∨ (mc = 1 ∧ ms = N' ∧ N < N' ∧ (2 * N ≤ N' ∨ N' = 20000))
theorem c_tick (d : Nat) {h : Hp_} (I : Iv h) (x : Int32) {c N : Nat} (hc : h_r h 0 15 = some c) (hs : h_sh h c = some (3, N)) (hN : N ≤ 20000) : ∃ mc ms N', N' ≤ 20000 ∧ hcost mc ms N N' ∧ Ci (m_X11_tick (d + 8) mc ms) [.ref 0, .int x] h (fun r h' => Iv h' ∧ Mf wsX h h' ∧ (∃ c', h_r h' 0 15 = some c' ∧ h_sh h' c' = some (3, N')) ∧ otk (h_i h 0 0) x r (h_i h' 0 0)) := by
  have w := I.1
  have t20 : (20000 : Int32).toInt = 20000 := rfl
  have t15 : (1500 : Int32).toInt = 1500 := rfl
  have t0 : (0 : Int32).toInt = 0 := rfl
  have nr : rin (h_i h 0 0).toInt (0, 20000) := by
    have := I.2.1 0 0
    rwa [show tf 0 0 = (0, 20000) by decide +kernel] at this
  have n0 : 0 ≤ (h_i h 0 0).toInt := nr.1
  have n1 : (h_i h 0 0).toInt ≤ 20000 := nr.2
  by_cases ok : (0 ≤ x ∧ x ≤ 1500) ∧ (h_i h 0 0).toInt + x.toInt ≤ 20000
  · have x0 : 0 ≤ x.toInt := by have := q_le.mp ok.1.1; omega
    have x1 : x.toInt ≤ 1500 := by have := q_le.mp ok.1.2; omega
    have es : (h_i h 0 0 + x).toInt = (h_i h 0 0).toInt + x.toInt := tx_add (by omega) (by omega)
    have en : h_i h 0 0 + x = Int32.ofNat ((h_i h 0 0).toInt + x.toInt).toNat := by
      refine Int32.toInt_inj.mp ?_
      rw [on_i (by omega), es]
      omega
    have go : ∀ mc ms N' : Nat, N' ≤ 20000 → (h_i h 0 0).toInt + x.toInt ≤ (N' : Int) → Cv (m_X11_makeHistory (d + 7) mc ms) [.ref 0, .int (Int32.ofNat ((h_i h 0 0).toInt + x.toInt).toNat)] h (fun h' => Iv h' ∧ Mf wsX h h' ∧ h_i h' 0 = h_i h 0 ∧ ∃ c', h_r h' 0 15 = some c' ∧ h_sh h' c' = some (3, N')) →
        Ci (m_X11_tick (d + 8) mc ms) [.ref 0, .int x] h (fun r h' => Iv h' ∧ Mf wsX h h' ∧ (∃ c', h_r h' 0 15 = some c' ∧ h_sh h' c' = some (3, N')) ∧ otk (h_i h 0 0) x r (h_i h' 0 0)) := by
      intro mc ms N' lN' gN' hm
      refine Ct.of (fun _ _ _ => trivial) rfl (Nat.le_of_ble_eq_true rfl) ?_
      show AW (m_X11_tick (d + 8) mc ms) 0 0 0 [(0, .ref 0), (1, .int x)] [] h (kI _)
      refine aw_iload_n (i := 1) rfl d_X11_tick_0 1 rfl ?_
      refine aw_iconst (v := 0) d_X11_tick_1 ic_0 ?_
      refine aw_sipush (v := 1500) d_X11_tick_2 is_1500 ?_
      refine aw_Si [.int x, .int 0, .int 1500] [] d_X11_tick_5 (cS_X11_within (d + 7) 0 0) tw_543 rfl ⟨⟨show d + 7 + 1 ≤ d + 8 by omega, show 8 + (3 + 11) + 100 * (d + 7) ≤ 100 * (d + 8) by omega⟩, Nat.zero_le _, Nat.zero_le _⟩ (by decide) xs0 (s_X11_within (d + 7) h x 0 1500) (fun _ _ kk => ?_)
      obtain ⟨e1, e2⟩ := kk
      rw [e1, e2]
      refine aw_ifb_eq (tgt := 23) d_X11_tick_8 rfl (fun z => absurd ok.1 z) (fun _ => ?_)
      refine aw_aload_n (i := 0) rfl d_X11_tick_11 0 rfl ?_
      refine aw_geti (k0 := 0) kc_11 (ws_0 w) (Nat.le_of_ble_eq_true rfl) tw_487 d_X11_tick_12 rfl ?_
      refine aw_iload_n (i := 1) rfl d_X11_tick_15 1 rfl ?_
      refine aw_iadd d_X11_tick_16 ?_
      refine aw_sipush (v := 20000) d_X11_tick_17 is_20000 ?_
      refine aw_icmp_le (tgt := 25) d_X11_tick_20 rfl (fun _ => ?_) (fun z => by have := q_nle z; omega)
      refine aw_aload_n (i := 0) rfl d_X11_tick_25 0 rfl ?_
      refine aw_aload_n (i := 0) rfl d_X11_tick_26 0 rfl ?_
      refine aw_geti (k0 := 0) kc_11 (ws_0 w) (Nat.le_of_ble_eq_true rfl) tw_487 d_X11_tick_27 rfl ?_
      refine aw_iload_n (i := 1) rfl d_X11_tick_30 1 rfl ?_
      refine aw_iadd d_X11_tick_31 ?_
      refine aw_vi (v2 := Int32.ofNat ((h_i h 0 0).toInt + x.toInt).toNat) en ?_
      refine aw_Vv 0 [.int (Int32.ofNat ((h_i h 0 0).toInt + x.toInt).toNat)] [] d_X11_tick_32 (cV_X11_makeHistory (d + 7) mc ms) kc_11 (ws_0 w) tw_995 rfl ⟨⟨show d + 7 + 1 ≤ d + 8 by omega, show 8 + (3 + 11) + 100 * (d + 7) ≤ 100 * (d + 8) by omega⟩, show 0 + 0 + mc ≤ mc by omega, show 0 + 0 + ms ≤ ms by omega⟩ (by decide) xs0 hm (fun h1 kk => ?_)
      obtain ⟨I1, M1, i1, c', r1, s1⟩ := kk
      refine aw_iconst (v := 0) d_X11_tick_35 ic_0 ?_
      refine aw_istore_n (i := 2) rfl [(0, .ref 0), (1, .int x), (2, .int 0)] d_X11_tick_36 (Nat.le_of_ble_eq_true rfl) rfl rfl ?_
      refine AW.mono (tk_out (F := (h_i h 0 0).toInt + x.toInt) d mc ms _ _ ⟨show 0 + 0 + mc ≤ mc by omega, show 0 + 0 + ms ≤ ms by omega⟩ h c' N' x ⟨x0, x1⟩ lN' 1500 0 (h_i h 0 0) h1 (by decide) (by omega) (by omega) n0 (by omega) ⟨I1, M1, r1, s1, by rw [i1]⟩) (fun v h' q => ?_)
      obtain ⟨r, ev, q1, q2, q3, q4, q5, q6⟩ := q
      exact ⟨r, ev, q1, q2, ⟨c', q3, q4⟩, Or.inl ⟨ok, q5, q6⟩⟩
    rcases Nat.lt_or_ge N ((h_i h 0 0).toInt + x.toInt).toNat with g | g
    · refine ⟨1, hwant ((h_i h 0 0).toInt + x.toInt).toNat N, hwant ((h_i h 0 0).toInt + x.toInt).toNat N, by unfold hwant; omega, Or.inr ⟨rfl, rfl, by unfold hwant; omega, by unfold hwant; omega⟩, go 1 _ _ (by unfold hwant; omega) (by unfold hwant; omega) ?_⟩
      exact c_makeHistory1 (d + 5) I hc hs hN g (by omega)
    · refine ⟨0, 0, N, hN, Or.inl ⟨rfl, rfl, rfl⟩, go 0 0 N hN (by omega) ?_⟩
      exact Cv.mono (c_makeHistory0 (d + 5) 0 0 I hc hs hN g) (fun h' e => by rw [e]; exact ⟨I, Mf.rf h, rfl, c, hc, hs⟩)
  · refine ⟨0, 0, N, hN, Or.inl ⟨rfl, rfl, rfl⟩, ?_⟩
    have bad : ∀ lv, AW (m_X11_tick (d + 8) 0 0) 0 0 23 lv [] h (kI (fun r h' => Iv h' ∧ Mf wsX h h' ∧ (∃ c', h_r h' 0 15 = some c' ∧ h_sh h' c' = some (3, N)) ∧ otk (h_i h 0 0) x r (h_i h' 0 0))) := fun lv => by
      refine aw_iconst (v := -1) d_X11_tick_23 ic_m1 ?_
      exact aw_iret rfl d_X11_tick_24 ⟨Nat.le_refl _, Nat.le_refl _⟩ ⟨_, rfl, I, Mf.rf h, ⟨c, hc, hs⟩, Or.inr ⟨ok, rfl, rfl⟩⟩
    refine Ct.of (fun _ _ _ => trivial) rfl (Nat.le_of_ble_eq_true rfl) ?_
    show AW (m_X11_tick (d + 8) 0 0) 0 0 0 [(0, .ref 0), (1, .int x)] [] h (kI _)
    refine aw_iload_n (i := 1) rfl d_X11_tick_0 1 rfl ?_
    refine aw_iconst (v := 0) d_X11_tick_1 ic_0 ?_
    refine aw_sipush (v := 1500) d_X11_tick_2 is_1500 ?_
    refine aw_Si [.int x, .int 0, .int 1500] [] d_X11_tick_5 (cS_X11_within (d + 7) 0 0) tw_543 rfl ⟨⟨show d + 7 + 1 ≤ d + 8 by omega, show 8 + (3 + 11) + 100 * (d + 7) ≤ 100 * (d + 8) by omega⟩, Nat.zero_le _, Nat.zero_le _⟩ (by decide) xs0 (s_X11_within (d + 7) h x 0 1500) (fun _ _ kk => ?_)
    obtain ⟨e1, e2⟩ := kk
    rw [e1, e2]
    refine aw_ifb_eq (tgt := 23) d_X11_tick_8 rfl (fun _ => bad _) (fun z => ?_)
    have x0 : 0 ≤ x.toInt := by have := q_le.mp z.1; omega
    have x1 : x.toInt ≤ 1500 := by have := q_le.mp z.2; omega
    have es : (h_i h 0 0 + x).toInt = (h_i h 0 0).toInt + x.toInt := tx_add (by omega) (by omega)
    refine aw_aload_n (i := 0) rfl d_X11_tick_11 0 rfl ?_
    refine aw_geti (k0 := 0) kc_11 (ws_0 w) (Nat.le_of_ble_eq_true rfl) tw_487 d_X11_tick_12 rfl ?_
    refine aw_iload_n (i := 1) rfl d_X11_tick_15 1 rfl ?_
    refine aw_iadd d_X11_tick_16 ?_
    refine aw_sipush (v := 20000) d_X11_tick_17 is_20000 ?_
    refine aw_icmp_le (tgt := 25) d_X11_tick_20 rfl (fun y => ?_) (fun _ => bad _)
    have y := q_le.mp y
    exact absurd ⟨z, by omega⟩ ok
end
section
/-! the class's constable -/
theorem c_manInit (d : Nat) (h : Hp_) (a : Nat) (x1 x2 x3 x4 : Int32) (hs : h_sh h a = some (12, 17)) : Cv (m_X2_init (d + 1) 0 0) [.ref a, .int x1, .int x2, .int x3, .int x4] h (fun h' => h_sh h' = h_sh h ∧ h_r h' = h_r h ∧ (∀ b k, b ≠ a → h_i h' b k = h_i h b k) ∧ h_i h' a 0 = x1 ∧ h_i h' a 1 = x2) := by
  refine Ct.of (fun _ _ _ => trivial) pn_X2 (Nat.le_of_ble_eq_true rfl) ?_
  show AW (m_X2_init (d + 1) 0 0) 0 0 0 [(0, .ref a), (1, .int x1), (2, .int x2), (3, .int x3), (4, .int x4)] [] h (kV _)
  refine aw_aload_n (i := 0) rfl d_X2_init_0 0 rfl ?_
  refine aw_objInit (rest := []) d_X2_init_1 tw_570 tw_33 tw_34 (show 1 ≤ d + 1 by omega) (show 0 + 12 ≤ 100 * (d + 1) by omega) ?_
  refine aw_aload_n (i := 0) rfl d_X2_init_4 0 rfl ?_
  refine aw_iconst (v := 0) d_X2_init_5 ic_0 ?_
  refine aw_puti (k0 := 4) kc_2 hs (Nat.le_of_ble_eq_true rfl) tw_580 d_X2_init_6 rfl rfl nf_i ?_
  refine aw_aload_n (i := 0) rfl d_X2_init_9 0 rfl ?_
  refine aw_iconst (v := (-1)) d_X2_init_10 ic_m1 ?_
  refine aw_puti (k0 := 5) kc_2 hs (Nat.le_of_ble_eq_true rfl) tw_582 d_X2_init_11 rfl rfl nf_i ?_
  refine aw_aload_n (i := 0) rfl d_X2_init_14 0 rfl ?_
  refine aw_iconst (v := (-1)) d_X2_init_15 ic_m1 ?_
  refine aw_puti (k0 := 6) kc_2 hs (Nat.le_of_ble_eq_true rfl) tw_584 d_X2_init_16 rfl rfl nf_i ?_
  refine aw_aload_n (i := 0) rfl d_X2_init_19 0 rfl ?_
  refine aw_iconst (v := (-1)) d_X2_init_20 ic_m1 ?_
  refine aw_puti (k0 := 7) kc_2 hs (Nat.le_of_ble_eq_true rfl) tw_586 d_X2_init_21 rfl rfl nf_i ?_
  refine aw_aload_n (i := 0) rfl d_X2_init_24 0 rfl ?_
  refine aw_iload_n (i := 1) rfl d_X2_init_25 1 rfl ?_
  refine aw_putiF (k0 := 0) kc_2 hs (Nat.le_of_ble_eq_true rfl) tw_571 d_X2_init_26 rfl rfl rfl rfl nf_i ?_
  refine aw_aload_n (i := 0) rfl d_X2_init_29 0 rfl ?_
  refine aw_iload_n (i := 2) rfl d_X2_init_30 2 rfl ?_
  refine aw_putiF (k0 := 1) kc_2 hs (Nat.le_of_ble_eq_true rfl) tw_574 d_X2_init_31 rfl rfl rfl rfl nf_i ?_
  refine aw_aload_n (i := 0) rfl d_X2_init_34 0 rfl ?_
  refine aw_iload_n (i := 3) rfl d_X2_init_35 3 rfl ?_
  refine aw_putiF (k0 := 2) kc_2 hs (Nat.le_of_ble_eq_true rfl) tw_576 d_X2_init_36 rfl rfl rfl rfl nf_i ?_
  refine aw_aload_n (i := 0) rfl d_X2_init_39 0 rfl ?_
  refine aw_iload d_X2_init_40 4 rfl ?_
  refine aw_putiF (k0 := 3) kc_2 hs (Nat.le_of_ble_eq_true rfl) tw_578 d_X2_init_42 rfl rfl rfl rfl nf_i ?_
  refine aw_vret rfl d_X2_init_45 ⟨Nat.le_refl _, Nat.le_refl _⟩ ⟨rfl, rfl, rfl, fun b k hb => ?_, ?_, ?_⟩
  · rw [hi_n _ _ _ _ _ _ hb, hi_n _ _ _ _ _ _ hb, hi_n _ _ _ _ _ _ hb, hi_n _ _ _ _ _ _ hb, hi_n _ _ _ _ _ _ hb, hi_n _ _ _ _ _ _ hb, hi_n _ _ _ _ _ _ hb, hi_n _ _ _ _ _ _ hb]
  · rw [h_i_im, if_neg (fun y => absurd y.2 (by decide)), h_i_im, if_neg (fun y => absurd y.2 (by decide)), h_i_im, if_neg (fun y => absurd y.2 (by decide)), h_i_im, if_pos ⟨rfl, rfl⟩]
  · rw [h_i_im, if_neg (fun y => absurd y.2 (by decide)), h_i_im, if_neg (fun y => absurd y.2 (by decide)), h_i_im, if_pos ⟨rfl, rfl⟩]
/-- what a call of the class that makes cells leaves -/
noncomputable def Cx (h h' : Hp_) : Prop := Iv h' ∧ Mf wsC h h' ∧ h_r h' 0 15 = h_r h 0 15 ∧ ∀ c N, h_r h 0 15 = some c → h_sh h c = some (3, N) → h_sh h' c = some (3, N)
theorem Cx.fr {ws : List Nat} {h0 h h' : Hp_} (x : Cx h0 h) (I : Iv h') (f : Fr ws h h') (c : (mfo wsC ws && !(inw ws 0 15)) = true) : Cx h0 h' := by
  rw [Bool.and_eq_true, Bool.not_eq_true'] at c
  exact ⟨I, x.2.1.tr (Mf.fr c.1 f), by rw [(f.2 0 15 c.2).2.2]; exact x.2.2.1, fun a N h1 h2 => by rw [f.1]; exact x.2.2.2 a N h1 h2⟩
theorem Cx.rf {h : Hp_} (I : Iv h) : Cx h h := ⟨I, Mf.rf h, rfl, fun _ _ _ z => z⟩
/-- constable is taken -/
noncomputable def okc (m x1 x2 x3 : Int32) : Prop := (1 ≤ x1 ∧ x1 ≤ 4) ∧ (0 ≤ x2 ∧ x2 ≤ 40) ∧ (0 ≤ x3 ∧ x3 < 16) ∧ m < 12
/-- what constable answers, and how many men there are then -/
noncomputable def ocs (m x1 x2 x3 r m' : Int32) : Prop := (okc m x1 x2 x3 ∧ r = m ∧ m' = m + 1) ∨ (¬ okc m x1 x2 x3 ∧ r = -1 ∧ m' = m)
/-- the men that are counted are there -/
noncomputable def Mn (h : Hp_) : Prop := ∀ k : Nat, k < 12 → (k : Int) < (h_i h 0 7).toInt → h_r h 15 k ≠ none
/-- the man that comes, and the men that were -/
noncomputable def Cz (ok : Prop) (m x1 : Int32) (h h' : Hp_) : Prop := (ok → h_r h' 15 m.toNatClampNeg = some (401 + m.toNatClampNeg) ∧ h_i h' (401 + m.toNatClampNeg) 0 = m ∧ h_i h' (401 + m.toNatClampNeg) 1 = x1) ∧ ∀ k, (k ≠ m.toNatClampNeg ∨ ¬ ok) → h_r h' 15 k = h_r h 15 k ∧ (k < 12 → ∀ f, f ≤ 3 → h_i h' (401 + k) f = h_i h (401 + k) f)
noncomputable def Cy (x1 x2 x3 : Int32) (h : Hp_) (r : Int32) (h' : Hp_) : Prop := Cx h h' ∧ ocs (h_i h 0 7) x1 x2 x3 r (h_i h' 0 7) ∧ (Mn h → Mn h') ∧ Cz (okc (h_i h 0 7) x1 x2 x3) (h_i h 0 7) x1 h h'
theorem inw_ce {ws : List Nat} {a b k : Nat} (e : cn a = cn b) : inw ws a k = inw ws b k := by unfold inw; rw [e]
theorem cn_man {j : Nat} (h : j < 12) : cn (401 + j) = 401 := by
  unfold cn
  have a : Nat.ble 401 (401 + j) = true := Nat.ble_eq.mpr (by omega)
  have b : Nat.ble (401 + j) 412 = true := Nat.ble_eq.mpr (by omega)
  rw [a, b]
  rfl
theorem c_constable (d : Nat) {h : Hp_} (I : Iv h) (x1 x2 x3 : Int32) : Ci (m_X11_constable (d + 2) 1 17) [.ref 0, .int x1, .int x2, .int x3] h (Cy x1 x2 x3 h) := by
  have w := I.1
  have t12 : (12 : Int32).toInt = 12 := rfl
  have er : rin (h_i h 0 7).toInt (0, 12) := by
    have := I.2.1 0 7
    rwa [show tf 0 7 = (0, 12) by decide +kernel] at this
  have er0 : 0 ≤ (h_i h 0 7).toInt := er.1
  have bad : ¬ okc (h_i h 0 7) x1 x2 x3 → ∀ lv, AW (m_X11_constable (d + 2) 1 17) 0 0 47 lv [] h (kI (Cy x1 x2 x3 h)) := fun no lv => by
    refine aw_iconst (v := (-1)) d_X11_constable_47 ic_m1 ?_
    exact aw_iret rfl d_X11_constable_48 ⟨Nat.le_of_ble_eq_true rfl, Nat.le_of_ble_eq_true rfl⟩ ⟨_, rfl, Cx.rf I, Or.inr ⟨no, rfl, rfl⟩, id, fun o => absurd o no, fun _ _ => ⟨rfl, fun _ _ _ => rfl⟩⟩
  have no : ¬ okc (h_i h 0 7) x1 x2 x3 → AW (m_X11_constable (d + 2) 1 17) 0 0 30 [(0, .ref 0), (1, .int x1), (2, .int x2), (3, .int x3)] [] h (kI (Cy x1 x2 x3 h)) := fun no => by
    refine aw_iconst (v := 0) d_X11_constable_30 ic_0 ?_
    refine aw_istore [(0, .ref 0), (1, .int x1), (2, .int x2), (3, .int x3), (4, .int 0)] d_X11_constable_31 (Nat.le_of_ble_eq_true rfl) rfl rfl ?_
    refine aw_iload d_X11_constable_33 4 rfl ?_
    refine aw_if_eq (tgt := 47) d_X11_constable_35 rfl (fun _ => bad no _) (fun z => absurd rfl z)
  have rr2 : ∀ {y : MethodName} {cc : ByteArray} {nL : Nat} {ret : Option FieldType}, nL ≤ 81 → rr_ (fun _ _ _ => True, y, cc, nL, ret, { frames := d + 0, cells := 0, slots := 0, locals := 100 * (d + 0) }) (m_X11_constable (d + 2) 1 17) 0 0 := fun {y cc nL ret} hn => ⟨⟨show d + 0 + 1 ≤ d + 2 by omega, show 8 + (nL + 11) + 100 * (d + 0) ≤ 100 * (d + 2) by omega⟩, Nat.zero_le _, Nat.zero_le _⟩
  refine Ct.of (fun _ _ _ => trivial) pn_X11 (Nat.le_of_ble_eq_true rfl) ?_
  show AW (m_X11_constable (d + 2) 1 17) 0 0 0 [(0, .ref 0), (1, .int x1), (2, .int x2), (3, .int x3)] [] h (kI (Cy x1 x2 x3 h))
  refine aw_iload_n (i := 1) rfl d_X11_constable_0 1 rfl ?_
  refine aw_iconst (v := 1) d_X11_constable_1 ic_1 ?_
  refine aw_iconst (v := 4) d_X11_constable_2 ic_4 ?_
  refine aw_Si [.int x1, .int 1, .int 4] [] d_X11_constable_3 (cS_X11_within (d + 0) 0 0) tw_543 rfl (rr2 (Nat.le_of_ble_eq_true rfl)) (by decide) xs0 (s_X11_within _ _ x1 1 4) (fun _ _ kk => ?_)
  obtain ⟨e1, e2⟩ := kk
  rw [e1, e2]
  refine aw_ifb_eq (tgt := 30) d_X11_constable_6 rfl (fun z => no (fun o => z o.1)) (fun c1 => ?_)
  refine aw_iload_n (i := 2) rfl d_X11_constable_9 2 rfl ?_
  refine aw_iconst (v := 0) d_X11_constable_10 ic_0 ?_
  refine aw_bipush (v := 40) d_X11_constable_11 ib_40 ?_
  refine aw_Si [.int x2, .int 0, .int 40] [] d_X11_constable_13 (cS_X11_within (d + 0) 0 0) tw_543 rfl (rr2 (Nat.le_of_ble_eq_true rfl)) (by decide) xs0 (s_X11_within _ _ x2 0 40) (fun _ _ kk => ?_)
  obtain ⟨e1, e2⟩ := kk
  rw [e1, e2]
  refine aw_ifb_eq (tgt := 30) d_X11_constable_16 rfl (fun z => no (fun o => z o.2.1)) (fun c2 => ?_)
  refine aw_iload_n (i := 3) rfl d_X11_constable_19 3 rfl ?_
  refine aw_Si [.int x3] [] d_X11_constable_20 (cS_X11_isPlace (d + 0) 0 0) tw_540 rfl (rr2 (Nat.le_of_ble_eq_true rfl)) (by decide) xs0 (s_X11_isPlace _ _ x3) (fun _ _ kk => ?_)
  obtain ⟨e1, e2⟩ := kk
  rw [e1, e2]
  refine aw_ifb_eq (tgt := 30) d_X11_constable_23 rfl (fun z => no (fun o => z o.2.2.1)) (fun c3 => ?_)
  refine aw_iconst (v := 1) d_X11_constable_26 ic_1 ?_
  refine aw_goto (tgt := 31) d_X11_constable_27 rfl ?_
  refine aw_istore [(0, .ref 0), (1, .int x1), (2, .int x2), (3, .int x3), (4, .int 1)] d_X11_constable_31 (Nat.le_of_ble_eq_true rfl) rfl rfl ?_
  refine aw_iload d_X11_constable_33 4 rfl ?_
  refine aw_if_eq (tgt := 47) d_X11_constable_35 rfl (fun z => absurd z (by decide)) (fun _ => ?_)
  refine aw_aload_n (i := 0) rfl d_X11_constable_38 0 rfl ?_
  refine aw_geti (k0 := 7) kc_11 (ws_0 w) (Nat.le_of_ble_eq_true rfl) tw_494 d_X11_constable_39 rfl ?_
  refine aw_bipush (v := 12) d_X11_constable_42 ib_12 ?_
  refine aw_icmp_lt (tgt := 49) d_X11_constable_44 rfl (fun z => ?_) (fun z => bad (fun o => z o.2.2.2) _)
  have ok : okc (h_i h 0 7) x1 x2 x3 := ⟨c1, c2, c3, z⟩
  have z := q_lt.mp z
  obtain ⟨j, ej, hj⟩ : ∃ j : Nat, h_i h 0 7 = Int32.ofNat j ∧ j < 12 := ⟨(h_i h 0 7).toInt.toNat, by
    refine Int32.toInt_inj.mp ?_
    rw [on_i (by omega)]
    omega, by omega⟩
  have oj := on_i (n := j) (by omega)
  have cj := on_c (n := j) (by omega)
  have fr : h_sh h (401 + j) = none := I.2.2.2.2.2.2.1 j hj (by rw [ej, oj]; exact Int.le_refl _)
  refine aw_new (ci := 2) (401 + j) kc_2 tw_144 tw_566 tw_15 fr (by omega) xs0 (Nat.le_of_ble_eq_true rfl) (Nat.le_of_ble_eq_true rfl) d_X11_constable_49 ?_
  have s1 : h_sh (h_nw h (401 + j) (2 + 10) 17) (401 + j) = some (12, 17) := by rw [y_sh, if_pos rfl]
  have s0 : h_sh (h_nw h (401 + j) (2 + 10) 17) 0 = some (21, 16) := by rw [y_sh, if_neg (by omega)]; exact ws_0 w
  refine aw_dup d_X11_constable_52 rfl ?_
  refine aw_aload_n (i := 0) rfl d_X11_constable_53 0 rfl ?_
  refine aw_geti (k0 := 7) kc_11 s0 (Nat.le_of_ble_eq_true rfl) tw_494 d_X11_constable_54 rfl ?_
  refine aw_iload_n (i := 1) rfl d_X11_constable_57 1 rfl ?_
  refine aw_iload_n (i := 2) rfl d_X11_constable_58 2 rfl ?_
  refine aw_iload_n (i := 3) rfl d_X11_constable_59 3 rfl ?_
  refine aw_callI (vs := [.int (h_i (h_nw h (401 + j) (2 + 10) 17) 0 7), .int x1, .int x2, .int x3]) (a := 401 + j) (rest := [.ref (401 + j)]) d_X11_constable_60 (cI_X2_init (d + 1) 0 0) ⟨rfl, rfl⟩ tw_568 tw_567 rfl ⟨show d + 1 + 1 ≤ d + 2 by omega, show 8 + (5 + 11) + 100 * (d + 1) ≤ 100 * (d + 2) by omega⟩ (Nat.le_of_ble_eq_true rfl) ⟨Nat.le_of_ble_eq_true rfl, Nat.le_of_ble_eq_true rfl⟩ xs0 (c_manInit d _ (401 + j) _ x1 x2 x3 s1) (fun v h2 kk => ?_)
  obtain ⟨ev, s2, r2, i2, n2, q2⟩ := kk
  rw [ev]
  have sA : ∀ a, h_sh h2 a = if a = 401 + j then some (12, 17) else h_sh h a := fun a => by rw [s2, y_sh]
  have iA : ∀ a k, a ≠ 401 + j → h_i h2 a k = h_i h a k := fun a k ha => by rw [i2 a k ha, y_i, if_neg ha]
  have rA : ∀ a k, a ≠ 401 + j → h_r h2 a k = h_r h a k := fun a k ha => by rw [r2, y_r, if_neg ha]
  have w20 : h_sh h2 0 = some (21, 16) := by rw [sA, if_neg (by omega)]; exact ws_0 w
  have w215 : h_sh h2 15 = some (4, 12) := by rw [sA, if_neg (by omega)]; exact ws_15 w
  have w2r : h_r h2 0 6 = some 15 := by rw [rA 0 6 (by omega)]; exact wr_0_6 w
  have w2s : h_sh h2 (401 + j) = some (12, 17) := by rw [sA, if_pos rfl]
  have e7 : h_i h2 0 7 = Int32.ofNat j := by rw [iA 0 7 (by omega)]; exact ej
  refine aw_astore [(0, .ref 0), (1, .int x1), (2, .int x2), (3, .int x3), (4, .int 1), (5, .ref (401 + j))] d_X11_constable_63 (Nat.le_of_ble_eq_true rfl) rfl rfl ?_
  refine aw_aload_n (i := 0) rfl d_X11_constable_65 0 rfl ?_
  refine aw_getr (k0 := 6) kc_11 w20 (Nat.le_of_ble_eq_true rfl) tw_493 d_X11_constable_66 rfl w2r ?_
  refine aw_aload_n (i := 0) rfl d_X11_constable_69 0 rfl ?_
  refine aw_geti (k0 := 7) kc_11 w20 (Nat.le_of_ble_eq_true rfl) tw_494 d_X11_constable_70 rfl ?_
  refine aw_vi (v2 := Int32.ofNat j) e7 ?_
  refine aw_aload d_X11_constable_73 5 rfl ?_
  refine aw_aast w215 (dp_in (lo := 0) (hi := 11) ⟨by show (0 : Int) ≤ _; omega, by show _ ≤ (11 : Int); omega⟩ (by decide) (by decide)) w2s d_X11_constable_75 ?_
  rw [cj]
  refine aw_aload_n (i := 0) rfl d_X11_constable_76 0 rfl ?_
  refine aw_dup d_X11_constable_77 rfl ?_
  refine aw_geti (k0 := 7) kc_11 (h := h_rm h2 15 j (some (401 + j))) w20 (Nat.le_of_ble_eq_true rfl) tw_494 d_X11_constable_78 rfl ?_
  refine aw_iconst (v := 1) d_X11_constable_81 ic_1 ?_
  refine aw_iadd d_X11_constable_82 ?_
  have t1 : (1 : Int32).toInt = 1 := rfl
  refine aw_vi (v2 := Int32.ofNat (j + 1)) (by
    show h_i h2 0 7 + 1 = _
    rw [e7]
    refine Int32.toInt_inj.mp ?_
    rw [tx_add (by rw [t1]; omega) (by rw [t1]; omega), oj, t1, on_i (by omega)]
    omega) ?_
  refine aw_puti (k0 := 7) kc_11 (h := h_rm h2 15 j (some (401 + j))) w20 (Nat.le_of_ble_eq_true rfl) tw_494 d_X11_constable_83 rfl rfl nf_i ?_
  have I4 : Iv (h_im (h_rm h2 15 j (some (401 + j))) 0 7 (Int32.ofNat (j + 1))) := by
    refine Iv_man I hj ej (fun a => sA a) (fun a k ha hk => ?_) (by rw [h_i_im, if_pos ⟨rfl, rfl⟩]) (fun a k ha hk => ?_) ?_
    · rw [h_i_im, if_neg hk]; exact iA a k ha
    · show h_r (h_rm h2 15 j (some (401 + j))) a k = _
      rw [h_r_rm, if_neg hk]; exact rA a k ha
    · show h_r (h_rm h2 15 j (some (401 + j))) 15 j = _
      rw [h_r_rm, if_pos ⟨rfl, rfl⟩]
  have x4 : Cx h (h_im (h_rm h2 15 j (some (401 + j))) 0 7 (Int32.ofNat (j + 1))) := by
    refine ⟨I4, ⟨fun k => ?_, fun a h1 h2' k => ?_, ?_, fun a k ha hw => ?_⟩, ?_, fun c N hc hN => ?_⟩
    · rw [h_i_im, if_neg (fun y => absurd y.1 (by decide))]; exact iA 1 k (by omega)
    · rw [h_i_im, if_neg (fun y => by omega)]; exact iA a k (by omega)
    · show h_sh h2 2 = _
      rw [sA, if_neg (by omega)]
    · have na : a ≠ 401 + j := fun y => by rw [y, inw_ce (b := 401) ((cn_man hj).trans (by decide)), inw_row (a := 401) (by decide +kernel) k] at hw; cases hw
      refine ⟨by rw [h_i_im, if_neg (fun y => by rw [y.1, y.2] at hw; exact absurd hw (by decide +kernel))]; exact iA a k na, ?_⟩
      show h_r (h_rm h2 15 j (some (401 + j))) a k = _
      rw [h_r_rm, if_neg (fun y => by rw [y.1, inw_row (a := 15) (by decide +kernel) k] at hw; cases hw)]
      exact rA a k na
    · show h_r (h_rm h2 15 j (some (401 + j))) 0 15 = _
      rw [h_r_rm, if_neg (fun y => absurd y.1 (by decide))]; exact rA 0 15 (by omega)
    · show h_sh h2 c = _
      rw [sA, if_neg (fun y => by rw [y, fr] at hN; cases hN)]; exact hN
  have cn4 : Cn (h_im (h_rm h2 15 j (some (401 + j))) 0 7 (Int32.ofNat (j + 1))) (401 + j) := ⟨by omega, by omega, w2s⟩
  have m4 : h_i (h_im (h_rm h2 15 j (some (401 + j))) 0 7 (Int32.ofNat (j + 1))) 0 7 = h_i h 0 7 + 1 := by
    rw [h_i_im, if_pos ⟨rfl, rfl⟩, ej]
    refine Int32.toInt_inj.mp ?_
    rw [tx_add (by rw [t1]; omega) (by rw [t1]; omega), oj, t1, on_i (by omega)]
    omega
  have n4 : h_i (h_im (h_rm h2 15 j (some (401 + j))) 0 7 (Int32.ofNat (j + 1))) (401 + j) 0 = h_i h 0 7 := by
    rw [h_i_im, if_neg (fun y => by omega)]
    show h_i h2 (401 + j) 0 = _
    rw [n2, y_i, if_neg (by omega)]
  have q4 : h_i (h_im (h_rm h2 15 j (some (401 + j))) 0 7 (Int32.ofNat (j + 1))) (401 + j) 1 = x1 := by
    rw [h_i_im, if_neg (fun y => by omega)]
    exact q2
  have i4 : ∀ k f, k ≠ j → h_i (h_im (h_rm h2 15 j (some (401 + j))) 0 7 (Int32.ofNat (j + 1))) (401 + k) f = h_i h (401 + k) f := fun k f ne => by
    rw [h_i_im, if_neg (fun y => by omega)]
    exact iA (401 + k) f (by omega)
  have r4 : ∀ k, h_r (h_im (h_rm h2 15 j (some (401 + j))) 0 7 (Int32.ofNat (j + 1))) 15 k = if k = j then some (401 + j) else h_r h 15 k := fun k => by
    show h_r (h_rm h2 15 j (some (401 + j))) 15 k = _
    rw [h_r_rm]
    by_cases e : k = j
    · rw [if_pos ⟨rfl, e⟩, if_pos e]
    · rw [if_neg (fun y => e y.2), if_neg e]; exact rA 15 k (by omega)
  generalize h_im (h_rm h2 15 j (some (401 + j))) 0 7 (Int32.ofNat (j + 1)) = h4 at I4 x4 cn4 m4 n4 r4 q4 i4 ⊢
  refine aw_aload_n (i := 0) rfl d_X11_constable_86 0 rfl ?_
  refine aw_aload d_X11_constable_87 5 rfl ?_
  refine aw_iload_n (i := 3) rfl d_X11_constable_89 3 rfl ?_
  refine aw_Vk (M' := m_X11_putAt (d + 0) 0 0) [.ref (401 + j), .int x3] (hc_X11_putAt d) ⟨⟨x3, rfl, rtop_in _, fun _ y => (nomatch y)⟩, ⟨401 + j, rfl, cn4⟩, rfl, trivial⟩ I4 (fun _ y => (nomatch y)) d_X11_constable_90 (cV_X11_putAt (d + 0) 0 0) kc_11 (ws_0 I4.1) tw_634 rfl (Nat.le_of_ble_eq_true rfl) ⟨⟨show d + 0 + 1 ≤ d + 2 by omega, show 8 + (_ + 11) + 100 * (d + 0) ≤ 100 * (d + 2) from Nat.le_trans (Nat.add_le_add_right (Nat.le_of_ble_eq_true rfl : 8 + (_ + 11) ≤ 200) _) (by omega)⟩, rfl, rfl, xs0⟩ ⟨Nat.le_of_ble_eq_true rfl, Nat.le_of_ble_eq_true rfl⟩ (fun v h5 kv => ?_)
  have ev : v = none := kv.2.2.2
  subst ev
  refine aw_aload d_X11_constable_93 5 rfl ?_
  refine aw_geti (k0 := 0) kc_2 (Cn_fr kv.2.1 cn4).2.2 (Nat.le_of_ble_eq_true rfl) tw_573 d_X11_constable_95 rfl ?_
  refine aw_iret rfl d_X11_constable_98 ⟨Nat.le_of_ble_eq_true rfl, Nat.le_of_ble_eq_true rfl⟩ ⟨_, rfl, x4.fr kv.1 kv.2.1 (by decide +kernel), Or.inl ⟨ok, by rw [(kv.2.1.2 (401 + j) 0 (by rw [inw_ce (b := 401) ((cn_man hj).trans (by decide))]; decide +kernel)).1]; exact n4, by rw [(kv.2.1.2 0 7 (by decide +kernel)).1]; exact m4⟩, fun mn k hk hm => ?_, fun _ => ?_, fun k hk => ⟨?_, fun l f lf => ?_⟩⟩
  · rw [(kv.2.1.2 0 7 (by decide +kernel)).1, m4, ej, tx_add (by rw [t1, oj]; omega) (by rw [t1, oj]; omega), oj, t1] at hm
    rw [(kv.2.1.2 15 k (off_inw (by decide +kernel) k)).2.2, r4]
    by_cases e : k = j
    · rw [if_pos e]; exact fun y => by cases y
    · rw [if_neg e]; exact mn k hk (by rw [ej, oj]; omega)
  · rw [ej, cj, (kv.2.1.2 15 j (off_inw (by decide +kernel) j)).2.2, r4, if_pos rfl, (kv.2.1.2 (401 + j) 0 (by rw [inw_ce (b := 401) ((cn_man hj).trans (by decide))]; decide +kernel)).1, (kv.2.1.2 (401 + j) 1 (by rw [inw_ce (b := 401) ((cn_man hj).trans (by decide))]; decide +kernel)).1, n4, q4]
    exact ⟨rfl, ej, rfl⟩
  · have nk : k ≠ j := fun e => hk.elim (fun y => y (by rw [ej, cj]; exact e)) (fun y => y ok)
    rw [(kv.2.1.2 15 k (off_inw (by decide +kernel) k)).2.2, r4, if_neg nk]
  · have nk : k ≠ j := fun e => hk.elim (fun y => y (by rw [ej, cj]; exact e)) (fun y => y ok)
    have z : inw wz_X11_putAt (401 + k) f = false := by
      rw [inw_ce (b := 401) ((cn_man l).trans (by decide))]
      have zz : (List.range 4).all (fun f => !inw wz_X11_putAt 401 f) = true := by decide +kernel
      have y := List.all_eq_true.mp zz f (List.mem_range.mpr (by omega))
      rw [Bool.not_eq_true'] at y
      exact y
    rw [(kv.2.1.2 (401 + k) f z).1]
    exact i4 k f nk
end
section
theorem t_X12_setOut (d : Nat) (h : Hp_) (w : Wf h) (x1 : Int32) (x2 : Int32) (K : Hp_ → Prop) (k : vp_in x1 12 ∧ (Ci (m_X12_walkOf (d + 0) 0 0) [.ref 1, .int (h_i h 209 x1.toNatClampNeg), .int x2] h (fun r4 h2 => Wf h2 ∧ ((¬ r4 = 0 → vp_in x1 12 ∧ (vp_in x1 12 ∧ (vp_in x1 12 ∧ (K (h_im (h_im (h_im h2 209 x1.toNatClampNeg (-1)) 210 x1.toNatClampNeg x2) 211 x1.toNatClampNeg ((h_i h2 1 0) + r4)))))) ∧ (r4 = 0 → K h2))))) : Cv (m_X12_setOut (d + 1) 0 0) [.ref 1, .int x1, .int x2] h K := by
  refine Ct.of (fun _ _ _ => trivial) pn_X12 (Nat.le_of_ble_eq_true rfl) ?_
  show AW (m_X12_setOut (d + 1) 0 0) 0 0 0 [(0, .ref 1), (1, .int x1), (2, .int x2)] [] h (kV K)
  refine aw_aload_n (i := 0) rfl d_X12_setOut_0 0 rfl ?_
  refine aw_aload_n (i := 0) rfl d_X12_setOut_1 0 rfl ?_
  refine aw_getr (k0 := 13) kc_12 (ws_1 w) (Nat.le_of_ble_eq_true rfl) tw_1755 d_X12_setOut_2 rfl (wr_1_13 w) ?_
  refine aw_iload_n (i := 1) rfl d_X12_setOut_5 1 rfl ?_
  obtain ⟨b1, k⟩ := k
  refine aw_iald (ws_209 w) b1 d_X12_setOut_6 ?_
  refine aw_iload_n (i := 2) rfl d_X12_setOut_7 2 rfl ?_
  refine aw_Vi 1 [.int (h_i h 209 x1.toNatClampNeg), .int x2] [] d_X12_setOut_8 (cV_X12_walkOf (d + 0) 0 0) kc_12 (ws_1 w) tw_2150 rfl (rr0 (Nat.le_of_ble_eq_true rfl) (Nat.le_of_ble_eq_true rfl)) (Nat.le_of_ble_eq_true rfl) xs0 k (fun r4 h2 kk => ?_)
  obtain ⟨w3, k⟩ := kk
  refine aw_istore_n (i := 3) rfl [(0, .ref 1), (1, .int x1), (2, .int x2), (3, .int r4)] d_X12_setOut_11 (Nat.le_of_ble_eq_true rfl) rfl rfl ?_
  refine aw_iload_n (i := 3) rfl d_X12_setOut_12 3 rfl ?_
  refine aw_if_ne (tgt := 17) d_X12_setOut_13 rfl (fun c5 => ?_) (fun c5 => ?_)
  · have k := k.1 c5
    refine aw_aload_n (i := 0) rfl d_X12_setOut_17 0 rfl ?_
    refine aw_getr (k0 := 13) kc_12 (ws_1 w3) (Nat.le_of_ble_eq_true rfl) tw_1755 d_X12_setOut_18 rfl (wr_1_13 w3) ?_
    refine aw_iload_n (i := 1) rfl d_X12_setOut_21 1 rfl ?_
    refine aw_iconst (v := (-1)) d_X12_setOut_22 ic_m1 ?_
    obtain ⟨b6, k⟩ := k
    refine aw_iast (ws_209 w3) b6 d_X12_setOut_23 ?_
    refine aw_aload_n (i := 0) rfl d_X12_setOut_24 0 rfl ?_
    refine aw_getr (k0 := 14) kc_12 (ws_1 w3) (Nat.le_of_ble_eq_true rfl) tw_1756 d_X12_setOut_25 rfl (wr_1_14 w3) ?_
    refine aw_iload_n (i := 1) rfl d_X12_setOut_28 1 rfl ?_
    refine aw_iload_n (i := 2) rfl d_X12_setOut_29 2 rfl ?_
    obtain ⟨b7, k⟩ := k
    refine aw_iast (ws_210 w3) b7 d_X12_setOut_30 ?_
    refine aw_aload_n (i := 0) rfl d_X12_setOut_31 0 rfl ?_
    refine aw_getr (k0 := 15) kc_12 (ws_1 w3) (Nat.le_of_ble_eq_true rfl) tw_1757 d_X12_setOut_32 rfl (wr_1_15 w3) ?_
    refine aw_iload_n (i := 1) rfl d_X12_setOut_35 1 rfl ?_
    refine aw_aload_n (i := 0) rfl d_X12_setOut_36 0 rfl ?_
    refine aw_geti (k0 := 0) kc_12 (ws_1 w3) (Nat.le_of_ble_eq_true rfl) tw_1742 d_X12_setOut_37 rfl ?_
    refine aw_vi (v2 := (h_i h2 1 0)) (rfl) ?_
    refine aw_iload_n (i := 3) rfl d_X12_setOut_40 3 rfl ?_
    refine aw_iadd d_X12_setOut_41 ?_
    obtain ⟨b8, k⟩ := k
    refine aw_iast (ws_211 w3) b8 d_X12_setOut_42 ?_
    exact aw_vret rfl d_X12_setOut_43 ⟨Nat.le_refl _, Nat.le_refl _⟩ ⟨rfl, k⟩
  · have k := k.2 c5
    exact aw_vret rfl d_X12_setOut_16 ⟨Nat.le_refl _, Nat.le_refl _⟩ ⟨rfl, k⟩
theorem t_X12_free (d : Nat) (h : Hp_) (w : Wf h) (x1 : Int32) (K : Hp_ → Prop) (k : vp_in x1 12 ∧ (vp_in x1 12 ∧ (vp_in x1 12 ∧ (vp_in x1 12 ∧ (vp_in x1 12 ∧ (vp_in x1 12 ∧ (AW (m_X12_free (d + 0) 0 0) 0 0 42 [(0, .ref 1), (1, .int x1), (2, .int 0)] [] (h_im (h_im (h_im (h_im (h_im h 208 x1.toNatClampNeg 0) 209 x1.toNatClampNeg (h_i h 206 x1.toNatClampNeg)) 210 x1.toNatClampNeg (-1)) 211 x1.toNatClampNeg (-1)) 213 x1.toNatClampNeg (-1)) (kV K)))))))) : Cv (m_X12_free (d + 0) 0 0) [.ref 1, .int x1] h K := by
  refine Ct.of (fun _ _ _ => trivial) pn_X12 (Nat.le_of_ble_eq_true rfl) ?_
  show AW (m_X12_free (d + 0) 0 0) 0 0 0 [(0, .ref 1), (1, .int x1)] [] h (kV K)
  refine aw_aload_n (i := 0) rfl d_X12_free_0 0 rfl ?_
  refine aw_getr (k0 := 12) kc_12 (ws_1 w) (Nat.le_of_ble_eq_true rfl) tw_1754 d_X12_free_1 rfl (wr_1_12 w) ?_
  refine aw_iload_n (i := 1) rfl d_X12_free_4 1 rfl ?_
  refine aw_iconst (v := 0) d_X12_free_5 ic_0 ?_
  obtain ⟨b1, k⟩ := k
  refine aw_iast (ws_208 w) b1 d_X12_free_6 ?_
  refine aw_aload_n (i := 0) rfl d_X12_free_7 0 rfl ?_
  refine aw_getr (k0 := 13) kc_12 (ws_1 w) (Nat.le_of_ble_eq_true rfl) tw_1755 d_X12_free_8 rfl (wr_1_13 w) ?_
  refine aw_iload_n (i := 1) rfl d_X12_free_11 1 rfl ?_
  refine aw_aload_n (i := 0) rfl d_X12_free_12 0 rfl ?_
  refine aw_getr (k0 := 10) kc_12 (ws_1 w) (Nat.le_of_ble_eq_true rfl) tw_1752 d_X12_free_13 rfl (wr_1_10 w) ?_
  refine aw_iload_n (i := 1) rfl d_X12_free_16 1 rfl ?_
  obtain ⟨b2, k⟩ := k
  refine aw_iald (ws_206 w) b2 d_X12_free_17 ?_
  refine aw_vi (v2 := (h_i h 206 x1.toNatClampNeg)) (rfl) ?_
  obtain ⟨b3, k⟩ := k
  refine aw_iast (ws_209 w) b3 d_X12_free_18 ?_
  refine aw_aload_n (i := 0) rfl d_X12_free_19 0 rfl ?_
  refine aw_getr (k0 := 14) kc_12 (ws_1 w) (Nat.le_of_ble_eq_true rfl) tw_1756 d_X12_free_20 rfl (wr_1_14 w) ?_
  refine aw_iload_n (i := 1) rfl d_X12_free_23 1 rfl ?_
  refine aw_iconst (v := (-1)) d_X12_free_24 ic_m1 ?_
  obtain ⟨b4, k⟩ := k
  refine aw_iast (ws_210 w) b4 d_X12_free_25 ?_
  refine aw_aload_n (i := 0) rfl d_X12_free_26 0 rfl ?_
  refine aw_getr (k0 := 15) kc_12 (ws_1 w) (Nat.le_of_ble_eq_true rfl) tw_1757 d_X12_free_27 rfl (wr_1_15 w) ?_
  refine aw_iload_n (i := 1) rfl d_X12_free_30 1 rfl ?_
  refine aw_iconst (v := (-1)) d_X12_free_31 ic_m1 ?_
  obtain ⟨b5, k⟩ := k
  refine aw_iast (ws_211 w) b5 d_X12_free_32 ?_
  refine aw_aload_n (i := 0) rfl d_X12_free_33 0 rfl ?_
  refine aw_getr (k0 := 17) kc_12 (ws_1 w) (Nat.le_of_ble_eq_true rfl) tw_1759 d_X12_free_34 rfl (wr_1_17 w) ?_
  refine aw_iload_n (i := 1) rfl d_X12_free_37 1 rfl ?_
  refine aw_iconst (v := (-1)) d_X12_free_38 ic_m1 ?_
  obtain ⟨b6, k⟩ := k
  refine aw_iast (ws_213 w) b6 d_X12_free_39 ?_
  refine aw_iconst (v := 0) d_X12_free_40 ic_0 ?_
  refine aw_istore_n (i := 2) rfl [(0, .ref 1), (1, .int x1), (2, .int 0)] d_X12_free_41 (Nat.le_of_ble_eq_true rfl) rfl rfl ?_
  exact k
theorem t_X12_free_42 (d : Nat) (h : Hp_) (w : Wf h) (x1 : Int32) (x2 : Int32) (K : Hp_ → Prop) (k : ((h_i h 1 80) ≤ x2 → K h) ∧ (¬ (h_i h 1 80) ≤ x2 → vp_in x2 300 ∧ ((¬ (h_i h 255 x2.toNatClampNeg) = x1 → AW (m_X12_free (d + 0) 0 0) 0 0 42 [(0, .ref 1), (1, .int x1), (2, .int (x2 + 1))] [] h (kV K)) ∧ ((h_i h 255 x2.toNatClampNeg) = x1 → vp_in x2 300 ∧ ((¬ (h_i h 258 x2.toNatClampNeg) = 1 → AW (m_X12_free (d + 0) 0 0) 0 0 42 [(0, .ref 1), (1, .int x1), (2, .int (x2 + 1))] [] h (kV K)) ∧ ((h_i h 258 x2.toNatClampNeg) = 1 → vp_in x2 300 ∧ ((¬ (h_i h 260 x2.toNatClampNeg) = (-1) → AW (m_X12_free (d + 0) 0 0) 0 0 42 [(0, .ref 1), (1, .int x1), (2, .int (x2 + 1))] [] h (kV K)) ∧ ((h_i h 260 x2.toNatClampNeg) = (-1) → vp_in x2 300 ∧ (AW (m_X12_free (d + 0) 0 0) 0 0 42 [(0, .ref 1), (1, .int x1), (2, .int (x2 + 1))] [] (h_im h 260 x2.toNatClampNeg (h_i h 1 0)) (kV K)))))))))) : AW (m_X12_free (d + 0) 0 0) 0 0 42 [(0, .ref 1), (1, .int x1), (2, .int x2)] [] h (kV K) := by
  refine aw_iload_n (i := 2) rfl d_X12_free_42 2 rfl ?_
  refine aw_aload_n (i := 0) rfl d_X12_free_43 0 rfl ?_
  refine aw_geti (k0 := 80) kc_12 (ws_1 w) (Nat.le_of_ble_eq_true rfl) tw_1822 d_X12_free_44 rfl ?_
  refine aw_icmp_ge (tgt := 96) d_X12_free_47 rfl (fun c7 => ?_) (fun c7 => ?_)
  · have k := k.1 c7
    exact aw_vret rfl d_X12_free_96 ⟨Nat.le_refl _, Nat.le_refl _⟩ ⟨rfl, k⟩
  · have k := k.2 c7
    refine aw_aload_n (i := 0) rfl d_X12_free_50 0 rfl ?_
    refine aw_getr (k0 := 72) kc_12 (ws_1 w) (Nat.le_of_ble_eq_true rfl) tw_1814 d_X12_free_51 rfl (wr_1_72 w) ?_
    refine aw_iload_n (i := 2) rfl d_X12_free_54 2 rfl ?_
    obtain ⟨b8, k⟩ := k
    refine aw_iald (ws_255 w) b8 d_X12_free_55 ?_
    refine aw_iload_n (i := 1) rfl d_X12_free_56 1 rfl ?_
    refine aw_icmp_ne (tgt := 90) d_X12_free_57 rfl (fun c9 => ?_) (fun c9 => ?_)
    · have k := k.1 c9
      refine aw_iinc (v := (x2 + 1)) [(0, .ref 1), (1, .int x1), (2, .int (x2 + 1))] d_X12_free_90 2 rfl rfl (Nat.le_of_ble_eq_true rfl) rfl rfl ?_
      refine aw_goto (tgt := 42) d_X12_free_93 rfl ?_
      exact k
    · have k := k.2 c9
      refine aw_aload_n (i := 0) rfl d_X12_free_60 0 rfl ?_
      refine aw_getr (k0 := 75) kc_12 (ws_1 w) (Nat.le_of_ble_eq_true rfl) tw_1817 d_X12_free_61 rfl (wr_1_75 w) ?_
      refine aw_iload_n (i := 2) rfl d_X12_free_64 2 rfl ?_
      obtain ⟨b10, k⟩ := k
      refine aw_iald (ws_258 w) b10 d_X12_free_65 ?_
      refine aw_iconst (v := 1) d_X12_free_66 ic_1 ?_
      refine aw_icmp_ne (tgt := 90) d_X12_free_67 rfl (fun c11 => ?_) (fun c11 => ?_)
      · have k := k.1 c11
        refine aw_iinc (v := (x2 + 1)) [(0, .ref 1), (1, .int x1), (2, .int (x2 + 1))] d_X12_free_90 2 rfl rfl (Nat.le_of_ble_eq_true rfl) rfl rfl ?_
        refine aw_goto (tgt := 42) d_X12_free_93 rfl ?_
        exact k
      · have k := k.2 c11
        refine aw_aload_n (i := 0) rfl d_X12_free_70 0 rfl ?_
        refine aw_getr (k0 := 77) kc_12 (ws_1 w) (Nat.le_of_ble_eq_true rfl) tw_1819 d_X12_free_71 rfl (wr_1_77 w) ?_
        refine aw_iload_n (i := 2) rfl d_X12_free_74 2 rfl ?_
        obtain ⟨b12, k⟩ := k
        refine aw_iald (ws_260 w) b12 d_X12_free_75 ?_
        refine aw_iconst (v := (-1)) d_X12_free_76 ic_m1 ?_
        refine aw_icmp_ne (tgt := 90) d_X12_free_77 rfl (fun c13 => ?_) (fun c13 => ?_)
        · have k := k.1 c13
          refine aw_iinc (v := (x2 + 1)) [(0, .ref 1), (1, .int x1), (2, .int (x2 + 1))] d_X12_free_90 2 rfl rfl (Nat.le_of_ble_eq_true rfl) rfl rfl ?_
          refine aw_goto (tgt := 42) d_X12_free_93 rfl ?_
          exact k
        · have k := k.2 c13
          refine aw_aload_n (i := 0) rfl d_X12_free_80 0 rfl ?_
          refine aw_getr (k0 := 77) kc_12 (ws_1 w) (Nat.le_of_ble_eq_true rfl) tw_1819 d_X12_free_81 rfl (wr_1_77 w) ?_
          refine aw_iload_n (i := 2) rfl d_X12_free_84 2 rfl ?_
          refine aw_aload_n (i := 0) rfl d_X12_free_85 0 rfl ?_
          refine aw_geti (k0 := 0) kc_12 (ws_1 w) (Nat.le_of_ble_eq_true rfl) tw_1742 d_X12_free_86 rfl ?_
          obtain ⟨b14, k⟩ := k
          refine aw_iast (ws_260 w) b14 d_X12_free_89 ?_
          refine aw_iinc (v := (x2 + 1)) [(0, .ref 1), (1, .int x1), (2, .int (x2 + 1))] d_X12_free_90 2 rfl rfl (Nat.le_of_ble_eq_true rfl) rfl rfl ?_
          refine aw_goto (tgt := 42) d_X12_free_93 rfl ?_
          exact k
theorem t_X12_goHome (d : Nat) (h : Hp_) (w : Wf h) (x1 : Int32) (K : Hp_ → Prop) (k : vp_in x1 12 ∧ (vp_in x1 12 ∧ (vp_in x1 12 ∧ (vp_in x1 12 ∧ (vp_in x1 12 ∧ (Ci (m_X12_walkOf (d + 0) 0 0) [.ref 1, .int (h_i h 209 x1.toNatClampNeg), .int (h_i h 206 x1.toNatClampNeg)] (h_im (h_im (h_im h 208 x1.toNatClampNeg 2) 213 x1.toNatClampNeg (-1)) 211 x1.toNatClampNeg (-1)) (fun r8 h6 => Wf h6 ∧ ((r8 = (-1) → Cv (m_X12_free (d + 0) 0 0) [.ref 1, .int x1] h6 (fun h10 => Wf h10 ∧ (K h10))) ∧ (¬ r8 = (-1) → (¬ r8 = 0 → vp_in x1 12 ∧ (Cv (m_X12_setOut (d + 1) 0 0) [.ref 1, .int x1, .int (h_i h6 206 x1.toNatClampNeg)] h6 (fun h15 => Wf h15 ∧ (K h15)))) ∧ (r8 = 0 → Cv (m_X12_free (d + 0) 0 0) [.ref 1, .int x1] h6 (fun h18 => Wf h18 ∧ (K h18)))))))))))) : Cv (m_X12_goHome (d + 2) 0 0) [.ref 1, .int x1] h K := by
  refine Ct.of (fun _ _ _ => trivial) pn_X12 (Nat.le_of_ble_eq_true rfl) ?_
  show AW (m_X12_goHome (d + 2) 0 0) 0 0 0 [(0, .ref 1), (1, .int x1)] [] h (kV K)
  refine aw_aload_n (i := 0) rfl d_X12_goHome_0 0 rfl ?_
  refine aw_getr (k0 := 12) kc_12 (ws_1 w) (Nat.le_of_ble_eq_true rfl) tw_1754 d_X12_goHome_1 rfl (wr_1_12 w) ?_
  refine aw_iload_n (i := 1) rfl d_X12_goHome_4 1 rfl ?_
  refine aw_iconst (v := 2) d_X12_goHome_5 ic_2 ?_
  obtain ⟨b1, k⟩ := k
  refine aw_iast (ws_208 w) b1 d_X12_goHome_6 ?_
  refine aw_aload_n (i := 0) rfl d_X12_goHome_7 0 rfl ?_
  refine aw_getr (k0 := 17) kc_12 (ws_1 w) (Nat.le_of_ble_eq_true rfl) tw_1759 d_X12_goHome_8 rfl (wr_1_17 w) ?_
  refine aw_iload_n (i := 1) rfl d_X12_goHome_11 1 rfl ?_
  refine aw_iconst (v := (-1)) d_X12_goHome_12 ic_m1 ?_
  obtain ⟨b2, k⟩ := k
  refine aw_iast (ws_213 w) b2 d_X12_goHome_13 ?_
  refine aw_aload_n (i := 0) rfl d_X12_goHome_14 0 rfl ?_
  refine aw_getr (k0 := 15) kc_12 (ws_1 w) (Nat.le_of_ble_eq_true rfl) tw_1757 d_X12_goHome_15 rfl (wr_1_15 w) ?_
  refine aw_iload_n (i := 1) rfl d_X12_goHome_18 1 rfl ?_
  refine aw_iconst (v := (-1)) d_X12_goHome_19 ic_m1 ?_
  obtain ⟨b3, k⟩ := k
  refine aw_iast (ws_211 w) b3 d_X12_goHome_20 ?_
  refine aw_aload_n (i := 0) rfl d_X12_goHome_21 0 rfl ?_
  refine aw_aload_n (i := 0) rfl d_X12_goHome_22 0 rfl ?_
  refine aw_getr (k0 := 13) kc_12 (ws_1 w) (Nat.le_of_ble_eq_true rfl) tw_1755 d_X12_goHome_23 rfl (wr_1_13 w) ?_
  refine aw_iload_n (i := 1) rfl d_X12_goHome_26 1 rfl ?_
  obtain ⟨b4, k⟩ := k
  refine aw_iald (ws_209 w) b4 d_X12_goHome_27 ?_
  refine aw_vi (v2 := (h_i h 209 x1.toNatClampNeg)) (rfl) ?_
  refine aw_aload_n (i := 0) rfl d_X12_goHome_28 0 rfl ?_
  refine aw_getr (k0 := 10) kc_12 (ws_1 w) (Nat.le_of_ble_eq_true rfl) tw_1752 d_X12_goHome_29 rfl (wr_1_10 w) ?_
  refine aw_iload_n (i := 1) rfl d_X12_goHome_32 1 rfl ?_
  obtain ⟨b5, k⟩ := k
  refine aw_iald (ws_206 w) b5 d_X12_goHome_33 ?_
  refine aw_vi (v2 := (h_i h 206 x1.toNatClampNeg)) (rfl) ?_
  refine aw_Vi 1 [.int (h_i h 209 x1.toNatClampNeg), .int (h_i h 206 x1.toNatClampNeg)] [] d_X12_goHome_34 (cV_X12_walkOf (d + 0) 0 0) kc_12 (ws_1 w) tw_2150 rfl (rr0 (Nat.le_of_ble_eq_true rfl) (Nat.le_of_ble_eq_true rfl)) (Nat.le_of_ble_eq_true rfl) xs0 k (fun r8 h6 kk => ?_)
  obtain ⟨w7, k⟩ := kk
  refine aw_istore_n (i := 2) rfl [(0, .ref 1), (1, .int x1), (2, .int r8)] d_X12_goHome_37 (Nat.le_of_ble_eq_true rfl) rfl rfl ?_
  refine aw_iload_n (i := 2) rfl d_X12_goHome_38 2 rfl ?_
  refine aw_iconst (v := (-1)) d_X12_goHome_39 ic_m1 ?_
  refine aw_icmp_eq (tgt := 47) d_X12_goHome_40 rfl (fun c9 => ?_) (fun c9 => ?_)
  · have k := k.1 c9
    refine aw_aload_n (i := 0) rfl d_X12_goHome_47 0 rfl ?_
    refine aw_iload_n (i := 1) rfl d_X12_goHome_48 1 rfl ?_
    refine aw_Vv 1 [.int x1] [] d_X12_goHome_49 (cV_X12_free (d + 0) 0 0) kc_12 (ws_1 w7) tw_2344 rfl (rr0 (Nat.le_of_ble_eq_true rfl) (Nat.le_of_ble_eq_true rfl)) (Nat.le_of_ble_eq_true rfl) xs0 k (fun h10 kk => ?_)
    obtain ⟨w11, k⟩ := kk
    exact aw_vret rfl d_X12_goHome_52 ⟨Nat.le_refl _, Nat.le_refl _⟩ ⟨rfl, k⟩
  · have k := k.2 c9
    refine aw_iload_n (i := 2) rfl d_X12_goHome_43 2 rfl ?_
    refine aw_if_ne (tgt := 53) d_X12_goHome_44 rfl (fun c13 => ?_) (fun c13 => ?_)
    · have k := k.1 c13
      refine aw_aload_n (i := 0) rfl d_X12_goHome_53 0 rfl ?_
      refine aw_iload_n (i := 1) rfl d_X12_goHome_54 1 rfl ?_
      refine aw_aload_n (i := 0) rfl d_X12_goHome_55 0 rfl ?_
      refine aw_getr (k0 := 10) kc_12 (ws_1 w7) (Nat.le_of_ble_eq_true rfl) tw_1752 d_X12_goHome_56 rfl (wr_1_10 w7) ?_
      refine aw_iload_n (i := 1) rfl d_X12_goHome_59 1 rfl ?_
      obtain ⟨b14, k⟩ := k
      refine aw_iald (ws_206 w7) b14 d_X12_goHome_60 ?_
      refine aw_Vv 1 [.int x1, .int (h_i h6 206 x1.toNatClampNeg)] [] d_X12_goHome_61 (cV_X12_setOut (d + 1) 0 0) kc_12 (ws_1 w7) tw_2348 rfl (rr0 (Nat.le_of_ble_eq_true rfl) (Nat.le_of_ble_eq_true rfl)) (Nat.le_of_ble_eq_true rfl) xs0 k (fun h15 kk => ?_)
      obtain ⟨w16, k⟩ := kk
      exact aw_vret rfl d_X12_goHome_64 ⟨Nat.le_refl _, Nat.le_refl _⟩ ⟨rfl, k⟩
    · have k := k.2 c13
      refine aw_aload_n (i := 0) rfl d_X12_goHome_47 0 rfl ?_
      refine aw_iload_n (i := 1) rfl d_X12_goHome_48 1 rfl ?_
      refine aw_Vv 1 [.int x1] [] d_X12_goHome_49 (cV_X12_free (d + 0) 0 0) kc_12 (ws_1 w7) tw_2344 rfl (rr0 (Nat.le_of_ble_eq_true rfl) (Nat.le_of_ble_eq_true rfl)) (Nat.le_of_ble_eq_true rfl) xs0 k (fun h18 kk => ?_)
      obtain ⟨w19, k⟩ := kk
      exact aw_vret rfl d_X12_goHome_52 ⟨Nat.le_refl _, Nat.le_refl _⟩ ⟨rfl, k⟩
theorem t_X12_stay (d : Nat) (h : Hp_) (w : Wf h) (x1 : Int32) (K : Hp_ → Prop) (k : vp_in x1 12 ∧ (((h_i h 1 0) < (h_i h 219 x1.toNatClampNeg) → vp_in x1 12 ∧ (vp_in x1 12 ∧ (K (h_im h 211 x1.toNatClampNeg (h_i h 219 x1.toNatClampNeg))))) ∧ (¬ (h_i h 1 0) < (h_i h 219 x1.toNatClampNeg) → Cv (m_X12_goHome (d + 2) 0 0) [.ref 1, .int x1] h (fun h5 => Wf h5 ∧ (K h5))))) : Cv (m_X12_stay (d + 3) 0 0) [.ref 1, .int x1] h K := by
  refine Ct.of (fun _ _ _ => trivial) pn_X12 (Nat.le_of_ble_eq_true rfl) ?_
  show AW (m_X12_stay (d + 3) 0 0) 0 0 0 [(0, .ref 1), (1, .int x1)] [] h (kV K)
  refine aw_aload_n (i := 0) rfl d_X12_stay_0 0 rfl ?_
  refine aw_getr (k0 := 23) kc_12 (ws_1 w) (Nat.le_of_ble_eq_true rfl) tw_1765 d_X12_stay_1 rfl (wr_1_23 w) ?_
  refine aw_iload_n (i := 1) rfl d_X12_stay_4 1 rfl ?_
  obtain ⟨b1, k⟩ := k
  refine aw_iald (ws_219 w) b1 d_X12_stay_5 ?_
  refine aw_aload_n (i := 0) rfl d_X12_stay_6 0 rfl ?_
  refine aw_geti (k0 := 0) kc_12 (ws_1 w) (Nat.le_of_ble_eq_true rfl) tw_1742 d_X12_stay_7 rfl ?_
  refine aw_icmp_gt (tgt := 21) d_X12_stay_10 rfl (fun c2 => ?_) (fun c2 => ?_)
  · have k := k.1 c2
    refine aw_aload_n (i := 0) rfl d_X12_stay_21 0 rfl ?_
    refine aw_getr (k0 := 15) kc_12 (ws_1 w) (Nat.le_of_ble_eq_true rfl) tw_1757 d_X12_stay_22 rfl (wr_1_15 w) ?_
    refine aw_iload_n (i := 1) rfl d_X12_stay_25 1 rfl ?_
    refine aw_aload_n (i := 0) rfl d_X12_stay_26 0 rfl ?_
    refine aw_getr (k0 := 23) kc_12 (ws_1 w) (Nat.le_of_ble_eq_true rfl) tw_1765 d_X12_stay_27 rfl (wr_1_23 w) ?_
    refine aw_iload_n (i := 1) rfl d_X12_stay_30 1 rfl ?_
    obtain ⟨b3, k⟩ := k
    refine aw_iald (ws_219 w) b3 d_X12_stay_31 ?_
    obtain ⟨b4, k⟩ := k
    refine aw_iast (ws_211 w) b4 d_X12_stay_32 ?_
    exact aw_vret rfl d_X12_stay_33 ⟨Nat.le_refl _, Nat.le_refl _⟩ ⟨rfl, k⟩
  · have k := k.2 c2
    refine aw_aload_n (i := 0) rfl d_X12_stay_13 0 rfl ?_
    refine aw_iload_n (i := 1) rfl d_X12_stay_14 1 rfl ?_
    refine aw_Vv 1 [.int x1] [] d_X12_stay_15 (cV_X12_goHome (d + 2) 0 0) kc_12 (ws_1 w) tw_2340 rfl (rr0 (Nat.le_of_ble_eq_true rfl) (Nat.le_of_ble_eq_true rfl)) (Nat.le_of_ble_eq_true rfl) xs0 k (fun h5 kk => ?_)
    obtain ⟨w6, k⟩ := kk
    refine aw_goto (tgt := 33) d_X12_stay_18 rfl ?_
    exact aw_vret rfl d_X12_stay_33 ⟨Nat.le_refl _, Nat.le_refl _⟩ ⟨rfl, k⟩
theorem t_X12_goDrawn (d : Nat) (h : Hp_) (w : Wf h) (x1 : Int32) (K : Hp_ → Prop) (k : vp_in x1 12 ∧ (vp_in x1 12 ∧ (Cv (m_X12_setOut (d + 1) 0 0) [.ref 1, .int x1, .int (h_i h 218 x1.toNatClampNeg)] (h_im h 211 x1.toNatClampNeg (-1)) (fun h3 => Wf h3 ∧ (vp_in x1 12 ∧ ((¬ (h_i h3 210 x1.toNatClampNeg) = (-1) → K h3) ∧ ((h_i h3 210 x1.toNatClampNeg) = (-1) → Cv (m_X12_stay (d + 3) 0 0) [.ref 1, .int x1] h3 (fun h8 => Wf h8 ∧ (K h8))))))))) : Cv (m_X12_goDrawn (d + 4) 0 0) [.ref 1, .int x1] h K := by
  refine Ct.of (fun _ _ _ => trivial) pn_X12 (Nat.le_of_ble_eq_true rfl) ?_
  show AW (m_X12_goDrawn (d + 4) 0 0) 0 0 0 [(0, .ref 1), (1, .int x1)] [] h (kV K)
  refine aw_aload_n (i := 0) rfl d_X12_goDrawn_0 0 rfl ?_
  refine aw_getr (k0 := 15) kc_12 (ws_1 w) (Nat.le_of_ble_eq_true rfl) tw_1757 d_X12_goDrawn_1 rfl (wr_1_15 w) ?_
  refine aw_iload_n (i := 1) rfl d_X12_goDrawn_4 1 rfl ?_
  refine aw_iconst (v := (-1)) d_X12_goDrawn_5 ic_m1 ?_
  obtain ⟨b1, k⟩ := k
  refine aw_iast (ws_211 w) b1 d_X12_goDrawn_6 ?_
  refine aw_aload_n (i := 0) rfl d_X12_goDrawn_7 0 rfl ?_
  refine aw_iload_n (i := 1) rfl d_X12_goDrawn_8 1 rfl ?_
  refine aw_aload_n (i := 0) rfl d_X12_goDrawn_9 0 rfl ?_
  refine aw_getr (k0 := 22) kc_12 (ws_1 w) (Nat.le_of_ble_eq_true rfl) tw_1764 d_X12_goDrawn_10 rfl (wr_1_22 w) ?_
  refine aw_iload_n (i := 1) rfl d_X12_goDrawn_13 1 rfl ?_
  obtain ⟨b2, k⟩ := k
  refine aw_iald (ws_218 w) b2 d_X12_goDrawn_14 ?_
  refine aw_vi (v2 := (h_i h 218 x1.toNatClampNeg)) (rfl) ?_
  refine aw_Vv 1 [.int x1, .int (h_i h 218 x1.toNatClampNeg)] [] d_X12_goDrawn_15 (cV_X12_setOut (d + 1) 0 0) kc_12 (ws_1 w) tw_2348 rfl (rr0 (Nat.le_of_ble_eq_true rfl) (Nat.le_of_ble_eq_true rfl)) (Nat.le_of_ble_eq_true rfl) xs0 k (fun h3 kk => ?_)
  obtain ⟨w4, k⟩ := kk
  refine aw_aload_n (i := 0) rfl d_X12_goDrawn_18 0 rfl ?_
  refine aw_getr (k0 := 14) kc_12 (ws_1 w4) (Nat.le_of_ble_eq_true rfl) tw_1756 d_X12_goDrawn_19 rfl (wr_1_14 w4) ?_
  refine aw_iload_n (i := 1) rfl d_X12_goDrawn_22 1 rfl ?_
  obtain ⟨b6, k⟩ := k
  refine aw_iald (ws_210 w4) b6 d_X12_goDrawn_23 ?_
  refine aw_iconst (v := (-1)) d_X12_goDrawn_24 ic_m1 ?_
  refine aw_icmp_ne (tgt := 33) d_X12_goDrawn_25 rfl (fun c7 => ?_) (fun c7 => ?_)
  · have k := k.1 c7
    exact aw_vret rfl d_X12_goDrawn_33 ⟨Nat.le_refl _, Nat.le_refl _⟩ ⟨rfl, k⟩
  · have k := k.2 c7
    refine aw_aload_n (i := 0) rfl d_X12_goDrawn_28 0 rfl ?_
    refine aw_iload_n (i := 1) rfl d_X12_goDrawn_29 1 rfl ?_
    refine aw_Vv 1 [.int x1] [] d_X12_goDrawn_30 (cV_X12_stay (d + 3) 0 0) kc_12 (ws_1 w4) tw_2372 rfl (rr0 (Nat.le_of_ble_eq_true rfl) (Nat.le_of_ble_eq_true rfl)) (Nat.le_of_ble_eq_true rfl) xs0 k (fun h8 kk => ?_)
    obtain ⟨w9, k⟩ := kk
    exact aw_vret rfl d_X12_goDrawn_33 ⟨Nat.le_refl _, Nat.le_refl _⟩ ⟨rfl, k⟩
theorem t_X12_miss (d : Nat) (h : Hp_) (w : Wf h) (x1 : Int32) (x2 : Int32) (K : Hp_ → Prop) (k : vp_in x1 400 ∧ (vp_in x1 400 ∧ (K (h_im (h_im h 242 x1.toNatClampNeg (h_i h 1 0)) 243 x1.toNatClampNeg x2)))) : Cv (m_X12_miss (d + 0) 0 0) [.ref 1, .int x1, .int x2] h K := by
  refine Ct.of (fun _ _ _ => trivial) pn_X12 (Nat.le_of_ble_eq_true rfl) ?_
  show AW (m_X12_miss (d + 0) 0 0) 0 0 0 [(0, .ref 1), (1, .int x1), (2, .int x2)] [] h (kV K)
  refine aw_aload_n (i := 0) rfl d_X12_miss_0 0 rfl ?_
  refine aw_getr (k0 := 57) kc_12 (ws_1 w) (Nat.le_of_ble_eq_true rfl) tw_1799 d_X12_miss_1 rfl (wr_1_57 w) ?_
  refine aw_iload_n (i := 1) rfl d_X12_miss_4 1 rfl ?_
  refine aw_aload_n (i := 0) rfl d_X12_miss_5 0 rfl ?_
  refine aw_geti (k0 := 0) kc_12 (ws_1 w) (Nat.le_of_ble_eq_true rfl) tw_1742 d_X12_miss_6 rfl ?_
  obtain ⟨b1, k⟩ := k
  refine aw_iast (ws_242 w) b1 d_X12_miss_9 ?_
  refine aw_aload_n (i := 0) rfl d_X12_miss_10 0 rfl ?_
  refine aw_getr (k0 := 58) kc_12 (ws_1 w) (Nat.le_of_ble_eq_true rfl) tw_1800 d_X12_miss_11 rfl (wr_1_58 w) ?_
  refine aw_iload_n (i := 1) rfl d_X12_miss_14 1 rfl ?_
  refine aw_iload_n (i := 2) rfl d_X12_miss_15 2 rfl ?_
  obtain ⟨b2, k⟩ := k
  refine aw_iast (ws_243 w) b2 d_X12_miss_16 ?_
  exact aw_vret rfl d_X12_miss_17 ⟨Nat.le_refl _, Nat.le_refl _⟩ ⟨rfl, k⟩
theorem t_X12_comes (d : Nat) (h : Hp_) (w : Wf h) (x1 : Int32) (x2 : Int32) (K : Int32 → Hp_ → Prop) (k : vp_in x1 12 ∧ (vp_in x1 12 ∧ (vp_in x1 12 ∧ (vp_in x1 12 ∧ (((h_i h 1 0) ≤ ((h_i h 214 x1.toNatClampNeg) + x2) → vp_in (h_i h 216 x1.toNatClampNeg) 400 ∧ ((((h_i h 214 x1.toNatClampNeg) + x2) ≤ (h_i h 1 0) → K 0 (h_im (h_im h 216 x1.toNatClampNeg ((h_i h 216 x1.toNatClampNeg) + 1)) 241 ((h_i h 216 x1.toNatClampNeg) : Int32).toNatClampNeg (h_i h 1 0))) ∧ (¬ ((h_i h 214 x1.toNatClampNeg) + x2) ≤ (h_i h 1 0) → vp_in x1 12 ∧ (K 1 (h_im (h_im (h_im h 216 x1.toNatClampNeg ((h_i h 216 x1.toNatClampNeg) + 1)) 241 ((h_i h 216 x1.toNatClampNeg) : Int32).toNatClampNeg (h_i h 1 0)) 211 x1.toNatClampNeg ((h_i h 214 x1.toNatClampNeg) + x2)))))) ∧ (¬ (h_i h 1 0) ≤ ((h_i h 214 x1.toNatClampNeg) + x2) → Cv (m_X12_miss (d + 0) 0 0) [.ref 1, .int (h_i h 216 x1.toNatClampNeg), .int 1] (h_im h 216 x1.toNatClampNeg ((h_i h 216 x1.toNatClampNeg) + 1)) (fun h9 => Wf h9 ∧ (K 0 h9)))))))) : Ci (m_X12_comes (d + 1) 0 0) [.ref 1, .int x1, .int x2] h K := by
  refine Ct.of (fun _ _ _ => trivial) pn_X12 (Nat.le_of_ble_eq_true rfl) ?_
  show AW (m_X12_comes (d + 1) 0 0) 0 0 0 [(0, .ref 1), (1, .int x1), (2, .int x2)] [] h (kI K)
  refine aw_aload_n (i := 0) rfl d_X12_comes_0 0 rfl ?_
  refine aw_getr (k0 := 18) kc_12 (ws_1 w) (Nat.le_of_ble_eq_true rfl) tw_1760 d_X12_comes_1 rfl (wr_1_18 w) ?_
  refine aw_iload_n (i := 1) rfl d_X12_comes_4 1 rfl ?_
  obtain ⟨b1, k⟩ := k
  refine aw_iald (ws_214 w) b1 d_X12_comes_5 ?_
  refine aw_iload_n (i := 2) rfl d_X12_comes_6 2 rfl ?_
  refine aw_iadd d_X12_comes_7 ?_
  refine aw_istore_n (i := 3) rfl [(0, .ref 1), (1, .int x1), (2, .int x2), (3, .int ((h_i h 214 x1.toNatClampNeg) + x2))] d_X12_comes_8 (Nat.le_of_ble_eq_true rfl) rfl rfl ?_
  refine aw_aload_n (i := 0) rfl d_X12_comes_9 0 rfl ?_
  refine aw_getr (k0 := 20) kc_12 (ws_1 w) (Nat.le_of_ble_eq_true rfl) tw_1762 d_X12_comes_10 rfl (wr_1_20 w) ?_
  refine aw_iload_n (i := 1) rfl d_X12_comes_13 1 rfl ?_
  obtain ⟨b2, k⟩ := k
  refine aw_iald (ws_216 w) b2 d_X12_comes_14 ?_
  refine aw_istore [(0, .ref 1), (1, .int x1), (2, .int x2), (3, .int ((h_i h 214 x1.toNatClampNeg) + x2)), (4, .int (h_i h 216 x1.toNatClampNeg))] d_X12_comes_15 (Nat.le_of_ble_eq_true rfl) rfl rfl ?_
  refine aw_aload_n (i := 0) rfl d_X12_comes_17 0 rfl ?_
  refine aw_getr (k0 := 20) kc_12 (ws_1 w) (Nat.le_of_ble_eq_true rfl) tw_1762 d_X12_comes_18 rfl (wr_1_20 w) ?_
  refine aw_iload_n (i := 1) rfl d_X12_comes_21 1 rfl ?_
  refine aw_dup2 d_X12_comes_22 ⟨rfl, rfl⟩ ?_
  obtain ⟨b3, k⟩ := k
  refine aw_iald (ws_216 w) b3 d_X12_comes_23 ?_
  refine aw_iconst (v := 1) d_X12_comes_24 ic_1 ?_
  refine aw_iadd d_X12_comes_25 ?_
  obtain ⟨b4, k⟩ := k
  refine aw_iast (ws_216 w) b4 d_X12_comes_26 ?_
  refine aw_aload_n (i := 0) rfl d_X12_comes_27 0 rfl ?_
  refine aw_geti (k0 := 0) kc_12 (ws_1 w) (Nat.le_of_ble_eq_true rfl) tw_1742 d_X12_comes_28 rfl ?_
  refine aw_vi (v2 := (h_i h 1 0)) (rfl) ?_
  refine aw_iload_n (i := 3) rfl d_X12_comes_31 3 rfl ?_
  refine aw_icmp_le (tgt := 44) d_X12_comes_32 rfl (fun c5 => ?_) (fun c5 => ?_)
  · have k := k.1 c5
    refine aw_aload_n (i := 0) rfl d_X12_comes_44 0 rfl ?_
    refine aw_getr (k0 := 56) kc_12 (ws_1 w) (Nat.le_of_ble_eq_true rfl) tw_1798 d_X12_comes_45 rfl (wr_1_56 w) ?_
    refine aw_iload d_X12_comes_48 4 rfl ?_
    refine aw_aload_n (i := 0) rfl d_X12_comes_50 0 rfl ?_
    refine aw_geti (k0 := 0) kc_12 (ws_1 w) (Nat.le_of_ble_eq_true rfl) tw_1742 d_X12_comes_51 rfl ?_
    refine aw_vi (v2 := (h_i h 1 0)) (rfl) ?_
    obtain ⟨b6, k⟩ := k
    refine aw_iast (ws_241 w) b6 d_X12_comes_54 ?_
    refine aw_aload_n (i := 0) rfl d_X12_comes_55 0 rfl ?_
    refine aw_geti (k0 := 0) kc_12 (ws_1 w) (Nat.le_of_ble_eq_true rfl) tw_1742 d_X12_comes_56 rfl ?_
    refine aw_vi (v2 := (h_i h 1 0)) (rfl) ?_
    refine aw_iload_n (i := 3) rfl d_X12_comes_59 3 rfl ?_
    refine aw_icmp_ge (tgt := 72) d_X12_comes_60 rfl (fun c7 => ?_) (fun c7 => ?_)
    · have k := k.1 c7
      refine aw_iconst (v := 0) d_X12_comes_72 ic_0 ?_
      exact aw_zret rfl rfl d_X12_comes_73 ⟨Nat.le_refl _, Nat.le_refl _⟩ ⟨_, rfl, k⟩
    · have k := k.2 c7
      refine aw_aload_n (i := 0) rfl d_X12_comes_63 0 rfl ?_
      refine aw_getr (k0 := 15) kc_12 (ws_1 w) (Nat.le_of_ble_eq_true rfl) tw_1757 d_X12_comes_64 rfl (wr_1_15 w) ?_
      refine aw_iload_n (i := 1) rfl d_X12_comes_67 1 rfl ?_
      refine aw_iload_n (i := 3) rfl d_X12_comes_68 3 rfl ?_
      obtain ⟨b8, k⟩ := k
      refine aw_iast (ws_211 w) b8 d_X12_comes_69 ?_
      refine aw_iconst (v := 1) d_X12_comes_70 ic_1 ?_
      exact aw_zret rfl rfl d_X12_comes_71 ⟨Nat.le_refl _, Nat.le_refl _⟩ ⟨_, rfl, k⟩
  · have k := k.2 c5
    refine aw_aload_n (i := 0) rfl d_X12_comes_35 0 rfl ?_
    refine aw_iload d_X12_comes_36 4 rfl ?_
    refine aw_iconst (v := 1) d_X12_comes_38 ic_1 ?_
    refine aw_Vv 1 [.int (h_i h 216 x1.toNatClampNeg), .int 1] [] d_X12_comes_39 (cV_X12_miss (d + 0) 0 0) kc_12 (ws_1 w) tw_2352 rfl (rr0 (Nat.le_of_ble_eq_true rfl) (Nat.le_of_ble_eq_true rfl)) (Nat.le_of_ble_eq_true rfl) xs0 k (fun h9 kk => ?_)
    obtain ⟨w10, k⟩ := kk
    refine aw_iconst (v := 0) d_X12_comes_42 ic_0 ?_
    exact aw_zret rfl rfl d_X12_comes_43 ⟨Nat.le_refl _, Nat.le_refl _⟩ ⟨_, rfl, k⟩
theorem t_X12_goOn_0 (d : Nat) (h : Hp_) (w : Wf h) (x1 : Int32) (K : Hp_ → Prop) (k : vp_in x1 12 ∧ ((¬ (h_i h 208 x1.toNatClampNeg) = 1 → K h) ∧ ((h_i h 208 x1.toNatClampNeg) = 1 → vp_in x1 12 ∧ (vp_in x1 12 ∧ (vp_in (h_i h 212 x1.toNatClampNeg) 12 ∧ ((¬ (h_i h 213 x1.toNatClampNeg) = (h_i h 227 ((h_i h 212 x1.toNatClampNeg) : Int32).toNatClampNeg) → vp_in x1 12 ∧ (vp_in x1 12 ∧ (vp_in ((150 * (h_i h 212 x1.toNatClampNeg)) + (h_i h 213 x1.toNatClampNeg)) 1800 ∧ (vp_in x1 12 ∧ (((h_i h 228 (((150 * (h_i h 212 x1.toNatClampNeg)) + (h_i h 213 x1.toNatClampNeg)) : Int32).toNatClampNeg) = 0 → vp_in x1 12 ∧ (vp_in ((150 * (h_i h 212 x1.toNatClampNeg)) + (h_i h 213 x1.toNatClampNeg)) 1800 ∧ (Ci (m_X12_walkOf (d + 0) 0 0) [.ref 1, .int (h_i h 209 x1.toNatClampNeg), .int (h_i h 229 (((150 * (h_i h 212 x1.toNatClampNeg)) + (h_i h 213 x1.toNatClampNeg)) : Int32).toNatClampNeg)] (h_im h 211 x1.toNatClampNeg (-1)) (fun r115 h113 => Wf h113 ∧ ((r115 ≤ 0 → (¬ (h_i h 228 (((150 * (h_i h 212 x1.toNatClampNeg)) + (h_i h 213 x1.toNatClampNeg)) : Int32).toNatClampNeg) = 2 → (¬ (h_i h 228 (((150 * (h_i h 212 x1.toNatClampNeg)) + (h_i h 213 x1.toNatClampNeg)) : Int32).toNatClampNeg) = 2 → vp_in x1 12 ∧ (vp_in x1 12 ∧ (AW (m_X12_goOn (d + 3) 0 0) 0 0 0 [(0, .ref 1), (1, .int x1)] [] (h_im h113 213 x1.toNatClampNeg ((h_i h113 213 x1.toNatClampNeg) + 1)) (kV K)))) ∧ ((h_i h 228 (((150 * (h_i h 212 x1.toNatClampNeg)) + (h_i h 213 x1.toNatClampNeg)) : Int32).toNatClampNeg) = 2 → vp_in ((150 * (h_i h 212 x1.toNatClampNeg)) + (h_i h 213 x1.toNatClampNeg)) 1800 ∧ (Ci (m_X12_comes (d + 1) 0 0) [.ref 1, .int x1, .int (h_i h113 230 (((150 * (h_i h 212 x1.toNatClampNeg)) + (h_i h 213 x1.toNatClampNeg)) : Int32).toNatClampNeg)] h113 (fun r124 h122 => Wf h122 ∧ ((r124 = 0 → vp_in x1 12 ∧ (vp_in x1 12 ∧ (AW (m_X12_goOn (d + 3) 0 0) 0 0 0 [(0, .ref 1), (1, .int x1)] [] (h_im h122 213 x1.toNatClampNeg ((h_i h122 213 x1.toNatClampNeg) + 1)) (kV K)))) ∧ (¬ r124 = 0 → K h122)))))) ∧ ((h_i h 228 (((150 * (h_i h 212 x1.toNatClampNeg)) + (h_i h 213 x1.toNatClampNeg)) : Int32).toNatClampNeg) = 2 → (¬ r115 = (-1) → (¬ (h_i h 228 (((150 * (h_i h 212 x1.toNatClampNeg)) + (h_i h 213 x1.toNatClampNeg)) : Int32).toNatClampNeg) = 2 → vp_in x1 12 ∧ (vp_in x1 12 ∧ (AW (m_X12_goOn (d + 3) 0 0) 0 0 0 [(0, .ref 1), (1, .int x1)] [] (h_im h113 213 x1.toNatClampNeg ((h_i h113 213 x1.toNatClampNeg) + 1)) (kV K)))) ∧ ((h_i h 228 (((150 * (h_i h 212 x1.toNatClampNeg)) + (h_i h 213 x1.toNatClampNeg)) : Int32).toNatClampNeg) = 2 → vp_in ((150 * (h_i h 212 x1.toNatClampNeg)) + (h_i h 213 x1.toNatClampNeg)) 1800 ∧ (Ci (m_X12_comes (d + 1) 0 0) [.ref 1, .int x1, .int (h_i h113 230 (((150 * (h_i h 212 x1.toNatClampNeg)) + (h_i h 213 x1.toNatClampNeg)) : Int32).toNatClampNeg)] h113 (fun r135 h133 => Wf h133 ∧ ((r135 = 0 → vp_in x1 12 ∧ (vp_in x1 12 ∧ (AW (m_X12_goOn (d + 3) 0 0) 0 0 0 [(0, .ref 1), (1, .int x1)] [] (h_im h133 213 x1.toNatClampNeg ((h_i h133 213 x1.toNatClampNeg) + 1)) (kV K)))) ∧ (¬ r135 = 0 → K h133)))))) ∧ (r115 = (-1) → vp_in x1 12 ∧ (Cv (m_X12_miss (d + 0) 0 0) [.ref 1, .int (h_i h113 216 x1.toNatClampNeg), .int 2] h113 (fun h140 => Wf h140 ∧ (vp_in x1 12 ∧ (vp_in x1 12 ∧ (vp_in x1 12 ∧ (vp_in x1 12 ∧ (AW (m_X12_goOn (d + 3) 0 0) 0 0 0 [(0, .ref 1), (1, .int x1)] [] (h_im (h_im h140 216 x1.toNatClampNeg ((h_i h140 216 x1.toNatClampNeg) + 1)) 213 x1.toNatClampNeg ((h_i h140 213 x1.toNatClampNeg) + 1)) (kV K))))))))))) ∧ (¬ r115 ≤ 0 → vp_in ((150 * (h_i h 212 x1.toNatClampNeg)) + (h_i h 213 x1.toNatClampNeg)) 1800 ∧ (Cv (m_X12_setOut (d + 1) 0 0) [.ref 1, .int x1, .int (h_i h113 229 (((150 * (h_i h 212 x1.toNatClampNeg)) + (h_i h 213 x1.toNatClampNeg)) : Int32).toNatClampNeg)] h113 (fun h148 => Wf h148 ∧ (K h148))))))))) ∧ (¬ (h_i h 228 (((150 * (h_i h 212 x1.toNatClampNeg)) + (h_i h 213 x1.toNatClampNeg)) : Int32).toNatClampNeg) = 0 → (¬ (h_i h 228 (((150 * (h_i h 212 x1.toNatClampNeg)) + (h_i h 213 x1.toNatClampNeg)) : Int32).toNatClampNeg) = 2 → (¬ (h_i h 228 (((150 * (h_i h 212 x1.toNatClampNeg)) + (h_i h 213 x1.toNatClampNeg)) : Int32).toNatClampNeg) = 1 → vp_in x1 12 ∧ (K (h_im (h_im h 211 x1.toNatClampNeg (-1)) 211 x1.toNatClampNeg ((h_i h 1 0) + 1)))) ∧ ((h_i h 228 (((150 * (h_i h 212 x1.toNatClampNeg)) + (h_i h 213 x1.toNatClampNeg)) : Int32).toNatClampNeg) = 1 → vp_in ((150 * (h_i h 212 x1.toNatClampNeg)) + (h_i h 213 x1.toNatClampNeg)) 1800 ∧ (vp_in x1 12 ∧ (K (h_im (h_im h 211 x1.toNatClampNeg (-1)) 211 x1.toNatClampNeg ((h_i h 1 0) + (h_i h 229 (((150 * (h_i h 212 x1.toNatClampNeg)) + (h_i h 213 x1.toNatClampNeg)) : Int32).toNatClampNeg))))))) ∧ ((h_i h 228 (((150 * (h_i h 212 x1.toNatClampNeg)) + (h_i h 213 x1.toNatClampNeg)) : Int32).toNatClampNeg) = 2 → vp_in x1 12 ∧ (vp_in ((150 * (h_i h 212 x1.toNatClampNeg)) + (h_i h 213 x1.toNatClampNeg)) 1800 ∧ (Ci (m_X12_walkOf (d + 0) 0 0) [.ref 1, .int (h_i h 209 x1.toNatClampNeg), .int (h_i h 229 (((150 * (h_i h 212 x1.toNatClampNeg)) + (h_i h 213 x1.toNatClampNeg)) : Int32).toNatClampNeg)] (h_im h 211 x1.toNatClampNeg (-1)) (fun r160 h158 => Wf h158 ∧ ((r160 ≤ 0 → (¬ (h_i h 228 (((150 * (h_i h 212 x1.toNatClampNeg)) + (h_i h 213 x1.toNatClampNeg)) : Int32).toNatClampNeg) = 2 → (¬ (h_i h 228 (((150 * (h_i h 212 x1.toNatClampNeg)) + (h_i h 213 x1.toNatClampNeg)) : Int32).toNatClampNeg) = 2 → vp_in x1 12 ∧ (vp_in x1 12 ∧ (AW (m_X12_goOn (d + 3) 0 0) 0 0 0 [(0, .ref 1), (1, .int x1)] [] (h_im h158 213 x1.toNatClampNeg ((h_i h158 213 x1.toNatClampNeg) + 1)) (kV K)))) ∧ ((h_i h 228 (((150 * (h_i h 212 x1.toNatClampNeg)) + (h_i h 213 x1.toNatClampNeg)) : Int32).toNatClampNeg) = 2 → vp_in ((150 * (h_i h 212 x1.toNatClampNeg)) + (h_i h 213 x1.toNatClampNeg)) 1800 ∧ (Ci (m_X12_comes (d + 1) 0 0) [.ref 1, .int x1, .int (h_i h158 230 (((150 * (h_i h 212 x1.toNatClampNeg)) + (h_i h 213 x1.toNatClampNeg)) : Int32).toNatClampNeg)] h158 (fun r169 h167 => Wf h167 ∧ ((r169 = 0 → vp_in x1 12 ∧ (vp_in x1 12 ∧ (AW (m_X12_goOn (d + 3) 0 0) 0 0 0 [(0, .ref 1), (1, .int x1)] [] (h_im h167 213 x1.toNatClampNeg ((h_i h167 213 x1.toNatClampNeg) + 1)) (kV K)))) ∧ (¬ r169 = 0 → K h167)))))) ∧ ((h_i h 228 (((150 * (h_i h 212 x1.toNatClampNeg)) + (h_i h 213 x1.toNatClampNeg)) : Int32).toNatClampNeg) = 2 → (¬ r160 = (-1) → (¬ (h_i h 228 (((150 * (h_i h 212 x1.toNatClampNeg)) + (h_i h 213 x1.toNatClampNeg)) : Int32).toNatClampNeg) = 2 → vp_in x1 12 ∧ (vp_in x1 12 ∧ (AW (m_X12_goOn (d + 3) 0 0) 0 0 0 [(0, .ref 1), (1, .int x1)] [] (h_im h158 213 x1.toNatClampNeg ((h_i h158 213 x1.toNatClampNeg) + 1)) (kV K)))) ∧ ((h_i h 228 (((150 * (h_i h 212 x1.toNatClampNeg)) + (h_i h 213 x1.toNatClampNeg)) : Int32).toNatClampNeg) = 2 → vp_in ((150 * (h_i h 212 x1.toNatClampNeg)) + (h_i h 213 x1.toNatClampNeg)) 1800 ∧ (Ci (m_X12_comes (d + 1) 0 0) [.ref 1, .int x1, .int (h_i h158 230 (((150 * (h_i h 212 x1.toNatClampNeg)) + (h_i h 213 x1.toNatClampNeg)) : Int32).toNatClampNeg)] h158 (fun r180 h178 => Wf h178 ∧ ((r180 = 0 → vp_in x1 12 ∧ (vp_in x1 12 ∧ (AW (m_X12_goOn (d + 3) 0 0) 0 0 0 [(0, .ref 1), (1, .int x1)] [] (h_im h178 213 x1.toNatClampNeg ((h_i h178 213 x1.toNatClampNeg) + 1)) (kV K)))) ∧ (¬ r180 = 0 → K h178)))))) ∧ (r160 = (-1) → vp_in x1 12 ∧ (Cv (m_X12_miss (d + 0) 0 0) [.ref 1, .int (h_i h158 216 x1.toNatClampNeg), .int 2] h158 (fun h185 => Wf h185 ∧ (vp_in x1 12 ∧ (vp_in x1 12 ∧ (vp_in x1 12 ∧ (vp_in x1 12 ∧ (AW (m_X12_goOn (d + 3) 0 0) 0 0 0 [(0, .ref 1), (1, .int x1)] [] (h_im (h_im h185 216 x1.toNatClampNeg ((h_i h185 216 x1.toNatClampNeg) + 1)) 213 x1.toNatClampNeg ((h_i h185 213 x1.toNatClampNeg) + 1)) (kV K))))))))))) ∧ (¬ r160 ≤ 0 → vp_in ((150 * (h_i h 212 x1.toNatClampNeg)) + (h_i h 213 x1.toNatClampNeg)) 1800 ∧ (Cv (m_X12_setOut (d + 1) 0 0) [.ref 1, .int x1, .int (h_i h158 229 (((150 * (h_i h 212 x1.toNatClampNeg)) + (h_i h 213 x1.toNatClampNeg)) : Int32).toNatClampNeg)] h158 (fun h193 => Wf h193 ∧ (K h193))))))))))))))) ∧ ((h_i h 213 x1.toNatClampNeg) = (h_i h 227 ((h_i h 212 x1.toNatClampNeg) : Int32).toNatClampNeg) → Cv (m_X12_goHome (d + 2) 0 0) [.ref 1, .int x1] h (fun h196 => Wf h196 ∧ (K h196))))))))) : AW (m_X12_goOn (d + 3) 0 0) 0 0 0 [(0, .ref 1), (1, .int x1)] [] h (kV K) := by
  refine aw_aload_n (i := 0) rfl d_X12_goOn_0 0 rfl ?_
  refine aw_getr (k0 := 12) kc_12 (ws_1 w) (Nat.le_of_ble_eq_true rfl) tw_1754 d_X12_goOn_1 rfl (wr_1_12 w) ?_
  refine aw_iload_n (i := 1) rfl d_X12_goOn_4 1 rfl ?_
  obtain ⟨b100, k⟩ := k
  refine aw_iald (ws_208 w) b100 d_X12_goOn_5 ?_
  refine aw_iconst (v := 1) d_X12_goOn_6 ic_1 ?_
  refine aw_icmp_ne (tgt := 210) d_X12_goOn_7 rfl (fun c101 => ?_) (fun c101 => ?_)
  · have k := k.1 c101
    exact aw_vret rfl d_X12_goOn_210 ⟨Nat.le_refl _, Nat.le_refl _⟩ ⟨rfl, k⟩
  · have k := k.2 c101
    refine aw_aload_n (i := 0) rfl d_X12_goOn_10 0 rfl ?_
    refine aw_getr (k0 := 17) kc_12 (ws_1 w) (Nat.le_of_ble_eq_true rfl) tw_1759 d_X12_goOn_11 rfl (wr_1_17 w) ?_
    refine aw_iload_n (i := 1) rfl d_X12_goOn_14 1 rfl ?_
    obtain ⟨b102, k⟩ := k
    refine aw_iald (ws_213 w) b102 d_X12_goOn_15 ?_
    refine aw_aload_n (i := 0) rfl d_X12_goOn_16 0 rfl ?_
    refine aw_getr (k0 := 38) kc_12 (ws_1 w) (Nat.le_of_ble_eq_true rfl) tw_1780 d_X12_goOn_17 rfl (wr_1_38 w) ?_
    refine aw_aload_n (i := 0) rfl d_X12_goOn_20 0 rfl ?_
    refine aw_getr (k0 := 16) kc_12 (ws_1 w) (Nat.le_of_ble_eq_true rfl) tw_1758 d_X12_goOn_21 rfl (wr_1_16 w) ?_
    refine aw_iload_n (i := 1) rfl d_X12_goOn_24 1 rfl ?_
    obtain ⟨b103, k⟩ := k
    refine aw_iald (ws_212 w) b103 d_X12_goOn_25 ?_
    obtain ⟨b104, k⟩ := k
    refine aw_iald (ws_227 w) b104 d_X12_goOn_26 ?_
    refine aw_icmp_ne (tgt := 36) d_X12_goOn_27 rfl (fun c105 => ?_) (fun c105 => ?_)
    · have k := k.1 c105
      refine aw_sipush (v := 150) d_X12_goOn_36 is_150 ?_
      refine aw_aload_n (i := 0) rfl d_X12_goOn_39 0 rfl ?_
      refine aw_getr (k0 := 16) kc_12 (ws_1 w) (Nat.le_of_ble_eq_true rfl) tw_1758 d_X12_goOn_40 rfl (wr_1_16 w) ?_
      refine aw_iload_n (i := 1) rfl d_X12_goOn_43 1 rfl ?_
      obtain ⟨b106, k⟩ := k
      refine aw_iald (ws_212 w) b106 d_X12_goOn_44 ?_
      refine aw_imul d_X12_goOn_45 ?_
      refine aw_aload_n (i := 0) rfl d_X12_goOn_46 0 rfl ?_
      refine aw_getr (k0 := 17) kc_12 (ws_1 w) (Nat.le_of_ble_eq_true rfl) tw_1759 d_X12_goOn_47 rfl (wr_1_17 w) ?_
      refine aw_iload_n (i := 1) rfl d_X12_goOn_50 1 rfl ?_
      obtain ⟨b107, k⟩ := k
      refine aw_iald (ws_213 w) b107 d_X12_goOn_51 ?_
      refine aw_iadd d_X12_goOn_52 ?_
      refine aw_istore_n (i := 2) rfl [(0, .ref 1), (1, .int x1), (2, .int ((150 * (h_i h 212 x1.toNatClampNeg)) + (h_i h 213 x1.toNatClampNeg)))] d_X12_goOn_53 (Nat.le_of_ble_eq_true rfl) rfl rfl ?_
      refine aw_aload_n (i := 0) rfl d_X12_goOn_54 0 rfl ?_
      refine aw_getr (k0 := 39) kc_12 (ws_1 w) (Nat.le_of_ble_eq_true rfl) tw_1781 d_X12_goOn_55 rfl (wr_1_39 w) ?_
      refine aw_iload_n (i := 2) rfl d_X12_goOn_58 2 rfl ?_
      obtain ⟨b108, k⟩ := k
      refine aw_iald (ws_228 w) b108 d_X12_goOn_59 ?_
      refine aw_istore_n (i := 3) rfl [(0, .ref 1), (1, .int x1), (2, .int ((150 * (h_i h 212 x1.toNatClampNeg)) + (h_i h 213 x1.toNatClampNeg))), (3, .int (h_i h 228 (((150 * (h_i h 212 x1.toNatClampNeg)) + (h_i h 213 x1.toNatClampNeg)) : Int32).toNatClampNeg))] d_X12_goOn_60 (Nat.le_of_ble_eq_true rfl) rfl rfl ?_
      refine aw_aload_n (i := 0) rfl d_X12_goOn_61 0 rfl ?_
      refine aw_getr (k0 := 15) kc_12 (ws_1 w) (Nat.le_of_ble_eq_true rfl) tw_1757 d_X12_goOn_62 rfl (wr_1_15 w) ?_
      refine aw_iload_n (i := 1) rfl d_X12_goOn_65 1 rfl ?_
      refine aw_iconst (v := (-1)) d_X12_goOn_66 ic_m1 ?_
      obtain ⟨b109, k⟩ := k
      refine aw_iast (ws_211 w) b109 d_X12_goOn_67 ?_
      refine aw_iload_n (i := 3) rfl d_X12_goOn_68 3 rfl ?_
      refine aw_if_eq (tgt := 77) d_X12_goOn_69 rfl (fun c110 => ?_) (fun c110 => ?_)
      · have k := k.1 c110
        refine aw_aload_n (i := 0) rfl d_X12_goOn_77 0 rfl ?_
        refine aw_aload_n (i := 0) rfl d_X12_goOn_78 0 rfl ?_
        refine aw_getr (k0 := 13) kc_12 (ws_1 w) (Nat.le_of_ble_eq_true rfl) tw_1755 d_X12_goOn_79 rfl (wr_1_13 w) ?_
        refine aw_iload_n (i := 1) rfl d_X12_goOn_82 1 rfl ?_
        obtain ⟨b111, k⟩ := k
        refine aw_iald (ws_209 w) b111 d_X12_goOn_83 ?_
        refine aw_vi (v2 := (h_i h 209 x1.toNatClampNeg)) (rfl) ?_
        refine aw_aload_n (i := 0) rfl d_X12_goOn_84 0 rfl ?_
        refine aw_getr (k0 := 40) kc_12 (ws_1 w) (Nat.le_of_ble_eq_true rfl) tw_1782 d_X12_goOn_85 rfl (wr_1_40 w) ?_
        refine aw_iload_n (i := 2) rfl d_X12_goOn_88 2 rfl ?_
        obtain ⟨b112, k⟩ := k
        refine aw_iald (ws_229 w) b112 d_X12_goOn_89 ?_
        refine aw_vi (v2 := (h_i h 229 (((150 * (h_i h 212 x1.toNatClampNeg)) + (h_i h 213 x1.toNatClampNeg)) : Int32).toNatClampNeg)) (rfl) ?_
        refine aw_Vi 1 [.int (h_i h 209 x1.toNatClampNeg), .int (h_i h 229 (((150 * (h_i h 212 x1.toNatClampNeg)) + (h_i h 213 x1.toNatClampNeg)) : Int32).toNatClampNeg)] [] d_X12_goOn_90 (cV_X12_walkOf (d + 0) 0 0) kc_12 (ws_1 w) tw_2150 rfl (rr0 (Nat.le_of_ble_eq_true rfl) (Nat.le_of_ble_eq_true rfl)) (Nat.le_of_ble_eq_true rfl) xs0 k (fun r115 h113 kk => ?_)
        obtain ⟨w114, k⟩ := kk
        refine aw_istore [(0, .ref 1), (1, .int x1), (2, .int ((150 * (h_i h 212 x1.toNatClampNeg)) + (h_i h 213 x1.toNatClampNeg))), (3, .int (h_i h 228 (((150 * (h_i h 212 x1.toNatClampNeg)) + (h_i h 213 x1.toNatClampNeg)) : Int32).toNatClampNeg)), (4, .int r115)] d_X12_goOn_93 (Nat.le_of_ble_eq_true rfl) rfl rfl ?_
        refine aw_iload d_X12_goOn_95 4 rfl ?_
        refine aw_if_le (tgt := 112) d_X12_goOn_97 rfl (fun c116 => ?_) (fun c116 => ?_)
        · have k := k.1 c116
          refine aw_iload_n (i := 3) rfl d_X12_goOn_112 3 rfl ?_
          refine aw_iconst (v := 2) d_X12_goOn_113 ic_2 ?_
          refine aw_icmp_ne (tgt := 147) d_X12_goOn_114 rfl (fun c117 => ?_) (fun c117 => ?_)
          · have k := k.1 c117
            refine aw_iload_n (i := 3) rfl d_X12_goOn_147 3 rfl ?_
            refine aw_iconst (v := 2) d_X12_goOn_148 ic_2 ?_
            refine aw_icmp_ne (tgt := 167) d_X12_goOn_149 rfl (fun c118 => ?_) (fun c118 => ?_)
            · have k := k.1 c118
              refine aw_goto (tgt := 197) d_X12_goOn_167 rfl ?_
              refine aw_aload_n (i := 0) rfl d_X12_goOn_197 0 rfl ?_
              refine aw_getr (k0 := 17) kc_12 (ws_1 w114) (Nat.le_of_ble_eq_true rfl) tw_1759 d_X12_goOn_198 rfl (wr_1_17 w114) ?_
              refine aw_iload_n (i := 1) rfl d_X12_goOn_201 1 rfl ?_
              refine aw_dup2 d_X12_goOn_202 ⟨rfl, rfl⟩ ?_
              obtain ⟨b119, k⟩ := k
              refine aw_iald (ws_213 w114) b119 d_X12_goOn_203 ?_
              refine aw_iconst (v := 1) d_X12_goOn_204 ic_1 ?_
              refine aw_iadd d_X12_goOn_205 ?_
              obtain ⟨b120, k⟩ := k
              refine aw_iast (ws_213 w114) b120 d_X12_goOn_206 ?_
              refine aw_goto (tgt := 0) d_X12_goOn_207 rfl ?_
              exact aw_lvp [0, 1] [(0, .ref 1), (1, .int x1)] rfl k
            · have k := k.2 c118
              refine aw_aload_n (i := 0) rfl d_X12_goOn_152 0 rfl ?_
              refine aw_iload_n (i := 1) rfl d_X12_goOn_153 1 rfl ?_
              refine aw_aload_n (i := 0) rfl d_X12_goOn_154 0 rfl ?_
              refine aw_getr (k0 := 41) kc_12 (ws_1 w114) (Nat.le_of_ble_eq_true rfl) tw_1783 d_X12_goOn_155 rfl (wr_1_41 w114) ?_
              refine aw_iload_n (i := 2) rfl d_X12_goOn_158 2 rfl ?_
              obtain ⟨b121, k⟩ := k
              refine aw_iald (ws_230 w114) b121 d_X12_goOn_159 ?_
              refine aw_Vi 1 [.int x1, .int (h_i h113 230 (((150 * (h_i h 212 x1.toNatClampNeg)) + (h_i h 213 x1.toNatClampNeg)) : Int32).toNatClampNeg)] [] d_X12_goOn_160 (cV_X12_comes (d + 1) 0 0) kc_12 (ws_1 w114) tw_2356 rfl (rr0 (Nat.le_of_ble_eq_true rfl) (Nat.le_of_ble_eq_true rfl)) (Nat.le_of_ble_eq_true rfl) xs0 k (fun r124 h122 kk => ?_)
              obtain ⟨w123, k⟩ := kk
              refine aw_if_eq (tgt := 167) d_X12_goOn_163 rfl (fun c125 => ?_) (fun c125 => ?_)
              · have k := k.1 c125
                refine aw_goto (tgt := 197) d_X12_goOn_167 rfl ?_
                refine aw_aload_n (i := 0) rfl d_X12_goOn_197 0 rfl ?_
                refine aw_getr (k0 := 17) kc_12 (ws_1 w123) (Nat.le_of_ble_eq_true rfl) tw_1759 d_X12_goOn_198 rfl (wr_1_17 w123) ?_
                refine aw_iload_n (i := 1) rfl d_X12_goOn_201 1 rfl ?_
                refine aw_dup2 d_X12_goOn_202 ⟨rfl, rfl⟩ ?_
                obtain ⟨b126, k⟩ := k
                refine aw_iald (ws_213 w123) b126 d_X12_goOn_203 ?_
                refine aw_iconst (v := 1) d_X12_goOn_204 ic_1 ?_
                refine aw_iadd d_X12_goOn_205 ?_
                obtain ⟨b127, k⟩ := k
                refine aw_iast (ws_213 w123) b127 d_X12_goOn_206 ?_
                refine aw_goto (tgt := 0) d_X12_goOn_207 rfl ?_
                exact aw_lvp [0, 1] [(0, .ref 1), (1, .int x1)] rfl k
              · have k := k.2 c125
                exact aw_vret rfl d_X12_goOn_166 ⟨Nat.le_refl _, Nat.le_refl _⟩ ⟨rfl, k⟩
          · have k := k.2 c117
            refine aw_iload d_X12_goOn_117 4 rfl ?_
            refine aw_iconst (v := (-1)) d_X12_goOn_119 ic_m1 ?_
            refine aw_icmp_ne (tgt := 147) d_X12_goOn_120 rfl (fun c128 => ?_) (fun c128 => ?_)
            · have k := k.1 c128
              refine aw_iload_n (i := 3) rfl d_X12_goOn_147 3 rfl ?_
              refine aw_iconst (v := 2) d_X12_goOn_148 ic_2 ?_
              refine aw_icmp_ne (tgt := 167) d_X12_goOn_149 rfl (fun c129 => ?_) (fun c129 => ?_)
              · have k := k.1 c129
                refine aw_goto (tgt := 197) d_X12_goOn_167 rfl ?_
                refine aw_aload_n (i := 0) rfl d_X12_goOn_197 0 rfl ?_
                refine aw_getr (k0 := 17) kc_12 (ws_1 w114) (Nat.le_of_ble_eq_true rfl) tw_1759 d_X12_goOn_198 rfl (wr_1_17 w114) ?_
                refine aw_iload_n (i := 1) rfl d_X12_goOn_201 1 rfl ?_
                refine aw_dup2 d_X12_goOn_202 ⟨rfl, rfl⟩ ?_
                obtain ⟨b130, k⟩ := k
                refine aw_iald (ws_213 w114) b130 d_X12_goOn_203 ?_
                refine aw_iconst (v := 1) d_X12_goOn_204 ic_1 ?_
                refine aw_iadd d_X12_goOn_205 ?_
                obtain ⟨b131, k⟩ := k
                refine aw_iast (ws_213 w114) b131 d_X12_goOn_206 ?_
                refine aw_goto (tgt := 0) d_X12_goOn_207 rfl ?_
                exact aw_lvp [0, 1] [(0, .ref 1), (1, .int x1)] rfl k
              · have k := k.2 c129
                refine aw_aload_n (i := 0) rfl d_X12_goOn_152 0 rfl ?_
                refine aw_iload_n (i := 1) rfl d_X12_goOn_153 1 rfl ?_
                refine aw_aload_n (i := 0) rfl d_X12_goOn_154 0 rfl ?_
                refine aw_getr (k0 := 41) kc_12 (ws_1 w114) (Nat.le_of_ble_eq_true rfl) tw_1783 d_X12_goOn_155 rfl (wr_1_41 w114) ?_
                refine aw_iload_n (i := 2) rfl d_X12_goOn_158 2 rfl ?_
                obtain ⟨b132, k⟩ := k
                refine aw_iald (ws_230 w114) b132 d_X12_goOn_159 ?_
                refine aw_Vi 1 [.int x1, .int (h_i h113 230 (((150 * (h_i h 212 x1.toNatClampNeg)) + (h_i h 213 x1.toNatClampNeg)) : Int32).toNatClampNeg)] [] d_X12_goOn_160 (cV_X12_comes (d + 1) 0 0) kc_12 (ws_1 w114) tw_2356 rfl (rr0 (Nat.le_of_ble_eq_true rfl) (Nat.le_of_ble_eq_true rfl)) (Nat.le_of_ble_eq_true rfl) xs0 k (fun r135 h133 kk => ?_)
                obtain ⟨w134, k⟩ := kk
                refine aw_if_eq (tgt := 167) d_X12_goOn_163 rfl (fun c136 => ?_) (fun c136 => ?_)
                · have k := k.1 c136
                  refine aw_goto (tgt := 197) d_X12_goOn_167 rfl ?_
                  refine aw_aload_n (i := 0) rfl d_X12_goOn_197 0 rfl ?_
                  refine aw_getr (k0 := 17) kc_12 (ws_1 w134) (Nat.le_of_ble_eq_true rfl) tw_1759 d_X12_goOn_198 rfl (wr_1_17 w134) ?_
                  refine aw_iload_n (i := 1) rfl d_X12_goOn_201 1 rfl ?_
                  refine aw_dup2 d_X12_goOn_202 ⟨rfl, rfl⟩ ?_
                  obtain ⟨b137, k⟩ := k
                  refine aw_iald (ws_213 w134) b137 d_X12_goOn_203 ?_
                  refine aw_iconst (v := 1) d_X12_goOn_204 ic_1 ?_
                  refine aw_iadd d_X12_goOn_205 ?_
                  obtain ⟨b138, k⟩ := k
                  refine aw_iast (ws_213 w134) b138 d_X12_goOn_206 ?_
                  refine aw_goto (tgt := 0) d_X12_goOn_207 rfl ?_
                  exact aw_lvp [0, 1] [(0, .ref 1), (1, .int x1)] rfl k
                · have k := k.2 c136
                  exact aw_vret rfl d_X12_goOn_166 ⟨Nat.le_refl _, Nat.le_refl _⟩ ⟨rfl, k⟩
            · have k := k.2 c128
              refine aw_aload_n (i := 0) rfl d_X12_goOn_123 0 rfl ?_
              refine aw_aload_n (i := 0) rfl d_X12_goOn_124 0 rfl ?_
              refine aw_getr (k0 := 20) kc_12 (ws_1 w114) (Nat.le_of_ble_eq_true rfl) tw_1762 d_X12_goOn_125 rfl (wr_1_20 w114) ?_
              refine aw_iload_n (i := 1) rfl d_X12_goOn_128 1 rfl ?_
              obtain ⟨b139, k⟩ := k
              refine aw_iald (ws_216 w114) b139 d_X12_goOn_129 ?_
              refine aw_iconst (v := 2) d_X12_goOn_130 ic_2 ?_
              refine aw_Vv 1 [.int (h_i h113 216 x1.toNatClampNeg), .int 2] [] d_X12_goOn_131 (cV_X12_miss (d + 0) 0 0) kc_12 (ws_1 w114) tw_2352 rfl (rr0 (Nat.le_of_ble_eq_true rfl) (Nat.le_of_ble_eq_true rfl)) (Nat.le_of_ble_eq_true rfl) xs0 k (fun h140 kk => ?_)
              obtain ⟨w141, k⟩ := kk
              refine aw_aload_n (i := 0) rfl d_X12_goOn_134 0 rfl ?_
              refine aw_getr (k0 := 20) kc_12 (ws_1 w141) (Nat.le_of_ble_eq_true rfl) tw_1762 d_X12_goOn_135 rfl (wr_1_20 w141) ?_
              refine aw_iload_n (i := 1) rfl d_X12_goOn_138 1 rfl ?_
              refine aw_dup2 d_X12_goOn_139 ⟨rfl, rfl⟩ ?_
              obtain ⟨b143, k⟩ := k
              refine aw_iald (ws_216 w141) b143 d_X12_goOn_140 ?_
              refine aw_iconst (v := 1) d_X12_goOn_141 ic_1 ?_
              refine aw_iadd d_X12_goOn_142 ?_
              obtain ⟨b144, k⟩ := k
              refine aw_iast (ws_216 w141) b144 d_X12_goOn_143 ?_
              refine aw_goto (tgt := 167) d_X12_goOn_144 rfl ?_
              refine aw_goto (tgt := 197) d_X12_goOn_167 rfl ?_
              refine aw_aload_n (i := 0) rfl d_X12_goOn_197 0 rfl ?_
              refine aw_getr (k0 := 17) kc_12 (ws_1 w141) (Nat.le_of_ble_eq_true rfl) tw_1759 d_X12_goOn_198 rfl (wr_1_17 w141) ?_
              refine aw_iload_n (i := 1) rfl d_X12_goOn_201 1 rfl ?_
              refine aw_dup2 d_X12_goOn_202 ⟨rfl, rfl⟩ ?_
              obtain ⟨b145, k⟩ := k
              refine aw_iald (ws_213 w141) b145 d_X12_goOn_203 ?_
              refine aw_vi (v2 := (h_i h140 213 x1.toNatClampNeg)) (rfl) ?_
              refine aw_iconst (v := 1) d_X12_goOn_204 ic_1 ?_
              refine aw_iadd d_X12_goOn_205 ?_
              obtain ⟨b146, k⟩ := k
              refine aw_iast (ws_213 w141) b146 d_X12_goOn_206 ?_
              refine aw_goto (tgt := 0) d_X12_goOn_207 rfl ?_
              exact aw_lvp [0, 1] [(0, .ref 1), (1, .int x1)] rfl k
        · have k := k.2 c116
          refine aw_aload_n (i := 0) rfl d_X12_goOn_100 0 rfl ?_
          refine aw_iload_n (i := 1) rfl d_X12_goOn_101 1 rfl ?_
          refine aw_aload_n (i := 0) rfl d_X12_goOn_102 0 rfl ?_
          refine aw_getr (k0 := 40) kc_12 (ws_1 w114) (Nat.le_of_ble_eq_true rfl) tw_1782 d_X12_goOn_103 rfl (wr_1_40 w114) ?_
          refine aw_iload_n (i := 2) rfl d_X12_goOn_106 2 rfl ?_
          obtain ⟨b147, k⟩ := k
          refine aw_iald (ws_229 w114) b147 d_X12_goOn_107 ?_
          refine aw_Vv 1 [.int x1, .int (h_i h113 229 (((150 * (h_i h 212 x1.toNatClampNeg)) + (h_i h 213 x1.toNatClampNeg)) : Int32).toNatClampNeg)] [] d_X12_goOn_108 (cV_X12_setOut (d + 1) 0 0) kc_12 (ws_1 w114) tw_2348 rfl (rr0 (Nat.le_of_ble_eq_true rfl) (Nat.le_of_ble_eq_true rfl)) (Nat.le_of_ble_eq_true rfl) xs0 k (fun h148 kk => ?_)
          obtain ⟨w149, k⟩ := kk
          exact aw_vret rfl d_X12_goOn_111 ⟨Nat.le_refl _, Nat.le_refl _⟩ ⟨rfl, k⟩
      · have k := k.2 c110
        refine aw_iload_n (i := 3) rfl d_X12_goOn_72 3 rfl ?_
        refine aw_iconst (v := 2) d_X12_goOn_73 ic_2 ?_
        refine aw_icmp_ne (tgt := 170) d_X12_goOn_74 rfl (fun c151 => ?_) (fun c151 => ?_)
        · have k := k.1 c151
          refine aw_aload_n (i := 0) rfl d_X12_goOn_170 0 rfl ?_
          refine aw_getr (k0 := 15) kc_12 (ws_1 w) (Nat.le_of_ble_eq_true rfl) tw_1757 d_X12_goOn_171 rfl (wr_1_15 w) ?_
          refine aw_iload_n (i := 1) rfl d_X12_goOn_174 1 rfl ?_
          refine aw_aload_n (i := 0) rfl d_X12_goOn_175 0 rfl ?_
          refine aw_geti (k0 := 0) kc_12 (ws_1 w) (Nat.le_of_ble_eq_true rfl) tw_1742 d_X12_goOn_176 rfl ?_
          refine aw_vi (v2 := (h_i h 1 0)) (rfl) ?_
          refine aw_iload_n (i := 3) rfl d_X12_goOn_179 3 rfl ?_
          refine aw_iconst (v := 1) d_X12_goOn_180 ic_1 ?_
          refine aw_icmp_ne (tgt := 193) d_X12_goOn_181 rfl (fun c152 => ?_) (fun c152 => ?_)
          · have k := k.1 c152
            refine aw_iconst (v := 1) d_X12_goOn_193 ic_1 ?_
            refine aw_iadd d_X12_goOn_194 ?_
            obtain ⟨b153, k⟩ := k
            refine aw_iast (ws_211 w) b153 d_X12_goOn_195 ?_
            exact aw_vret rfl d_X12_goOn_196 ⟨Nat.le_refl _, Nat.le_refl _⟩ ⟨rfl, k⟩
          · have k := k.2 c152
            refine aw_aload_n (i := 0) rfl d_X12_goOn_184 0 rfl ?_
            refine aw_getr (k0 := 40) kc_12 (ws_1 w) (Nat.le_of_ble_eq_true rfl) tw_1782 d_X12_goOn_185 rfl (wr_1_40 w) ?_
            refine aw_iload_n (i := 2) rfl d_X12_goOn_188 2 rfl ?_
            obtain ⟨b154, k⟩ := k
            refine aw_iald (ws_229 w) b154 d_X12_goOn_189 ?_
            refine aw_vi (v2 := (h_i h 229 (((150 * (h_i h 212 x1.toNatClampNeg)) + (h_i h 213 x1.toNatClampNeg)) : Int32).toNatClampNeg)) (rfl) ?_
            refine aw_goto (tgt := 194) d_X12_goOn_190 rfl ?_
            refine aw_iadd d_X12_goOn_194 ?_
            obtain ⟨b155, k⟩ := k
            refine aw_iast (ws_211 w) b155 d_X12_goOn_195 ?_
            exact aw_vret rfl d_X12_goOn_196 ⟨Nat.le_refl _, Nat.le_refl _⟩ ⟨rfl, k⟩
        · have k := k.2 c151
          refine aw_aload_n (i := 0) rfl d_X12_goOn_77 0 rfl ?_
          refine aw_aload_n (i := 0) rfl d_X12_goOn_78 0 rfl ?_
          refine aw_getr (k0 := 13) kc_12 (ws_1 w) (Nat.le_of_ble_eq_true rfl) tw_1755 d_X12_goOn_79 rfl (wr_1_13 w) ?_
          refine aw_iload_n (i := 1) rfl d_X12_goOn_82 1 rfl ?_
          obtain ⟨b156, k⟩ := k
          refine aw_iald (ws_209 w) b156 d_X12_goOn_83 ?_
          refine aw_vi (v2 := (h_i h 209 x1.toNatClampNeg)) (rfl) ?_
          refine aw_aload_n (i := 0) rfl d_X12_goOn_84 0 rfl ?_
          refine aw_getr (k0 := 40) kc_12 (ws_1 w) (Nat.le_of_ble_eq_true rfl) tw_1782 d_X12_goOn_85 rfl (wr_1_40 w) ?_
          refine aw_iload_n (i := 2) rfl d_X12_goOn_88 2 rfl ?_
          obtain ⟨b157, k⟩ := k
          refine aw_iald (ws_229 w) b157 d_X12_goOn_89 ?_
          refine aw_vi (v2 := (h_i h 229 (((150 * (h_i h 212 x1.toNatClampNeg)) + (h_i h 213 x1.toNatClampNeg)) : Int32).toNatClampNeg)) (rfl) ?_
          refine aw_Vi 1 [.int (h_i h 209 x1.toNatClampNeg), .int (h_i h 229 (((150 * (h_i h 212 x1.toNatClampNeg)) + (h_i h 213 x1.toNatClampNeg)) : Int32).toNatClampNeg)] [] d_X12_goOn_90 (cV_X12_walkOf (d + 0) 0 0) kc_12 (ws_1 w) tw_2150 rfl (rr0 (Nat.le_of_ble_eq_true rfl) (Nat.le_of_ble_eq_true rfl)) (Nat.le_of_ble_eq_true rfl) xs0 k (fun r160 h158 kk => ?_)
          obtain ⟨w159, k⟩ := kk
          refine aw_istore [(0, .ref 1), (1, .int x1), (2, .int ((150 * (h_i h 212 x1.toNatClampNeg)) + (h_i h 213 x1.toNatClampNeg))), (3, .int (h_i h 228 (((150 * (h_i h 212 x1.toNatClampNeg)) + (h_i h 213 x1.toNatClampNeg)) : Int32).toNatClampNeg)), (4, .int r160)] d_X12_goOn_93 (Nat.le_of_ble_eq_true rfl) rfl rfl ?_
          refine aw_iload d_X12_goOn_95 4 rfl ?_
          refine aw_if_le (tgt := 112) d_X12_goOn_97 rfl (fun c161 => ?_) (fun c161 => ?_)
          · have k := k.1 c161
            refine aw_iload_n (i := 3) rfl d_X12_goOn_112 3 rfl ?_
            refine aw_iconst (v := 2) d_X12_goOn_113 ic_2 ?_
            refine aw_icmp_ne (tgt := 147) d_X12_goOn_114 rfl (fun c162 => ?_) (fun c162 => ?_)
            · have k := k.1 c162
              refine aw_iload_n (i := 3) rfl d_X12_goOn_147 3 rfl ?_
              refine aw_iconst (v := 2) d_X12_goOn_148 ic_2 ?_
              refine aw_icmp_ne (tgt := 167) d_X12_goOn_149 rfl (fun c163 => ?_) (fun c163 => ?_)
              · have k := k.1 c163
                refine aw_goto (tgt := 197) d_X12_goOn_167 rfl ?_
                refine aw_aload_n (i := 0) rfl d_X12_goOn_197 0 rfl ?_
                refine aw_getr (k0 := 17) kc_12 (ws_1 w159) (Nat.le_of_ble_eq_true rfl) tw_1759 d_X12_goOn_198 rfl (wr_1_17 w159) ?_
                refine aw_iload_n (i := 1) rfl d_X12_goOn_201 1 rfl ?_
                refine aw_dup2 d_X12_goOn_202 ⟨rfl, rfl⟩ ?_
                obtain ⟨b164, k⟩ := k
                refine aw_iald (ws_213 w159) b164 d_X12_goOn_203 ?_
                refine aw_iconst (v := 1) d_X12_goOn_204 ic_1 ?_
                refine aw_iadd d_X12_goOn_205 ?_
                obtain ⟨b165, k⟩ := k
                refine aw_iast (ws_213 w159) b165 d_X12_goOn_206 ?_
                refine aw_goto (tgt := 0) d_X12_goOn_207 rfl ?_
                exact aw_lvp [0, 1] [(0, .ref 1), (1, .int x1)] rfl k
              · have k := k.2 c163
                refine aw_aload_n (i := 0) rfl d_X12_goOn_152 0 rfl ?_
                refine aw_iload_n (i := 1) rfl d_X12_goOn_153 1 rfl ?_
                refine aw_aload_n (i := 0) rfl d_X12_goOn_154 0 rfl ?_
                refine aw_getr (k0 := 41) kc_12 (ws_1 w159) (Nat.le_of_ble_eq_true rfl) tw_1783 d_X12_goOn_155 rfl (wr_1_41 w159) ?_
                refine aw_iload_n (i := 2) rfl d_X12_goOn_158 2 rfl ?_
                obtain ⟨b166, k⟩ := k
                refine aw_iald (ws_230 w159) b166 d_X12_goOn_159 ?_
                refine aw_Vi 1 [.int x1, .int (h_i h158 230 (((150 * (h_i h 212 x1.toNatClampNeg)) + (h_i h 213 x1.toNatClampNeg)) : Int32).toNatClampNeg)] [] d_X12_goOn_160 (cV_X12_comes (d + 1) 0 0) kc_12 (ws_1 w159) tw_2356 rfl (rr0 (Nat.le_of_ble_eq_true rfl) (Nat.le_of_ble_eq_true rfl)) (Nat.le_of_ble_eq_true rfl) xs0 k (fun r169 h167 kk => ?_)
                obtain ⟨w168, k⟩ := kk
                refine aw_if_eq (tgt := 167) d_X12_goOn_163 rfl (fun c170 => ?_) (fun c170 => ?_)
                · have k := k.1 c170
                  refine aw_goto (tgt := 197) d_X12_goOn_167 rfl ?_
                  refine aw_aload_n (i := 0) rfl d_X12_goOn_197 0 rfl ?_
                  refine aw_getr (k0 := 17) kc_12 (ws_1 w168) (Nat.le_of_ble_eq_true rfl) tw_1759 d_X12_goOn_198 rfl (wr_1_17 w168) ?_
                  refine aw_iload_n (i := 1) rfl d_X12_goOn_201 1 rfl ?_
                  refine aw_dup2 d_X12_goOn_202 ⟨rfl, rfl⟩ ?_
                  obtain ⟨b171, k⟩ := k
                  refine aw_iald (ws_213 w168) b171 d_X12_goOn_203 ?_
                  refine aw_iconst (v := 1) d_X12_goOn_204 ic_1 ?_
                  refine aw_iadd d_X12_goOn_205 ?_
                  obtain ⟨b172, k⟩ := k
                  refine aw_iast (ws_213 w168) b172 d_X12_goOn_206 ?_
                  refine aw_goto (tgt := 0) d_X12_goOn_207 rfl ?_
                  exact aw_lvp [0, 1] [(0, .ref 1), (1, .int x1)] rfl k
                · have k := k.2 c170
                  exact aw_vret rfl d_X12_goOn_166 ⟨Nat.le_refl _, Nat.le_refl _⟩ ⟨rfl, k⟩
            · have k := k.2 c162
              refine aw_iload d_X12_goOn_117 4 rfl ?_
              refine aw_iconst (v := (-1)) d_X12_goOn_119 ic_m1 ?_
              refine aw_icmp_ne (tgt := 147) d_X12_goOn_120 rfl (fun c173 => ?_) (fun c173 => ?_)
              · have k := k.1 c173
                refine aw_iload_n (i := 3) rfl d_X12_goOn_147 3 rfl ?_
                refine aw_iconst (v := 2) d_X12_goOn_148 ic_2 ?_
                refine aw_icmp_ne (tgt := 167) d_X12_goOn_149 rfl (fun c174 => ?_) (fun c174 => ?_)
                · have k := k.1 c174
                  refine aw_goto (tgt := 197) d_X12_goOn_167 rfl ?_
                  refine aw_aload_n (i := 0) rfl d_X12_goOn_197 0 rfl ?_
                  refine aw_getr (k0 := 17) kc_12 (ws_1 w159) (Nat.le_of_ble_eq_true rfl) tw_1759 d_X12_goOn_198 rfl (wr_1_17 w159) ?_
                  refine aw_iload_n (i := 1) rfl d_X12_goOn_201 1 rfl ?_
                  refine aw_dup2 d_X12_goOn_202 ⟨rfl, rfl⟩ ?_
                  obtain ⟨b175, k⟩ := k
                  refine aw_iald (ws_213 w159) b175 d_X12_goOn_203 ?_
                  refine aw_iconst (v := 1) d_X12_goOn_204 ic_1 ?_
                  refine aw_iadd d_X12_goOn_205 ?_
                  obtain ⟨b176, k⟩ := k
                  refine aw_iast (ws_213 w159) b176 d_X12_goOn_206 ?_
                  refine aw_goto (tgt := 0) d_X12_goOn_207 rfl ?_
                  exact aw_lvp [0, 1] [(0, .ref 1), (1, .int x1)] rfl k
                · have k := k.2 c174
                  refine aw_aload_n (i := 0) rfl d_X12_goOn_152 0 rfl ?_
                  refine aw_iload_n (i := 1) rfl d_X12_goOn_153 1 rfl ?_
                  refine aw_aload_n (i := 0) rfl d_X12_goOn_154 0 rfl ?_
                  refine aw_getr (k0 := 41) kc_12 (ws_1 w159) (Nat.le_of_ble_eq_true rfl) tw_1783 d_X12_goOn_155 rfl (wr_1_41 w159) ?_
                  refine aw_iload_n (i := 2) rfl d_X12_goOn_158 2 rfl ?_
                  obtain ⟨b177, k⟩ := k
                  refine aw_iald (ws_230 w159) b177 d_X12_goOn_159 ?_
                  refine aw_Vi 1 [.int x1, .int (h_i h158 230 (((150 * (h_i h 212 x1.toNatClampNeg)) + (h_i h 213 x1.toNatClampNeg)) : Int32).toNatClampNeg)] [] d_X12_goOn_160 (cV_X12_comes (d + 1) 0 0) kc_12 (ws_1 w159) tw_2356 rfl (rr0 (Nat.le_of_ble_eq_true rfl) (Nat.le_of_ble_eq_true rfl)) (Nat.le_of_ble_eq_true rfl) xs0 k (fun r180 h178 kk => ?_)
                  obtain ⟨w179, k⟩ := kk
                  refine aw_if_eq (tgt := 167) d_X12_goOn_163 rfl (fun c181 => ?_) (fun c181 => ?_)
                  · have k := k.1 c181
                    refine aw_goto (tgt := 197) d_X12_goOn_167 rfl ?_
                    refine aw_aload_n (i := 0) rfl d_X12_goOn_197 0 rfl ?_
                    refine aw_getr (k0 := 17) kc_12 (ws_1 w179) (Nat.le_of_ble_eq_true rfl) tw_1759 d_X12_goOn_198 rfl (wr_1_17 w179) ?_
                    refine aw_iload_n (i := 1) rfl d_X12_goOn_201 1 rfl ?_
                    refine aw_dup2 d_X12_goOn_202 ⟨rfl, rfl⟩ ?_
                    obtain ⟨b182, k⟩ := k
                    refine aw_iald (ws_213 w179) b182 d_X12_goOn_203 ?_
                    refine aw_iconst (v := 1) d_X12_goOn_204 ic_1 ?_
                    refine aw_iadd d_X12_goOn_205 ?_
                    obtain ⟨b183, k⟩ := k
                    refine aw_iast (ws_213 w179) b183 d_X12_goOn_206 ?_
                    refine aw_goto (tgt := 0) d_X12_goOn_207 rfl ?_
                    exact aw_lvp [0, 1] [(0, .ref 1), (1, .int x1)] rfl k
                  · have k := k.2 c181
                    exact aw_vret rfl d_X12_goOn_166 ⟨Nat.le_refl _, Nat.le_refl _⟩ ⟨rfl, k⟩
              · have k := k.2 c173
                refine aw_aload_n (i := 0) rfl d_X12_goOn_123 0 rfl ?_
                refine aw_aload_n (i := 0) rfl d_X12_goOn_124 0 rfl ?_
                refine aw_getr (k0 := 20) kc_12 (ws_1 w159) (Nat.le_of_ble_eq_true rfl) tw_1762 d_X12_goOn_125 rfl (wr_1_20 w159) ?_
                refine aw_iload_n (i := 1) rfl d_X12_goOn_128 1 rfl ?_
                obtain ⟨b184, k⟩ := k
                refine aw_iald (ws_216 w159) b184 d_X12_goOn_129 ?_
                refine aw_iconst (v := 2) d_X12_goOn_130 ic_2 ?_
                refine aw_Vv 1 [.int (h_i h158 216 x1.toNatClampNeg), .int 2] [] d_X12_goOn_131 (cV_X12_miss (d + 0) 0 0) kc_12 (ws_1 w159) tw_2352 rfl (rr0 (Nat.le_of_ble_eq_true rfl) (Nat.le_of_ble_eq_true rfl)) (Nat.le_of_ble_eq_true rfl) xs0 k (fun h185 kk => ?_)
                obtain ⟨w186, k⟩ := kk
                refine aw_aload_n (i := 0) rfl d_X12_goOn_134 0 rfl ?_
                refine aw_getr (k0 := 20) kc_12 (ws_1 w186) (Nat.le_of_ble_eq_true rfl) tw_1762 d_X12_goOn_135 rfl (wr_1_20 w186) ?_
                refine aw_iload_n (i := 1) rfl d_X12_goOn_138 1 rfl ?_
                refine aw_dup2 d_X12_goOn_139 ⟨rfl, rfl⟩ ?_
                obtain ⟨b188, k⟩ := k
                refine aw_iald (ws_216 w186) b188 d_X12_goOn_140 ?_
                refine aw_iconst (v := 1) d_X12_goOn_141 ic_1 ?_
                refine aw_iadd d_X12_goOn_142 ?_
                obtain ⟨b189, k⟩ := k
                refine aw_iast (ws_216 w186) b189 d_X12_goOn_143 ?_
                refine aw_goto (tgt := 167) d_X12_goOn_144 rfl ?_
                refine aw_goto (tgt := 197) d_X12_goOn_167 rfl ?_
                refine aw_aload_n (i := 0) rfl d_X12_goOn_197 0 rfl ?_
                refine aw_getr (k0 := 17) kc_12 (ws_1 w186) (Nat.le_of_ble_eq_true rfl) tw_1759 d_X12_goOn_198 rfl (wr_1_17 w186) ?_
                refine aw_iload_n (i := 1) rfl d_X12_goOn_201 1 rfl ?_
                refine aw_dup2 d_X12_goOn_202 ⟨rfl, rfl⟩ ?_
                obtain ⟨b190, k⟩ := k
                refine aw_iald (ws_213 w186) b190 d_X12_goOn_203 ?_
                refine aw_vi (v2 := (h_i h185 213 x1.toNatClampNeg)) (rfl) ?_
                refine aw_iconst (v := 1) d_X12_goOn_204 ic_1 ?_
                refine aw_iadd d_X12_goOn_205 ?_
                obtain ⟨b191, k⟩ := k
                refine aw_iast (ws_213 w186) b191 d_X12_goOn_206 ?_
                refine aw_goto (tgt := 0) d_X12_goOn_207 rfl ?_
                exact aw_lvp [0, 1] [(0, .ref 1), (1, .int x1)] rfl k
          · have k := k.2 c161
            refine aw_aload_n (i := 0) rfl d_X12_goOn_100 0 rfl ?_
            refine aw_iload_n (i := 1) rfl d_X12_goOn_101 1 rfl ?_
            refine aw_aload_n (i := 0) rfl d_X12_goOn_102 0 rfl ?_
            refine aw_getr (k0 := 40) kc_12 (ws_1 w159) (Nat.le_of_ble_eq_true rfl) tw_1782 d_X12_goOn_103 rfl (wr_1_40 w159) ?_
            refine aw_iload_n (i := 2) rfl d_X12_goOn_106 2 rfl ?_
            obtain ⟨b192, k⟩ := k
            refine aw_iald (ws_229 w159) b192 d_X12_goOn_107 ?_
            refine aw_Vv 1 [.int x1, .int (h_i h158 229 (((150 * (h_i h 212 x1.toNatClampNeg)) + (h_i h 213 x1.toNatClampNeg)) : Int32).toNatClampNeg)] [] d_X12_goOn_108 (cV_X12_setOut (d + 1) 0 0) kc_12 (ws_1 w159) tw_2348 rfl (rr0 (Nat.le_of_ble_eq_true rfl) (Nat.le_of_ble_eq_true rfl)) (Nat.le_of_ble_eq_true rfl) xs0 k (fun h193 kk => ?_)
            obtain ⟨w194, k⟩ := kk
            exact aw_vret rfl d_X12_goOn_111 ⟨Nat.le_refl _, Nat.le_refl _⟩ ⟨rfl, k⟩
    · have k := k.2 c105
      refine aw_aload_n (i := 0) rfl d_X12_goOn_30 0 rfl ?_
      refine aw_iload_n (i := 1) rfl d_X12_goOn_31 1 rfl ?_
      refine aw_Vv 1 [.int x1] [] d_X12_goOn_32 (cV_X12_goHome (d + 2) 0 0) kc_12 (ws_1 w) tw_2340 rfl (rr0 (Nat.le_of_ble_eq_true rfl) (Nat.le_of_ble_eq_true rfl)) (Nat.le_of_ble_eq_true rfl) xs0 k (fun h196 kk => ?_)
      obtain ⟨w197, k⟩ := kk
      exact aw_vret rfl d_X12_goOn_35 ⟨Nat.le_refl _, Nat.le_refl _⟩ ⟨rfl, k⟩
end
section
/-! the reference's men: what one man's methods leave of the others -/
noncomputable def mrow (a : Nat) : Bool := Nat.beq a 208 || Nat.beq a 210 || Nat.beq a 212 || Nat.beq a 213 || Nat.beq a 216
/-- what the reference's calls with an account of their own may write -/
noncomputable def wsR : List Nat := [1032, 1033, 1034, 1035, 1036, 1037, 1042, 1043, 1044, 1052, 1063, 1080, 1096, 203999, 208999, 209999, 210999, 211999, 212999, 213999, 214999, 215999, 216999, 217999, 218999, 219999, 220999, 226999, 227999, 228999, 229999, 230999, 236999, 237999, 238999, 239999, 240999, 241999, 242999, 243999, 244999, 248999, 254999, 255999, 256999, 257999, 258999, 259999, 260999, 261999, 262999, 263999]
noncomputable def wsN : List Nat := 1007 :: 204999 :: 205999 :: 206999 :: 207999 :: wsR
noncomputable def wsT : List Nat := 1000 :: wsR
/-- all else stays -/
noncomputable def Sr (h h' : Hp_) : Prop := Fr wsR h h'
noncomputable def Sn (h h' : Hp_) : Prop := Fr wsN h h'
theorem Sr.rf (h : Hp_) : Sr h h := Fr.rf _ h
theorem Sr.tr {h h1 h2 : Hp_} (a : Sr h h1) (b : Sr h1 h2) : Sr h h2 := Fr.tr a b
theorem Sr.im {h0 h : Hp_} {a k : Nat} {x : Int32} (s : Sr h0 h) (o : inw wsR a k = true) : Sr h0 (h_im h a k x) := Fr.im s o
theorem Sr.fr {ws : List Nat} {h h' : Hp_} (f : Fr ws h h') (o : wsub ws wsR = true) : Sr h h' := f.more o
theorem Sr.sn {h h' : Hp_} (s : Sr h h') : Sn h h' := Fr.more (a := wsR) (by decide +kernel) s
theorem Sr.st {h h' : Hp_} (s : Sr h h') : Fr wsT h h' := Fr.more (a := wsR) (by decide +kernel) s
noncomputable def Mo (c : Nat) (h h' : Hp_) : Prop := (∀ a, mrow a = true → ∀ k, k ≠ c → h_i h' a k = h_i h a k) ∧ (∀ k, h_i h' 227 k = h_i h 227 k) ∧ (∀ k, h_i h' 228 k = h_i h 228 k) ∧ (∀ k, (k = 0 ∨ k = 7 ∨ k = 42) → h_i h' 1 k = h_i h 1 k) ∧ Sr h h'
theorem Mo.rf (c : Nat) (h : Hp_) : Mo c h h := ⟨fun _ _ _ _ => rfl, fun _ => rfl, fun _ => rfl, fun _ _ => rfl, Sr.rf _⟩
theorem Mo.tr {c : Nat} {h h1 h2 : Hp_} (a : Mo c h h1) (b : Mo c h1 h2) : Mo c h h2 := ⟨fun r hr k hk => (b.1 r hr k hk).trans (a.1 r hr k hk), fun k => (b.2.1 k).trans (a.2.1 k), fun k => (b.2.2.1 k).trans (a.2.2.1 k), fun k hk => (b.2.2.2.1 k hk).trans (a.2.2.2.1 k hk), a.2.2.2.2.tr b.2.2.2.2⟩
theorem Mo.b42 {c : Nat} {h h' : Hp_} (m : Mo c h h') : h_i h' 1 42 = h_i h 1 42 := m.2.2.2.1 42 (Or.inr (Or.inr rfl))
theorem Mo.sr {c : Nat} {h h' : Hp_} (m : Mo c h h') : Sr h h' := m.2.2.2.2
theorem Mo.im {c : Nat} {h0 h : Hp_} {b k : Nat} {x : Int32} (m : Mo c h0 h) (hb : (Nat.beq b 227 || Nat.beq b 228 || Nat.beq b 1 || !(inw wsR b 999)) = false) (hk : mrow b = true → k = c) : Mo c h0 (h_im h b k x) := by
  rw [Bool.or_eq_false_iff, Bool.or_eq_false_iff, Bool.or_eq_false_iff, Bool.not_eq_false'] at hb
  have n : ∀ {y : Nat}, Nat.beq b y = false → y ≠ b := fun {y} z e => by rw [e, Nat.beq_refl] at z; cases z
  refine ⟨fun r hr j hj => ?_, fun j => ?_, fun j => ?_, fun j hj => ?_, m.2.2.2.2.im (inw_row hb.2 k)⟩
  · rw [h_i_im]
    split
    · rename_i e
      exact absurd (e.2.trans (hk (by rw [← e.1]; exact hr))) hj
    · exact m.1 r hr j hj
  · rw [h_i_im, if_neg (fun e => n hb.1.1.1 e.1)]; exact m.2.1 j
  · rw [h_i_im, if_neg (fun e => n hb.1.1.2 e.1)]; exact m.2.2.1 j
  · rw [h_i_im, if_neg (fun e => n hb.1.2 e.1)]; exact m.2.2.2.1 j hj
theorem Mo.fr {ws : List Nat} {c : Nat} {h h' : Hp_} (f : Fr ws h h') (o : (off ws 208 && off ws 210 && off ws 212 && off ws 213 && off ws 216 && off ws 227 && off ws 228 && (!inw ws 1 0 && !inw ws 1 7 && !inw ws 1 42 && wsub ws wsR)) = true) : Mo c h h' := by
  simp only [Bool.and_eq_true] at o
  obtain ⟨⟨⟨⟨⟨⟨⟨o1, o2⟩, o3⟩, o4⟩, o5⟩, o6⟩, o7⟩, ⟨⟨o8, o9⟩, o10⟩, o11⟩ := o
  rw [Bool.not_eq_true'] at o8 o9 o10
  refine ⟨fun r hr k _ => ?_, fun k => fr_i f o6 k, fun k => fr_i f o7 k, fun k hk => ?_, Sr.fr f o11⟩
  · unfold mrow at hr
    simp only [Bool.or_eq_true] at hr
    rcases hr with (((z | z) | z) | z) | z <;> have z := Nat.eq_of_beq_eq_true z <;> subst z
    · exact fr_i f o1 k
    · exact fr_i f o2 k
    · exact fr_i f o3 k
    · exact fr_i f o4 k
    · exact fr_i f o5 k
  · rcases hk with z | z | z <;> subst z
    · exact (f.2 1 0 o8).1
    · exact (f.2 1 7 o9).1
    · exact (f.2 1 42 o10).1
/-- the man's own: what he does, his beat, his step, his row -/
noncomputable def So (c : Nat) (h h' : Hp_) : Prop := h_i h' 208 c = h_i h 208 c ∧ h_i h' 212 c = h_i h 212 c ∧ h_i h' 213 c = h_i h 213 c ∧ h_i h' 216 c = h_i h 216 c
theorem So.rf (c : Nat) (h : Hp_) : So c h h := ⟨rfl, rfl, rfl, rfl⟩
theorem So.tr {c : Nat} {h h1 h2 : Hp_} (a : So c h h1) (b : So c h1 h2) : So c h h2 := ⟨b.1.trans a.1, b.2.1.trans a.2.1, b.2.2.1.trans a.2.2.1, b.2.2.2.trans a.2.2.2⟩
theorem So.im {c : Nat} {h0 h : Hp_} {b k : Nat} {x : Int32} (m : So c h0 h) (hb : (Nat.beq b 208 || Nat.beq b 212 || Nat.beq b 213 || Nat.beq b 216) = false) : So c h0 (h_im h b k x) := by
  simp only [Bool.or_eq_false_iff] at hb
  have n : ∀ {y : Nat}, Nat.beq b y = false → y ≠ b := fun {y} z e => by rw [e, Nat.beq_refl] at z; cases z
  refine ⟨?_, ?_, ?_, ?_⟩
  · rw [h_i_im, if_neg (fun e => n hb.1.1.1 e.1)]; exact m.1
  · rw [h_i_im, if_neg (fun e => n hb.1.1.2 e.1)]; exact m.2.1
  · rw [h_i_im, if_neg (fun e => n hb.1.2 e.1)]; exact m.2.2.1
  · rw [h_i_im, if_neg (fun e => n hb.2 e.1)]; exact m.2.2.2
theorem So.fr {ws : List Nat} {c : Nat} {h h' : Hp_} (f : Fr ws h h') (o : (off ws 208 && off ws 212 && off ws 213 && off ws 216) = true) : So c h h' := by
  simp only [Bool.and_eq_true] at o
  exact ⟨fr_i f o.1.1.1 c, fr_i f o.1.1.2 c, fr_i f o.1.2 c, fr_i f o.2 c⟩
theorem im_ne {h : Hp_} {a b k j : Nat} {x : Int32} (n : b ≠ a) : h_i (h_im h a k x) b j = h_i h b j := by rw [h_i_im, if_neg (fun e => n e.1)]
theorem im_at {h : Hp_} {a k : Nat} {x : Int32} : h_i (h_im h a k x) a k = x := by rw [h_i_im, if_pos ⟨rfl, rfl⟩]
theorem tr_ (a : Nat) (e : tfa a = some rtop) {h : Hp_} (I : Iv h) (k : Nat) (x : Int32) (n : a ≠ 0) (j : jr a = false) : Iv (h_im h a k x) := I.im (by rw [tfa_tf e]; exact rtop_in _) (jw_jr n j _)
theorem i208 {h : Hp_} (I : Iv h) (k : Nat) (x : Int32) : Iv (h_im h 208 k x) := tr_ 208 (by decide +kernel) I k x (by decide) (by decide)
theorem i211 {h : Hp_} (I : Iv h) (k : Nat) (x : Int32) : Iv (h_im h 211 k x) := tr_ 211 (by decide +kernel) I k x (by decide) (by decide)
theorem i241 {h : Hp_} (I : Iv h) (k : Nat) (x : Int32) : Iv (h_im h 241 k x) := tr_ 241 (by decide +kernel) I k x (by decide) (by decide)
theorem i242 {h : Hp_} (I : Iv h) (k : Nat) (x : Int32) : Iv (h_im h 242 k x) := tr_ 242 (by decide +kernel) I k x (by decide) (by decide)
theorem i243 {h : Hp_} (I : Iv h) (k : Nat) (x : Int32) : Iv (h_im h 243 k x) := tr_ 243 (by decide +kernel) I k x (by decide) (by decide)
theorem i260 {h : Hp_} (I : Iv h) (k : Nat) (x : Int32) : Iv (h_im h 260 k x) := tr_ 260 (by decide +kernel) I k x (by decide) (by decide)
theorem i209 {h : Hp_} (I : Iv h) (k : Nat) {x : Int32} (b : rin x.toInt (-1, 15)) : Iv (h_im h 209 k x) := I.im (by rw [tfa_tf (show tfa 209 = some (-1, 15) by decide +kernel)]; exact b) (jw_jr (by decide) (by decide) _)
theorem i210 {h : Hp_} (I : Iv h) (k : Nat) {x : Int32} (b : rin x.toInt (-1, 15)) : Iv (h_im h 210 k x) := I.im (by rw [tfa_tf (show tfa 210 = some (-1, 15) by decide +kernel)]; exact b) (jw_jr (by decide) (by decide) _)
theorem i213 {h : Hp_} (I : Iv h) (k : Nat) {x : Int32} (b : rin x.toInt (-1, 150)) : Iv (h_im h 213 k x) := I.im (by rw [tfa_tf (show tfa 213 = some (-1, 150) by decide +kernel)]; exact b) (jw_jr (by decide) (by decide) _)
theorem i216 {h : Hp_} (I : Iv h) (k : Nat) {x : Int32} (b : rin x.toInt (0, 400)) : Iv (h_im h 216 k x) := I.im (by rw [tfa_tf (show tfa 216 = some (0, 400) by decide +kernel)]; exact b) (jw_jr (by decide) (by decide) _)
theorem m1_in : rin (-1 : Int32).toInt (-1, 15) := ⟨by decide, by decide⟩
theorem m1_st : rin (-1 : Int32).toInt (-1, 150) := ⟨by decide, by decide⟩
theorem b15 {x : Int32} (b : rin x.toInt (0, 15)) : rin x.toInt (-1, 15) := ⟨by have : 0 ≤ x.toInt := b.1; show (-1 : Int) ≤ _; omega, b.2⟩
theorem home_in {h : Hp_} (I : Iv h) (k : Nat) : rin (h_i h 206 k).toInt (0, 15) := dp_rg I 206 k (by decide +kernel)
theorem drawn_in {h : Hp_} (I : Iv h) (k : Nat) : rin (h_i h 218 k).toInt (0, 15) := dp_rg I 218 k (by decide +kernel)
theorem c_setOut (d : Nat) {h : Hp_} (I : Iv h) (x1 x2 : Int32) (b1 : rin x1.toInt (0, 11)) (b2 : rin x2.toInt (0, 15)) : Cv (m_X12_setOut (d + 1) 0 0) [.ref 1, .int x1, .int x2] h (fun h' => Iv h' ∧ Mo x1.toNatClampNeg h h' ∧ So x1.toNatClampNeg h h') := by
  have v1 := dp_in b1 (n := 12) (by decide) (by decide)
  refine t_X12_setOut d h I.1 x1 x2 _ ⟨v1, ?_⟩
  refine Ci.mono (c_walkOf d I _ x2 b2) (fun r h2 q => ?_)
  obtain ⟨I2, F2, _⟩ := q
  have M2 : Mo x1.toNatClampNeg h h2 := Mo.fr F2 (by decide +kernel)
  have S2 : So x1.toNatClampNeg h h2 := So.fr F2 (by decide +kernel)
  refine ⟨I2.1, fun _ => ⟨v1, v1, v1, i211 (i210 (i209 I2 _ m1_in) _ (b15 b2)) _ _, ((M2.im (by decide) (fun z => absurd z (by decide))).im (by decide) (fun _ => rfl)).im (by decide) (fun z => absurd z (by decide)), ((S2.im (by decide)).im (by decide)).im (by decide)⟩, fun _ => ⟨I2, M2, S2⟩⟩
/-- not on a beat; free only with no goal -/
noncomputable def Jd (h : Hp_) (c : Nat) : Prop := ¬ h_i h 208 c = 1 ∧ (h_i h 208 c = 0 → h_i h 210 c = -1)
theorem c_free (d : Nat) {h : Hp_} (I : Iv h) (x1 : Int32) (b1 : rin x1.toInt (0, 11)) : Cv (m_X12_free (d + 0) 0 0) [.ref 1, .int x1] h (fun h' => Iv h' ∧ Mo x1.toNatClampNeg h h' ∧ h_i h' 208 x1.toNatClampNeg = 0 ∧ h_i h' 210 x1.toNatClampNeg = -1) := by
  have v1 := dp_in b1 (n := 12) (by decide) (by decide)
  have t1 : (1 : Int32).toInt = 1 := rfl
  have lp : ∀ (r : Nat) (x2 : Int32) (h2 : Hp_), 0 ≤ x2.toInt → 300 - x2.toInt ≤ r → Iv h2 → Mo x1.toNatClampNeg h h2 → h_i h2 208 x1.toNatClampNeg = 0 ∧ h_i h2 210 x1.toNatClampNeg = -1 → AW (m_X12_free (d + 0) 0 0) 0 0 42 [(0, .ref 1), (1, .int x1), (2, .int x2)] [] h2 (kV (fun h' => Iv h' ∧ Mo x1.toNatClampNeg h h' ∧ h_i h' 208 x1.toNatClampNeg = 0 ∧ h_i h' 210 x1.toNatClampNeg = -1)) := by
    intro r
    induction r with
    | zero =>
      intro x2 h2 p2 m2 I2 M2 e2
      have sm := I2.2.1 1 80
      rw [show tf 1 80 = (0, 300) by decide +kernel] at sm
      have s1 : (h_i h2 1 80).toInt ≤ 300 := sm.2
      refine t_X12_free_42 d h2 I2.1 x1 x2 _ ⟨fun _ => ⟨I2, M2, e2⟩, fun z => ?_⟩
      have z := q_nle z
      omega
    | succ r ih =>
      intro x2 h2 p2 m2 I2 M2 e2
      have sm := I2.2.1 1 80
      rw [show tf 1 80 = (0, 300) by decide +kernel] at sm
      have s1 : (h_i h2 1 80).toInt ≤ 300 := sm.2
      refine t_X12_free_42 d h2 I2.1 x1 x2 _ ⟨fun _ => ⟨I2, M2, e2⟩, fun z => ?_⟩
      have z := q_nle z
      have v2 : vp_in x2 300 := dp_in (lo := 0) (hi := 299) ⟨p2, by show _ ≤ (299 : Int); omega⟩ (by decide) (by decide)
      have ex : (x2 + 1).toInt = x2.toInt + 1 := tx_add (by rw [t1]; omega) (by rw [t1]; omega)
      have go := ih (x2 + 1) h2 (by omega) (by omega) I2 M2 e2
      exact ⟨v2, fun _ => go, fun _ => ⟨v2, fun _ => go, fun _ => ⟨v2, fun _ => go, fun _ => ⟨v2, ih (x2 + 1) _ (by omega) (by omega) (i260 I2 _ _) (M2.im (by decide) (fun y => absurd y (by decide))) ⟨by rw [im_ne (by decide)]; exact e2.1, by rw [im_ne (by decide)]; exact e2.2⟩⟩⟩⟩⟩
  refine t_X12_free d h I.1 x1 _ ⟨v1, v1, v1, v1, v1, v1, ?_⟩
  refine lp 300 0 _ (by decide) (by decide) (i213 (i211 (i210 (i209 (i208 I _ _) _ (b15 (home_in I _))) _ m1_in) _ _) _ m1_st) (((((Mo.rf _ _).im (by decide) (fun _ => rfl)).im (by decide) (fun y => absurd y (by decide))).im (by decide) (fun _ => rfl)).im (by decide) (fun y => absurd y (by decide)) |>.im (by decide) (fun _ => rfl)) ?_
  exact ⟨by rw [im_ne (by decide), im_ne (by decide), im_ne (by decide), im_ne (by decide), im_at], by rw [im_ne (by decide), im_ne (by decide), im_at]⟩
theorem c_goHome (d : Nat) {h : Hp_} (I : Iv h) (x1 : Int32) (b1 : rin x1.toInt (0, 11)) : Cv (m_X12_goHome (d + 2) 0 0) [.ref 1, .int x1] h (fun h' => Iv h' ∧ Mo x1.toNatClampNeg h h' ∧ Jd h' x1.toNatClampNeg) := by
  have v1 := dp_in b1 (n := 12) (by decide) (by decide)
  have I1 := i211 (i213 (i208 I x1.toNatClampNeg 2) x1.toNatClampNeg m1_st) x1.toNatClampNeg (-1)
  have M1 : Mo x1.toNatClampNeg h (h_im (h_im (h_im h 208 x1.toNatClampNeg 2) 213 x1.toNatClampNeg (-1)) 211 x1.toNatClampNeg (-1)) := (((Mo.rf _ _).im (by decide) (fun _ => rfl)).im (by decide) (fun _ => rfl)).im (by decide) (fun y => absurd y (by decide))
  have e1 : h_i (h_im (h_im (h_im h 208 x1.toNatClampNeg 2) 213 x1.toNatClampNeg (-1)) 211 x1.toNatClampNeg (-1)) 208 x1.toNatClampNeg = 2 := by rw [im_ne (by decide), im_ne (by decide), im_at]
  refine t_X12_goHome d h I.1 x1 _ ⟨v1, v1, v1, v1, v1, ?_⟩
  refine Ci.mono (c_walkOf d I1 _ _ (home_in I _)) (fun r h2 q => ?_)
  obtain ⟨I2, F2, _⟩ := q
  have M2 := M1.tr (Mo.fr (c := x1.toNatClampNeg) F2 (by decide +kernel))
  have S2 : So x1.toNatClampNeg _ h2 := So.fr F2 (by decide +kernel)
  have fr : Cv (m_X12_free (d + 0) 0 0) [.ref 1, .int x1] h2 (fun h' => Wf h' ∧ (Iv h' ∧ Mo x1.toNatClampNeg h h' ∧ Jd h' x1.toNatClampNeg)) := Cv.mono (c_free d I2 x1 b1) (fun h' q => ⟨q.1.1, q.1, M2.tr q.2.1, by rw [q.2.2.1]; decide, fun _ => q.2.2.2⟩)
  refine ⟨I2.1, fun _ => fr, fun _ => ⟨fun _ => ⟨v1, ?_⟩, fun _ => fr⟩⟩
  exact Cv.mono (c_setOut d I2 x1 _ b1 (home_in I2 _)) (fun h' q => ⟨q.1.1, q.1, M2.tr q.2.1, by rw [q.2.2.1, S2.1, e1]; decide, fun z => by rw [q.2.2.1, S2.1, e1] at z; exact absurd z (by decide)⟩)
theorem c_stay (d : Nat) {h : Hp_} (I : Iv h) (x1 : Int32) (b1 : rin x1.toInt (0, 11)) (n1 : ¬ h_i h 208 x1.toNatClampNeg = 1 ∧ ¬ h_i h 208 x1.toNatClampNeg = 0) : Cv (m_X12_stay (d + 3) 0 0) [.ref 1, .int x1] h (fun h' => Iv h' ∧ Mo x1.toNatClampNeg h h' ∧ Jd h' x1.toNatClampNeg) := by
  have v1 := dp_in b1 (n := 12) (by decide) (by decide)
  refine t_X12_stay d h I.1 x1 _ ⟨v1, fun _ => ⟨v1, v1, i211 I _ _, (Mo.rf _ _).im (by decide) (fun y => absurd y (by decide)), ⟨by rw [im_ne (by decide)]; exact n1.1, fun z => by rw [im_ne (by decide)] at z; exact absurd z n1.2⟩⟩, fun _ => Cv.mono (c_goHome d I x1 b1) (fun h' q => ⟨q.1.1, q⟩)⟩
theorem c_goDrawn (d : Nat) {h : Hp_} (I : Iv h) (x1 : Int32) (b1 : rin x1.toInt (0, 11)) (n1 : ¬ h_i h 208 x1.toNatClampNeg = 1 ∧ ¬ h_i h 208 x1.toNatClampNeg = 0) : Cv (m_X12_goDrawn (d + 4) 0 0) [.ref 1, .int x1] h (fun h' => Iv h' ∧ Mo x1.toNatClampNeg h h' ∧ Jd h' x1.toNatClampNeg) := by
  have v1 := dp_in b1 (n := 12) (by decide) (by decide)
  refine t_X12_goDrawn d h I.1 x1 _ ⟨v1, v1, ?_⟩
  refine Cv.mono (c_setOut d (i211 I x1.toNatClampNeg (-1)) x1 _ b1 (drawn_in I _)) (fun h' q => ?_)
  have M1 : Mo x1.toNatClampNeg h h' := ((Mo.rf _ _).im (by decide) (fun y => absurd y (by decide))).tr q.2.1
  have n2 : ¬ h_i h' 208 x1.toNatClampNeg = 1 ∧ ¬ h_i h' 208 x1.toNatClampNeg = 0 := by rw [q.2.2.1, im_ne (by decide)]; exact n1
  exact ⟨q.1.1, v1, fun _ => ⟨q.1, M1, n2.1, fun z => absurd z n2.2⟩, fun _ => Cv.mono (c_stay d q.1 x1 b1 n2) (fun h2 q2 => ⟨q2.1.1, q2.1, M1.tr q2.2.1, q2.2.2⟩)⟩
end
section
/-! a man on his beat -/
/-- the points among the steps of the beat b from s on, f of them looked at -/
noncomputable def mP (wh : Nat → Int32) (b : Nat) : Nat → Nat → Nat
  | 0, _ => 0
  | f + 1, s => (if wh (150 * b + s) = 2 then 1 else 0) + mP wh b f (s + 1)
noncomputable abbrev nB (h : Hp_) (c : Nat) : Nat := (h_i h 212 c).toNatClampNeg
noncomputable abbrev nS (h : Hp_) (c : Nat) : Nat := (h_i h 213 c).toNatClampNeg
noncomputable abbrev nZ (h : Hp_) (c : Nat) : Nat := (h_i h 227 (nB h c)).toNatClampNeg
/-- before a step: there is room in the rows for all points to come -/
noncomputable def Gs (h : Hp_) (c : Nat) : Prop := 0 ≤ (h_i h 213 c).toInt ∧ nS h c ≤ nZ h c ∧ (h_i h 212 c).toInt < (h_i h 1 42).toInt ∧ (h_i h 216 c).toInt + (mP (h_i h 228) (nB h c) (nZ h c - nS h c) (nS h c) : Int) ≤ 400 ∧ h_i h 210 c = -1
/-- between the calls -/
noncomputable def Jm (h : Hp_) (c : Nat) : Prop := (h_i h 208 c = 0 → h_i h 210 c = -1) ∧ (h_i h 208 c = 1 → 0 ≤ (h_i h 213 c).toInt ∧ nS h c < nZ h c ∧ (h_i h 212 c).toInt < (h_i h 1 42).toInt ∧ (h_i h 216 c).toInt + (mP (h_i h 228) (nB h c) (nZ h c - (nS h c + 1)) (nS h c + 1) : Int) ≤ 400 ∧ (¬ h_i h 210 c = -1 → (h_i h 216 c).toInt + (mP (h_i h 228) (nB h c) (nZ h c - nS h c) (nS h c) : Int) ≤ 400))
theorem Jd.jm {h : Hp_} {c : Nat} (j : Jd h c) : Jm h c := ⟨j.2, fun z => absurd z j.1⟩
theorem Mo.wh {c : Nat} {h h' : Hp_} (m : Mo c h h') : h_i h' 228 = h_i h 228 := funext m.2.2.1
theorem Jm_o {c c' : Nat} {h h' : Hp_} (m : Mo c h h') (n : c' ≠ c) (j : Jm h c') : Jm h' c' := by
  have e := fun (a : Nat) (ha : mrow a = true) => m.1 a ha c' n
  have ez : nZ h' c' = nZ h c' := by show (h_i h' 227 (h_i h' 212 c').toNatClampNeg).toNatClampNeg = _; rw [e 212 rfl, m.2.1]
  have es : nS h' c' = nS h c' := by show (h_i h' 213 c').toNatClampNeg = _; rw [e 213 rfl]
  have eb : nB h' c' = nB h c' := by show (h_i h' 212 c').toNatClampNeg = _; rw [e 212 rfl]
  unfold Jm
  rw [ez, es, eb, e 208 rfl, e 210 rfl, e 212 rfl, e 213 rfl, e 216 rfl, m.wh, m.b42]
  exact j
theorem mP_s {wh : Nat → Int32} {b z s : Nat} (h : s < z) : mP wh b (z - s) s = (if wh (150 * b + s) = 2 then 1 else 0) + mP wh b (z - (s + 1)) (s + 1) := by
  obtain ⟨f, e⟩ : ∃ f, z - s = f + 1 := ⟨z - s - 1, by omega⟩
  rw [e, show z - (s + 1) = f by omega]
  rfl
theorem Gs_f {c : Nat} {h h' : Hp_} (m : Mo c h h') (o : So c h h') : (∀ b, h_i h' 227 b = h_i h 227 b) ∧ nZ h' c = nZ h c ∧ nS h' c = nS h c ∧ nB h' c = nB h c := by
  refine ⟨m.2.1, ?_, ?_, ?_⟩
  · show (h_i h' 227 (h_i h' 212 c).toNatClampNeg).toNatClampNeg = _; rw [o.2.1, m.2.1]
  · show (h_i h' 213 c).toNatClampNeg = _; rw [o.2.2.1]
  · show (h_i h' 212 c).toNatClampNeg = _; rw [o.2.1]
theorem Gs_j {c : Nat} {h h' : Hp_} (m : Mo c h h') (o : So c h h') (d1 : h_i h 208 c = 1) (g : Gs h c) (l : nS h c < nZ h c) : Jm h' c := by
  obtain ⟨_, ez, es, eb⟩ := Gs_f m o
  refine ⟨fun z => by rw [o.1, d1] at z; exact absurd z (by decide), fun _ => ?_⟩
  rw [ez, es, eb, o.2.1, o.2.2.1, o.2.2.2, m.wh, m.b42]
  have p := mP_s (wh := h_i h 228) (b := nB h c) l
  have g4 := g.2.2.2.1
  exact ⟨g.1, l, g.2.2.1, by omega, fun _ => g4⟩
theorem c_miss (d : Nat) {h : Hp_} (I : Iv h) (c : Nat) (x1 x2 : Int32) (b1 : rin x1.toInt (0, 399)) : Cv (m_X12_miss (d + 0) 0 0) [.ref 1, .int x1, .int x2] h (fun h' => Iv h' ∧ Mo c h h' ∧ So c h h' ∧ h_i h' 210 c = h_i h 210 c) := by
  have v := dp_in b1 (n := 400) (by decide) (by decide)
  exact t_X12_miss d h I.1 x1 x2 _ ⟨v, v, i243 (i242 I _ _) _ _, ((Mo.rf _ _).im (by decide) (fun y => absurd y (by decide))).im (by decide) (fun y => absurd y (by decide)), ((So.rf _ _).im (by decide)).im (by decide), by rw [im_ne (by decide), im_ne (by decide)]⟩
/-- a point is come to: one row further -/
noncomputable def Cm (c : Nat) (h h' : Hp_) : Prop := Iv h' ∧ Mo c h h' ∧ (h_i h' 208 c = h_i h 208 c ∧ h_i h' 212 c = h_i h 212 c ∧ h_i h' 213 c = h_i h 213 c ∧ h_i h' 210 c = h_i h 210 c) ∧ (h_i h' 216 c).toInt = (h_i h 216 c).toInt + 1
theorem rw_in {h : Hp_} (I : Iv h) (c : Nat) : rin (h_i h 216 c).toInt (0, 400) := dp_rg I 216 c (by decide +kernel)
theorem c_comes (d : Nat) {h : Hp_} (I : Iv h) (x1 x2 : Int32) (b1 : rin x1.toInt (0, 11)) (l : (h_i h 216 x1.toNatClampNeg).toInt ≤ 399) : Ci (m_X12_comes (d + 1) 0 0) [.ref 1, .int x1, .int x2] h (fun _ h' => Cm x1.toNatClampNeg h h') := by
  have v1 := dp_in b1 (n := 12) (by decide) (by decide)
  have t1 : (1 : Int32).toInt = 1 := rfl
  have r0 : 0 ≤ (h_i h 216 x1.toNatClampNeg).toInt := (rw_in I _).1
  have e1 : (h_i h 216 x1.toNatClampNeg + 1).toInt = (h_i h 216 x1.toNatClampNeg).toInt + 1 := by rw [tx_add (by rw [t1]; omega) (by rw [t1]; omega), t1]
  have vr : vp_in (h_i h 216 x1.toNatClampNeg) 400 := dp_in (lo := 0) (hi := 399) ⟨r0, l⟩ (by decide) (by decide)
  have I1 : Iv (h_im h 216 x1.toNatClampNeg (h_i h 216 x1.toNatClampNeg + 1)) := i216 I _ ⟨by show (0 : Int) ≤ _; omega, by show _ ≤ (400 : Int); omega⟩
  have M1 : Mo x1.toNatClampNeg h (h_im h 216 x1.toNatClampNeg (h_i h 216 x1.toNatClampNeg + 1)) := (Mo.rf _ _).im (by decide) (fun _ => rfl)
  have C1 : Cm x1.toNatClampNeg h (h_im h 216 x1.toNatClampNeg (h_i h 216 x1.toNatClampNeg + 1)) := ⟨I1, M1, ⟨im_ne (by decide), im_ne (by decide), im_ne (by decide), im_ne (by decide)⟩, by rw [im_at]; exact e1⟩
  have st : ∀ {h1 : Hp_} {a k : Nat} {v : Int32}, Cm x1.toNatClampNeg h h1 → Iv (h_im h1 a k v) → (Nat.beq a 227 || Nat.beq a 228 || Nat.beq a 1 || !(inw wsR a 999)) = false → mrow a = false → Cm x1.toNatClampNeg h (h_im h1 a k v) := by
    intro h1 a k v C J hb hm
    have n : ∀ {y : Nat}, mrow y = true → y ≠ a := fun {y} z e => by rw [e, hm] at z; cases z
    exact ⟨J, C.2.1.im hb (fun z => by rw [hm] at z; cases z), ⟨by rw [im_ne (n rfl)]; exact C.2.2.1.1, by rw [im_ne (n rfl)]; exact C.2.2.1.2.1, by rw [im_ne (n rfl)]; exact C.2.2.1.2.2.1, by rw [im_ne (n rfl)]; exact C.2.2.1.2.2.2⟩, by rw [im_ne (n rfl)]; exact C.2.2.2⟩
  have C2 := fun (v : Int32) => st C1 (i241 I1 (h_i h 216 x1.toNatClampNeg).toNatClampNeg v) (by decide) (by decide)
  refine t_X12_comes d h I.1 x1 x2 _ ⟨v1, v1, v1, v1, fun _ => ⟨vr, fun _ => C2 _, fun _ => ⟨v1, st (C2 _) (i211 (C2 _).1 _ _) (by decide) (by decide)⟩⟩, fun _ => ?_⟩
  refine Cv.mono (c_miss d I1 x1.toNatClampNeg _ 1 ⟨r0, l⟩) (fun h' q => ⟨q.1.1, q.1, M1.tr q.2.1, ?_, ?_⟩)
  · exact ⟨by rw [q.2.2.1.1]; exact C1.2.2.1.1, by rw [q.2.2.1.2.1]; exact C1.2.2.1.2.1, by rw [q.2.2.1.2.2.1]; exact C1.2.2.1.2.2.1, by rw [q.2.2.2]; exact C1.2.2.1.2.2.2⟩
  · rw [q.2.2.1.2.2.2]; exact C1.2.2.2
/-- a step further -/
theorem Gs_n {c : Nat} {h h' : Hp_} {x : Int32} (I : Iv h) (m : Mo c h h') (e2 : h_i h' 212 c = h_i h 212 c) (e3 : h_i h' 213 c = x) (e4 : h_i h' 210 c = h_i h 210 c) (ex : x.toInt = (h_i h 213 c).toInt + 1) (g : Gs h c) (l : nS h c < nZ h c)
    (er : (h_i h' 216 c).toInt ≤ (h_i h 216 c).toInt + (if h_i h 228 (150 * nB h c + nS h c) = 2 then 1 else 0 : Nat)) : Gs h' c ∧ nS h' c = nS h c + 1 ∧ nZ h' c = nZ h c := by
  have ez : nZ h' c = nZ h c := by show (h_i h' 227 (h_i h' 212 c).toNatClampNeg).toNatClampNeg = _; rw [e2, m.2.1]
  have eb : nB h' c = nB h c := by show (h_i h' 212 c).toNatClampNeg = _; rw [e2]
  have s0 := g.1
  have es : nS h' c = nS h c + 1 := by
    show (h_i h' 213 c).toNatClampNeg = (h_i h 213 c).toNatClampNeg + 1
    have a := n_nat (x := h_i h 213 c) s0
    have b := n_nat (x := x) (by omega)
    rw [e3]
    omega
  refine ⟨?_, es, ez⟩
  unfold Gs
  rw [ez, es, eb, e2, e3, e4, m.wh, m.b42]
  have p := mP_s (wh := h_i h 228) (b := nB h c) l
  have g4 := g.2.2.2.1
  refine ⟨by omega, by omega, g.2.2.1, ?_, g.2.2.2.2⟩
  rw [p] at g4
  omega
end
section
/-! goOn of the reference -/
theorem go_ix {h : Hp_} (I : Iv h) {c : Nat} (g : Gs h c) (l : nS h c < nZ h c) : (150 * h_i h 212 c + h_i h 213 c).toInt = 150 * (nB h c : Int) + (nS h c : Int) ∧ (150 * h_i h 212 c + h_i h 213 c).toNatClampNeg = 150 * nB h c + nS h c ∧ vp_in (150 * h_i h 212 c + h_i h 213 c) 1800 := by
  have t150 : (150 : Int32).toInt = 150 := rfl
  have bb := dp_rg I 212 c (show tfa 212 = some (0, 11) by decide +kernel)
  have b0 : 0 ≤ (h_i h 212 c).toInt := bb.1
  have b1 : (h_i h 212 c).toInt ≤ 11 := bb.2
  have zz := dp_rg I 227 (nB h c) (show tfa 227 = some (0, 150) by decide +kernel)
  have z0 : 0 ≤ (h_i h 227 (nB h c)).toInt := zz.1
  have z1 : (h_i h 227 (nB h c)).toInt ≤ 150 := zz.2
  have nb := n_nat (x := h_i h 212 c) b0
  have ns := n_nat (x := h_i h 213 c) g.1
  have nz := n_nat (x := h_i h 227 (nB h c)) z0
  have m1 : (150 * h_i h 212 c).toInt = 150 * (h_i h 212 c).toInt := by rw [tx_mul (by rw [t150]; omega) (by rw [t150]; omega), t150]
  have l' : (h_i h 213 c).toNatClampNeg < (h_i h 227 (nB h c)).toNatClampNeg := l
  have m2 : (150 * h_i h 212 c + h_i h 213 c).toInt = 150 * (h_i h 212 c).toInt + (h_i h 213 c).toInt := by rw [tx_add (by omega) (by omega), m1]
  have e : (150 * h_i h 212 c + h_i h 213 c).toInt = 150 * (nB h c : Int) + (nS h c : Int) := by rw [m2]; show _ = 150 * ((h_i h 212 c).toNatClampNeg : Int) + ((h_i h 213 c).toNatClampNeg : Int); omega
  have nn := n_nat (x := 150 * h_i h 212 c + h_i h 213 c) (by omega)
  refine ⟨e, by omega, dp_in (lo := 0) (hi := 1799) ⟨by show (0 : Int) ≤ _; omega, by show _ ≤ (1799 : Int); omega⟩ (by decide) (by decide)⟩
theorem go_loop (d : Nat) (h0 : Hp_) (x1 : Int32) (b1 : rin x1.toInt (0, 11)) : ∀ (r : Nat) (h : Hp_), Iv h → Mo x1.toNatClampNeg h0 h → (¬ h_i h 208 x1.toNatClampNeg = 1 → Jd h x1.toNatClampNeg) → (h_i h 208 x1.toNatClampNeg = 1 → Gs h x1.toNatClampNeg ∧ nZ h x1.toNatClampNeg - nS h x1.toNatClampNeg ≤ r) →
    AW (m_X12_goOn (d + 3) 0 0) 0 0 0 [(0, .ref 1), (1, .int x1)] [] h (kV (fun h' => Iv h' ∧ Mo x1.toNatClampNeg h0 h' ∧ Jm h' x1.toNatClampNeg)) := by
  have v1 := dp_in b1 (n := 12) (by decide) (by decide)
  have t1 : (1 : Int32).toInt = 1 := rfl
  generalize hc : x1.toNatClampNeg = c
  intro r
  induction r with
  | zero =>
    intro h I M nd yd
    have hB := dp_in (dp_rg I 212 c (show tfa 212 = some (0, 11) by decide +kernel)) (n := 12) (by decide) (by decide)
    have tr := t_X12_goOn_0 d h I.1 x1 (fun h' => Iv h' ∧ Mo c h0 h' ∧ Jm h' c)
    rw [hc] at tr
    refine tr ⟨v1, fun n => ⟨I, M, (nd n).jm⟩, fun d1 => ⟨v1, v1, hB, fun ne => ?_, fun _ => ?_⟩⟩
    · obtain ⟨g, gr⟩ := yd d1
      exfalso
      apply ne
      have zz := dp_rg I 227 (nB h c) (show tfa 227 = some (0, 150) by decide +kernel)
      have a := n_nat (x := h_i h 227 (nB h c)) zz.1
      have b := n_nat (x := h_i h 213 c) g.1
      have l1 : (h_i h 213 c).toNatClampNeg ≤ (h_i h 227 (nB h c)).toNatClampNeg := g.2.1
      have l2 : (h_i h 227 (nB h c)).toNatClampNeg - (h_i h 213 c).toNatClampNeg ≤ 0 := gr
      exact Int32.toInt_inj.mp (by show (h_i h 213 c).toInt = (h_i h 227 (nB h c)).toInt; omega)
    · have gh := c_goHome d I x1 b1
      rw [hc] at gh
      exact Cv.mono gh (fun h' q => ⟨q.1.1, q.1, M.tr q.2.1, q.2.2.jm⟩)
  | succ r ih =>
    intro h I M nd yd
    have hB := dp_in (dp_rg I 212 c (show tfa 212 = some (0, 11) by decide +kernel)) (n := 12) (by decide) (by decide)
    have tr := t_X12_goOn_0 d h I.1 x1 (fun h' => Iv h' ∧ Mo c h0 h' ∧ Jm h' c)
    rw [hc] at tr
    have gh := c_goHome d I x1 b1
    rw [hc] at gh
    refine tr ⟨v1, fun n => ⟨I, M, (nd n).jm⟩, fun d1 => ⟨v1, v1, hB, fun ne => ?_, fun _ => Cv.mono gh (fun h' q => ⟨q.1.1, q.1, M.tr q.2.1, q.2.2.jm⟩)⟩⟩
    obtain ⟨g, gr⟩ := yd d1
    have zz := dp_rg I 227 (nB h c) (show tfa 227 = some (0, 150) by decide +kernel)
    have nz := n_nat (x := h_i h 227 (nB h c)) zz.1
    have ns := n_nat (x := h_i h 213 c) g.1
    have z1 : (h_i h 227 (nB h c)).toInt ≤ 150 := zz.2
    have l : nS h c < nZ h c := by
      rcases Nat.lt_or_ge (nS h c) (nZ h c) with y | y
      · exact y
      · exfalso
        apply ne
        have l1 : (h_i h 213 c).toNatClampNeg ≤ (h_i h 227 (nB h c)).toNatClampNeg := g.2.1
        have y' : (h_i h 227 (nB h c)).toNatClampNeg ≤ (h_i h 213 c).toNatClampNeg := y
        exact Int32.toInt_inj.mp (by show (h_i h 213 c).toInt = (h_i h 227 (nB h c)).toInt; omega)
    have l' : (h_i h 213 c).toNatClampNeg < (h_i h 227 (nB h c)).toNatClampNeg := l
    obtain ⟨_, ix, vi⟩ := go_ix I g l
    rw [ix]
    have g4 := g.2.2.2.1
    rw [mP_s l] at g4
    have nx : ∀ (h2 : Hp_) (x : Int32), Iv h2 → Mo c h h2 → h_i h2 208 c = 1 → h_i h2 212 c = h_i h 212 c → h_i h2 213 c = h_i h 213 c → h_i h2 210 c = h_i h 210 c → (h_i h2 216 c).toInt ≤ (h_i h 216 c).toInt + (if h_i h 228 (150 * nB h c + nS h c) = 2 then 1 else 0 : Nat) → x = h_i h2 213 c + 1 →
        AW (m_X12_goOn (d + 3) 0 0) 0 0 0 [(0, .ref 1), (1, .int x1)] [] (h_im h2 213 c x) (kV (fun h' => Iv h' ∧ Mo c h0 h' ∧ Jm h' c)) := by
      intro h2 x I2 M2 e1 e2 e3 e4 e5 ex
      have exi : x.toInt = (h_i h 213 c).toInt + 1 := by rw [ex, e3, tx_add (by rw [t1]; omega) (by rw [t1]; omega), t1]
      have M3 : Mo c h (h_im h2 213 c x) := M2.im (by decide) (fun _ => rfl)
      obtain ⟨g3, s3, z3⟩ := Gs_n (x := x) I M3 (by rw [im_ne (by decide)]; exact e2) im_at (by rw [im_ne (by decide)]; exact e4) exi g l (by rw [im_ne (by decide)]; exact e5)
      refine ih _ (i213 I2 _ ⟨by show (-1 : Int) ≤ _; omega, by show _ ≤ (150 : Int); omega⟩) (M.tr M3) (fun n => absurd (by rw [im_ne (by decide)]; exact e1) n) (fun _ => ⟨g3, ?_⟩)
      rw [s3, z3]; omega
    have I1 := i211 I c (-1)
    have M1 : Mo c h (h_im h 211 c (-1)) := (Mo.rf _ _).im (by decide) (fun y => absurd y (by decide))
    have S1 : So c h (h_im h 211 c (-1)) := (So.rf _ _).im (by decide)
    have wkc : ¬ h_i h 228 (150 * nB h c + nS h c) = 1 → ∀ (q : Int32) (h2 : Hp_), Iv h2 → Fr wz_X12_walkOf (h_im h 211 c (-1)) h2 → (Mo c h h2 ∧ So c h h2 ∧ h_i h2 210 c = h_i h 210 c) := by
      intro _ q h2 I2 F2
      exact ⟨M1.tr (Mo.fr F2 (by decide +kernel)), S1.tr (So.fr F2 (by decide +kernel)), by rw [fr_i F2 (a := 210) (by decide +kernel), im_ne (by decide)]⟩
    have so : ∀ h2, Iv h2 → Mo c h h2 → So c h h2 → ¬ h_i h 228 (150 * nB h c + nS h c) = 1 → Cv (m_X12_setOut (d + 1) 0 0) [.ref 1, .int x1, .int (h_i h2 229 (150 * nB h c + nS h c))] h2 (fun h' => Wf h' ∧ (Iv h' ∧ Mo c h0 h' ∧ Jm h' c)) := by
      intro h2 I2 M2 S2 w
      have cs := c_setOut d I2 x1 (h_i h2 229 (150 * nB h c + nS h c)) b1 (I2.2.2.2.2.2.1 _ (by rw [M2.wh]; exact w))
      rw [hc] at cs
      exact Cv.mono cs (fun h' q => ⟨q.1.1, q.1, M.tr (M2.tr q.2.1), Gs_j (M2.tr q.2.1) (S2.tr q.2.2) d1 g l⟩)
    have cm : ∀ (h2 : Hp_) (x2 : Int32), Iv h2 → Mo c h h2 → So c h h2 → h_i h2 210 c = h_i h 210 c → h_i h 228 (150 * nB h c + nS h c) = 2 → Ci (m_X12_comes (d + 1) 0 0) [.ref 1, .int x1, .int x2] h2 (fun q h' => Wf h' ∧ ((q = 0 → vp_in x1 12 ∧ (vp_in x1 12 ∧ (AW (m_X12_goOn (d + 3) 0 0) 0 0 0 [(0, .ref 1), (1, .int x1)] [] (h_im h' 213 c ((h_i h' 213 c) + 1)) (kV (fun h' => Iv h' ∧ Mo c h0 h' ∧ Jm h' c))))) ∧ (¬ q = 0 → (Iv h' ∧ Mo c h0 h' ∧ Jm h' c)))) := by
      intro h2 x2 I2 M2 S2 e210 w
      rw [if_pos w] at g4
      have cc := c_comes d I2 x1 x2 b1 (by rw [hc, S2.2.2.2]; omega)
      rw [hc] at cc
      refine Ci.mono cc (fun q h' C => ⟨C.1.1, fun _ => ⟨v1, v1, nx h' _ C.1 (M2.tr C.2.1) ?_ ?_ ?_ ?_ ?_ rfl⟩, fun _ => ⟨C.1, M.tr (M2.tr C.2.1), ?_⟩⟩)
      · rw [C.2.2.1.1, S2.1]; exact d1
      · rw [C.2.2.1.2.1, S2.2.1]
      · rw [C.2.2.1.2.2.1, S2.2.2.1]
      · rw [C.2.2.1.2.2.2, e210]
      · rw [C.2.2.2, S2.2.2.2, if_pos w]; omega
      · have M' := M2.tr C.2.1
        have f1 : h_i h' 208 c = 1 := by rw [C.2.2.1.1, S2.1]; exact d1
        have f2 : h_i h' 212 c = h_i h 212 c := by rw [C.2.2.1.2.1, S2.2.1]
        have f3 : h_i h' 213 c = h_i h 213 c := by rw [C.2.2.1.2.2.1, S2.2.2.1]
        have f4 : h_i h' 210 c = -1 := by rw [C.2.2.1.2.2.2, e210]; exact g.2.2.2.2
        have ez : nZ h' c = nZ h c := by show (h_i h' 227 (h_i h' 212 c).toNatClampNeg).toNatClampNeg = _; rw [f2, M'.2.1]
        have es : nS h' c = nS h c := by show (h_i h' 213 c).toNatClampNeg = _; rw [f3]
        have eb : nB h' c = nB h c := by show (h_i h' 212 c).toNatClampNeg = _; rw [f2]
        refine ⟨fun _ => f4, fun _ => ?_⟩
        rw [ez, es, eb, f2, f3, M'.wh, M'.b42, C.2.2.2, S2.2.2.2]
        exact ⟨g.1, l, g.2.2.1, by omega, fun z => absurd f4 z⟩
    have ms : ∀ (h2 : Hp_), Iv h2 → Mo c h h2 → So c h h2 → h_i h2 210 c = h_i h 210 c → h_i h 228 (150 * nB h c + nS h c) = 2 → Cv (m_X12_miss (d + 0) 0 0) [.ref 1, .int (h_i h2 216 c), .int 2] h2 (fun h' => Wf h' ∧ (vp_in x1 12 ∧ (vp_in x1 12 ∧ (vp_in x1 12 ∧ (vp_in x1 12 ∧ (AW (m_X12_goOn (d + 3) 0 0) 0 0 0 [(0, .ref 1), (1, .int x1)] [] (h_im (h_im h' 216 c ((h_i h' 216 c) + 1)) 213 c ((h_i h' 213 c) + 1)) (kV (fun h' => Iv h' ∧ Mo c h0 h' ∧ Jm h' c)))))))) := by
      intro h2 I2 M2 S2 e210 w
      rw [if_pos w] at g4
      have r0 : 0 ≤ (h_i h 216 c).toInt := (rw_in I c).1
      refine Cv.mono (c_miss d I2 c _ 2 (by rw [S2.2.2.2]; exact ⟨r0, by show _ ≤ (399 : Int); omega⟩)) (fun h' q => ⟨q.1.1, v1, v1, v1, v1, ?_⟩)
      have e6 : (h_i h' 216 c + 1).toInt = (h_i h 216 c).toInt + 1 := by rw [q.2.2.1.2.2.2, S2.2.2.2, tx_add (by rw [t1]; omega) (by rw [t1]; omega), t1]
      refine nx _ _ (i216 q.1 _ ⟨by show (0 : Int) ≤ _; omega, by show _ ≤ (400 : Int); omega⟩) ((M2.tr q.2.1).im (by decide) (fun _ => rfl)) ?_ ?_ ?_ ?_ ?_ ?_
      · rw [im_ne (by decide), q.2.2.1.1, S2.1]; exact d1
      · rw [im_ne (by decide), q.2.2.1.2.1, S2.2.1]
      · rw [im_ne (by decide), q.2.2.1.2.2.1, S2.2.2.1]
      · rw [im_ne (by decide), q.2.2.2, e210]
      · rw [im_at, e6, if_pos w]; omega
      · rw [im_ne (by decide)]
    refine ⟨v1, v1, vi, v1, fun w0 => ⟨v1, vi, ?_⟩, fun nw0 => ⟨fun nw2 => ⟨fun _ => ⟨v1, i211 I1 _ _, M.tr (M1.im (by decide) (fun y => absurd y (by decide))), Gs_j (M1.im (by decide) (fun y => absurd y (by decide))) (S1.im (by decide)) d1 g l⟩, fun _ => ⟨vi, v1, i211 I1 _ _, M.tr (M1.im (by decide) (fun y => absurd y (by decide))), Gs_j (M1.im (by decide) (fun y => absurd y (by decide))) (S1.im (by decide)) d1 g l⟩⟩, fun w2 => ⟨v1, vi, ?_⟩⟩⟩
    · have n1 : ¬ h_i h 228 (150 * nB h c + nS h c) = 1 := by rw [w0]; decide
      have n2 : ¬ h_i h 228 (150 * nB h c + nS h c) = 2 := by rw [w0]; decide
      refine Ci.mono (c_walkOf d I1 _ _ (I.2.2.2.2.2.1 _ n1)) (fun q h2 k => ?_)
      obtain ⟨I2, F2, _⟩ := k
      obtain ⟨M2, S2, e210⟩ := wkc n1 q h2 I2 F2
      exact ⟨I2.1, fun _ => ⟨fun _ => ⟨fun _ => ⟨v1, v1, nx h2 _ I2 M2 (by rw [S2.1]; exact d1) S2.2.1 S2.2.2.1 e210 (by rw [S2.2.2.2]; omega) rfl⟩, fun y => absurd y n2⟩, fun y => absurd y n2⟩, fun _ => ⟨vi, so h2 I2 M2 S2 n1⟩⟩
    · have n1 : ¬ h_i h 228 (150 * nB h c + nS h c) = 1 := by rw [w2]; decide
      refine Ci.mono (c_walkOf d I1 _ _ (I.2.2.2.2.2.1 _ n1)) (fun q h2 k => ?_)
      obtain ⟨I2, F2, _⟩ := k
      obtain ⟨M2, S2, e210⟩ := wkc n1 q h2 I2 F2
      exact ⟨I2.1, fun _ => ⟨fun y => absurd w2 y, fun _ => ⟨fun _ => ⟨fun y => absurd w2 y, fun _ => ⟨vi, cm h2 _ I2 M2 S2 e210 w2⟩⟩, fun _ => ⟨v1, ms h2 I2 M2 S2 e210 w2⟩⟩⟩, fun _ => ⟨vi, so h2 I2 M2 S2 n1⟩⟩
theorem c_goOn (d : Nat) {h : Hp_} (I : Iv h) (x1 : Int32) (b1 : rin x1.toInt (0, 11)) (nd : ¬ h_i h 208 x1.toNatClampNeg = 1 → Jd h x1.toNatClampNeg) (yd : h_i h 208 x1.toNatClampNeg = 1 → Gs h x1.toNatClampNeg) : Cv (m_X12_goOn (d + 3) 0 0) [.ref 1, .int x1] h (fun h' => Iv h' ∧ Mo x1.toNatClampNeg h h' ∧ Jm h' x1.toNatClampNeg) := by
  refine Ct.of (fun _ _ _ => trivial) pn_X12 (Nat.le_of_ble_eq_true rfl) ?_
  exact go_loop d h x1 b1 (nZ h x1.toNatClampNeg) h I (Mo.rf _ _) nd (fun z => ⟨yd z, by omega⟩)
end
section
theorem t_X12_wakeBeat (d : Nat) (h : Hp_) (w : Wf h) (x1 : Int32) (x2 : Int32) (K : Hp_ → Prop) (k : vp_in x1 12 ∧ (vp_in x1 12 ∧ ((x2 = 0 → vp_in ((150 * (h_i h 212 x1.toNatClampNeg)) + (h_i h 213 x1.toNatClampNeg)) 1800 ∧ ((¬ (h_i h 228 (((150 * (h_i h 212 x1.toNatClampNeg)) + (h_i h 213 x1.toNatClampNeg)) : Int32).toNatClampNeg) = 3 → vp_in x1 12 ∧ (vp_in x1 12 ∧ (Cv (m_X12_goOn (d + 3) 0 0) [.ref 1, .int x1] (h_im h 213 x1.toNatClampNeg ((h_i h 213 x1.toNatClampNeg) + 1)) (fun h8 => Wf h8 ∧ (K h8))))) ∧ ((h_i h 228 (((150 * (h_i h 212 x1.toNatClampNeg)) + (h_i h 213 x1.toNatClampNeg)) : Int32).toNatClampNeg) = 3 → Cv (m_X12_see (d + 7) 0 0) [.ref 1, .int x1] h (fun h11 => Wf h11 ∧ (vp_in x1 12 ∧ (vp_in x1 12 ∧ (Cv (m_X12_goOn (d + 3) 0 0) [.ref 1, .int x1] (h_im h11 213 x1.toNatClampNeg ((h_i h11 213 x1.toNatClampNeg) + 1)) (fun h16 => Wf h16 ∧ (K h16))))))))) ∧ (¬ x2 = 0 → vp_in ((150 * (h_i h 212 x1.toNatClampNeg)) + (h_i h 213 x1.toNatClampNeg)) 1800 ∧ ((¬ (h_i h 228 (((150 * (h_i h 212 x1.toNatClampNeg)) + (h_i h 213 x1.toNatClampNeg)) : Int32).toNatClampNeg) = 2 → vp_in x1 12 ∧ (vp_in x1 12 ∧ (Cv (m_X12_goOn (d + 3) 0 0) [.ref 1, .int x1] (h_im h 213 x1.toNatClampNeg ((h_i h 213 x1.toNatClampNeg) + 1)) (fun h23 => Wf h23 ∧ (K h23))))) ∧ ((h_i h 228 (((150 * (h_i h 212 x1.toNatClampNeg)) + (h_i h 213 x1.toNatClampNeg)) : Int32).toNatClampNeg) = 2 → vp_in ((150 * (h_i h 212 x1.toNatClampNeg)) + (h_i h 213 x1.toNatClampNeg)) 1800 ∧ (Ci (m_X12_comes (d + 1) 0 0) [.ref 1, .int x1, .int (h_i h 230 (((150 * (h_i h 212 x1.toNatClampNeg)) + (h_i h 213 x1.toNatClampNeg)) : Int32).toNatClampNeg)] h (fun r29 h27 => Wf h27 ∧ ((r29 = 0 → vp_in x1 12 ∧ (vp_in x1 12 ∧ (Cv (m_X12_goOn (d + 3) 0 0) [.ref 1, .int x1] (h_im h27 213 x1.toNatClampNeg ((h_i h27 213 x1.toNatClampNeg) + 1)) (fun h33 => Wf h33 ∧ (K h33))))) ∧ (¬ r29 = 0 → K h27)))))))))) : Cv (m_X12_wakeBeat (d + 8) 0 0) [.ref 1, .int x1, .int x2] h K := by
  refine Ct.of (fun _ _ _ => trivial) pn_X12 (Nat.le_of_ble_eq_true rfl) ?_
  show AW (m_X12_wakeBeat (d + 8) 0 0) 0 0 0 [(0, .ref 1), (1, .int x1), (2, .int x2)] [] h (kV K)
  refine aw_sipush (v := 150) d_X12_wakeBeat_0 is_150 ?_
  refine aw_aload_n (i := 0) rfl d_X12_wakeBeat_3 0 rfl ?_
  refine aw_getr (k0 := 16) kc_12 (ws_1 w) (Nat.le_of_ble_eq_true rfl) tw_1758 d_X12_wakeBeat_4 rfl (wr_1_16 w) ?_
  refine aw_iload_n (i := 1) rfl d_X12_wakeBeat_7 1 rfl ?_
  obtain ⟨b1, k⟩ := k
  refine aw_iald (ws_212 w) b1 d_X12_wakeBeat_8 ?_
  refine aw_imul d_X12_wakeBeat_9 ?_
  refine aw_aload_n (i := 0) rfl d_X12_wakeBeat_10 0 rfl ?_
  refine aw_getr (k0 := 17) kc_12 (ws_1 w) (Nat.le_of_ble_eq_true rfl) tw_1759 d_X12_wakeBeat_11 rfl (wr_1_17 w) ?_
  refine aw_iload_n (i := 1) rfl d_X12_wakeBeat_14 1 rfl ?_
  obtain ⟨b2, k⟩ := k
  refine aw_iald (ws_213 w) b2 d_X12_wakeBeat_15 ?_
  refine aw_iadd d_X12_wakeBeat_16 ?_
  refine aw_istore_n (i := 3) rfl [(0, .ref 1), (1, .int x1), (2, .int x2), (3, .int ((150 * (h_i h 212 x1.toNatClampNeg)) + (h_i h 213 x1.toNatClampNeg)))] d_X12_wakeBeat_17 (Nat.le_of_ble_eq_true rfl) rfl rfl ?_
  refine aw_iload_n (i := 2) rfl d_X12_wakeBeat_18 2 rfl ?_
  refine aw_if_eq (tgt := 47) d_X12_wakeBeat_19 rfl (fun c3 => ?_) (fun c3 => ?_)
  · have k := k.1 c3
    refine aw_aload_n (i := 0) rfl d_X12_wakeBeat_47 0 rfl ?_
    refine aw_getr (k0 := 39) kc_12 (ws_1 w) (Nat.le_of_ble_eq_true rfl) tw_1781 d_X12_wakeBeat_48 rfl (wr_1_39 w) ?_
    refine aw_iload_n (i := 3) rfl d_X12_wakeBeat_51 3 rfl ?_
    obtain ⟨b4, k⟩ := k
    refine aw_iald (ws_228 w) b4 d_X12_wakeBeat_52 ?_
    refine aw_iconst (v := 3) d_X12_wakeBeat_53 ic_3 ?_
    refine aw_icmp_ne (tgt := 62) d_X12_wakeBeat_54 rfl (fun c5 => ?_) (fun c5 => ?_)
    · have k := k.1 c5
      refine aw_aload_n (i := 0) rfl d_X12_wakeBeat_62 0 rfl ?_
      refine aw_getr (k0 := 17) kc_12 (ws_1 w) (Nat.le_of_ble_eq_true rfl) tw_1759 d_X12_wakeBeat_63 rfl (wr_1_17 w) ?_
      refine aw_iload_n (i := 1) rfl d_X12_wakeBeat_66 1 rfl ?_
      refine aw_dup2 d_X12_wakeBeat_67 ⟨rfl, rfl⟩ ?_
      obtain ⟨b6, k⟩ := k
      refine aw_iald (ws_213 w) b6 d_X12_wakeBeat_68 ?_
      refine aw_iconst (v := 1) d_X12_wakeBeat_69 ic_1 ?_
      refine aw_iadd d_X12_wakeBeat_70 ?_
      obtain ⟨b7, k⟩ := k
      refine aw_iast (ws_213 w) b7 d_X12_wakeBeat_71 ?_
      refine aw_aload_n (i := 0) rfl d_X12_wakeBeat_72 0 rfl ?_
      refine aw_iload_n (i := 1) rfl d_X12_wakeBeat_73 1 rfl ?_
      refine aw_Vv 1 [.int x1] [] d_X12_wakeBeat_74 (cV_X12_goOn (d + 3) 0 0) kc_12 (ws_1 w) tw_2336 rfl (rr0 (Nat.le_of_ble_eq_true rfl) (Nat.le_of_ble_eq_true rfl)) (Nat.le_of_ble_eq_true rfl) xs0 k (fun h8 kk => ?_)
      obtain ⟨w9, k⟩ := kk
      exact aw_vret rfl d_X12_wakeBeat_77 ⟨Nat.le_refl _, Nat.le_refl _⟩ ⟨rfl, k⟩
    · have k := k.2 c5
      refine aw_aload_n (i := 0) rfl d_X12_wakeBeat_57 0 rfl ?_
      refine aw_iload_n (i := 1) rfl d_X12_wakeBeat_58 1 rfl ?_
      refine aw_Vv 1 [.int x1] [] d_X12_wakeBeat_59 (cV_X12_see (d + 7) 0 0) kc_12 (ws_1 w) tw_2392 rfl (rr0 (Nat.le_of_ble_eq_true rfl) (Nat.le_of_ble_eq_true rfl)) (Nat.le_of_ble_eq_true rfl) xs0 k (fun h11 kk => ?_)
      obtain ⟨w12, k⟩ := kk
      refine aw_aload_n (i := 0) rfl d_X12_wakeBeat_62 0 rfl ?_
      refine aw_getr (k0 := 17) kc_12 (ws_1 w12) (Nat.le_of_ble_eq_true rfl) tw_1759 d_X12_wakeBeat_63 rfl (wr_1_17 w12) ?_
      refine aw_iload_n (i := 1) rfl d_X12_wakeBeat_66 1 rfl ?_
      refine aw_dup2 d_X12_wakeBeat_67 ⟨rfl, rfl⟩ ?_
      obtain ⟨b14, k⟩ := k
      refine aw_iald (ws_213 w12) b14 d_X12_wakeBeat_68 ?_
      refine aw_iconst (v := 1) d_X12_wakeBeat_69 ic_1 ?_
      refine aw_iadd d_X12_wakeBeat_70 ?_
      obtain ⟨b15, k⟩ := k
      refine aw_iast (ws_213 w12) b15 d_X12_wakeBeat_71 ?_
      refine aw_aload_n (i := 0) rfl d_X12_wakeBeat_72 0 rfl ?_
      refine aw_iload_n (i := 1) rfl d_X12_wakeBeat_73 1 rfl ?_
      refine aw_Vv 1 [.int x1] [] d_X12_wakeBeat_74 (cV_X12_goOn (d + 3) 0 0) kc_12 (ws_1 w12) tw_2336 rfl (rr0 (Nat.le_of_ble_eq_true rfl) (Nat.le_of_ble_eq_true rfl)) (Nat.le_of_ble_eq_true rfl) xs0 k (fun h16 kk => ?_)
      obtain ⟨w17, k⟩ := kk
      exact aw_vret rfl d_X12_wakeBeat_77 ⟨Nat.le_refl _, Nat.le_refl _⟩ ⟨rfl, k⟩
  · have k := k.2 c3
    refine aw_aload_n (i := 0) rfl d_X12_wakeBeat_22 0 rfl ?_
    refine aw_getr (k0 := 39) kc_12 (ws_1 w) (Nat.le_of_ble_eq_true rfl) tw_1781 d_X12_wakeBeat_23 rfl (wr_1_39 w) ?_
    refine aw_iload_n (i := 3) rfl d_X12_wakeBeat_26 3 rfl ?_
    obtain ⟨b19, k⟩ := k
    refine aw_iald (ws_228 w) b19 d_X12_wakeBeat_27 ?_
    refine aw_iconst (v := 2) d_X12_wakeBeat_28 ic_2 ?_
    refine aw_icmp_ne (tgt := 62) d_X12_wakeBeat_29 rfl (fun c20 => ?_) (fun c20 => ?_)
    · have k := k.1 c20
      refine aw_aload_n (i := 0) rfl d_X12_wakeBeat_62 0 rfl ?_
      refine aw_getr (k0 := 17) kc_12 (ws_1 w) (Nat.le_of_ble_eq_true rfl) tw_1759 d_X12_wakeBeat_63 rfl (wr_1_17 w) ?_
      refine aw_iload_n (i := 1) rfl d_X12_wakeBeat_66 1 rfl ?_
      refine aw_dup2 d_X12_wakeBeat_67 ⟨rfl, rfl⟩ ?_
      obtain ⟨b21, k⟩ := k
      refine aw_iald (ws_213 w) b21 d_X12_wakeBeat_68 ?_
      refine aw_iconst (v := 1) d_X12_wakeBeat_69 ic_1 ?_
      refine aw_iadd d_X12_wakeBeat_70 ?_
      obtain ⟨b22, k⟩ := k
      refine aw_iast (ws_213 w) b22 d_X12_wakeBeat_71 ?_
      refine aw_aload_n (i := 0) rfl d_X12_wakeBeat_72 0 rfl ?_
      refine aw_iload_n (i := 1) rfl d_X12_wakeBeat_73 1 rfl ?_
      refine aw_Vv 1 [.int x1] [] d_X12_wakeBeat_74 (cV_X12_goOn (d + 3) 0 0) kc_12 (ws_1 w) tw_2336 rfl (rr0 (Nat.le_of_ble_eq_true rfl) (Nat.le_of_ble_eq_true rfl)) (Nat.le_of_ble_eq_true rfl) xs0 k (fun h23 kk => ?_)
      obtain ⟨w24, k⟩ := kk
      exact aw_vret rfl d_X12_wakeBeat_77 ⟨Nat.le_refl _, Nat.le_refl _⟩ ⟨rfl, k⟩
    · have k := k.2 c20
      refine aw_aload_n (i := 0) rfl d_X12_wakeBeat_32 0 rfl ?_
      refine aw_iload_n (i := 1) rfl d_X12_wakeBeat_33 1 rfl ?_
      refine aw_aload_n (i := 0) rfl d_X12_wakeBeat_34 0 rfl ?_
      refine aw_getr (k0 := 41) kc_12 (ws_1 w) (Nat.le_of_ble_eq_true rfl) tw_1783 d_X12_wakeBeat_35 rfl (wr_1_41 w) ?_
      refine aw_iload_n (i := 3) rfl d_X12_wakeBeat_38 3 rfl ?_
      obtain ⟨b26, k⟩ := k
      refine aw_iald (ws_230 w) b26 d_X12_wakeBeat_39 ?_
      refine aw_Vi 1 [.int x1, .int (h_i h 230 (((150 * (h_i h 212 x1.toNatClampNeg)) + (h_i h 213 x1.toNatClampNeg)) : Int32).toNatClampNeg)] [] d_X12_wakeBeat_40 (cV_X12_comes (d + 1) 0 0) kc_12 (ws_1 w) tw_2356 rfl (rr0 (Nat.le_of_ble_eq_true rfl) (Nat.le_of_ble_eq_true rfl)) (Nat.le_of_ble_eq_true rfl) xs0 k (fun r29 h27 kk => ?_)
      obtain ⟨w28, k⟩ := kk
      refine aw_if_eq (tgt := 62) d_X12_wakeBeat_43 rfl (fun c30 => ?_) (fun c30 => ?_)
      · have k := k.1 c30
        refine aw_aload_n (i := 0) rfl d_X12_wakeBeat_62 0 rfl ?_
        refine aw_getr (k0 := 17) kc_12 (ws_1 w28) (Nat.le_of_ble_eq_true rfl) tw_1759 d_X12_wakeBeat_63 rfl (wr_1_17 w28) ?_
        refine aw_iload_n (i := 1) rfl d_X12_wakeBeat_66 1 rfl ?_
        refine aw_dup2 d_X12_wakeBeat_67 ⟨rfl, rfl⟩ ?_
        obtain ⟨b31, k⟩ := k
        refine aw_iald (ws_213 w28) b31 d_X12_wakeBeat_68 ?_
        refine aw_iconst (v := 1) d_X12_wakeBeat_69 ic_1 ?_
        refine aw_iadd d_X12_wakeBeat_70 ?_
        obtain ⟨b32, k⟩ := k
        refine aw_iast (ws_213 w28) b32 d_X12_wakeBeat_71 ?_
        refine aw_aload_n (i := 0) rfl d_X12_wakeBeat_72 0 rfl ?_
        refine aw_iload_n (i := 1) rfl d_X12_wakeBeat_73 1 rfl ?_
        refine aw_Vv 1 [.int x1] [] d_X12_wakeBeat_74 (cV_X12_goOn (d + 3) 0 0) kc_12 (ws_1 w28) tw_2336 rfl (rr0 (Nat.le_of_ble_eq_true rfl) (Nat.le_of_ble_eq_true rfl)) (Nat.le_of_ble_eq_true rfl) xs0 k (fun h33 kk => ?_)
        obtain ⟨w34, k⟩ := kk
        exact aw_vret rfl d_X12_wakeBeat_77 ⟨Nat.le_refl _, Nat.le_refl _⟩ ⟨rfl, k⟩
      · have k := k.2 c30
        exact aw_vret rfl d_X12_wakeBeat_46 ⟨Nat.le_refl _, Nat.le_refl _⟩ ⟨rfl, k⟩
theorem t_X12_wake (d : Nat) (h : Hp_) (w : Wf h) (x1 : Int32) (K : Hp_ → Prop) (k : vp_in x1 12 ∧ (((h_i h 211 x1.toNatClampNeg) = (h_i h 1 0) → vp_in x1 12 ∧ (((h_i h 210 x1.toNatClampNeg) = (-1) → AW (m_X12_wake (d + 9) 0 0) 0 0 29 [(0, .ref 1), (1, .int x1)] [.int 0] h (kV K)) ∧ (¬ (h_i h 210 x1.toNatClampNeg) = (-1) → AW (m_X12_wake (d + 9) 0 0) 0 0 29 [(0, .ref 1), (1, .int x1)] [.int 1] h (kV K)))) ∧ (¬ (h_i h 211 x1.toNatClampNeg) = (h_i h 1 0) → K h))) : Cv (m_X12_wake (d + 9) 0 0) [.ref 1, .int x1] h K := by
  refine Ct.of (fun _ _ _ => trivial) pn_X12 (Nat.le_of_ble_eq_true rfl) ?_
  show AW (m_X12_wake (d + 9) 0 0) 0 0 0 [(0, .ref 1), (1, .int x1)] [] h (kV K)
  refine aw_aload_n (i := 0) rfl d_X12_wake_0 0 rfl ?_
  refine aw_getr (k0 := 15) kc_12 (ws_1 w) (Nat.le_of_ble_eq_true rfl) tw_1757 d_X12_wake_1 rfl (wr_1_15 w) ?_
  refine aw_iload_n (i := 1) rfl d_X12_wake_4 1 rfl ?_
  obtain ⟨b1, k⟩ := k
  refine aw_iald (ws_211 w) b1 d_X12_wake_5 ?_
  refine aw_aload_n (i := 0) rfl d_X12_wake_6 0 rfl ?_
  refine aw_geti (k0 := 0) kc_12 (ws_1 w) (Nat.le_of_ble_eq_true rfl) tw_1742 d_X12_wake_7 rfl ?_
  refine aw_icmp_eq (tgt := 14) d_X12_wake_10 rfl (fun c2 => ?_) (fun c2 => ?_)
  · have k := k.1 c2
    refine aw_aload_n (i := 0) rfl d_X12_wake_14 0 rfl ?_
    refine aw_getr (k0 := 14) kc_12 (ws_1 w) (Nat.le_of_ble_eq_true rfl) tw_1756 d_X12_wake_15 rfl (wr_1_14 w) ?_
    refine aw_iload_n (i := 1) rfl d_X12_wake_18 1 rfl ?_
    obtain ⟨b3, k⟩ := k
    refine aw_iald (ws_210 w) b3 d_X12_wake_19 ?_
    refine aw_iconst (v := (-1)) d_X12_wake_20 ic_m1 ?_
    refine aw_icmp_eq (tgt := 28) d_X12_wake_21 rfl (fun c4 => ?_) (fun c4 => ?_)
    · have k := k.1 c4
      refine aw_iconst (v := 0) d_X12_wake_28 ic_0 ?_
      exact k
    · have k := k.2 c4
      refine aw_iconst (v := 1) d_X12_wake_24 ic_1 ?_
      refine aw_goto (tgt := 29) d_X12_wake_25 rfl ?_
      exact k
  · have k := k.2 c2
    exact aw_vret rfl d_X12_wake_13 ⟨Nat.le_refl _, Nat.le_refl _⟩ ⟨rfl, k⟩
theorem t_X12_wake_29 (d : Nat) (h : Hp_) (w : Wf h) (x1 : Int32) (s0 : Int32) (K : Hp_ → Prop) (k : (s0 = 0 → vp_in x1 12 ∧ (vp_in x1 12 ∧ ((¬ (h_i h 208 x1.toNatClampNeg) = 2 → vp_in x1 12 ∧ ((¬ (h_i h 208 x1.toNatClampNeg) = 3 → vp_in x1 12 ∧ ((¬ (h_i h 208 x1.toNatClampNeg) = 1 → K (h_im h 211 x1.toNatClampNeg (-1))) ∧ ((h_i h 208 x1.toNatClampNeg) = 1 → Cv (m_X12_wakeBeat (d + 8) 0 0) [.ref 1, .int x1, .int s0] (h_im h 211 x1.toNatClampNeg (-1)) (fun h13 => Wf h13 ∧ (K h13))))) ∧ ((h_i h 208 x1.toNatClampNeg) = 3 → (¬ s0 = 0 → vp_in x1 12 ∧ (vp_in x1 12 ∧ ((¬ (h_i h 209 x1.toNatClampNeg) = (h_i h 218 x1.toNatClampNeg) → vp_in x1 12 ∧ (Cv (m_X12_goDrawn (d + 4) 0 0) [.ref 1, .int x1] (h_im (h_im h 211 x1.toNatClampNeg (-1)) 248 x1.toNatClampNeg (vp_nar .boolean 1)) (fun h21 => Wf h21 ∧ (K h21)))) ∧ ((h_i h 209 x1.toNatClampNeg) = (h_i h 218 x1.toNatClampNeg) → vp_in x1 12 ∧ (((h_i h 248 x1.toNatClampNeg) = 0 → vp_in x1 12 ∧ (Cv (m_X12_goDrawn (d + 4) 0 0) [.ref 1, .int x1] (h_im (h_im h 211 x1.toNatClampNeg (-1)) 248 x1.toNatClampNeg (vp_nar .boolean 1)) (fun h27 => Wf h27 ∧ (K h27)))) ∧ (¬ (h_i h 248 x1.toNatClampNeg) = 0 → Cv (m_X12_stay (d + 3) 0 0) [.ref 1, .int x1] (h_im h 211 x1.toNatClampNeg (-1)) (fun h30 => Wf h30 ∧ (K h30)))))))) ∧ (s0 = 0 → Cv (m_X12_goHome (d + 2) 0 0) [.ref 1, .int x1] (h_im h 211 x1.toNatClampNeg (-1)) (fun h33 => Wf h33 ∧ (K h33)))))) ∧ ((h_i h 208 x1.toNatClampNeg) = 2 → Cv (m_X12_free (d + 0) 0 0) [.ref 1, .int x1] (h_im h 211 x1.toNatClampNeg (-1)) (fun h36 => Wf h36 ∧ (K h36)))))) ∧ (¬ s0 = 0 → vp_in x1 12 ∧ (vp_in x1 12 ∧ (vp_in x1 12 ∧ (vp_in x1 12 ∧ (vp_in x1 12 ∧ ((¬ (h_i h 208 x1.toNatClampNeg) = 2 → vp_in x1 12 ∧ ((¬ (h_i h 208 x1.toNatClampNeg) = 3 → vp_in x1 12 ∧ ((¬ (h_i h 208 x1.toNatClampNeg) = 1 → K (h_im (h_im (h_im h 209 x1.toNatClampNeg (h_i h 210 x1.toNatClampNeg)) 210 x1.toNatClampNeg (-1)) 211 x1.toNatClampNeg (-1))) ∧ ((h_i h 208 x1.toNatClampNeg) = 1 → Cv (m_X12_wakeBeat (d + 8) 0 0) [.ref 1, .int x1, .int s0] (h_im (h_im (h_im h 209 x1.toNatClampNeg (h_i h 210 x1.toNatClampNeg)) 210 x1.toNatClampNeg (-1)) 211 x1.toNatClampNeg (-1)) (fun h49 => Wf h49 ∧ (K h49))))) ∧ ((h_i h 208 x1.toNatClampNeg) = 3 → (¬ s0 = 0 → vp_in x1 12 ∧ (vp_in x1 12 ∧ ((¬ (h_i h 210 x1.toNatClampNeg) = (h_i h 218 x1.toNatClampNeg) → vp_in x1 12 ∧ (Cv (m_X12_goDrawn (d + 4) 0 0) [.ref 1, .int x1] (h_im (h_im (h_im (h_im h 209 x1.toNatClampNeg (h_i h 210 x1.toNatClampNeg)) 210 x1.toNatClampNeg (-1)) 211 x1.toNatClampNeg (-1)) 248 x1.toNatClampNeg (vp_nar .boolean 1)) (fun h57 => Wf h57 ∧ (K h57)))) ∧ ((h_i h 210 x1.toNatClampNeg) = (h_i h 218 x1.toNatClampNeg) → vp_in x1 12 ∧ (((h_i h 248 x1.toNatClampNeg) = 0 → vp_in x1 12 ∧ (Cv (m_X12_goDrawn (d + 4) 0 0) [.ref 1, .int x1] (h_im (h_im (h_im (h_im h 209 x1.toNatClampNeg (h_i h 210 x1.toNatClampNeg)) 210 x1.toNatClampNeg (-1)) 211 x1.toNatClampNeg (-1)) 248 x1.toNatClampNeg (vp_nar .boolean 1)) (fun h63 => Wf h63 ∧ (K h63)))) ∧ (¬ (h_i h 248 x1.toNatClampNeg) = 0 → Cv (m_X12_stay (d + 3) 0 0) [.ref 1, .int x1] (h_im (h_im (h_im h 209 x1.toNatClampNeg (h_i h 210 x1.toNatClampNeg)) 210 x1.toNatClampNeg (-1)) 211 x1.toNatClampNeg (-1)) (fun h66 => Wf h66 ∧ (K h66)))))))) ∧ (s0 = 0 → Cv (m_X12_goHome (d + 2) 0 0) [.ref 1, .int x1] (h_im (h_im (h_im h 209 x1.toNatClampNeg (h_i h 210 x1.toNatClampNeg)) 210 x1.toNatClampNeg (-1)) 211 x1.toNatClampNeg (-1)) (fun h69 => Wf h69 ∧ (K h69)))))) ∧ ((h_i h 208 x1.toNatClampNeg) = 2 → Cv (m_X12_free (d + 0) 0 0) [.ref 1, .int x1] (h_im (h_im (h_im h 209 x1.toNatClampNeg (h_i h 210 x1.toNatClampNeg)) 210 x1.toNatClampNeg (-1)) 211 x1.toNatClampNeg (-1)) (fun h72 => Wf h72 ∧ (K h72)))))))))) : AW (m_X12_wake (d + 9) 0 0) 0 0 29 [(0, .ref 1), (1, .int x1)] [.int s0] h (kV K) := by
  refine aw_istore_n (i := 2) rfl [(0, .ref 1), (1, .int x1), (2, .int s0)] d_X12_wake_29 (Nat.le_of_ble_eq_true rfl) rfl rfl ?_
  refine aw_iload_n (i := 2) rfl d_X12_wake_30 2 rfl ?_
  refine aw_if_eq (tgt := 53) d_X12_wake_31 rfl (fun c5 => ?_) (fun c5 => ?_)
  · have k := k.1 c5
    refine aw_aload_n (i := 0) rfl d_X12_wake_53 0 rfl ?_
    refine aw_getr (k0 := 15) kc_12 (ws_1 w) (Nat.le_of_ble_eq_true rfl) tw_1757 d_X12_wake_54 rfl (wr_1_15 w) ?_
    refine aw_iload_n (i := 1) rfl d_X12_wake_57 1 rfl ?_
    refine aw_iconst (v := (-1)) d_X12_wake_58 ic_m1 ?_
    obtain ⟨b6, k⟩ := k
    refine aw_iast (ws_211 w) b6 d_X12_wake_59 ?_
    refine aw_aload_n (i := 0) rfl d_X12_wake_60 0 rfl ?_
    refine aw_getr (k0 := 12) kc_12 (ws_1 w) (Nat.le_of_ble_eq_true rfl) tw_1754 d_X12_wake_61 rfl (wr_1_12 w) ?_
    refine aw_iload_n (i := 1) rfl d_X12_wake_64 1 rfl ?_
    obtain ⟨b7, k⟩ := k
    refine aw_iald (ws_208 w) b7 d_X12_wake_65 ?_
    refine aw_vi (v2 := (h_i h 208 x1.toNatClampNeg)) (rfl) ?_
    refine aw_iconst (v := 2) d_X12_wake_66 ic_2 ?_
    refine aw_icmp_ne (tgt := 78) d_X12_wake_67 rfl (fun c8 => ?_) (fun c8 => ?_)
    · have k := k.1 c8
      refine aw_aload_n (i := 0) rfl d_X12_wake_78 0 rfl ?_
      refine aw_getr (k0 := 12) kc_12 (ws_1 w) (Nat.le_of_ble_eq_true rfl) tw_1754 d_X12_wake_79 rfl (wr_1_12 w) ?_
      refine aw_iload_n (i := 1) rfl d_X12_wake_82 1 rfl ?_
      obtain ⟨b9, k⟩ := k
      refine aw_iald (ws_208 w) b9 d_X12_wake_83 ?_
      refine aw_vi (v2 := (h_i h 208 x1.toNatClampNeg)) (rfl) ?_
      refine aw_iconst (v := 3) d_X12_wake_84 ic_3 ?_
      refine aw_icmp_ne (tgt := 147) d_X12_wake_85 rfl (fun c10 => ?_) (fun c10 => ?_)
      · have k := k.1 c10
        refine aw_aload_n (i := 0) rfl d_X12_wake_147 0 rfl ?_
        refine aw_getr (k0 := 12) kc_12 (ws_1 w) (Nat.le_of_ble_eq_true rfl) tw_1754 d_X12_wake_148 rfl (wr_1_12 w) ?_
        refine aw_iload_n (i := 1) rfl d_X12_wake_151 1 rfl ?_
        obtain ⟨b11, k⟩ := k
        refine aw_iald (ws_208 w) b11 d_X12_wake_152 ?_
        refine aw_vi (v2 := (h_i h 208 x1.toNatClampNeg)) (rfl) ?_
        refine aw_iconst (v := 1) d_X12_wake_153 ic_1 ?_
        refine aw_icmp_ne (tgt := 163) d_X12_wake_154 rfl (fun c12 => ?_) (fun c12 => ?_)
        · have k := k.1 c12
          exact aw_vret rfl d_X12_wake_163 ⟨Nat.le_refl _, Nat.le_refl _⟩ ⟨rfl, k⟩
        · have k := k.2 c12
          refine aw_aload_n (i := 0) rfl d_X12_wake_157 0 rfl ?_
          refine aw_iload_n (i := 1) rfl d_X12_wake_158 1 rfl ?_
          refine aw_iload_n (i := 2) rfl d_X12_wake_159 2 rfl ?_
          refine aw_Vv 1 [.int x1, .int s0] [] d_X12_wake_160 (cV_X12_wakeBeat (d + 8) 0 0) kc_12 (ws_1 w) tw_2388 rfl (rr0 (Nat.le_of_ble_eq_true rfl) (Nat.le_of_ble_eq_true rfl)) (Nat.le_of_ble_eq_true rfl) xs0 k (fun h13 kk => ?_)
          obtain ⟨w14, k⟩ := kk
          exact aw_vret rfl d_X12_wake_163 ⟨Nat.le_refl _, Nat.le_refl _⟩ ⟨rfl, k⟩
      · have k := k.2 c10
        refine aw_iload_n (i := 2) rfl d_X12_wake_88 2 rfl ?_
        refine aw_if_ne (tgt := 100) d_X12_wake_89 rfl (fun c16 => ?_) (fun c16 => ?_)
        · have k := k.1 c16
          refine aw_aload_n (i := 0) rfl d_X12_wake_100 0 rfl ?_
          refine aw_getr (k0 := 13) kc_12 (ws_1 w) (Nat.le_of_ble_eq_true rfl) tw_1755 d_X12_wake_101 rfl (wr_1_13 w) ?_
          refine aw_iload_n (i := 1) rfl d_X12_wake_104 1 rfl ?_
          obtain ⟨b17, k⟩ := k
          refine aw_iald (ws_209 w) b17 d_X12_wake_105 ?_
          refine aw_vi (v2 := (h_i h 209 x1.toNatClampNeg)) (rfl) ?_
          refine aw_aload_n (i := 0) rfl d_X12_wake_106 0 rfl ?_
          refine aw_getr (k0 := 22) kc_12 (ws_1 w) (Nat.le_of_ble_eq_true rfl) tw_1764 d_X12_wake_107 rfl (wr_1_22 w) ?_
          refine aw_iload_n (i := 1) rfl d_X12_wake_110 1 rfl ?_
          obtain ⟨b18, k⟩ := k
          refine aw_iald (ws_218 w) b18 d_X12_wake_111 ?_
          refine aw_vi (v2 := (h_i h 218 x1.toNatClampNeg)) (rfl) ?_
          refine aw_icmp_ne (tgt := 132) d_X12_wake_112 rfl (fun c19 => ?_) (fun c19 => ?_)
          · have k := k.1 c19
            refine aw_aload_n (i := 0) rfl d_X12_wake_132 0 rfl ?_
            refine aw_getr (k0 := 65) kc_12 (ws_1 w) (Nat.le_of_ble_eq_true rfl) tw_1807 d_X12_wake_133 rfl (wr_1_65 w) ?_
            refine aw_iload_n (i := 1) rfl d_X12_wake_136 1 rfl ?_
            refine aw_iconst (v := 1) d_X12_wake_137 ic_1 ?_
            obtain ⟨b20, k⟩ := k
            refine aw_zast (ws_248 w) b20 d_X12_wake_138 ?_
            refine aw_aload_n (i := 0) rfl d_X12_wake_139 0 rfl ?_
            refine aw_iload_n (i := 1) rfl d_X12_wake_140 1 rfl ?_
            refine aw_Vv 1 [.int x1] [] d_X12_wake_141 (cV_X12_goDrawn (d + 4) 0 0) kc_12 (ws_1 w) tw_2368 rfl (rr0 (Nat.le_of_ble_eq_true rfl) (Nat.le_of_ble_eq_true rfl)) (Nat.le_of_ble_eq_true rfl) xs0 k (fun h21 kk => ?_)
            obtain ⟨w22, k⟩ := kk
            refine aw_goto (tgt := 163) d_X12_wake_144 rfl ?_
            exact aw_vret rfl d_X12_wake_163 ⟨Nat.le_refl _, Nat.le_refl _⟩ ⟨rfl, k⟩
          · have k := k.2 c19
            refine aw_aload_n (i := 0) rfl d_X12_wake_115 0 rfl ?_
            refine aw_getr (k0 := 65) kc_12 (ws_1 w) (Nat.le_of_ble_eq_true rfl) tw_1807 d_X12_wake_116 rfl (wr_1_65 w) ?_
            refine aw_iload_n (i := 1) rfl d_X12_wake_119 1 rfl ?_
            obtain ⟨b24, k⟩ := k
            refine aw_zald (ws_248 w) b24 d_X12_wake_120 ?_
            refine aw_vi (v2 := (h_i h 248 x1.toNatClampNeg)) (rfl) ?_
            refine aw_if_eq (tgt := 132) d_X12_wake_121 rfl (fun c25 => ?_) (fun c25 => ?_)
            · have k := k.1 c25
              refine aw_aload_n (i := 0) rfl d_X12_wake_132 0 rfl ?_
              refine aw_getr (k0 := 65) kc_12 (ws_1 w) (Nat.le_of_ble_eq_true rfl) tw_1807 d_X12_wake_133 rfl (wr_1_65 w) ?_
              refine aw_iload_n (i := 1) rfl d_X12_wake_136 1 rfl ?_
              refine aw_iconst (v := 1) d_X12_wake_137 ic_1 ?_
              obtain ⟨b26, k⟩ := k
              refine aw_zast (ws_248 w) b26 d_X12_wake_138 ?_
              refine aw_aload_n (i := 0) rfl d_X12_wake_139 0 rfl ?_
              refine aw_iload_n (i := 1) rfl d_X12_wake_140 1 rfl ?_
              refine aw_Vv 1 [.int x1] [] d_X12_wake_141 (cV_X12_goDrawn (d + 4) 0 0) kc_12 (ws_1 w) tw_2368 rfl (rr0 (Nat.le_of_ble_eq_true rfl) (Nat.le_of_ble_eq_true rfl)) (Nat.le_of_ble_eq_true rfl) xs0 k (fun h27 kk => ?_)
              obtain ⟨w28, k⟩ := kk
              refine aw_goto (tgt := 163) d_X12_wake_144 rfl ?_
              exact aw_vret rfl d_X12_wake_163 ⟨Nat.le_refl _, Nat.le_refl _⟩ ⟨rfl, k⟩
            · have k := k.2 c25
              refine aw_aload_n (i := 0) rfl d_X12_wake_124 0 rfl ?_
              refine aw_iload_n (i := 1) rfl d_X12_wake_125 1 rfl ?_
              refine aw_Vv 1 [.int x1] [] d_X12_wake_126 (cV_X12_stay (d + 3) 0 0) kc_12 (ws_1 w) tw_2372 rfl (rr0 (Nat.le_of_ble_eq_true rfl) (Nat.le_of_ble_eq_true rfl)) (Nat.le_of_ble_eq_true rfl) xs0 k (fun h30 kk => ?_)
              obtain ⟨w31, k⟩ := kk
              refine aw_goto (tgt := 163) d_X12_wake_129 rfl ?_
              exact aw_vret rfl d_X12_wake_163 ⟨Nat.le_refl _, Nat.le_refl _⟩ ⟨rfl, k⟩
        · have k := k.2 c16
          refine aw_aload_n (i := 0) rfl d_X12_wake_92 0 rfl ?_
          refine aw_iload_n (i := 1) rfl d_X12_wake_93 1 rfl ?_
          refine aw_Vv 1 [.int x1] [] d_X12_wake_94 (cV_X12_goHome (d + 2) 0 0) kc_12 (ws_1 w) tw_2340 rfl (rr0 (Nat.le_of_ble_eq_true rfl) (Nat.le_of_ble_eq_true rfl)) (Nat.le_of_ble_eq_true rfl) xs0 k (fun h33 kk => ?_)
          obtain ⟨w34, k⟩ := kk
          refine aw_goto (tgt := 163) d_X12_wake_97 rfl ?_
          exact aw_vret rfl d_X12_wake_163 ⟨Nat.le_refl _, Nat.le_refl _⟩ ⟨rfl, k⟩
    · have k := k.2 c8
      refine aw_aload_n (i := 0) rfl d_X12_wake_70 0 rfl ?_
      refine aw_iload_n (i := 1) rfl d_X12_wake_71 1 rfl ?_
      refine aw_Vv 1 [.int x1] [] d_X12_wake_72 (cV_X12_free (d + 0) 0 0) kc_12 (ws_1 w) tw_2344 rfl (rr0 (Nat.le_of_ble_eq_true rfl) (Nat.le_of_ble_eq_true rfl)) (Nat.le_of_ble_eq_true rfl) xs0 k (fun h36 kk => ?_)
      obtain ⟨w37, k⟩ := kk
      refine aw_goto (tgt := 163) d_X12_wake_75 rfl ?_
      exact aw_vret rfl d_X12_wake_163 ⟨Nat.le_refl _, Nat.le_refl _⟩ ⟨rfl, k⟩
  · have k := k.2 c5
    refine aw_aload_n (i := 0) rfl d_X12_wake_34 0 rfl ?_
    refine aw_getr (k0 := 13) kc_12 (ws_1 w) (Nat.le_of_ble_eq_true rfl) tw_1755 d_X12_wake_35 rfl (wr_1_13 w) ?_
    refine aw_iload_n (i := 1) rfl d_X12_wake_38 1 rfl ?_
    refine aw_aload_n (i := 0) rfl d_X12_wake_39 0 rfl ?_
    refine aw_getr (k0 := 14) kc_12 (ws_1 w) (Nat.le_of_ble_eq_true rfl) tw_1756 d_X12_wake_40 rfl (wr_1_14 w) ?_
    refine aw_iload_n (i := 1) rfl d_X12_wake_43 1 rfl ?_
    obtain ⟨b39, k⟩ := k
    refine aw_iald (ws_210 w) b39 d_X12_wake_44 ?_
    obtain ⟨b40, k⟩ := k
    refine aw_iast (ws_209 w) b40 d_X12_wake_45 ?_
    refine aw_aload_n (i := 0) rfl d_X12_wake_46 0 rfl ?_
    refine aw_getr (k0 := 14) kc_12 (ws_1 w) (Nat.le_of_ble_eq_true rfl) tw_1756 d_X12_wake_47 rfl (wr_1_14 w) ?_
    refine aw_iload_n (i := 1) rfl d_X12_wake_50 1 rfl ?_
    refine aw_iconst (v := (-1)) d_X12_wake_51 ic_m1 ?_
    obtain ⟨b41, k⟩ := k
    refine aw_iast (ws_210 w) b41 d_X12_wake_52 ?_
    refine aw_aload_n (i := 0) rfl d_X12_wake_53 0 rfl ?_
    refine aw_getr (k0 := 15) kc_12 (ws_1 w) (Nat.le_of_ble_eq_true rfl) tw_1757 d_X12_wake_54 rfl (wr_1_15 w) ?_
    refine aw_iload_n (i := 1) rfl d_X12_wake_57 1 rfl ?_
    refine aw_iconst (v := (-1)) d_X12_wake_58 ic_m1 ?_
    obtain ⟨b42, k⟩ := k
    refine aw_iast (ws_211 w) b42 d_X12_wake_59 ?_
    refine aw_aload_n (i := 0) rfl d_X12_wake_60 0 rfl ?_
    refine aw_getr (k0 := 12) kc_12 (ws_1 w) (Nat.le_of_ble_eq_true rfl) tw_1754 d_X12_wake_61 rfl (wr_1_12 w) ?_
    refine aw_iload_n (i := 1) rfl d_X12_wake_64 1 rfl ?_
    obtain ⟨b43, k⟩ := k
    refine aw_iald (ws_208 w) b43 d_X12_wake_65 ?_
    refine aw_vi (v2 := (h_i h 208 x1.toNatClampNeg)) (rfl) ?_
    refine aw_iconst (v := 2) d_X12_wake_66 ic_2 ?_
    refine aw_icmp_ne (tgt := 78) d_X12_wake_67 rfl (fun c44 => ?_) (fun c44 => ?_)
    · have k := k.1 c44
      refine aw_aload_n (i := 0) rfl d_X12_wake_78 0 rfl ?_
      refine aw_getr (k0 := 12) kc_12 (ws_1 w) (Nat.le_of_ble_eq_true rfl) tw_1754 d_X12_wake_79 rfl (wr_1_12 w) ?_
      refine aw_iload_n (i := 1) rfl d_X12_wake_82 1 rfl ?_
      obtain ⟨b45, k⟩ := k
      refine aw_iald (ws_208 w) b45 d_X12_wake_83 ?_
      refine aw_vi (v2 := (h_i h 208 x1.toNatClampNeg)) (rfl) ?_
      refine aw_iconst (v := 3) d_X12_wake_84 ic_3 ?_
      refine aw_icmp_ne (tgt := 147) d_X12_wake_85 rfl (fun c46 => ?_) (fun c46 => ?_)
      · have k := k.1 c46
        refine aw_aload_n (i := 0) rfl d_X12_wake_147 0 rfl ?_
        refine aw_getr (k0 := 12) kc_12 (ws_1 w) (Nat.le_of_ble_eq_true rfl) tw_1754 d_X12_wake_148 rfl (wr_1_12 w) ?_
        refine aw_iload_n (i := 1) rfl d_X12_wake_151 1 rfl ?_
        obtain ⟨b47, k⟩ := k
        refine aw_iald (ws_208 w) b47 d_X12_wake_152 ?_
        refine aw_vi (v2 := (h_i h 208 x1.toNatClampNeg)) (rfl) ?_
        refine aw_iconst (v := 1) d_X12_wake_153 ic_1 ?_
        refine aw_icmp_ne (tgt := 163) d_X12_wake_154 rfl (fun c48 => ?_) (fun c48 => ?_)
        · have k := k.1 c48
          exact aw_vret rfl d_X12_wake_163 ⟨Nat.le_refl _, Nat.le_refl _⟩ ⟨rfl, k⟩
        · have k := k.2 c48
          refine aw_aload_n (i := 0) rfl d_X12_wake_157 0 rfl ?_
          refine aw_iload_n (i := 1) rfl d_X12_wake_158 1 rfl ?_
          refine aw_iload_n (i := 2) rfl d_X12_wake_159 2 rfl ?_
          refine aw_Vv 1 [.int x1, .int s0] [] d_X12_wake_160 (cV_X12_wakeBeat (d + 8) 0 0) kc_12 (ws_1 w) tw_2388 rfl (rr0 (Nat.le_of_ble_eq_true rfl) (Nat.le_of_ble_eq_true rfl)) (Nat.le_of_ble_eq_true rfl) xs0 k (fun h49 kk => ?_)
          obtain ⟨w50, k⟩ := kk
          exact aw_vret rfl d_X12_wake_163 ⟨Nat.le_refl _, Nat.le_refl _⟩ ⟨rfl, k⟩
      · have k := k.2 c46
        refine aw_iload_n (i := 2) rfl d_X12_wake_88 2 rfl ?_
        refine aw_if_ne (tgt := 100) d_X12_wake_89 rfl (fun c52 => ?_) (fun c52 => ?_)
        · have k := k.1 c52
          refine aw_aload_n (i := 0) rfl d_X12_wake_100 0 rfl ?_
          refine aw_getr (k0 := 13) kc_12 (ws_1 w) (Nat.le_of_ble_eq_true rfl) tw_1755 d_X12_wake_101 rfl (wr_1_13 w) ?_
          refine aw_iload_n (i := 1) rfl d_X12_wake_104 1 rfl ?_
          obtain ⟨b53, k⟩ := k
          refine aw_iald (ws_209 w) b53 d_X12_wake_105 ?_
          refine aw_vi (v2 := (h_i h 210 x1.toNatClampNeg)) (hi_s h 209 x1.toNatClampNeg (h_i h 210 x1.toNatClampNeg)) ?_
          refine aw_aload_n (i := 0) rfl d_X12_wake_106 0 rfl ?_
          refine aw_getr (k0 := 22) kc_12 (ws_1 w) (Nat.le_of_ble_eq_true rfl) tw_1764 d_X12_wake_107 rfl (wr_1_22 w) ?_
          refine aw_iload_n (i := 1) rfl d_X12_wake_110 1 rfl ?_
          obtain ⟨b54, k⟩ := k
          refine aw_iald (ws_218 w) b54 d_X12_wake_111 ?_
          refine aw_vi (v2 := (h_i h 218 x1.toNatClampNeg)) (rfl) ?_
          refine aw_icmp_ne (tgt := 132) d_X12_wake_112 rfl (fun c55 => ?_) (fun c55 => ?_)
          · have k := k.1 c55
            refine aw_aload_n (i := 0) rfl d_X12_wake_132 0 rfl ?_
            refine aw_getr (k0 := 65) kc_12 (ws_1 w) (Nat.le_of_ble_eq_true rfl) tw_1807 d_X12_wake_133 rfl (wr_1_65 w) ?_
            refine aw_iload_n (i := 1) rfl d_X12_wake_136 1 rfl ?_
            refine aw_iconst (v := 1) d_X12_wake_137 ic_1 ?_
            obtain ⟨b56, k⟩ := k
            refine aw_zast (ws_248 w) b56 d_X12_wake_138 ?_
            refine aw_aload_n (i := 0) rfl d_X12_wake_139 0 rfl ?_
            refine aw_iload_n (i := 1) rfl d_X12_wake_140 1 rfl ?_
            refine aw_Vv 1 [.int x1] [] d_X12_wake_141 (cV_X12_goDrawn (d + 4) 0 0) kc_12 (ws_1 w) tw_2368 rfl (rr0 (Nat.le_of_ble_eq_true rfl) (Nat.le_of_ble_eq_true rfl)) (Nat.le_of_ble_eq_true rfl) xs0 k (fun h57 kk => ?_)
            obtain ⟨w58, k⟩ := kk
            refine aw_goto (tgt := 163) d_X12_wake_144 rfl ?_
            exact aw_vret rfl d_X12_wake_163 ⟨Nat.le_refl _, Nat.le_refl _⟩ ⟨rfl, k⟩
          · have k := k.2 c55
            refine aw_aload_n (i := 0) rfl d_X12_wake_115 0 rfl ?_
            refine aw_getr (k0 := 65) kc_12 (ws_1 w) (Nat.le_of_ble_eq_true rfl) tw_1807 d_X12_wake_116 rfl (wr_1_65 w) ?_
            refine aw_iload_n (i := 1) rfl d_X12_wake_119 1 rfl ?_
            obtain ⟨b60, k⟩ := k
            refine aw_zald (ws_248 w) b60 d_X12_wake_120 ?_
            refine aw_vi (v2 := (h_i h 248 x1.toNatClampNeg)) (rfl) ?_
            refine aw_if_eq (tgt := 132) d_X12_wake_121 rfl (fun c61 => ?_) (fun c61 => ?_)
            · have k := k.1 c61
              refine aw_aload_n (i := 0) rfl d_X12_wake_132 0 rfl ?_
              refine aw_getr (k0 := 65) kc_12 (ws_1 w) (Nat.le_of_ble_eq_true rfl) tw_1807 d_X12_wake_133 rfl (wr_1_65 w) ?_
              refine aw_iload_n (i := 1) rfl d_X12_wake_136 1 rfl ?_
              refine aw_iconst (v := 1) d_X12_wake_137 ic_1 ?_
              obtain ⟨b62, k⟩ := k
              refine aw_zast (ws_248 w) b62 d_X12_wake_138 ?_
              refine aw_aload_n (i := 0) rfl d_X12_wake_139 0 rfl ?_
              refine aw_iload_n (i := 1) rfl d_X12_wake_140 1 rfl ?_
              refine aw_Vv 1 [.int x1] [] d_X12_wake_141 (cV_X12_goDrawn (d + 4) 0 0) kc_12 (ws_1 w) tw_2368 rfl (rr0 (Nat.le_of_ble_eq_true rfl) (Nat.le_of_ble_eq_true rfl)) (Nat.le_of_ble_eq_true rfl) xs0 k (fun h63 kk => ?_)
              obtain ⟨w64, k⟩ := kk
              refine aw_goto (tgt := 163) d_X12_wake_144 rfl ?_
              exact aw_vret rfl d_X12_wake_163 ⟨Nat.le_refl _, Nat.le_refl _⟩ ⟨rfl, k⟩
            · have k := k.2 c61
              refine aw_aload_n (i := 0) rfl d_X12_wake_124 0 rfl ?_
              refine aw_iload_n (i := 1) rfl d_X12_wake_125 1 rfl ?_
              refine aw_Vv 1 [.int x1] [] d_X12_wake_126 (cV_X12_stay (d + 3) 0 0) kc_12 (ws_1 w) tw_2372 rfl (rr0 (Nat.le_of_ble_eq_true rfl) (Nat.le_of_ble_eq_true rfl)) (Nat.le_of_ble_eq_true rfl) xs0 k (fun h66 kk => ?_)
              obtain ⟨w67, k⟩ := kk
              refine aw_goto (tgt := 163) d_X12_wake_129 rfl ?_
              exact aw_vret rfl d_X12_wake_163 ⟨Nat.le_refl _, Nat.le_refl _⟩ ⟨rfl, k⟩
        · have k := k.2 c52
          refine aw_aload_n (i := 0) rfl d_X12_wake_92 0 rfl ?_
          refine aw_iload_n (i := 1) rfl d_X12_wake_93 1 rfl ?_
          refine aw_Vv 1 [.int x1] [] d_X12_wake_94 (cV_X12_goHome (d + 2) 0 0) kc_12 (ws_1 w) tw_2340 rfl (rr0 (Nat.le_of_ble_eq_true rfl) (Nat.le_of_ble_eq_true rfl)) (Nat.le_of_ble_eq_true rfl) xs0 k (fun h69 kk => ?_)
          obtain ⟨w70, k⟩ := kk
          refine aw_goto (tgt := 163) d_X12_wake_97 rfl ?_
          exact aw_vret rfl d_X12_wake_163 ⟨Nat.le_refl _, Nat.le_refl _⟩ ⟨rfl, k⟩
    · have k := k.2 c44
      refine aw_aload_n (i := 0) rfl d_X12_wake_70 0 rfl ?_
      refine aw_iload_n (i := 1) rfl d_X12_wake_71 1 rfl ?_
      refine aw_Vv 1 [.int x1] [] d_X12_wake_72 (cV_X12_free (d + 0) 0 0) kc_12 (ws_1 w) tw_2344 rfl (rr0 (Nat.le_of_ble_eq_true rfl) (Nat.le_of_ble_eq_true rfl)) (Nat.le_of_ble_eq_true rfl) xs0 k (fun h72 kk => ?_)
      obtain ⟨w73, k⟩ := kk
      refine aw_goto (tgt := 163) d_X12_wake_75 rfl ?_
      exact aw_vret rfl d_X12_wake_163 ⟨Nat.le_refl _, Nat.le_refl _⟩ ⟨rfl, k⟩
theorem t_X12_tick (d : Nat) (h : Hp_) (w : Wf h) (x1 : Int32) (K : Int32 → Hp_ → Prop) (k : (¬ (0 ≤ x1 ∧ x1 ≤ 1500) → K (-1) h) ∧ ((0 ≤ x1 ∧ x1 ≤ 1500) → (((h_i h 1 0) + x1) ≤ 20000 → AW (m_X12_tick (d + 10) 0 0) 0 0 27 [(0, .ref 1), (1, .int x1), (2, .int 0)] [] h (kI K)) ∧ (¬ ((h_i h 1 0) + x1) ≤ 20000 → K (-1) h))) : Ci (m_X12_tick (d + 10) 0 0) [.ref 1, .int x1] h K := by
  refine Ct.of (fun _ _ _ => trivial) pn_X12 (Nat.le_of_ble_eq_true rfl) ?_
  show AW (m_X12_tick (d + 10) 0 0) 0 0 0 [(0, .ref 1), (1, .int x1)] [] h (kI K)
  refine aw_iload_n (i := 1) rfl d_X12_tick_0 1 rfl ?_
  refine aw_iconst (v := 0) d_X12_tick_1 ic_0 ?_
  refine aw_sipush (v := 1500) d_X12_tick_2 is_1500 ?_
  refine aw_Si [.int x1, .int 0, .int 1500] [] d_X12_tick_5 (cS_X12_in (d + 0) 0 0) tw_2143 rfl (rr0 (Nat.le_of_ble_eq_true rfl) (Nat.le_of_ble_eq_true rfl)) (Nat.le_of_ble_eq_true rfl) xs0 (s_X12_in _ _ x1 0 1500) (fun _ _ kk => ?_)
  obtain ⟨e1, e2⟩ := kk
  rw [e1, e2]
  refine aw_ifb_eq (tgt := 23) d_X12_tick_8 rfl (fun c3 => ?_) (fun c3 => ?_)
  · have k := k.1 c3
    refine aw_iconst (v := (-1)) d_X12_tick_23 ic_m1 ?_
    exact aw_iret rfl d_X12_tick_24 ⟨Nat.le_refl _, Nat.le_refl _⟩ ⟨_, rfl, k⟩
  · have k := k.2 c3
    refine aw_aload_n (i := 0) rfl d_X12_tick_11 0 rfl ?_
    refine aw_geti (k0 := 0) kc_12 (ws_1 w) (Nat.le_of_ble_eq_true rfl) tw_1742 d_X12_tick_12 rfl ?_
    refine aw_iload_n (i := 1) rfl d_X12_tick_15 1 rfl ?_
    refine aw_iadd d_X12_tick_16 ?_
    refine aw_sipush (v := 20000) d_X12_tick_17 is_20000 ?_
    refine aw_icmp_le (tgt := 25) d_X12_tick_20 rfl (fun c4 => ?_) (fun c4 => ?_)
    · have k := k.1 c4
      refine aw_iconst (v := 0) d_X12_tick_25 ic_0 ?_
      refine aw_istore_n (i := 2) rfl [(0, .ref 1), (1, .int x1), (2, .int 0)] d_X12_tick_26 (Nat.le_of_ble_eq_true rfl) rfl rfl ?_
      exact k
    · have k := k.2 c4
      refine aw_iconst (v := (-1)) d_X12_tick_23 ic_m1 ?_
      exact aw_iret rfl d_X12_tick_24 ⟨Nat.le_refl _, Nat.le_refl _⟩ ⟨_, rfl, k⟩
theorem t_X12_tick_27 (d : Nat) (h : Hp_) (w : Wf h) (x1 : Int32) (x2 : Int32) (K : Int32 → Hp_ → Prop) (k : (x1 ≤ x2 → K (h_i h 1 0) h) ∧ (¬ x1 ≤ x2 → AW (m_X12_tick (d + 10) 0 0) 0 0 34 [(0, .ref 1), (1, .int x1), (2, .int x2), (3, .int 0)] [] h (kI K))) : AW (m_X12_tick (d + 10) 0 0) 0 0 27 [(0, .ref 1), (1, .int x1), (2, .int x2)] [] h (kI K) := by
  refine aw_iload_n (i := 2) rfl d_X12_tick_27 2 rfl ?_
  refine aw_iload_n (i := 1) rfl d_X12_tick_28 1 rfl ?_
  refine aw_icmp_ge (tgt := 107) d_X12_tick_29 rfl (fun c5 => ?_) (fun c5 => ?_)
  · have k := k.1 c5
    refine aw_aload_n (i := 0) rfl d_X12_tick_107 0 rfl ?_
    refine aw_geti (k0 := 0) kc_12 (ws_1 w) (Nat.le_of_ble_eq_true rfl) tw_1742 d_X12_tick_108 rfl ?_
    exact aw_iret rfl d_X12_tick_111 ⟨Nat.le_refl _, Nat.le_refl _⟩ ⟨_, rfl, k⟩
  · have k := k.2 c5
    refine aw_iconst (v := 0) d_X12_tick_32 ic_0 ?_
    refine aw_istore_n (i := 3) rfl [(0, .ref 1), (1, .int x1), (2, .int x2), (3, .int 0)] d_X12_tick_33 (Nat.le_of_ble_eq_true rfl) rfl rfl ?_
    exact k
theorem t_X12_tick_34 (d : Nat) (h : Hp_) (w : Wf h) (x1 : Int32) (x2 : Int32) (x3 : Int32) (K : Int32 → Hp_ → Prop) (k : ((h_i h 1 7) ≤ x3 → AW (m_X12_tick (d + 10) 0 0) 0 0 82 [(0, .ref 1), (1, .int x1), (2, .int x2), (3, .int 0)] [] (h_im h 1 0 ((h_i h 1 0) + 1)) (kI K)) ∧ (¬ (h_i h 1 7) ≤ x3 → vp_in x3 12 ∧ (vp_in ((20001 * x3) + (h_i h 1 0)) 240012 ∧ (AW (m_X12_tick (d + 10) 0 0) 0 0 34 [(0, .ref 1), (1, .int x1), (2, .int x2), (3, .int (x3 + 1))] [] (h_im h 220 (((20001 * x3) + (h_i h 1 0)) : Int32).toNatClampNeg (vp_nar .byte (((h_i h 209 x3.toNatClampNeg) : Int32).toInt8.toInt32))) (kI K))))) : AW (m_X12_tick (d + 10) 0 0) 0 0 34 [(0, .ref 1), (1, .int x1), (2, .int x2), (3, .int x3)] [] h (kI K) := by
  refine aw_iload_n (i := 3) rfl d_X12_tick_34 3 rfl ?_
  refine aw_aload_n (i := 0) rfl d_X12_tick_35 0 rfl ?_
  refine aw_geti (k0 := 7) kc_12 (ws_1 w) (Nat.le_of_ble_eq_true rfl) tw_1749 d_X12_tick_36 rfl ?_
  refine aw_icmp_ge (tgt := 70) d_X12_tick_39 rfl (fun c6 => ?_) (fun c6 => ?_)
  · have k := k.1 c6
    refine aw_aload_n (i := 0) rfl d_X12_tick_70 0 rfl ?_
    refine aw_dup d_X12_tick_71 rfl ?_
    refine aw_geti (k0 := 0) kc_12 (ws_1 w) (Nat.le_of_ble_eq_true rfl) tw_1742 d_X12_tick_72 rfl ?_
    refine aw_iconst (v := 1) d_X12_tick_75 ic_1 ?_
    refine aw_iadd d_X12_tick_76 ?_
    refine aw_puti (k0 := 0) kc_12 (ws_1 w) (Nat.le_of_ble_eq_true rfl) tw_1742 d_X12_tick_77 rfl rfl nf_i ?_
    refine aw_iconst (v := 0) d_X12_tick_80 ic_0 ?_
    refine aw_istore_n (i := 3) rfl [(0, .ref 1), (1, .int x1), (2, .int x2), (3, .int 0)] d_X12_tick_81 (Nat.le_of_ble_eq_true rfl) rfl rfl ?_
    exact k
  · have k := k.2 c6
    refine aw_aload_n (i := 0) rfl d_X12_tick_42 0 rfl ?_
    refine aw_getr (k0 := 24) kc_12 (ws_1 w) (Nat.le_of_ble_eq_true rfl) tw_1766 d_X12_tick_43 rfl (wr_1_24 w) ?_
    refine aw_sipush (v := 20001) d_X12_tick_46 is_20001 ?_
    refine aw_iload_n (i := 3) rfl d_X12_tick_49 3 rfl ?_
    refine aw_imul d_X12_tick_50 ?_
    refine aw_aload_n (i := 0) rfl d_X12_tick_51 0 rfl ?_
    refine aw_geti (k0 := 0) kc_12 (ws_1 w) (Nat.le_of_ble_eq_true rfl) tw_1742 d_X12_tick_52 rfl ?_
    refine aw_iadd d_X12_tick_55 ?_
    refine aw_aload_n (i := 0) rfl d_X12_tick_56 0 rfl ?_
    refine aw_getr (k0 := 13) kc_12 (ws_1 w) (Nat.le_of_ble_eq_true rfl) tw_1755 d_X12_tick_57 rfl (wr_1_13 w) ?_
    refine aw_iload_n (i := 3) rfl d_X12_tick_60 3 rfl ?_
    obtain ⟨b7, k⟩ := k
    refine aw_iald (ws_209 w) b7 d_X12_tick_61 ?_
    refine aw_i2b d_X12_tick_62 ?_
    obtain ⟨b8, k⟩ := k
    refine aw_bast (ws_220 w) b8 d_X12_tick_63 ?_
    refine aw_iinc (v := (x3 + 1)) [(0, .ref 1), (1, .int x1), (2, .int x2), (3, .int (x3 + 1))] d_X12_tick_64 3 rfl rfl (Nat.le_of_ble_eq_true rfl) rfl rfl ?_
    refine aw_goto (tgt := 34) d_X12_tick_67 rfl ?_
    exact k
theorem t_X12_tick_82 (d : Nat) (h : Hp_) (w : Wf h) (x1 : Int32) (x2 : Int32) (x3 : Int32) (K : Int32 → Hp_ → Prop) (k : ((h_i h 1 7) ≤ x3 → AW (m_X12_tick (d + 10) 0 0) 0 0 27 [(0, .ref 1), (1, .int x1), (2, .int (x2 + 1))] [] h (kI K)) ∧ (¬ (h_i h 1 7) ≤ x3 → Cv (m_X12_wake (d + 9) 0 0) [.ref 1, .int x3] h (fun h10 => Wf h10 ∧ (AW (m_X12_tick (d + 10) 0 0) 0 0 82 [(0, .ref 1), (1, .int x1), (2, .int x2), (3, .int (x3 + 1))] [] h10 (kI K))))) : AW (m_X12_tick (d + 10) 0 0) 0 0 82 [(0, .ref 1), (1, .int x1), (2, .int x2), (3, .int x3)] [] h (kI K) := by
  refine aw_iload_n (i := 3) rfl d_X12_tick_82 3 rfl ?_
  refine aw_aload_n (i := 0) rfl d_X12_tick_83 0 rfl ?_
  refine aw_geti (k0 := 7) kc_12 (ws_1 w) (Nat.le_of_ble_eq_true rfl) tw_1749 d_X12_tick_84 rfl ?_
  refine aw_icmp_ge (tgt := 101) d_X12_tick_87 rfl (fun c9 => ?_) (fun c9 => ?_)
  · have k := k.1 c9
    refine aw_iinc (v := (x2 + 1)) [(0, .ref 1), (1, .int x1), (2, .int (x2 + 1)), (3, .int x3)] d_X12_tick_101 2 rfl rfl (Nat.le_of_ble_eq_true rfl) rfl rfl ?_
    refine aw_goto (tgt := 27) d_X12_tick_104 rfl ?_
    exact aw_lvp [0, 1, 2] [(0, .ref 1), (1, .int x1), (2, .int (x2 + 1))] rfl k
  · have k := k.2 c9
    refine aw_aload_n (i := 0) rfl d_X12_tick_90 0 rfl ?_
    refine aw_iload_n (i := 3) rfl d_X12_tick_91 3 rfl ?_
    refine aw_Vv 1 [.int x3] [] d_X12_tick_92 (cV_X12_wake (d + 9) 0 0) kc_12 (ws_1 w) tw_2384 rfl (rr0 (Nat.le_of_ble_eq_true rfl) (Nat.le_of_ble_eq_true rfl)) (Nat.le_of_ble_eq_true rfl) xs0 k (fun h10 kk => ?_)
    obtain ⟨w11, k⟩ := kk
    refine aw_iinc (v := (x3 + 1)) [(0, .ref 1), (1, .int x1), (2, .int x2), (3, .int (x3 + 1))] d_X12_tick_95 3 rfl rfl (Nat.le_of_ble_eq_true rfl) rfl rfl ?_
    refine aw_goto (tgt := 82) d_X12_tick_98 rfl ?_
    exact k
end
section
theorem t_X12_pointsOf (d : Nat) (h : Hp_) (x1 : Int32) (K : Int32 → Hp_ → Prop) (k : AW (m_X12_pointsOf (d + 0) 0 0) 0 0 8 [(0, .ref 1), (1, .int x1), (2, .int 0), (3, .int (150 * x1))] [] h (kI K)) : Ci (m_X12_pointsOf (d + 0) 0 0) [.ref 1, .int x1] h K := by
  refine Ct.of (fun _ _ _ => trivial) pn_X12 (Nat.le_of_ble_eq_true rfl) ?_
  show AW (m_X12_pointsOf (d + 0) 0 0) 0 0 0 [(0, .ref 1), (1, .int x1)] [] h (kI K)
  refine aw_iconst (v := 0) d_X12_pointsOf_0 ic_0 ?_
  refine aw_istore_n (i := 2) rfl [(0, .ref 1), (1, .int x1), (2, .int 0)] d_X12_pointsOf_1 (Nat.le_of_ble_eq_true rfl) rfl rfl ?_
  refine aw_sipush (v := 150) d_X12_pointsOf_2 is_150 ?_
  refine aw_iload_n (i := 1) rfl d_X12_pointsOf_5 1 rfl ?_
  refine aw_imul d_X12_pointsOf_6 ?_
  refine aw_istore_n (i := 3) rfl [(0, .ref 1), (1, .int x1), (2, .int 0), (3, .int (150 * x1))] d_X12_pointsOf_7 (Nat.le_of_ble_eq_true rfl) rfl rfl ?_
  exact k
theorem t_X12_pointsOf_8 (d : Nat) (h : Hp_) (w : Wf h) (x1 : Int32) (x2 : Int32) (x3 : Int32) (K : Int32 → Hp_ → Prop) (k : vp_in x1 12 ∧ ((((150 * x1) + (h_i h 227 x1.toNatClampNeg)) ≤ x3 → K x2 h) ∧ (¬ ((150 * x1) + (h_i h 227 x1.toNatClampNeg)) ≤ x3 → vp_in x3 1800 ∧ ((¬ (h_i h 228 x3.toNatClampNeg) = 2 → AW (m_X12_pointsOf (d + 0) 0 0) 0 0 8 [(0, .ref 1), (1, .int x1), (2, .int (x2 + 0)), (3, .int (x3 + 1))] [] h (kI K)) ∧ ((h_i h 228 x3.toNatClampNeg) = 2 → AW (m_X12_pointsOf (d + 0) 0 0) 0 0 8 [(0, .ref 1), (1, .int x1), (2, .int (x2 + 1)), (3, .int (x3 + 1))] [] h (kI K)))))) : AW (m_X12_pointsOf (d + 0) 0 0) 0 0 8 [(0, .ref 1), (1, .int x1), (2, .int x2), (3, .int x3)] [] h (kI K) := by
  refine aw_iload_n (i := 3) rfl d_X12_pointsOf_8 3 rfl ?_
  refine aw_sipush (v := 150) d_X12_pointsOf_9 is_150 ?_
  refine aw_iload_n (i := 1) rfl d_X12_pointsOf_12 1 rfl ?_
  refine aw_imul d_X12_pointsOf_13 ?_
  refine aw_aload_n (i := 0) rfl d_X12_pointsOf_14 0 rfl ?_
  refine aw_getr (k0 := 38) kc_12 (ws_1 w) (Nat.le_of_ble_eq_true rfl) tw_1780 d_X12_pointsOf_15 rfl (wr_1_38 w) ?_
  refine aw_iload_n (i := 1) rfl d_X12_pointsOf_18 1 rfl ?_
  obtain ⟨b1, k⟩ := k
  refine aw_iald (ws_227 w) b1 d_X12_pointsOf_19 ?_
  refine aw_iadd d_X12_pointsOf_20 ?_
  refine aw_icmp_ge (tgt := 48) d_X12_pointsOf_21 rfl (fun c2 => ?_) (fun c2 => ?_)
  · have k := k.1 c2
    refine aw_iload_n (i := 2) rfl d_X12_pointsOf_48 2 rfl ?_
    exact aw_iret rfl d_X12_pointsOf_49 ⟨Nat.le_refl _, Nat.le_refl _⟩ ⟨_, rfl, k⟩
  · have k := k.2 c2
    refine aw_iload_n (i := 2) rfl d_X12_pointsOf_24 2 rfl ?_
    refine aw_aload_n (i := 0) rfl d_X12_pointsOf_25 0 rfl ?_
    refine aw_getr (k0 := 39) kc_12 (ws_1 w) (Nat.le_of_ble_eq_true rfl) tw_1781 d_X12_pointsOf_26 rfl (wr_1_39 w) ?_
    refine aw_iload_n (i := 3) rfl d_X12_pointsOf_29 3 rfl ?_
    obtain ⟨b3, k⟩ := k
    refine aw_iald (ws_228 w) b3 d_X12_pointsOf_30 ?_
    refine aw_iconst (v := 2) d_X12_pointsOf_31 ic_2 ?_
    refine aw_icmp_ne (tgt := 39) d_X12_pointsOf_32 rfl (fun c4 => ?_) (fun c4 => ?_)
    · have k := k.1 c4
      refine aw_iconst (v := 0) d_X12_pointsOf_39 ic_0 ?_
      refine aw_iadd d_X12_pointsOf_40 ?_
      refine aw_istore_n (i := 2) rfl [(0, .ref 1), (1, .int x1), (2, .int (x2 + 0)), (3, .int x3)] d_X12_pointsOf_41 (Nat.le_of_ble_eq_true rfl) rfl rfl ?_
      refine aw_iinc (v := (x3 + 1)) [(0, .ref 1), (1, .int x1), (2, .int (x2 + 0)), (3, .int (x3 + 1))] d_X12_pointsOf_42 3 rfl rfl (Nat.le_of_ble_eq_true rfl) rfl rfl ?_
      refine aw_goto (tgt := 8) d_X12_pointsOf_45 rfl ?_
      exact k
    · have k := k.2 c4
      refine aw_iconst (v := 1) d_X12_pointsOf_35 ic_1 ?_
      refine aw_goto (tgt := 40) d_X12_pointsOf_36 rfl ?_
      refine aw_iadd d_X12_pointsOf_40 ?_
      refine aw_istore_n (i := 2) rfl [(0, .ref 1), (1, .int x1), (2, .int (x2 + 1)), (3, .int x3)] d_X12_pointsOf_41 (Nat.le_of_ble_eq_true rfl) rfl rfl ?_
      refine aw_iinc (v := (x3 + 1)) [(0, .ref 1), (1, .int x1), (2, .int (x2 + 1)), (3, .int (x3 + 1))] d_X12_pointsOf_42 3 rfl rfl (Nat.le_of_ble_eq_true rfl) rfl rfl ?_
      refine aw_goto (tgt := 8) d_X12_pointsOf_45 rfl ?_
      exact k
theorem t_X12_begin (d : Nat) (h : Hp_) (w : Wf h) (x1 : Int32) (x2 : Int32) (K : Int32 → Hp_ → Prop) (k : (¬ (0 ≤ x1 ∧ x1 ≤ (h_i h 1 7) - 1) → K 0 h) ∧ ((0 ≤ x1 ∧ x1 ≤ (h_i h 1 7) - 1) → (¬ (0 ≤ x2 ∧ x2 ≤ ((h_i h 1 42) - 1)) → K 0 h) ∧ ((0 ≤ x2 ∧ x2 ≤ ((h_i h 1 42) - 1)) → vp_in x1 12 ∧ ((¬ (h_i h 208 x1.toNatClampNeg) = 0 → K 0 h) ∧ ((h_i h 208 x1.toNatClampNeg) = 0 → Ci (m_X12_pointsOf (d + 0) 0 0) [.ref 1, .int x2] h (fun r11 h9 => Wf h9 ∧ ((((h_i h 1 63) + r11) ≤ 400 → vp_in x1 12 ∧ (vp_in x1 12 ∧ (vp_in x1 12 ∧ (vp_in x1 12 ∧ (vp_in x1 12 ∧ (vp_in x1 12 ∧ (AW (m_X12_begin (d + 4) 0 0) 0 0 106 [(0, .ref 1), (1, .int x1), (2, .int x2), (3, .int (150 * x2))] [] (h_im (h_im (h_im (h_im (h_im (h_im h9 208 x1.toNatClampNeg 1) 212 x1.toNatClampNeg x2) 213 x1.toNatClampNeg 0) 214 x1.toNatClampNeg (h_i h9 1 0)) 215 x1.toNatClampNeg (h_i h9 1 63)) 216 x1.toNatClampNeg (h_i h9 1 63)) (kI K)))))))) ∧ (¬ ((h_i h 1 63) + r11) ≤ 400 → K 0 h9)))))))) : Ci (m_X12_begin (d + 4) 0 0) [.ref 1, .int x1, .int x2] h K := by
  refine Ct.of (fun _ _ _ => trivial) pn_X12 (Nat.le_of_ble_eq_true rfl) ?_
  show AW (m_X12_begin (d + 4) 0 0) 0 0 0 [(0, .ref 1), (1, .int x1), (2, .int x2)] [] h (kI K)
  refine aw_aload_n (i := 0) rfl d_X12_begin_0 0 rfl ?_
  refine aw_iload_n (i := 1) rfl d_X12_begin_1 1 rfl ?_
  refine aw_Vi 1 [.int x1] [] d_X12_begin_2 (cV_X12_isMan (d + 1) 0 0) kc_12 (ws_1 w) tw_2163 rfl (rr0 (Nat.le_of_ble_eq_true rfl) (Nat.le_of_ble_eq_true rfl)) (Nat.le_of_ble_eq_true rfl) xs0 (s_X12_isMan _ _ w x1) (fun _ _ kk => ?_)
  obtain ⟨e1, e2⟩ := kk
  rw [e1, e2]
  refine aw_ifb_eq (tgt := 47) d_X12_begin_5 rfl (fun c3 => ?_) (fun c3 => ?_)
  · have k := k.1 c3
    refine aw_iconst (v := 0) d_X12_begin_47 ic_0 ?_
    exact aw_zret rfl rfl d_X12_begin_48 ⟨Nat.le_refl _, Nat.le_refl _⟩ ⟨_, rfl, k⟩
  · have k := k.2 c3
    refine aw_iload_n (i := 2) rfl d_X12_begin_8 2 rfl ?_
    refine aw_iconst (v := 0) d_X12_begin_9 ic_0 ?_
    refine aw_aload_n (i := 0) rfl d_X12_begin_10 0 rfl ?_
    refine aw_geti (k0 := 42) kc_12 (ws_1 w) (Nat.le_of_ble_eq_true rfl) tw_1784 d_X12_begin_11 rfl ?_
    refine aw_iconst (v := 1) d_X12_begin_14 ic_1 ?_
    refine aw_isub d_X12_begin_15 ?_
    refine aw_Si [.int x2, .int 0, .int ((h_i h 1 42) - 1)] [] d_X12_begin_16 (cS_X12_in (d + 0) 0 0) tw_2143 rfl (rr0 (Nat.le_of_ble_eq_true rfl) (Nat.le_of_ble_eq_true rfl)) (Nat.le_of_ble_eq_true rfl) xs0 (s_X12_in _ _ x2 0 ((h_i h 1 42) - 1)) (fun _ _ kk => ?_)
    obtain ⟨e4, e5⟩ := kk
    rw [e4, e5]
    refine aw_ifb_eq (tgt := 47) d_X12_begin_19 rfl (fun c6 => ?_) (fun c6 => ?_)
    · have k := k.1 c6
      refine aw_iconst (v := 0) d_X12_begin_47 ic_0 ?_
      exact aw_zret rfl rfl d_X12_begin_48 ⟨Nat.le_refl _, Nat.le_refl _⟩ ⟨_, rfl, k⟩
    · have k := k.2 c6
      refine aw_aload_n (i := 0) rfl d_X12_begin_22 0 rfl ?_
      refine aw_getr (k0 := 12) kc_12 (ws_1 w) (Nat.le_of_ble_eq_true rfl) tw_1754 d_X12_begin_23 rfl (wr_1_12 w) ?_
      refine aw_iload_n (i := 1) rfl d_X12_begin_26 1 rfl ?_
      obtain ⟨b7, k⟩ := k
      refine aw_iald (ws_208 w) b7 d_X12_begin_27 ?_
      refine aw_if_ne (tgt := 47) d_X12_begin_28 rfl (fun c8 => ?_) (fun c8 => ?_)
      · have k := k.1 c8
        refine aw_iconst (v := 0) d_X12_begin_47 ic_0 ?_
        exact aw_zret rfl rfl d_X12_begin_48 ⟨Nat.le_refl _, Nat.le_refl _⟩ ⟨_, rfl, k⟩
      · have k := k.2 c8
        refine aw_aload_n (i := 0) rfl d_X12_begin_31 0 rfl ?_
        refine aw_geti (k0 := 63) kc_12 (ws_1 w) (Nat.le_of_ble_eq_true rfl) tw_1805 d_X12_begin_32 rfl ?_
        refine aw_aload_n (i := 0) rfl d_X12_begin_35 0 rfl ?_
        refine aw_iload_n (i := 2) rfl d_X12_begin_36 2 rfl ?_
        refine aw_Vi 1 [.int x2] [.int (h_i h 1 63)] d_X12_begin_37 (cV_X12_pointsOf (d + 0) 0 0) kc_12 (ws_1 w) tw_2287 rfl (rr0 (Nat.le_of_ble_eq_true rfl) (Nat.le_of_ble_eq_true rfl)) (Nat.le_of_ble_eq_true rfl) xs0 k (fun r11 h9 kk => ?_)
        obtain ⟨w10, k⟩ := kk
        refine aw_iadd d_X12_begin_40 ?_
        refine aw_sipush (v := 400) d_X12_begin_41 is_400 ?_
        refine aw_icmp_le (tgt := 49) d_X12_begin_44 rfl (fun c12 => ?_) (fun c12 => ?_)
        · have k := k.1 c12
          refine aw_aload_n (i := 0) rfl d_X12_begin_49 0 rfl ?_
          refine aw_getr (k0 := 12) kc_12 (ws_1 w10) (Nat.le_of_ble_eq_true rfl) tw_1754 d_X12_begin_50 rfl (wr_1_12 w10) ?_
          refine aw_iload_n (i := 1) rfl d_X12_begin_53 1 rfl ?_
          refine aw_iconst (v := 1) d_X12_begin_54 ic_1 ?_
          obtain ⟨b13, k⟩ := k
          refine aw_iast (ws_208 w10) b13 d_X12_begin_55 ?_
          refine aw_aload_n (i := 0) rfl d_X12_begin_56 0 rfl ?_
          refine aw_getr (k0 := 16) kc_12 (ws_1 w10) (Nat.le_of_ble_eq_true rfl) tw_1758 d_X12_begin_57 rfl (wr_1_16 w10) ?_
          refine aw_iload_n (i := 1) rfl d_X12_begin_60 1 rfl ?_
          refine aw_iload_n (i := 2) rfl d_X12_begin_61 2 rfl ?_
          obtain ⟨b14, k⟩ := k
          refine aw_iast (ws_212 w10) b14 d_X12_begin_62 ?_
          refine aw_aload_n (i := 0) rfl d_X12_begin_63 0 rfl ?_
          refine aw_getr (k0 := 17) kc_12 (ws_1 w10) (Nat.le_of_ble_eq_true rfl) tw_1759 d_X12_begin_64 rfl (wr_1_17 w10) ?_
          refine aw_iload_n (i := 1) rfl d_X12_begin_67 1 rfl ?_
          refine aw_iconst (v := 0) d_X12_begin_68 ic_0 ?_
          obtain ⟨b15, k⟩ := k
          refine aw_iast (ws_213 w10) b15 d_X12_begin_69 ?_
          refine aw_aload_n (i := 0) rfl d_X12_begin_70 0 rfl ?_
          refine aw_getr (k0 := 18) kc_12 (ws_1 w10) (Nat.le_of_ble_eq_true rfl) tw_1760 d_X12_begin_71 rfl (wr_1_18 w10) ?_
          refine aw_iload_n (i := 1) rfl d_X12_begin_74 1 rfl ?_
          refine aw_aload_n (i := 0) rfl d_X12_begin_75 0 rfl ?_
          refine aw_geti (k0 := 0) kc_12 (ws_1 w10) (Nat.le_of_ble_eq_true rfl) tw_1742 d_X12_begin_76 rfl ?_
          refine aw_vi (v2 := (h_i h9 1 0)) (rfl) ?_
          obtain ⟨b16, k⟩ := k
          refine aw_iast (ws_214 w10) b16 d_X12_begin_79 ?_
          refine aw_aload_n (i := 0) rfl d_X12_begin_80 0 rfl ?_
          refine aw_getr (k0 := 19) kc_12 (ws_1 w10) (Nat.le_of_ble_eq_true rfl) tw_1761 d_X12_begin_81 rfl (wr_1_19 w10) ?_
          refine aw_iload_n (i := 1) rfl d_X12_begin_84 1 rfl ?_
          refine aw_aload_n (i := 0) rfl d_X12_begin_85 0 rfl ?_
          refine aw_geti (k0 := 63) kc_12 (ws_1 w10) (Nat.le_of_ble_eq_true rfl) tw_1805 d_X12_begin_86 rfl ?_
          refine aw_vi (v2 := (h_i h9 1 63)) (rfl) ?_
          obtain ⟨b17, k⟩ := k
          refine aw_iast (ws_215 w10) b17 d_X12_begin_89 ?_
          refine aw_aload_n (i := 0) rfl d_X12_begin_90 0 rfl ?_
          refine aw_getr (k0 := 20) kc_12 (ws_1 w10) (Nat.le_of_ble_eq_true rfl) tw_1762 d_X12_begin_91 rfl (wr_1_20 w10) ?_
          refine aw_iload_n (i := 1) rfl d_X12_begin_94 1 rfl ?_
          refine aw_aload_n (i := 0) rfl d_X12_begin_95 0 rfl ?_
          refine aw_geti (k0 := 63) kc_12 (ws_1 w10) (Nat.le_of_ble_eq_true rfl) tw_1805 d_X12_begin_96 rfl ?_
          refine aw_vi (v2 := (h_i h9 1 63)) (rfl) ?_
          obtain ⟨b18, k⟩ := k
          refine aw_iast (ws_216 w10) b18 d_X12_begin_99 ?_
          refine aw_sipush (v := 150) d_X12_begin_100 is_150 ?_
          refine aw_iload_n (i := 2) rfl d_X12_begin_103 2 rfl ?_
          refine aw_imul d_X12_begin_104 ?_
          refine aw_istore_n (i := 3) rfl [(0, .ref 1), (1, .int x1), (2, .int x2), (3, .int (150 * x2))] d_X12_begin_105 (Nat.le_of_ble_eq_true rfl) rfl rfl ?_
          exact k
        · have k := k.2 c12
          refine aw_iconst (v := 0) d_X12_begin_47 ic_0 ?_
          exact aw_zret rfl rfl d_X12_begin_48 ⟨Nat.le_refl _, Nat.le_refl _⟩ ⟨_, rfl, k⟩
theorem t_X12_begin_106 (d : Nat) (h : Hp_) (w : Wf h) (x1 : Int32) (x2 : Int32) (x3 : Int32) (K : Int32 → Hp_ → Prop) (k : vp_in x2 12 ∧ ((((150 * x2) + (h_i h 227 x2.toNatClampNeg)) ≤ x3 → vp_in x1 12 ∧ (Cv (m_X12_goOn (d + 3) 0 0) [.ref 1, .int x1] (h_im h 217 x1.toNatClampNeg (h_i h 1 63)) (fun h22 => Wf h22 ∧ (K 1 h22)))) ∧ (¬ ((150 * x2) + (h_i h 227 x2.toNatClampNeg)) ≤ x3 → vp_in x3 1800 ∧ ((¬ (h_i h 228 x3.toNatClampNeg) = 2 → AW (m_X12_begin (d + 4) 0 0) 0 0 106 [(0, .ref 1), (1, .int x1), (2, .int x2), (3, .int (x3 + 1))] [] h (kI K)) ∧ ((h_i h 228 x3.toNatClampNeg) = 2 → vp_in (h_i h 1 63) 400 ∧ (vp_in x3 1800 ∧ (vp_in (h_i h 1 63) 400 ∧ (vp_in x3 1800 ∧ (vp_in (h_i h 1 63) 400 ∧ (vp_in (h_i h 1 63) 400 ∧ (vp_in (h_i h 1 63) 400 ∧ (vp_in (h_i h 1 63) 400 ∧ (AW (m_X12_begin (d + 4) 0 0) 0 0 106 [(0, .ref 1), (1, .int x1), (2, .int x2), (3, .int (x3 + 1))] [] (h_im (h_im (h_im (h_im (h_im (h_im (h_im h 238 ((h_i h 1 63) : Int32).toNatClampNeg x1) 239 ((h_i h 1 63) : Int32).toNatClampNeg (h_i h 229 x3.toNatClampNeg)) 240 ((h_i h 1 63) : Int32).toNatClampNeg ((h_i h 1 0) + (h_i h 230 x3.toNatClampNeg))) 241 ((h_i h 1 63) : Int32).toNatClampNeg (-1)) 242 ((h_i h 1 63) : Int32).toNatClampNeg (-1)) 244 ((h_i h 1 63) : Int32).toNatClampNeg (h_i h 1 0)) 1 63 ((h_i h 1 63) + 1)) (kI K)))))))))))))) : AW (m_X12_begin (d + 4) 0 0) 0 0 106 [(0, .ref 1), (1, .int x1), (2, .int x2), (3, .int x3)] [] h (kI K) := by
  refine aw_iload_n (i := 3) rfl d_X12_begin_106 3 rfl ?_
  refine aw_sipush (v := 150) d_X12_begin_107 is_150 ?_
  refine aw_iload_n (i := 2) rfl d_X12_begin_110 2 rfl ?_
  refine aw_imul d_X12_begin_111 ?_
  refine aw_aload_n (i := 0) rfl d_X12_begin_112 0 rfl ?_
  refine aw_getr (k0 := 38) kc_12 (ws_1 w) (Nat.le_of_ble_eq_true rfl) tw_1780 d_X12_begin_113 rfl (wr_1_38 w) ?_
  refine aw_iload_n (i := 2) rfl d_X12_begin_116 2 rfl ?_
  obtain ⟨b19, k⟩ := k
  refine aw_iald (ws_227 w) b19 d_X12_begin_117 ?_
  refine aw_iadd d_X12_begin_118 ?_
  refine aw_icmp_ge (tgt := 226) d_X12_begin_119 rfl (fun c20 => ?_) (fun c20 => ?_)
  · have k := k.1 c20
    refine aw_aload_n (i := 0) rfl d_X12_begin_226 0 rfl ?_
    refine aw_getr (k0 := 21) kc_12 (ws_1 w) (Nat.le_of_ble_eq_true rfl) tw_1763 d_X12_begin_227 rfl (wr_1_21 w) ?_
    refine aw_iload_n (i := 1) rfl d_X12_begin_230 1 rfl ?_
    refine aw_aload_n (i := 0) rfl d_X12_begin_231 0 rfl ?_
    refine aw_geti (k0 := 63) kc_12 (ws_1 w) (Nat.le_of_ble_eq_true rfl) tw_1805 d_X12_begin_232 rfl ?_
    obtain ⟨b21, k⟩ := k
    refine aw_iast (ws_217 w) b21 d_X12_begin_235 ?_
    refine aw_aload_n (i := 0) rfl d_X12_begin_236 0 rfl ?_
    refine aw_iload_n (i := 1) rfl d_X12_begin_237 1 rfl ?_
    refine aw_Vv 1 [.int x1] [] d_X12_begin_238 (cV_X12_goOn (d + 3) 0 0) kc_12 (ws_1 w) tw_2336 rfl (rr0 (Nat.le_of_ble_eq_true rfl) (Nat.le_of_ble_eq_true rfl)) (Nat.le_of_ble_eq_true rfl) xs0 k (fun h22 kk => ?_)
    obtain ⟨w23, k⟩ := kk
    refine aw_iconst (v := 1) d_X12_begin_241 ic_1 ?_
    exact aw_zret rfl rfl d_X12_begin_242 ⟨Nat.le_refl _, Nat.le_refl _⟩ ⟨_, rfl, k⟩
  · have k := k.2 c20
    refine aw_aload_n (i := 0) rfl d_X12_begin_122 0 rfl ?_
    refine aw_getr (k0 := 39) kc_12 (ws_1 w) (Nat.le_of_ble_eq_true rfl) tw_1781 d_X12_begin_123 rfl (wr_1_39 w) ?_
    refine aw_iload_n (i := 3) rfl d_X12_begin_126 3 rfl ?_
    obtain ⟨b25, k⟩ := k
    refine aw_iald (ws_228 w) b25 d_X12_begin_127 ?_
    refine aw_iconst (v := 2) d_X12_begin_128 ic_2 ?_
    refine aw_icmp_ne (tgt := 220) d_X12_begin_129 rfl (fun c26 => ?_) (fun c26 => ?_)
    · have k := k.1 c26
      refine aw_iinc (v := (x3 + 1)) [(0, .ref 1), (1, .int x1), (2, .int x2), (3, .int (x3 + 1))] d_X12_begin_220 3 rfl rfl (Nat.le_of_ble_eq_true rfl) rfl rfl ?_
      refine aw_goto (tgt := 106) d_X12_begin_223 rfl ?_
      exact k
    · have k := k.2 c26
      refine aw_aload_n (i := 0) rfl d_X12_begin_132 0 rfl ?_
      refine aw_getr (k0 := 53) kc_12 (ws_1 w) (Nat.le_of_ble_eq_true rfl) tw_1795 d_X12_begin_133 rfl (wr_1_53 w) ?_
      refine aw_aload_n (i := 0) rfl d_X12_begin_136 0 rfl ?_
      refine aw_geti (k0 := 63) kc_12 (ws_1 w) (Nat.le_of_ble_eq_true rfl) tw_1805 d_X12_begin_137 rfl ?_
      refine aw_iload_n (i := 1) rfl d_X12_begin_140 1 rfl ?_
      obtain ⟨b27, k⟩ := k
      refine aw_iast (ws_238 w) b27 d_X12_begin_141 ?_
      refine aw_aload_n (i := 0) rfl d_X12_begin_142 0 rfl ?_
      refine aw_getr (k0 := 54) kc_12 (ws_1 w) (Nat.le_of_ble_eq_true rfl) tw_1796 d_X12_begin_143 rfl (wr_1_54 w) ?_
      refine aw_aload_n (i := 0) rfl d_X12_begin_146 0 rfl ?_
      refine aw_geti (k0 := 63) kc_12 (ws_1 w) (Nat.le_of_ble_eq_true rfl) tw_1805 d_X12_begin_147 rfl ?_
      refine aw_vi (v2 := (h_i h 1 63)) (rfl) ?_
      refine aw_aload_n (i := 0) rfl d_X12_begin_150 0 rfl ?_
      refine aw_getr (k0 := 40) kc_12 (ws_1 w) (Nat.le_of_ble_eq_true rfl) tw_1782 d_X12_begin_151 rfl (wr_1_40 w) ?_
      refine aw_iload_n (i := 3) rfl d_X12_begin_154 3 rfl ?_
      obtain ⟨b28, k⟩ := k
      refine aw_iald (ws_229 w) b28 d_X12_begin_155 ?_
      refine aw_vi (v2 := (h_i h 229 x3.toNatClampNeg)) (rfl) ?_
      obtain ⟨b29, k⟩ := k
      refine aw_iast (ws_239 w) b29 d_X12_begin_156 ?_
      refine aw_aload_n (i := 0) rfl d_X12_begin_157 0 rfl ?_
      refine aw_getr (k0 := 55) kc_12 (ws_1 w) (Nat.le_of_ble_eq_true rfl) tw_1797 d_X12_begin_158 rfl (wr_1_55 w) ?_
      refine aw_aload_n (i := 0) rfl d_X12_begin_161 0 rfl ?_
      refine aw_geti (k0 := 63) kc_12 (ws_1 w) (Nat.le_of_ble_eq_true rfl) tw_1805 d_X12_begin_162 rfl ?_
      refine aw_vi (v2 := (h_i h 1 63)) (rfl) ?_
      refine aw_aload_n (i := 0) rfl d_X12_begin_165 0 rfl ?_
      refine aw_geti (k0 := 0) kc_12 (ws_1 w) (Nat.le_of_ble_eq_true rfl) tw_1742 d_X12_begin_166 rfl ?_
      refine aw_vi (v2 := (h_i h 1 0)) (rfl) ?_
      refine aw_aload_n (i := 0) rfl d_X12_begin_169 0 rfl ?_
      refine aw_getr (k0 := 41) kc_12 (ws_1 w) (Nat.le_of_ble_eq_true rfl) tw_1783 d_X12_begin_170 rfl (wr_1_41 w) ?_
      refine aw_iload_n (i := 3) rfl d_X12_begin_173 3 rfl ?_
      obtain ⟨b30, k⟩ := k
      refine aw_iald (ws_230 w) b30 d_X12_begin_174 ?_
      refine aw_vi (v2 := (h_i h 230 x3.toNatClampNeg)) (rfl) ?_
      refine aw_iadd d_X12_begin_175 ?_
      obtain ⟨b31, k⟩ := k
      refine aw_iast (ws_240 w) b31 d_X12_begin_176 ?_
      refine aw_aload_n (i := 0) rfl d_X12_begin_177 0 rfl ?_
      refine aw_getr (k0 := 56) kc_12 (ws_1 w) (Nat.le_of_ble_eq_true rfl) tw_1798 d_X12_begin_178 rfl (wr_1_56 w) ?_
      refine aw_aload_n (i := 0) rfl d_X12_begin_181 0 rfl ?_
      refine aw_geti (k0 := 63) kc_12 (ws_1 w) (Nat.le_of_ble_eq_true rfl) tw_1805 d_X12_begin_182 rfl ?_
      refine aw_vi (v2 := (h_i h 1 63)) (rfl) ?_
      refine aw_iconst (v := (-1)) d_X12_begin_185 ic_m1 ?_
      obtain ⟨b32, k⟩ := k
      refine aw_iast (ws_241 w) b32 d_X12_begin_186 ?_
      refine aw_aload_n (i := 0) rfl d_X12_begin_187 0 rfl ?_
      refine aw_getr (k0 := 57) kc_12 (ws_1 w) (Nat.le_of_ble_eq_true rfl) tw_1799 d_X12_begin_188 rfl (wr_1_57 w) ?_
      refine aw_aload_n (i := 0) rfl d_X12_begin_191 0 rfl ?_
      refine aw_geti (k0 := 63) kc_12 (ws_1 w) (Nat.le_of_ble_eq_true rfl) tw_1805 d_X12_begin_192 rfl ?_
      refine aw_vi (v2 := (h_i h 1 63)) (rfl) ?_
      refine aw_iconst (v := (-1)) d_X12_begin_195 ic_m1 ?_
      obtain ⟨b33, k⟩ := k
      refine aw_iast (ws_242 w) b33 d_X12_begin_196 ?_
      refine aw_aload_n (i := 0) rfl d_X12_begin_197 0 rfl ?_
      refine aw_getr (k0 := 59) kc_12 (ws_1 w) (Nat.le_of_ble_eq_true rfl) tw_1801 d_X12_begin_198 rfl (wr_1_59 w) ?_
      refine aw_aload_n (i := 0) rfl d_X12_begin_201 0 rfl ?_
      refine aw_geti (k0 := 63) kc_12 (ws_1 w) (Nat.le_of_ble_eq_true rfl) tw_1805 d_X12_begin_202 rfl ?_
      refine aw_vi (v2 := (h_i h 1 63)) (rfl) ?_
      refine aw_aload_n (i := 0) rfl d_X12_begin_205 0 rfl ?_
      refine aw_geti (k0 := 0) kc_12 (ws_1 w) (Nat.le_of_ble_eq_true rfl) tw_1742 d_X12_begin_206 rfl ?_
      refine aw_vi (v2 := (h_i h 1 0)) (rfl) ?_
      obtain ⟨b34, k⟩ := k
      refine aw_iast (ws_244 w) b34 d_X12_begin_209 ?_
      refine aw_aload_n (i := 0) rfl d_X12_begin_210 0 rfl ?_
      refine aw_dup d_X12_begin_211 rfl ?_
      refine aw_geti (k0 := 63) kc_12 (ws_1 w) (Nat.le_of_ble_eq_true rfl) tw_1805 d_X12_begin_212 rfl ?_
      refine aw_vi (v2 := (h_i h 1 63)) (rfl) ?_
      refine aw_iconst (v := 1) d_X12_begin_215 ic_1 ?_
      refine aw_iadd d_X12_begin_216 ?_
      refine aw_puti (k0 := 63) kc_12 (ws_1 w) (Nat.le_of_ble_eq_true rfl) tw_1805 d_X12_begin_217 rfl rfl nf_i ?_
      refine aw_iinc (v := (x3 + 1)) [(0, .ref 1), (1, .int x1), (2, .int x2), (3, .int (x3 + 1))] d_X12_begin_220 3 rfl rfl (Nat.le_of_ble_eq_true rfl) rfl rfl ?_
      refine aw_goto (tgt := 106) d_X12_begin_223 rfl ?_
      exact k
theorem t_X12_draw (d : Nat) (h : Hp_) (w : Wf h) (x1 : Int32) (x2 : Int32) (x3 : Int32) (K : Int32 → Hp_ → Prop) (k : (¬ (0 ≤ x1 ∧ x1 ≤ (h_i h 1 7) - 1) → K 0 h) ∧ ((0 ≤ x1 ∧ x1 ≤ (h_i h 1 7) - 1) → (¬ (0 ≤ x2 ∧ x2 ≤ 15) → K 0 h) ∧ ((0 ≤ x2 ∧ x2 ≤ 15) → (¬ ((h_i h 1 0) ≤ x3 ∧ x3 ≤ 30000) → K 0 h) ∧ (((h_i h 1 0) ≤ x3 ∧ x3 ≤ 30000) → vp_in x1 12 ∧ (Ci (m_X12_walkOf (d + 0) 0 0) [.ref 1, .int (h_i h 206 x1.toNatClampNeg), .int x2] h (fun r13 h11 => Wf h11 ∧ ((r13 = (-1) → K 0 h11) ∧ (¬ r13 = (-1) → vp_in x1 12 ∧ (((h_i h11 208 x1.toNatClampNeg) = 3 → K 0 h11) ∧ (¬ (h_i h11 208 x1.toNatClampNeg) = 3 → vp_in x1 12 ∧ ((¬ (h_i h11 208 x1.toNatClampNeg) = 4 → vp_in x1 12 ∧ ((¬ (h_i h11 208 x1.toNatClampNeg) = 1 → vp_in x1 12 ∧ (vp_in x1 12 ∧ (vp_in x1 12 ∧ (vp_in x1 12 ∧ (vp_in x1 12 ∧ ((¬ (h_i h11 210 x1.toNatClampNeg) = (-1) → vp_in x1 12 ∧ (vp_in x1 12 ∧ ((¬ (h_i h11 210 x1.toNatClampNeg) = (-1) → K 1 (h_im (h_im (h_im (h_im (h_im h11 213 x1.toNatClampNeg (-1)) 208 x1.toNatClampNeg 3) 218 x1.toNatClampNeg x2) 219 x1.toNatClampNeg x3) 248 x1.toNatClampNeg (vp_nar .boolean 0))) ∧ ((h_i h11 210 x1.toNatClampNeg) = (-1) → Cv (m_X12_goDrawn (d + 4) 0 0) [.ref 1, .int x1] (h_im (h_im (h_im (h_im (h_im h11 213 x1.toNatClampNeg (-1)) 208 x1.toNatClampNeg 3) 218 x1.toNatClampNeg x2) 219 x1.toNatClampNeg x3) 248 x1.toNatClampNeg (vp_nar .boolean 0)) (fun h30 => Wf h30 ∧ (K 1 h30)))))) ∧ ((h_i h11 210 x1.toNatClampNeg) = (-1) → vp_in x1 12 ∧ (vp_in x1 12 ∧ ((¬ (h_i h11 210 x1.toNatClampNeg) = (-1) → K 1 (h_im (h_im (h_im (h_im (h_im h11 213 x1.toNatClampNeg (-1)) 208 x1.toNatClampNeg 3) 218 x1.toNatClampNeg x2) 219 x1.toNatClampNeg x3) 248 x1.toNatClampNeg (vp_nar .boolean 1))) ∧ ((h_i h11 210 x1.toNatClampNeg) = (-1) → Cv (m_X12_goDrawn (d + 4) 0 0) [.ref 1, .int x1] (h_im (h_im (h_im (h_im (h_im h11 213 x1.toNatClampNeg (-1)) 208 x1.toNatClampNeg 3) 218 x1.toNatClampNeg x2) 219 x1.toNatClampNeg x3) 248 x1.toNatClampNeg (vp_nar .boolean 1)) (fun h36 => Wf h36 ∧ (K 1 h36)))))))))))) ∧ ((h_i h11 208 x1.toNatClampNeg) = 1 → Cv (m_X12_drop (d + 1) 0 0) [.ref 1, .int x1, .int 3] h11 (fun h39 => Wf h39 ∧ (vp_in x1 12 ∧ (vp_in x1 12 ∧ (vp_in x1 12 ∧ (vp_in x1 12 ∧ (vp_in x1 12 ∧ ((¬ (h_i h39 210 x1.toNatClampNeg) = (-1) → vp_in x1 12 ∧ (vp_in x1 12 ∧ ((¬ (h_i h39 210 x1.toNatClampNeg) = (-1) → K 1 (h_im (h_im (h_im (h_im (h_im h39 213 x1.toNatClampNeg (-1)) 208 x1.toNatClampNeg 3) 218 x1.toNatClampNeg x2) 219 x1.toNatClampNeg x3) 248 x1.toNatClampNeg (vp_nar .boolean 0))) ∧ ((h_i h39 210 x1.toNatClampNeg) = (-1) → Cv (m_X12_goDrawn (d + 4) 0 0) [.ref 1, .int x1] (h_im (h_im (h_im (h_im (h_im h39 213 x1.toNatClampNeg (-1)) 208 x1.toNatClampNeg 3) 218 x1.toNatClampNeg x2) 219 x1.toNatClampNeg x3) 248 x1.toNatClampNeg (vp_nar .boolean 0)) (fun h51 => Wf h51 ∧ (K 1 h51)))))) ∧ ((h_i h39 210 x1.toNatClampNeg) = (-1) → vp_in x1 12 ∧ (vp_in x1 12 ∧ ((¬ (h_i h39 210 x1.toNatClampNeg) = (-1) → K 1 (h_im (h_im (h_im (h_im (h_im h39 213 x1.toNatClampNeg (-1)) 208 x1.toNatClampNeg 3) 218 x1.toNatClampNeg x2) 219 x1.toNatClampNeg x3) 248 x1.toNatClampNeg (vp_nar .boolean 1))) ∧ ((h_i h39 210 x1.toNatClampNeg) = (-1) → Cv (m_X12_goDrawn (d + 4) 0 0) [.ref 1, .int x1] (h_im (h_im (h_im (h_im (h_im h39 213 x1.toNatClampNeg (-1)) 208 x1.toNatClampNeg 3) 218 x1.toNatClampNeg x2) 219 x1.toNatClampNeg x3) 248 x1.toNatClampNeg (vp_nar .boolean 1)) (fun h57 => Wf h57 ∧ (K 1 h57)))))))))))))))) ∧ ((h_i h11 208 x1.toNatClampNeg) = 4 → K 0 h11)))))))))))) : Ci (m_X12_draw (d + 5) 0 0) [.ref 1, .int x1, .int x2, .int x3] h K := by
  refine Ct.of (fun _ _ _ => trivial) pn_X12 (Nat.le_of_ble_eq_true rfl) ?_
  show AW (m_X12_draw (d + 5) 0 0) 0 0 0 [(0, .ref 1), (1, .int x1), (2, .int x2), (3, .int x3)] [] h (kI K)
  refine aw_aload_n (i := 0) rfl d_X12_draw_0 0 rfl ?_
  refine aw_iload_n (i := 1) rfl d_X12_draw_1 1 rfl ?_
  refine aw_Vi 1 [.int x1] [] d_X12_draw_2 (cV_X12_isMan (d + 1) 0 0) kc_12 (ws_1 w) tw_2163 rfl (rr0 (Nat.le_of_ble_eq_true rfl) (Nat.le_of_ble_eq_true rfl)) (Nat.le_of_ble_eq_true rfl) xs0 (s_X12_isMan _ _ w x1) (fun _ _ kk => ?_)
  obtain ⟨e1, e2⟩ := kk
  rw [e1, e2]
  refine aw_ifb_eq (tgt := 64) d_X12_draw_5 rfl (fun c3 => ?_) (fun c3 => ?_)
  · have k := k.1 c3
    refine aw_iconst (v := 0) d_X12_draw_64 ic_0 ?_
    exact aw_zret rfl rfl d_X12_draw_65 ⟨Nat.le_refl _, Nat.le_refl _⟩ ⟨_, rfl, k⟩
  · have k := k.2 c3
    refine aw_iload_n (i := 2) rfl d_X12_draw_8 2 rfl ?_
    refine aw_Si [.int x2] [] d_X12_draw_9 (cS_X12_isPlace (d + 1) 0 0) tw_2140 rfl (rr0 (Nat.le_of_ble_eq_true rfl) (Nat.le_of_ble_eq_true rfl)) (Nat.le_of_ble_eq_true rfl) xs0 (s_X12_isPlace _ _ x2) (fun _ _ kk => ?_)
    obtain ⟨e4, e5⟩ := kk
    rw [e4, e5]
    refine aw_ifb_eq (tgt := 64) d_X12_draw_12 rfl (fun c6 => ?_) (fun c6 => ?_)
    · have k := k.1 c6
      refine aw_iconst (v := 0) d_X12_draw_64 ic_0 ?_
      exact aw_zret rfl rfl d_X12_draw_65 ⟨Nat.le_refl _, Nat.le_refl _⟩ ⟨_, rfl, k⟩
    · have k := k.2 c6
      refine aw_iload_n (i := 3) rfl d_X12_draw_15 3 rfl ?_
      refine aw_aload_n (i := 0) rfl d_X12_draw_16 0 rfl ?_
      refine aw_geti (k0 := 0) kc_12 (ws_1 w) (Nat.le_of_ble_eq_true rfl) tw_1742 d_X12_draw_17 rfl ?_
      refine aw_sipush (v := 30000) d_X12_draw_20 is_30000 ?_
      refine aw_Si [.int x3, .int (h_i h 1 0), .int 30000] [] d_X12_draw_23 (cS_X12_in (d + 0) 0 0) tw_2143 rfl (rr0 (Nat.le_of_ble_eq_true rfl) (Nat.le_of_ble_eq_true rfl)) (Nat.le_of_ble_eq_true rfl) xs0 (s_X12_in _ _ x3 (h_i h 1 0) 30000) (fun _ _ kk => ?_)
      obtain ⟨e7, e8⟩ := kk
      rw [e7, e8]
      refine aw_ifb_eq (tgt := 64) d_X12_draw_26 rfl (fun c9 => ?_) (fun c9 => ?_)
      · have k := k.1 c9
        refine aw_iconst (v := 0) d_X12_draw_64 ic_0 ?_
        exact aw_zret rfl rfl d_X12_draw_65 ⟨Nat.le_refl _, Nat.le_refl _⟩ ⟨_, rfl, k⟩
      · have k := k.2 c9
        refine aw_aload_n (i := 0) rfl d_X12_draw_29 0 rfl ?_
        refine aw_aload_n (i := 0) rfl d_X12_draw_30 0 rfl ?_
        refine aw_getr (k0 := 10) kc_12 (ws_1 w) (Nat.le_of_ble_eq_true rfl) tw_1752 d_X12_draw_31 rfl (wr_1_10 w) ?_
        refine aw_iload_n (i := 1) rfl d_X12_draw_34 1 rfl ?_
        obtain ⟨b10, k⟩ := k
        refine aw_iald (ws_206 w) b10 d_X12_draw_35 ?_
        refine aw_iload_n (i := 2) rfl d_X12_draw_36 2 rfl ?_
        refine aw_Vi 1 [.int (h_i h 206 x1.toNatClampNeg), .int x2] [] d_X12_draw_37 (cV_X12_walkOf (d + 0) 0 0) kc_12 (ws_1 w) tw_2150 rfl (rr0 (Nat.le_of_ble_eq_true rfl) (Nat.le_of_ble_eq_true rfl)) (Nat.le_of_ble_eq_true rfl) xs0 k (fun r13 h11 kk => ?_)
        obtain ⟨w12, k⟩ := kk
        refine aw_iconst (v := (-1)) d_X12_draw_40 ic_m1 ?_
        refine aw_icmp_eq (tgt := 64) d_X12_draw_41 rfl (fun c14 => ?_) (fun c14 => ?_)
        · have k := k.1 c14
          refine aw_iconst (v := 0) d_X12_draw_64 ic_0 ?_
          exact aw_zret rfl rfl d_X12_draw_65 ⟨Nat.le_refl _, Nat.le_refl _⟩ ⟨_, rfl, k⟩
        · have k := k.2 c14
          refine aw_aload_n (i := 0) rfl d_X12_draw_44 0 rfl ?_
          refine aw_getr (k0 := 12) kc_12 (ws_1 w12) (Nat.le_of_ble_eq_true rfl) tw_1754 d_X12_draw_45 rfl (wr_1_12 w12) ?_
          refine aw_iload_n (i := 1) rfl d_X12_draw_48 1 rfl ?_
          obtain ⟨b15, k⟩ := k
          refine aw_iald (ws_208 w12) b15 d_X12_draw_49 ?_
          refine aw_iconst (v := 3) d_X12_draw_50 ic_3 ?_
          refine aw_icmp_eq (tgt := 64) d_X12_draw_51 rfl (fun c16 => ?_) (fun c16 => ?_)
          · have k := k.1 c16
            refine aw_iconst (v := 0) d_X12_draw_64 ic_0 ?_
            exact aw_zret rfl rfl d_X12_draw_65 ⟨Nat.le_refl _, Nat.le_refl _⟩ ⟨_, rfl, k⟩
          · have k := k.2 c16
            refine aw_aload_n (i := 0) rfl d_X12_draw_54 0 rfl ?_
            refine aw_getr (k0 := 12) kc_12 (ws_1 w12) (Nat.le_of_ble_eq_true rfl) tw_1754 d_X12_draw_55 rfl (wr_1_12 w12) ?_
            refine aw_iload_n (i := 1) rfl d_X12_draw_58 1 rfl ?_
            obtain ⟨b17, k⟩ := k
            refine aw_iald (ws_208 w12) b17 d_X12_draw_59 ?_
            refine aw_iconst (v := 4) d_X12_draw_60 ic_4 ?_
            refine aw_icmp_ne (tgt := 66) d_X12_draw_61 rfl (fun c18 => ?_) (fun c18 => ?_)
            · have k := k.1 c18
              refine aw_aload_n (i := 0) rfl d_X12_draw_66 0 rfl ?_
              refine aw_getr (k0 := 12) kc_12 (ws_1 w12) (Nat.le_of_ble_eq_true rfl) tw_1754 d_X12_draw_67 rfl (wr_1_12 w12) ?_
              refine aw_iload_n (i := 1) rfl d_X12_draw_70 1 rfl ?_
              obtain ⟨b19, k⟩ := k
              refine aw_iald (ws_208 w12) b19 d_X12_draw_71 ?_
              refine aw_iconst (v := 1) d_X12_draw_72 ic_1 ?_
              refine aw_icmp_ne (tgt := 82) d_X12_draw_73 rfl (fun c20 => ?_) (fun c20 => ?_)
              · have k := k.1 c20
                refine aw_aload_n (i := 0) rfl d_X12_draw_82 0 rfl ?_
                refine aw_getr (k0 := 17) kc_12 (ws_1 w12) (Nat.le_of_ble_eq_true rfl) tw_1759 d_X12_draw_83 rfl (wr_1_17 w12) ?_
                refine aw_iload_n (i := 1) rfl d_X12_draw_86 1 rfl ?_
                refine aw_iconst (v := (-1)) d_X12_draw_87 ic_m1 ?_
                obtain ⟨b21, k⟩ := k
                refine aw_iast (ws_213 w12) b21 d_X12_draw_88 ?_
                refine aw_aload_n (i := 0) rfl d_X12_draw_89 0 rfl ?_
                refine aw_getr (k0 := 12) kc_12 (ws_1 w12) (Nat.le_of_ble_eq_true rfl) tw_1754 d_X12_draw_90 rfl (wr_1_12 w12) ?_
                refine aw_iload_n (i := 1) rfl d_X12_draw_93 1 rfl ?_
                refine aw_iconst (v := 3) d_X12_draw_94 ic_3 ?_
                obtain ⟨b22, k⟩ := k
                refine aw_iast (ws_208 w12) b22 d_X12_draw_95 ?_
                refine aw_aload_n (i := 0) rfl d_X12_draw_96 0 rfl ?_
                refine aw_getr (k0 := 22) kc_12 (ws_1 w12) (Nat.le_of_ble_eq_true rfl) tw_1764 d_X12_draw_97 rfl (wr_1_22 w12) ?_
                refine aw_iload_n (i := 1) rfl d_X12_draw_100 1 rfl ?_
                refine aw_iload_n (i := 2) rfl d_X12_draw_101 2 rfl ?_
                obtain ⟨b23, k⟩ := k
                refine aw_iast (ws_218 w12) b23 d_X12_draw_102 ?_
                refine aw_aload_n (i := 0) rfl d_X12_draw_103 0 rfl ?_
                refine aw_getr (k0 := 23) kc_12 (ws_1 w12) (Nat.le_of_ble_eq_true rfl) tw_1765 d_X12_draw_104 rfl (wr_1_23 w12) ?_
                refine aw_iload_n (i := 1) rfl d_X12_draw_107 1 rfl ?_
                refine aw_iload_n (i := 3) rfl d_X12_draw_108 3 rfl ?_
                obtain ⟨b24, k⟩ := k
                refine aw_iast (ws_219 w12) b24 d_X12_draw_109 ?_
                refine aw_aload_n (i := 0) rfl d_X12_draw_110 0 rfl ?_
                refine aw_getr (k0 := 65) kc_12 (ws_1 w12) (Nat.le_of_ble_eq_true rfl) tw_1807 d_X12_draw_111 rfl (wr_1_65 w12) ?_
                refine aw_iload_n (i := 1) rfl d_X12_draw_114 1 rfl ?_
                refine aw_aload_n (i := 0) rfl d_X12_draw_115 0 rfl ?_
                refine aw_getr (k0 := 14) kc_12 (ws_1 w12) (Nat.le_of_ble_eq_true rfl) tw_1756 d_X12_draw_116 rfl (wr_1_14 w12) ?_
                refine aw_iload_n (i := 1) rfl d_X12_draw_119 1 rfl ?_
                obtain ⟨b25, k⟩ := k
                refine aw_iald (ws_210 w12) b25 d_X12_draw_120 ?_
                refine aw_vi (v2 := (h_i h11 210 x1.toNatClampNeg)) (rfl) ?_
                refine aw_iconst (v := (-1)) d_X12_draw_121 ic_m1 ?_
                refine aw_icmp_ne (tgt := 129) d_X12_draw_122 rfl (fun c26 => ?_) (fun c26 => ?_)
                · have k := k.1 c26
                  refine aw_iconst (v := 0) d_X12_draw_129 ic_0 ?_
                  obtain ⟨b27, k⟩ := k
                  refine aw_zast (ws_248 w12) b27 d_X12_draw_130 ?_
                  refine aw_aload_n (i := 0) rfl d_X12_draw_131 0 rfl ?_
                  refine aw_getr (k0 := 14) kc_12 (ws_1 w12) (Nat.le_of_ble_eq_true rfl) tw_1756 d_X12_draw_132 rfl (wr_1_14 w12) ?_
                  refine aw_iload_n (i := 1) rfl d_X12_draw_135 1 rfl ?_
                  obtain ⟨b28, k⟩ := k
                  refine aw_iald (ws_210 w12) b28 d_X12_draw_136 ?_
                  refine aw_vi (v2 := (h_i h11 210 x1.toNatClampNeg)) (rfl) ?_
                  refine aw_iconst (v := (-1)) d_X12_draw_137 ic_m1 ?_
                  refine aw_icmp_ne (tgt := 146) d_X12_draw_138 rfl (fun c29 => ?_) (fun c29 => ?_)
                  · have k := k.1 c29
                    refine aw_iconst (v := 1) d_X12_draw_146 ic_1 ?_
                    exact aw_zret rfl rfl d_X12_draw_147 ⟨Nat.le_refl _, Nat.le_refl _⟩ ⟨_, rfl, k⟩
                  · have k := k.2 c29
                    refine aw_aload_n (i := 0) rfl d_X12_draw_141 0 rfl ?_
                    refine aw_iload_n (i := 1) rfl d_X12_draw_142 1 rfl ?_
                    refine aw_Vv 1 [.int x1] [] d_X12_draw_143 (cV_X12_goDrawn (d + 4) 0 0) kc_12 (ws_1 w12) tw_2368 rfl (rr0 (Nat.le_of_ble_eq_true rfl) (Nat.le_of_ble_eq_true rfl)) (Nat.le_of_ble_eq_true rfl) xs0 k (fun h30 kk => ?_)
                    obtain ⟨w31, k⟩ := kk
                    refine aw_iconst (v := 1) d_X12_draw_146 ic_1 ?_
                    exact aw_zret rfl rfl d_X12_draw_147 ⟨Nat.le_refl _, Nat.le_refl _⟩ ⟨_, rfl, k⟩
                · have k := k.2 c26
                  refine aw_iconst (v := 1) d_X12_draw_125 ic_1 ?_
                  refine aw_goto (tgt := 130) d_X12_draw_126 rfl ?_
                  obtain ⟨b33, k⟩ := k
                  refine aw_zast (ws_248 w12) b33 d_X12_draw_130 ?_
                  refine aw_aload_n (i := 0) rfl d_X12_draw_131 0 rfl ?_
                  refine aw_getr (k0 := 14) kc_12 (ws_1 w12) (Nat.le_of_ble_eq_true rfl) tw_1756 d_X12_draw_132 rfl (wr_1_14 w12) ?_
                  refine aw_iload_n (i := 1) rfl d_X12_draw_135 1 rfl ?_
                  obtain ⟨b34, k⟩ := k
                  refine aw_iald (ws_210 w12) b34 d_X12_draw_136 ?_
                  refine aw_vi (v2 := (h_i h11 210 x1.toNatClampNeg)) (rfl) ?_
                  refine aw_iconst (v := (-1)) d_X12_draw_137 ic_m1 ?_
                  refine aw_icmp_ne (tgt := 146) d_X12_draw_138 rfl (fun c35 => ?_) (fun c35 => ?_)
                  · have k := k.1 c35
                    refine aw_iconst (v := 1) d_X12_draw_146 ic_1 ?_
                    exact aw_zret rfl rfl d_X12_draw_147 ⟨Nat.le_refl _, Nat.le_refl _⟩ ⟨_, rfl, k⟩
                  · have k := k.2 c35
                    refine aw_aload_n (i := 0) rfl d_X12_draw_141 0 rfl ?_
                    refine aw_iload_n (i := 1) rfl d_X12_draw_142 1 rfl ?_
                    refine aw_Vv 1 [.int x1] [] d_X12_draw_143 (cV_X12_goDrawn (d + 4) 0 0) kc_12 (ws_1 w12) tw_2368 rfl (rr0 (Nat.le_of_ble_eq_true rfl) (Nat.le_of_ble_eq_true rfl)) (Nat.le_of_ble_eq_true rfl) xs0 k (fun h36 kk => ?_)
                    obtain ⟨w37, k⟩ := kk
                    refine aw_iconst (v := 1) d_X12_draw_146 ic_1 ?_
                    exact aw_zret rfl rfl d_X12_draw_147 ⟨Nat.le_refl _, Nat.le_refl _⟩ ⟨_, rfl, k⟩
              · have k := k.2 c20
                refine aw_aload_n (i := 0) rfl d_X12_draw_76 0 rfl ?_
                refine aw_iload_n (i := 1) rfl d_X12_draw_77 1 rfl ?_
                refine aw_iconst (v := 3) d_X12_draw_78 ic_3 ?_
                refine aw_Vv 1 [.int x1, .int 3] [] d_X12_draw_79 (cV_X12_drop (d + 1) 0 0) kc_12 (ws_1 w12) tw_2364 rfl (rr0 (Nat.le_of_ble_eq_true rfl) (Nat.le_of_ble_eq_true rfl)) (Nat.le_of_ble_eq_true rfl) xs0 k (fun h39 kk => ?_)
                obtain ⟨w40, k⟩ := kk
                refine aw_aload_n (i := 0) rfl d_X12_draw_82 0 rfl ?_
                refine aw_getr (k0 := 17) kc_12 (ws_1 w40) (Nat.le_of_ble_eq_true rfl) tw_1759 d_X12_draw_83 rfl (wr_1_17 w40) ?_
                refine aw_iload_n (i := 1) rfl d_X12_draw_86 1 rfl ?_
                refine aw_iconst (v := (-1)) d_X12_draw_87 ic_m1 ?_
                obtain ⟨b42, k⟩ := k
                refine aw_iast (ws_213 w40) b42 d_X12_draw_88 ?_
                refine aw_aload_n (i := 0) rfl d_X12_draw_89 0 rfl ?_
                refine aw_getr (k0 := 12) kc_12 (ws_1 w40) (Nat.le_of_ble_eq_true rfl) tw_1754 d_X12_draw_90 rfl (wr_1_12 w40) ?_
                refine aw_iload_n (i := 1) rfl d_X12_draw_93 1 rfl ?_
                refine aw_iconst (v := 3) d_X12_draw_94 ic_3 ?_
                obtain ⟨b43, k⟩ := k
                refine aw_iast (ws_208 w40) b43 d_X12_draw_95 ?_
                refine aw_aload_n (i := 0) rfl d_X12_draw_96 0 rfl ?_
                refine aw_getr (k0 := 22) kc_12 (ws_1 w40) (Nat.le_of_ble_eq_true rfl) tw_1764 d_X12_draw_97 rfl (wr_1_22 w40) ?_
                refine aw_iload_n (i := 1) rfl d_X12_draw_100 1 rfl ?_
                refine aw_iload_n (i := 2) rfl d_X12_draw_101 2 rfl ?_
                obtain ⟨b44, k⟩ := k
                refine aw_iast (ws_218 w40) b44 d_X12_draw_102 ?_
                refine aw_aload_n (i := 0) rfl d_X12_draw_103 0 rfl ?_
                refine aw_getr (k0 := 23) kc_12 (ws_1 w40) (Nat.le_of_ble_eq_true rfl) tw_1765 d_X12_draw_104 rfl (wr_1_23 w40) ?_
                refine aw_iload_n (i := 1) rfl d_X12_draw_107 1 rfl ?_
                refine aw_iload_n (i := 3) rfl d_X12_draw_108 3 rfl ?_
                obtain ⟨b45, k⟩ := k
                refine aw_iast (ws_219 w40) b45 d_X12_draw_109 ?_
                refine aw_aload_n (i := 0) rfl d_X12_draw_110 0 rfl ?_
                refine aw_getr (k0 := 65) kc_12 (ws_1 w40) (Nat.le_of_ble_eq_true rfl) tw_1807 d_X12_draw_111 rfl (wr_1_65 w40) ?_
                refine aw_iload_n (i := 1) rfl d_X12_draw_114 1 rfl ?_
                refine aw_aload_n (i := 0) rfl d_X12_draw_115 0 rfl ?_
                refine aw_getr (k0 := 14) kc_12 (ws_1 w40) (Nat.le_of_ble_eq_true rfl) tw_1756 d_X12_draw_116 rfl (wr_1_14 w40) ?_
                refine aw_iload_n (i := 1) rfl d_X12_draw_119 1 rfl ?_
                obtain ⟨b46, k⟩ := k
                refine aw_iald (ws_210 w40) b46 d_X12_draw_120 ?_
                refine aw_vi (v2 := (h_i h39 210 x1.toNatClampNeg)) (rfl) ?_
                refine aw_iconst (v := (-1)) d_X12_draw_121 ic_m1 ?_
                refine aw_icmp_ne (tgt := 129) d_X12_draw_122 rfl (fun c47 => ?_) (fun c47 => ?_)
                · have k := k.1 c47
                  refine aw_iconst (v := 0) d_X12_draw_129 ic_0 ?_
                  obtain ⟨b48, k⟩ := k
                  refine aw_zast (ws_248 w40) b48 d_X12_draw_130 ?_
                  refine aw_aload_n (i := 0) rfl d_X12_draw_131 0 rfl ?_
                  refine aw_getr (k0 := 14) kc_12 (ws_1 w40) (Nat.le_of_ble_eq_true rfl) tw_1756 d_X12_draw_132 rfl (wr_1_14 w40) ?_
                  refine aw_iload_n (i := 1) rfl d_X12_draw_135 1 rfl ?_
                  obtain ⟨b49, k⟩ := k
                  refine aw_iald (ws_210 w40) b49 d_X12_draw_136 ?_
                  refine aw_vi (v2 := (h_i h39 210 x1.toNatClampNeg)) (rfl) ?_
                  refine aw_iconst (v := (-1)) d_X12_draw_137 ic_m1 ?_
                  refine aw_icmp_ne (tgt := 146) d_X12_draw_138 rfl (fun c50 => ?_) (fun c50 => ?_)
                  · have k := k.1 c50
                    refine aw_iconst (v := 1) d_X12_draw_146 ic_1 ?_
                    exact aw_zret rfl rfl d_X12_draw_147 ⟨Nat.le_refl _, Nat.le_refl _⟩ ⟨_, rfl, k⟩
                  · have k := k.2 c50
                    refine aw_aload_n (i := 0) rfl d_X12_draw_141 0 rfl ?_
                    refine aw_iload_n (i := 1) rfl d_X12_draw_142 1 rfl ?_
                    refine aw_Vv 1 [.int x1] [] d_X12_draw_143 (cV_X12_goDrawn (d + 4) 0 0) kc_12 (ws_1 w40) tw_2368 rfl (rr0 (Nat.le_of_ble_eq_true rfl) (Nat.le_of_ble_eq_true rfl)) (Nat.le_of_ble_eq_true rfl) xs0 k (fun h51 kk => ?_)
                    obtain ⟨w52, k⟩ := kk
                    refine aw_iconst (v := 1) d_X12_draw_146 ic_1 ?_
                    exact aw_zret rfl rfl d_X12_draw_147 ⟨Nat.le_refl _, Nat.le_refl _⟩ ⟨_, rfl, k⟩
                · have k := k.2 c47
                  refine aw_iconst (v := 1) d_X12_draw_125 ic_1 ?_
                  refine aw_goto (tgt := 130) d_X12_draw_126 rfl ?_
                  obtain ⟨b54, k⟩ := k
                  refine aw_zast (ws_248 w40) b54 d_X12_draw_130 ?_
                  refine aw_aload_n (i := 0) rfl d_X12_draw_131 0 rfl ?_
                  refine aw_getr (k0 := 14) kc_12 (ws_1 w40) (Nat.le_of_ble_eq_true rfl) tw_1756 d_X12_draw_132 rfl (wr_1_14 w40) ?_
                  refine aw_iload_n (i := 1) rfl d_X12_draw_135 1 rfl ?_
                  obtain ⟨b55, k⟩ := k
                  refine aw_iald (ws_210 w40) b55 d_X12_draw_136 ?_
                  refine aw_vi (v2 := (h_i h39 210 x1.toNatClampNeg)) (rfl) ?_
                  refine aw_iconst (v := (-1)) d_X12_draw_137 ic_m1 ?_
                  refine aw_icmp_ne (tgt := 146) d_X12_draw_138 rfl (fun c56 => ?_) (fun c56 => ?_)
                  · have k := k.1 c56
                    refine aw_iconst (v := 1) d_X12_draw_146 ic_1 ?_
                    exact aw_zret rfl rfl d_X12_draw_147 ⟨Nat.le_refl _, Nat.le_refl _⟩ ⟨_, rfl, k⟩
                  · have k := k.2 c56
                    refine aw_aload_n (i := 0) rfl d_X12_draw_141 0 rfl ?_
                    refine aw_iload_n (i := 1) rfl d_X12_draw_142 1 rfl ?_
                    refine aw_Vv 1 [.int x1] [] d_X12_draw_143 (cV_X12_goDrawn (d + 4) 0 0) kc_12 (ws_1 w40) tw_2368 rfl (rr0 (Nat.le_of_ble_eq_true rfl) (Nat.le_of_ble_eq_true rfl)) (Nat.le_of_ble_eq_true rfl) xs0 k (fun h57 kk => ?_)
                    obtain ⟨w58, k⟩ := kk
                    refine aw_iconst (v := 1) d_X12_draw_146 ic_1 ?_
                    exact aw_zret rfl rfl d_X12_draw_147 ⟨Nat.le_refl _, Nat.le_refl _⟩ ⟨_, rfl, k⟩
            · have k := k.2 c18
              refine aw_iconst (v := 0) d_X12_draw_64 ic_0 ?_
              exact aw_zret rfl rfl d_X12_draw_65 ⟨Nat.le_refl _, Nat.le_refl _⟩ ⟨_, rfl, k⟩
theorem t_X12_ill (d : Nat) (h : Hp_) (w : Wf h) (x1 : Int32) (x2 : Int32) (K : Int32 → Hp_ → Prop) (k : (¬ (0 ≤ x1 ∧ x1 ≤ (h_i h 1 7) - 1) → K 0 h) ∧ ((0 ≤ x1 ∧ x1 ≤ (h_i h 1 7) - 1) → vp_in x1 12 ∧ ((¬ (h_i h 208 x1.toNatClampNeg) = 4 → (¬ 0 = x2 → (¬ x2 = 0 → vp_in x1 12 ∧ ((¬ (h_i h 208 x1.toNatClampNeg) = 1 → vp_in x1 12 ∧ (vp_in x1 12 ∧ (vp_in x1 12 ∧ (vp_in x1 12 ∧ (vp_in x1 12 ∧ (vp_in x1 12 ∧ (K 1 (h_im (h_im (h_im (h_im (h_im h 208 x1.toNatClampNeg 4) 209 x1.toNatClampNeg (h_i h 206 x1.toNatClampNeg)) 210 x1.toNatClampNeg (-1)) 211 x1.toNatClampNeg (-1)) 213 x1.toNatClampNeg (-1))))))))) ∧ ((h_i h 208 x1.toNatClampNeg) = 1 → Cv (m_X12_drop (d + 1) 0 0) [.ref 1, .int x1, .int 4] h (fun h16 => Wf h16 ∧ (vp_in x1 12 ∧ (vp_in x1 12 ∧ (vp_in x1 12 ∧ (vp_in x1 12 ∧ (vp_in x1 12 ∧ (vp_in x1 12 ∧ (K 1 (h_im (h_im (h_im (h_im (h_im h16 208 x1.toNatClampNeg 4) 209 x1.toNatClampNeg (h_i h16 206 x1.toNatClampNeg)) 210 x1.toNatClampNeg (-1)) 211 x1.toNatClampNeg (-1)) 213 x1.toNatClampNeg (-1))))))))))))) ∧ (x2 = 0 → Cv (m_X12_free (d + 0) 0 0) [.ref 1, .int x1] h (fun h25 => Wf h25 ∧ (K 1 h25)))) ∧ (0 = x2 → K 0 h)) ∧ ((h_i h 208 x1.toNatClampNeg) = 4 → (¬ 1 = x2 → (¬ x2 = 0 → vp_in x1 12 ∧ ((¬ (h_i h 208 x1.toNatClampNeg) = 1 → vp_in x1 12 ∧ (vp_in x1 12 ∧ (vp_in x1 12 ∧ (vp_in x1 12 ∧ (vp_in x1 12 ∧ (vp_in x1 12 ∧ (K 1 (h_im (h_im (h_im (h_im (h_im h 208 x1.toNatClampNeg 4) 209 x1.toNatClampNeg (h_i h 206 x1.toNatClampNeg)) 210 x1.toNatClampNeg (-1)) 211 x1.toNatClampNeg (-1)) 213 x1.toNatClampNeg (-1))))))))) ∧ ((h_i h 208 x1.toNatClampNeg) = 1 → Cv (m_X12_drop (d + 1) 0 0) [.ref 1, .int x1, .int 4] h (fun h38 => Wf h38 ∧ (vp_in x1 12 ∧ (vp_in x1 12 ∧ (vp_in x1 12 ∧ (vp_in x1 12 ∧ (vp_in x1 12 ∧ (vp_in x1 12 ∧ (K 1 (h_im (h_im (h_im (h_im (h_im h38 208 x1.toNatClampNeg 4) 209 x1.toNatClampNeg (h_i h38 206 x1.toNatClampNeg)) 210 x1.toNatClampNeg (-1)) 211 x1.toNatClampNeg (-1)) 213 x1.toNatClampNeg (-1))))))))))))) ∧ (x2 = 0 → Cv (m_X12_free (d + 0) 0 0) [.ref 1, .int x1] h (fun h47 => Wf h47 ∧ (K 1 h47)))) ∧ (1 = x2 → K 0 h))))) : Ci (m_X12_ill (d + 2) 0 0) [.ref 1, .int x1, .int x2] h K := by
  refine Ct.of (fun _ _ _ => trivial) pn_X12 (Nat.le_of_ble_eq_true rfl) ?_
  show AW (m_X12_ill (d + 2) 0 0) 0 0 0 [(0, .ref 1), (1, .int x1), (2, .int x2)] [] h (kI K)
  refine aw_aload_n (i := 0) rfl d_X12_ill_0 0 rfl ?_
  refine aw_iload_n (i := 1) rfl d_X12_ill_1 1 rfl ?_
  refine aw_Vi 1 [.int x1] [] d_X12_ill_2 (cV_X12_isMan (d + 1) 0 0) kc_12 (ws_1 w) tw_2163 rfl (rr0 (Nat.le_of_ble_eq_true rfl) (Nat.le_of_ble_eq_true rfl)) (Nat.le_of_ble_eq_true rfl) xs0 (s_X12_isMan _ _ w x1) (fun _ _ kk => ?_)
  obtain ⟨e1, e2⟩ := kk
  rw [e1, e2]
  refine aw_ifb_eq (tgt := 27) d_X12_ill_5 rfl (fun c3 => ?_) (fun c3 => ?_)
  · have k := k.1 c3
    refine aw_iconst (v := 0) d_X12_ill_27 ic_0 ?_
    exact aw_zret rfl rfl d_X12_ill_28 ⟨Nat.le_refl _, Nat.le_refl _⟩ ⟨_, rfl, k⟩
  · have k := k.2 c3
    refine aw_aload_n (i := 0) rfl d_X12_ill_8 0 rfl ?_
    refine aw_getr (k0 := 12) kc_12 (ws_1 w) (Nat.le_of_ble_eq_true rfl) tw_1754 d_X12_ill_9 rfl (wr_1_12 w) ?_
    refine aw_iload_n (i := 1) rfl d_X12_ill_12 1 rfl ?_
    obtain ⟨b4, k⟩ := k
    refine aw_iald (ws_208 w) b4 d_X12_ill_13 ?_
    refine aw_iconst (v := 4) d_X12_ill_14 ic_4 ?_
    refine aw_icmp_ne (tgt := 22) d_X12_ill_15 rfl (fun c5 => ?_) (fun c5 => ?_)
    · have k := k.1 c5
      refine aw_iconst (v := 0) d_X12_ill_22 ic_0 ?_
      refine aw_iload_n (i := 2) rfl d_X12_ill_23 2 rfl ?_
      refine aw_icmp_ne (tgt := 29) d_X12_ill_24 rfl (fun c6 => ?_) (fun c6 => ?_)
      · have k := k.1 c6
        refine aw_iload_n (i := 2) rfl d_X12_ill_29 2 rfl ?_
        refine aw_if_ne (tgt := 40) d_X12_ill_30 rfl (fun c7 => ?_) (fun c7 => ?_)
        · have k := k.1 c7
          refine aw_aload_n (i := 0) rfl d_X12_ill_40 0 rfl ?_
          refine aw_getr (k0 := 12) kc_12 (ws_1 w) (Nat.le_of_ble_eq_true rfl) tw_1754 d_X12_ill_41 rfl (wr_1_12 w) ?_
          refine aw_iload_n (i := 1) rfl d_X12_ill_44 1 rfl ?_
          obtain ⟨b8, k⟩ := k
          refine aw_iald (ws_208 w) b8 d_X12_ill_45 ?_
          refine aw_iconst (v := 1) d_X12_ill_46 ic_1 ?_
          refine aw_icmp_ne (tgt := 56) d_X12_ill_47 rfl (fun c9 => ?_) (fun c9 => ?_)
          · have k := k.1 c9
            refine aw_aload_n (i := 0) rfl d_X12_ill_56 0 rfl ?_
            refine aw_getr (k0 := 12) kc_12 (ws_1 w) (Nat.le_of_ble_eq_true rfl) tw_1754 d_X12_ill_57 rfl (wr_1_12 w) ?_
            refine aw_iload_n (i := 1) rfl d_X12_ill_60 1 rfl ?_
            refine aw_iconst (v := 4) d_X12_ill_61 ic_4 ?_
            obtain ⟨b10, k⟩ := k
            refine aw_iast (ws_208 w) b10 d_X12_ill_62 ?_
            refine aw_aload_n (i := 0) rfl d_X12_ill_63 0 rfl ?_
            refine aw_getr (k0 := 13) kc_12 (ws_1 w) (Nat.le_of_ble_eq_true rfl) tw_1755 d_X12_ill_64 rfl (wr_1_13 w) ?_
            refine aw_iload_n (i := 1) rfl d_X12_ill_67 1 rfl ?_
            refine aw_aload_n (i := 0) rfl d_X12_ill_68 0 rfl ?_
            refine aw_getr (k0 := 10) kc_12 (ws_1 w) (Nat.le_of_ble_eq_true rfl) tw_1752 d_X12_ill_69 rfl (wr_1_10 w) ?_
            refine aw_iload_n (i := 1) rfl d_X12_ill_72 1 rfl ?_
            obtain ⟨b11, k⟩ := k
            refine aw_iald (ws_206 w) b11 d_X12_ill_73 ?_
            refine aw_vi (v2 := (h_i h 206 x1.toNatClampNeg)) (rfl) ?_
            obtain ⟨b12, k⟩ := k
            refine aw_iast (ws_209 w) b12 d_X12_ill_74 ?_
            refine aw_aload_n (i := 0) rfl d_X12_ill_75 0 rfl ?_
            refine aw_getr (k0 := 14) kc_12 (ws_1 w) (Nat.le_of_ble_eq_true rfl) tw_1756 d_X12_ill_76 rfl (wr_1_14 w) ?_
            refine aw_iload_n (i := 1) rfl d_X12_ill_79 1 rfl ?_
            refine aw_iconst (v := (-1)) d_X12_ill_80 ic_m1 ?_
            obtain ⟨b13, k⟩ := k
            refine aw_iast (ws_210 w) b13 d_X12_ill_81 ?_
            refine aw_aload_n (i := 0) rfl d_X12_ill_82 0 rfl ?_
            refine aw_getr (k0 := 15) kc_12 (ws_1 w) (Nat.le_of_ble_eq_true rfl) tw_1757 d_X12_ill_83 rfl (wr_1_15 w) ?_
            refine aw_iload_n (i := 1) rfl d_X12_ill_86 1 rfl ?_
            refine aw_iconst (v := (-1)) d_X12_ill_87 ic_m1 ?_
            obtain ⟨b14, k⟩ := k
            refine aw_iast (ws_211 w) b14 d_X12_ill_88 ?_
            refine aw_aload_n (i := 0) rfl d_X12_ill_89 0 rfl ?_
            refine aw_getr (k0 := 17) kc_12 (ws_1 w) (Nat.le_of_ble_eq_true rfl) tw_1759 d_X12_ill_90 rfl (wr_1_17 w) ?_
            refine aw_iload_n (i := 1) rfl d_X12_ill_93 1 rfl ?_
            refine aw_iconst (v := (-1)) d_X12_ill_94 ic_m1 ?_
            obtain ⟨b15, k⟩ := k
            refine aw_iast (ws_213 w) b15 d_X12_ill_95 ?_
            refine aw_iconst (v := 1) d_X12_ill_96 ic_1 ?_
            exact aw_zret rfl rfl d_X12_ill_97 ⟨Nat.le_refl _, Nat.le_refl _⟩ ⟨_, rfl, k⟩
          · have k := k.2 c9
            refine aw_aload_n (i := 0) rfl d_X12_ill_50 0 rfl ?_
            refine aw_iload_n (i := 1) rfl d_X12_ill_51 1 rfl ?_
            refine aw_iconst (v := 4) d_X12_ill_52 ic_4 ?_
            refine aw_Vv 1 [.int x1, .int 4] [] d_X12_ill_53 (cV_X12_drop (d + 1) 0 0) kc_12 (ws_1 w) tw_2364 rfl (rr0 (Nat.le_of_ble_eq_true rfl) (Nat.le_of_ble_eq_true rfl)) (Nat.le_of_ble_eq_true rfl) xs0 k (fun h16 kk => ?_)
            obtain ⟨w17, k⟩ := kk
            refine aw_aload_n (i := 0) rfl d_X12_ill_56 0 rfl ?_
            refine aw_getr (k0 := 12) kc_12 (ws_1 w17) (Nat.le_of_ble_eq_true rfl) tw_1754 d_X12_ill_57 rfl (wr_1_12 w17) ?_
            refine aw_iload_n (i := 1) rfl d_X12_ill_60 1 rfl ?_
            refine aw_iconst (v := 4) d_X12_ill_61 ic_4 ?_
            obtain ⟨b19, k⟩ := k
            refine aw_iast (ws_208 w17) b19 d_X12_ill_62 ?_
            refine aw_aload_n (i := 0) rfl d_X12_ill_63 0 rfl ?_
            refine aw_getr (k0 := 13) kc_12 (ws_1 w17) (Nat.le_of_ble_eq_true rfl) tw_1755 d_X12_ill_64 rfl (wr_1_13 w17) ?_
            refine aw_iload_n (i := 1) rfl d_X12_ill_67 1 rfl ?_
            refine aw_aload_n (i := 0) rfl d_X12_ill_68 0 rfl ?_
            refine aw_getr (k0 := 10) kc_12 (ws_1 w17) (Nat.le_of_ble_eq_true rfl) tw_1752 d_X12_ill_69 rfl (wr_1_10 w17) ?_
            refine aw_iload_n (i := 1) rfl d_X12_ill_72 1 rfl ?_
            obtain ⟨b20, k⟩ := k
            refine aw_iald (ws_206 w17) b20 d_X12_ill_73 ?_
            refine aw_vi (v2 := (h_i h16 206 x1.toNatClampNeg)) (rfl) ?_
            obtain ⟨b21, k⟩ := k
            refine aw_iast (ws_209 w17) b21 d_X12_ill_74 ?_
            refine aw_aload_n (i := 0) rfl d_X12_ill_75 0 rfl ?_
            refine aw_getr (k0 := 14) kc_12 (ws_1 w17) (Nat.le_of_ble_eq_true rfl) tw_1756 d_X12_ill_76 rfl (wr_1_14 w17) ?_
            refine aw_iload_n (i := 1) rfl d_X12_ill_79 1 rfl ?_
            refine aw_iconst (v := (-1)) d_X12_ill_80 ic_m1 ?_
            obtain ⟨b22, k⟩ := k
            refine aw_iast (ws_210 w17) b22 d_X12_ill_81 ?_
            refine aw_aload_n (i := 0) rfl d_X12_ill_82 0 rfl ?_
            refine aw_getr (k0 := 15) kc_12 (ws_1 w17) (Nat.le_of_ble_eq_true rfl) tw_1757 d_X12_ill_83 rfl (wr_1_15 w17) ?_
            refine aw_iload_n (i := 1) rfl d_X12_ill_86 1 rfl ?_
            refine aw_iconst (v := (-1)) d_X12_ill_87 ic_m1 ?_
            obtain ⟨b23, k⟩ := k
            refine aw_iast (ws_211 w17) b23 d_X12_ill_88 ?_
            refine aw_aload_n (i := 0) rfl d_X12_ill_89 0 rfl ?_
            refine aw_getr (k0 := 17) kc_12 (ws_1 w17) (Nat.le_of_ble_eq_true rfl) tw_1759 d_X12_ill_90 rfl (wr_1_17 w17) ?_
            refine aw_iload_n (i := 1) rfl d_X12_ill_93 1 rfl ?_
            refine aw_iconst (v := (-1)) d_X12_ill_94 ic_m1 ?_
            obtain ⟨b24, k⟩ := k
            refine aw_iast (ws_213 w17) b24 d_X12_ill_95 ?_
            refine aw_iconst (v := 1) d_X12_ill_96 ic_1 ?_
            exact aw_zret rfl rfl d_X12_ill_97 ⟨Nat.le_refl _, Nat.le_refl _⟩ ⟨_, rfl, k⟩
        · have k := k.2 c7
          refine aw_aload_n (i := 0) rfl d_X12_ill_33 0 rfl ?_
          refine aw_iload_n (i := 1) rfl d_X12_ill_34 1 rfl ?_
          refine aw_Vv 1 [.int x1] [] d_X12_ill_35 (cV_X12_free (d + 0) 0 0) kc_12 (ws_1 w) tw_2344 rfl (rr0 (Nat.le_of_ble_eq_true rfl) (Nat.le_of_ble_eq_true rfl)) (Nat.le_of_ble_eq_true rfl) xs0 k (fun h25 kk => ?_)
          obtain ⟨w26, k⟩ := kk
          refine aw_iconst (v := 1) d_X12_ill_38 ic_1 ?_
          exact aw_zret rfl rfl d_X12_ill_39 ⟨Nat.le_refl _, Nat.le_refl _⟩ ⟨_, rfl, k⟩
      · have k := k.2 c6
        refine aw_iconst (v := 0) d_X12_ill_27 ic_0 ?_
        exact aw_zret rfl rfl d_X12_ill_28 ⟨Nat.le_refl _, Nat.le_refl _⟩ ⟨_, rfl, k⟩
    · have k := k.2 c5
      refine aw_iconst (v := 1) d_X12_ill_18 ic_1 ?_
      refine aw_goto (tgt := 23) d_X12_ill_19 rfl ?_
      refine aw_iload_n (i := 2) rfl d_X12_ill_23 2 rfl ?_
      refine aw_icmp_ne (tgt := 29) d_X12_ill_24 rfl (fun c28 => ?_) (fun c28 => ?_)
      · have k := k.1 c28
        refine aw_iload_n (i := 2) rfl d_X12_ill_29 2 rfl ?_
        refine aw_if_ne (tgt := 40) d_X12_ill_30 rfl (fun c29 => ?_) (fun c29 => ?_)
        · have k := k.1 c29
          refine aw_aload_n (i := 0) rfl d_X12_ill_40 0 rfl ?_
          refine aw_getr (k0 := 12) kc_12 (ws_1 w) (Nat.le_of_ble_eq_true rfl) tw_1754 d_X12_ill_41 rfl (wr_1_12 w) ?_
          refine aw_iload_n (i := 1) rfl d_X12_ill_44 1 rfl ?_
          obtain ⟨b30, k⟩ := k
          refine aw_iald (ws_208 w) b30 d_X12_ill_45 ?_
          refine aw_iconst (v := 1) d_X12_ill_46 ic_1 ?_
          refine aw_icmp_ne (tgt := 56) d_X12_ill_47 rfl (fun c31 => ?_) (fun c31 => ?_)
          · have k := k.1 c31
            refine aw_aload_n (i := 0) rfl d_X12_ill_56 0 rfl ?_
            refine aw_getr (k0 := 12) kc_12 (ws_1 w) (Nat.le_of_ble_eq_true rfl) tw_1754 d_X12_ill_57 rfl (wr_1_12 w) ?_
            refine aw_iload_n (i := 1) rfl d_X12_ill_60 1 rfl ?_
            refine aw_iconst (v := 4) d_X12_ill_61 ic_4 ?_
            obtain ⟨b32, k⟩ := k
            refine aw_iast (ws_208 w) b32 d_X12_ill_62 ?_
            refine aw_aload_n (i := 0) rfl d_X12_ill_63 0 rfl ?_
            refine aw_getr (k0 := 13) kc_12 (ws_1 w) (Nat.le_of_ble_eq_true rfl) tw_1755 d_X12_ill_64 rfl (wr_1_13 w) ?_
            refine aw_iload_n (i := 1) rfl d_X12_ill_67 1 rfl ?_
            refine aw_aload_n (i := 0) rfl d_X12_ill_68 0 rfl ?_
            refine aw_getr (k0 := 10) kc_12 (ws_1 w) (Nat.le_of_ble_eq_true rfl) tw_1752 d_X12_ill_69 rfl (wr_1_10 w) ?_
            refine aw_iload_n (i := 1) rfl d_X12_ill_72 1 rfl ?_
            obtain ⟨b33, k⟩ := k
            refine aw_iald (ws_206 w) b33 d_X12_ill_73 ?_
            refine aw_vi (v2 := (h_i h 206 x1.toNatClampNeg)) (rfl) ?_
            obtain ⟨b34, k⟩ := k
            refine aw_iast (ws_209 w) b34 d_X12_ill_74 ?_
            refine aw_aload_n (i := 0) rfl d_X12_ill_75 0 rfl ?_
            refine aw_getr (k0 := 14) kc_12 (ws_1 w) (Nat.le_of_ble_eq_true rfl) tw_1756 d_X12_ill_76 rfl (wr_1_14 w) ?_
            refine aw_iload_n (i := 1) rfl d_X12_ill_79 1 rfl ?_
            refine aw_iconst (v := (-1)) d_X12_ill_80 ic_m1 ?_
            obtain ⟨b35, k⟩ := k
            refine aw_iast (ws_210 w) b35 d_X12_ill_81 ?_
            refine aw_aload_n (i := 0) rfl d_X12_ill_82 0 rfl ?_
            refine aw_getr (k0 := 15) kc_12 (ws_1 w) (Nat.le_of_ble_eq_true rfl) tw_1757 d_X12_ill_83 rfl (wr_1_15 w) ?_
            refine aw_iload_n (i := 1) rfl d_X12_ill_86 1 rfl ?_
            refine aw_iconst (v := (-1)) d_X12_ill_87 ic_m1 ?_
            obtain ⟨b36, k⟩ := k
            refine aw_iast (ws_211 w) b36 d_X12_ill_88 ?_
            refine aw_aload_n (i := 0) rfl d_X12_ill_89 0 rfl ?_
            refine aw_getr (k0 := 17) kc_12 (ws_1 w) (Nat.le_of_ble_eq_true rfl) tw_1759 d_X12_ill_90 rfl (wr_1_17 w) ?_
            refine aw_iload_n (i := 1) rfl d_X12_ill_93 1 rfl ?_
            refine aw_iconst (v := (-1)) d_X12_ill_94 ic_m1 ?_
            obtain ⟨b37, k⟩ := k
            refine aw_iast (ws_213 w) b37 d_X12_ill_95 ?_
            refine aw_iconst (v := 1) d_X12_ill_96 ic_1 ?_
            exact aw_zret rfl rfl d_X12_ill_97 ⟨Nat.le_refl _, Nat.le_refl _⟩ ⟨_, rfl, k⟩
          · have k := k.2 c31
            refine aw_aload_n (i := 0) rfl d_X12_ill_50 0 rfl ?_
            refine aw_iload_n (i := 1) rfl d_X12_ill_51 1 rfl ?_
            refine aw_iconst (v := 4) d_X12_ill_52 ic_4 ?_
            refine aw_Vv 1 [.int x1, .int 4] [] d_X12_ill_53 (cV_X12_drop (d + 1) 0 0) kc_12 (ws_1 w) tw_2364 rfl (rr0 (Nat.le_of_ble_eq_true rfl) (Nat.le_of_ble_eq_true rfl)) (Nat.le_of_ble_eq_true rfl) xs0 k (fun h38 kk => ?_)
            obtain ⟨w39, k⟩ := kk
            refine aw_aload_n (i := 0) rfl d_X12_ill_56 0 rfl ?_
            refine aw_getr (k0 := 12) kc_12 (ws_1 w39) (Nat.le_of_ble_eq_true rfl) tw_1754 d_X12_ill_57 rfl (wr_1_12 w39) ?_
            refine aw_iload_n (i := 1) rfl d_X12_ill_60 1 rfl ?_
            refine aw_iconst (v := 4) d_X12_ill_61 ic_4 ?_
            obtain ⟨b41, k⟩ := k
            refine aw_iast (ws_208 w39) b41 d_X12_ill_62 ?_
            refine aw_aload_n (i := 0) rfl d_X12_ill_63 0 rfl ?_
            refine aw_getr (k0 := 13) kc_12 (ws_1 w39) (Nat.le_of_ble_eq_true rfl) tw_1755 d_X12_ill_64 rfl (wr_1_13 w39) ?_
            refine aw_iload_n (i := 1) rfl d_X12_ill_67 1 rfl ?_
            refine aw_aload_n (i := 0) rfl d_X12_ill_68 0 rfl ?_
            refine aw_getr (k0 := 10) kc_12 (ws_1 w39) (Nat.le_of_ble_eq_true rfl) tw_1752 d_X12_ill_69 rfl (wr_1_10 w39) ?_
            refine aw_iload_n (i := 1) rfl d_X12_ill_72 1 rfl ?_
            obtain ⟨b42, k⟩ := k
            refine aw_iald (ws_206 w39) b42 d_X12_ill_73 ?_
            refine aw_vi (v2 := (h_i h38 206 x1.toNatClampNeg)) (rfl) ?_
            obtain ⟨b43, k⟩ := k
            refine aw_iast (ws_209 w39) b43 d_X12_ill_74 ?_
            refine aw_aload_n (i := 0) rfl d_X12_ill_75 0 rfl ?_
            refine aw_getr (k0 := 14) kc_12 (ws_1 w39) (Nat.le_of_ble_eq_true rfl) tw_1756 d_X12_ill_76 rfl (wr_1_14 w39) ?_
            refine aw_iload_n (i := 1) rfl d_X12_ill_79 1 rfl ?_
            refine aw_iconst (v := (-1)) d_X12_ill_80 ic_m1 ?_
            obtain ⟨b44, k⟩ := k
            refine aw_iast (ws_210 w39) b44 d_X12_ill_81 ?_
            refine aw_aload_n (i := 0) rfl d_X12_ill_82 0 rfl ?_
            refine aw_getr (k0 := 15) kc_12 (ws_1 w39) (Nat.le_of_ble_eq_true rfl) tw_1757 d_X12_ill_83 rfl (wr_1_15 w39) ?_
            refine aw_iload_n (i := 1) rfl d_X12_ill_86 1 rfl ?_
            refine aw_iconst (v := (-1)) d_X12_ill_87 ic_m1 ?_
            obtain ⟨b45, k⟩ := k
            refine aw_iast (ws_211 w39) b45 d_X12_ill_88 ?_
            refine aw_aload_n (i := 0) rfl d_X12_ill_89 0 rfl ?_
            refine aw_getr (k0 := 17) kc_12 (ws_1 w39) (Nat.le_of_ble_eq_true rfl) tw_1759 d_X12_ill_90 rfl (wr_1_17 w39) ?_
            refine aw_iload_n (i := 1) rfl d_X12_ill_93 1 rfl ?_
            refine aw_iconst (v := (-1)) d_X12_ill_94 ic_m1 ?_
            obtain ⟨b46, k⟩ := k
            refine aw_iast (ws_213 w39) b46 d_X12_ill_95 ?_
            refine aw_iconst (v := 1) d_X12_ill_96 ic_1 ?_
            exact aw_zret rfl rfl d_X12_ill_97 ⟨Nat.le_refl _, Nat.le_refl _⟩ ⟨_, rfl, k⟩
        · have k := k.2 c29
          refine aw_aload_n (i := 0) rfl d_X12_ill_33 0 rfl ?_
          refine aw_iload_n (i := 1) rfl d_X12_ill_34 1 rfl ?_
          refine aw_Vv 1 [.int x1] [] d_X12_ill_35 (cV_X12_free (d + 0) 0 0) kc_12 (ws_1 w) tw_2344 rfl (rr0 (Nat.le_of_ble_eq_true rfl) (Nat.le_of_ble_eq_true rfl)) (Nat.le_of_ble_eq_true rfl) xs0 k (fun h47 kk => ?_)
          obtain ⟨w48, k⟩ := kk
          refine aw_iconst (v := 1) d_X12_ill_38 ic_1 ?_
          exact aw_zret rfl rfl d_X12_ill_39 ⟨Nat.le_refl _, Nat.le_refl _⟩ ⟨_, rfl, k⟩
      · have k := k.2 c28
        refine aw_iconst (v := 0) d_X12_ill_27 ic_0 ?_
        exact aw_zret rfl rfl d_X12_ill_28 ⟨Nat.le_refl _, Nat.le_refl _⟩ ⟨_, rfl, k⟩
theorem t_X12_constable (d : Nat) (h : Hp_) (w : Wf h) (x1 : Int32) (x2 : Int32) (x3 : Int32) (K : Int32 → Hp_ → Prop) (k : (¬ (1 ≤ x1 ∧ x1 ≤ 4) → K (-1) h) ∧ ((1 ≤ x1 ∧ x1 ≤ 4) → (¬ (0 ≤ x2 ∧ x2 ≤ 40) → K (-1) h) ∧ ((0 ≤ x2 ∧ x2 ≤ 40) → (¬ (0 ≤ x3 ∧ x3 ≤ 15) → K (-1) h) ∧ ((0 ≤ x3 ∧ x3 ≤ 15) → (¬ (h_i h 1 7) = 12 → vp_in (h_i h 1 7) 12 ∧ (vp_in (h_i h 1 7) 12 ∧ (vp_in (h_i h 1 7) 12 ∧ (vp_in (h_i h 1 7) 12 ∧ (vp_in (h_i h 1 7) 12 ∧ (vp_in (h_i h 1 7) 12 ∧ (vp_in (h_i h 1 7) 12 ∧ (vp_in (h_i h 1 7) 12 ∧ (vp_in (h_i h 1 7) 12 ∧ (vp_in (h_i h 1 7) 12 ∧ (vp_in (h_i h 1 7) 12 ∧ (vp_in (h_i h 1 7) 12 ∧ (K (((h_i h 1 7) + 1) - 1) (h_im (h_im (h_im (h_im (h_im (h_im (h_im (h_im (h_im (h_im (h_im (h_im (h_im h 204 ((h_i h 1 7) : Int32).toNatClampNeg x1) 205 ((h_i h 1 7) : Int32).toNatClampNeg x2) 206 ((h_i h 1 7) : Int32).toNatClampNeg x3) 207 ((h_i h 1 7) : Int32).toNatClampNeg (h_i h 1 0)) 208 ((h_i h 1 7) : Int32).toNatClampNeg 0) 209 ((h_i h 1 7) : Int32).toNatClampNeg x3) 210 ((h_i h 1 7) : Int32).toNatClampNeg (-1)) 211 ((h_i h 1 7) : Int32).toNatClampNeg (-1)) 213 ((h_i h 1 7) : Int32).toNatClampNeg (-1)) 215 ((h_i h 1 7) : Int32).toNatClampNeg 0) 216 ((h_i h 1 7) : Int32).toNatClampNeg 0) 217 ((h_i h 1 7) : Int32).toNatClampNeg 0) 1 7 ((h_i h 1 7) + 1))))))))))))))) ∧ ((h_i h 1 7) = 12 → K (-1) h))))) : Ci (m_X12_constable (d + 2) 0 0) [.ref 1, .int x1, .int x2, .int x3] h K := by
  refine Ct.of (fun _ _ _ => trivial) pn_X12 (Nat.le_of_ble_eq_true rfl) ?_
  show AW (m_X12_constable (d + 2) 0 0) 0 0 0 [(0, .ref 1), (1, .int x1), (2, .int x2), (3, .int x3)] [] h (kI K)
  refine aw_iload_n (i := 1) rfl d_X12_constable_0 1 rfl ?_
  refine aw_iconst (v := 1) d_X12_constable_1 ic_1 ?_
  refine aw_iconst (v := 4) d_X12_constable_2 ic_4 ?_
  refine aw_Si [.int x1, .int 1, .int 4] [] d_X12_constable_3 (cS_X12_in (d + 0) 0 0) tw_2143 rfl (rr0 (Nat.le_of_ble_eq_true rfl) (Nat.le_of_ble_eq_true rfl)) (Nat.le_of_ble_eq_true rfl) xs0 (s_X12_in _ _ x1 1 4) (fun _ _ kk => ?_)
  obtain ⟨e1, e2⟩ := kk
  rw [e1, e2]
  refine aw_ifb_eq (tgt := 35) d_X12_constable_6 rfl (fun c3 => ?_) (fun c3 => ?_)
  · have k := k.1 c3
    refine aw_iconst (v := (-1)) d_X12_constable_35 ic_m1 ?_
    exact aw_iret rfl d_X12_constable_36 ⟨Nat.le_refl _, Nat.le_refl _⟩ ⟨_, rfl, k⟩
  · have k := k.2 c3
    refine aw_iload_n (i := 2) rfl d_X12_constable_9 2 rfl ?_
    refine aw_iconst (v := 0) d_X12_constable_10 ic_0 ?_
    refine aw_bipush (v := 40) d_X12_constable_11 ib_40 ?_
    refine aw_Si [.int x2, .int 0, .int 40] [] d_X12_constable_13 (cS_X12_in (d + 0) 0 0) tw_2143 rfl (rr0 (Nat.le_of_ble_eq_true rfl) (Nat.le_of_ble_eq_true rfl)) (Nat.le_of_ble_eq_true rfl) xs0 (s_X12_in _ _ x2 0 40) (fun _ _ kk => ?_)
    obtain ⟨e4, e5⟩ := kk
    rw [e4, e5]
    refine aw_ifb_eq (tgt := 35) d_X12_constable_16 rfl (fun c6 => ?_) (fun c6 => ?_)
    · have k := k.1 c6
      refine aw_iconst (v := (-1)) d_X12_constable_35 ic_m1 ?_
      exact aw_iret rfl d_X12_constable_36 ⟨Nat.le_refl _, Nat.le_refl _⟩ ⟨_, rfl, k⟩
    · have k := k.2 c6
      refine aw_iload_n (i := 3) rfl d_X12_constable_19 3 rfl ?_
      refine aw_Si [.int x3] [] d_X12_constable_20 (cS_X12_isPlace (d + 1) 0 0) tw_2140 rfl (rr0 (Nat.le_of_ble_eq_true rfl) (Nat.le_of_ble_eq_true rfl)) (Nat.le_of_ble_eq_true rfl) xs0 (s_X12_isPlace _ _ x3) (fun _ _ kk => ?_)
      obtain ⟨e7, e8⟩ := kk
      rw [e7, e8]
      refine aw_ifb_eq (tgt := 35) d_X12_constable_23 rfl (fun c9 => ?_) (fun c9 => ?_)
      · have k := k.1 c9
        refine aw_iconst (v := (-1)) d_X12_constable_35 ic_m1 ?_
        exact aw_iret rfl d_X12_constable_36 ⟨Nat.le_refl _, Nat.le_refl _⟩ ⟨_, rfl, k⟩
      · have k := k.2 c9
        refine aw_aload_n (i := 0) rfl d_X12_constable_26 0 rfl ?_
        refine aw_geti (k0 := 7) kc_12 (ws_1 w) (Nat.le_of_ble_eq_true rfl) tw_1749 d_X12_constable_27 rfl ?_
        refine aw_bipush (v := 12) d_X12_constable_30 ib_12 ?_
        refine aw_icmp_ne (tgt := 37) d_X12_constable_32 rfl (fun c10 => ?_) (fun c10 => ?_)
        · have k := k.1 c10
          refine aw_aload_n (i := 0) rfl d_X12_constable_37 0 rfl ?_
          refine aw_getr (k0 := 8) kc_12 (ws_1 w) (Nat.le_of_ble_eq_true rfl) tw_1750 d_X12_constable_38 rfl (wr_1_8 w) ?_
          refine aw_aload_n (i := 0) rfl d_X12_constable_41 0 rfl ?_
          refine aw_geti (k0 := 7) kc_12 (ws_1 w) (Nat.le_of_ble_eq_true rfl) tw_1749 d_X12_constable_42 rfl ?_
          refine aw_iload_n (i := 1) rfl d_X12_constable_45 1 rfl ?_
          obtain ⟨b11, k⟩ := k
          refine aw_iast (ws_204 w) b11 d_X12_constable_46 ?_
          refine aw_aload_n (i := 0) rfl d_X12_constable_47 0 rfl ?_
          refine aw_getr (k0 := 9) kc_12 (ws_1 w) (Nat.le_of_ble_eq_true rfl) tw_1751 d_X12_constable_48 rfl (wr_1_9 w) ?_
          refine aw_aload_n (i := 0) rfl d_X12_constable_51 0 rfl ?_
          refine aw_geti (k0 := 7) kc_12 (ws_1 w) (Nat.le_of_ble_eq_true rfl) tw_1749 d_X12_constable_52 rfl ?_
          refine aw_vi (v2 := (h_i h 1 7)) (rfl) ?_
          refine aw_iload_n (i := 2) rfl d_X12_constable_55 2 rfl ?_
          obtain ⟨b12, k⟩ := k
          refine aw_iast (ws_205 w) b12 d_X12_constable_56 ?_
          refine aw_aload_n (i := 0) rfl d_X12_constable_57 0 rfl ?_
          refine aw_getr (k0 := 10) kc_12 (ws_1 w) (Nat.le_of_ble_eq_true rfl) tw_1752 d_X12_constable_58 rfl (wr_1_10 w) ?_
          refine aw_aload_n (i := 0) rfl d_X12_constable_61 0 rfl ?_
          refine aw_geti (k0 := 7) kc_12 (ws_1 w) (Nat.le_of_ble_eq_true rfl) tw_1749 d_X12_constable_62 rfl ?_
          refine aw_vi (v2 := (h_i h 1 7)) (rfl) ?_
          refine aw_iload_n (i := 3) rfl d_X12_constable_65 3 rfl ?_
          obtain ⟨b13, k⟩ := k
          refine aw_iast (ws_206 w) b13 d_X12_constable_66 ?_
          refine aw_aload_n (i := 0) rfl d_X12_constable_67 0 rfl ?_
          refine aw_getr (k0 := 11) kc_12 (ws_1 w) (Nat.le_of_ble_eq_true rfl) tw_1753 d_X12_constable_68 rfl (wr_1_11 w) ?_
          refine aw_aload_n (i := 0) rfl d_X12_constable_71 0 rfl ?_
          refine aw_geti (k0 := 7) kc_12 (ws_1 w) (Nat.le_of_ble_eq_true rfl) tw_1749 d_X12_constable_72 rfl ?_
          refine aw_vi (v2 := (h_i h 1 7)) (rfl) ?_
          refine aw_aload_n (i := 0) rfl d_X12_constable_75 0 rfl ?_
          refine aw_geti (k0 := 0) kc_12 (ws_1 w) (Nat.le_of_ble_eq_true rfl) tw_1742 d_X12_constable_76 rfl ?_
          refine aw_vi (v2 := (h_i h 1 0)) (rfl) ?_
          obtain ⟨b14, k⟩ := k
          refine aw_iast (ws_207 w) b14 d_X12_constable_79 ?_
          refine aw_aload_n (i := 0) rfl d_X12_constable_80 0 rfl ?_
          refine aw_getr (k0 := 12) kc_12 (ws_1 w) (Nat.le_of_ble_eq_true rfl) tw_1754 d_X12_constable_81 rfl (wr_1_12 w) ?_
          refine aw_aload_n (i := 0) rfl d_X12_constable_84 0 rfl ?_
          refine aw_geti (k0 := 7) kc_12 (ws_1 w) (Nat.le_of_ble_eq_true rfl) tw_1749 d_X12_constable_85 rfl ?_
          refine aw_vi (v2 := (h_i h 1 7)) (rfl) ?_
          refine aw_iconst (v := 0) d_X12_constable_88 ic_0 ?_
          obtain ⟨b15, k⟩ := k
          refine aw_iast (ws_208 w) b15 d_X12_constable_89 ?_
          refine aw_aload_n (i := 0) rfl d_X12_constable_90 0 rfl ?_
          refine aw_getr (k0 := 13) kc_12 (ws_1 w) (Nat.le_of_ble_eq_true rfl) tw_1755 d_X12_constable_91 rfl (wr_1_13 w) ?_
          refine aw_aload_n (i := 0) rfl d_X12_constable_94 0 rfl ?_
          refine aw_geti (k0 := 7) kc_12 (ws_1 w) (Nat.le_of_ble_eq_true rfl) tw_1749 d_X12_constable_95 rfl ?_
          refine aw_vi (v2 := (h_i h 1 7)) (rfl) ?_
          refine aw_iload_n (i := 3) rfl d_X12_constable_98 3 rfl ?_
          obtain ⟨b16, k⟩ := k
          refine aw_iast (ws_209 w) b16 d_X12_constable_99 ?_
          refine aw_aload_n (i := 0) rfl d_X12_constable_100 0 rfl ?_
          refine aw_getr (k0 := 14) kc_12 (ws_1 w) (Nat.le_of_ble_eq_true rfl) tw_1756 d_X12_constable_101 rfl (wr_1_14 w) ?_
          refine aw_aload_n (i := 0) rfl d_X12_constable_104 0 rfl ?_
          refine aw_geti (k0 := 7) kc_12 (ws_1 w) (Nat.le_of_ble_eq_true rfl) tw_1749 d_X12_constable_105 rfl ?_
          refine aw_vi (v2 := (h_i h 1 7)) (rfl) ?_
          refine aw_iconst (v := (-1)) d_X12_constable_108 ic_m1 ?_
          obtain ⟨b17, k⟩ := k
          refine aw_iast (ws_210 w) b17 d_X12_constable_109 ?_
          refine aw_aload_n (i := 0) rfl d_X12_constable_110 0 rfl ?_
          refine aw_getr (k0 := 15) kc_12 (ws_1 w) (Nat.le_of_ble_eq_true rfl) tw_1757 d_X12_constable_111 rfl (wr_1_15 w) ?_
          refine aw_aload_n (i := 0) rfl d_X12_constable_114 0 rfl ?_
          refine aw_geti (k0 := 7) kc_12 (ws_1 w) (Nat.le_of_ble_eq_true rfl) tw_1749 d_X12_constable_115 rfl ?_
          refine aw_vi (v2 := (h_i h 1 7)) (rfl) ?_
          refine aw_iconst (v := (-1)) d_X12_constable_118 ic_m1 ?_
          obtain ⟨b18, k⟩ := k
          refine aw_iast (ws_211 w) b18 d_X12_constable_119 ?_
          refine aw_aload_n (i := 0) rfl d_X12_constable_120 0 rfl ?_
          refine aw_getr (k0 := 17) kc_12 (ws_1 w) (Nat.le_of_ble_eq_true rfl) tw_1759 d_X12_constable_121 rfl (wr_1_17 w) ?_
          refine aw_aload_n (i := 0) rfl d_X12_constable_124 0 rfl ?_
          refine aw_geti (k0 := 7) kc_12 (ws_1 w) (Nat.le_of_ble_eq_true rfl) tw_1749 d_X12_constable_125 rfl ?_
          refine aw_vi (v2 := (h_i h 1 7)) (rfl) ?_
          refine aw_iconst (v := (-1)) d_X12_constable_128 ic_m1 ?_
          obtain ⟨b19, k⟩ := k
          refine aw_iast (ws_213 w) b19 d_X12_constable_129 ?_
          refine aw_aload_n (i := 0) rfl d_X12_constable_130 0 rfl ?_
          refine aw_getr (k0 := 19) kc_12 (ws_1 w) (Nat.le_of_ble_eq_true rfl) tw_1761 d_X12_constable_131 rfl (wr_1_19 w) ?_
          refine aw_aload_n (i := 0) rfl d_X12_constable_134 0 rfl ?_
          refine aw_geti (k0 := 7) kc_12 (ws_1 w) (Nat.le_of_ble_eq_true rfl) tw_1749 d_X12_constable_135 rfl ?_
          refine aw_vi (v2 := (h_i h 1 7)) (rfl) ?_
          refine aw_iconst (v := 0) d_X12_constable_138 ic_0 ?_
          obtain ⟨b20, k⟩ := k
          refine aw_iast (ws_215 w) b20 d_X12_constable_139 ?_
          refine aw_aload_n (i := 0) rfl d_X12_constable_140 0 rfl ?_
          refine aw_getr (k0 := 20) kc_12 (ws_1 w) (Nat.le_of_ble_eq_true rfl) tw_1762 d_X12_constable_141 rfl (wr_1_20 w) ?_
          refine aw_aload_n (i := 0) rfl d_X12_constable_144 0 rfl ?_
          refine aw_geti (k0 := 7) kc_12 (ws_1 w) (Nat.le_of_ble_eq_true rfl) tw_1749 d_X12_constable_145 rfl ?_
          refine aw_vi (v2 := (h_i h 1 7)) (rfl) ?_
          refine aw_iconst (v := 0) d_X12_constable_148 ic_0 ?_
          obtain ⟨b21, k⟩ := k
          refine aw_iast (ws_216 w) b21 d_X12_constable_149 ?_
          refine aw_aload_n (i := 0) rfl d_X12_constable_150 0 rfl ?_
          refine aw_getr (k0 := 21) kc_12 (ws_1 w) (Nat.le_of_ble_eq_true rfl) tw_1763 d_X12_constable_151 rfl (wr_1_21 w) ?_
          refine aw_aload_n (i := 0) rfl d_X12_constable_154 0 rfl ?_
          refine aw_geti (k0 := 7) kc_12 (ws_1 w) (Nat.le_of_ble_eq_true rfl) tw_1749 d_X12_constable_155 rfl ?_
          refine aw_vi (v2 := (h_i h 1 7)) (rfl) ?_
          refine aw_iconst (v := 0) d_X12_constable_158 ic_0 ?_
          obtain ⟨b22, k⟩ := k
          refine aw_iast (ws_217 w) b22 d_X12_constable_159 ?_
          refine aw_aload_n (i := 0) rfl d_X12_constable_160 0 rfl ?_
          refine aw_dup d_X12_constable_161 rfl ?_
          refine aw_geti (k0 := 7) kc_12 (ws_1 w) (Nat.le_of_ble_eq_true rfl) tw_1749 d_X12_constable_162 rfl ?_
          refine aw_vi (v2 := (h_i h 1 7)) (rfl) ?_
          refine aw_iconst (v := 1) d_X12_constable_165 ic_1 ?_
          refine aw_iadd d_X12_constable_166 ?_
          refine aw_puti (k0 := 7) kc_12 (ws_1 w) (Nat.le_of_ble_eq_true rfl) tw_1749 d_X12_constable_167 rfl rfl nf_i ?_
          refine aw_aload_n (i := 0) rfl d_X12_constable_170 0 rfl ?_
          refine aw_geti (k0 := 7) kc_12 (ws_1 w) (Nat.le_of_ble_eq_true rfl) tw_1749 d_X12_constable_171 rfl ?_
          refine aw_vi (v2 := ((h_i h 1 7) + 1)) (rfl) ?_
          refine aw_iconst (v := 1) d_X12_constable_174 ic_1 ?_
          refine aw_isub d_X12_constable_175 ?_
          exact aw_iret rfl d_X12_constable_176 ⟨Nat.le_refl _, Nat.le_refl _⟩ ⟨_, rfl, k⟩
        · have k := k.2 c10
          refine aw_iconst (v := (-1)) d_X12_constable_35 ic_m1 ?_
          exact aw_iret rfl d_X12_constable_36 ⟨Nat.le_refl _, Nat.le_refl _⟩ ⟨_, rfl, k⟩
end
section
/-! wake and tick of the reference -/
/-- at a step that is over: room for the points behind it -/
noncomputable def Hs (h : Hp_) (c : Nat) : Prop := 0 ≤ (h_i h 213 c).toInt ∧ nS h c < nZ h c ∧ (h_i h 212 c).toInt < (h_i h 1 42).toInt ∧ h_i h 210 c = -1
theorem Gs_m {c : Nat} {h h' : Hp_} {x : Int32} (g : Hs h c) (m : Mo c h h') (e2 : h_i h' 212 c = h_i h 212 c) (e3 : h_i h' 213 c = x) (e4 : h_i h' 210 c = h_i h 210 c) (ex : x.toInt = (h_i h 213 c).toInt + 1)
    (er : (h_i h' 216 c).toInt + (mP (h_i h 228) (nB h c) (nZ h c - (nS h c + 1)) (nS h c + 1) : Int) ≤ 400) : Gs h' c := by
  have ez : nZ h' c = nZ h c := by show (h_i h' 227 (h_i h' 212 c).toNatClampNeg).toNatClampNeg = _; rw [e2, m.2.1]
  have eb : nB h' c = nB h c := by show (h_i h' 212 c).toNatClampNeg = _; rw [e2]
  have s0 := g.1
  have l := g.2.1
  have es : nS h' c = nS h c + 1 := by
    show (h_i h' 213 c).toNatClampNeg = (h_i h 213 c).toNatClampNeg + 1
    have a := n_nat (x := h_i h 213 c) s0
    have b := n_nat (x := x) (by omega)
    rw [e3]
    omega
  unfold Gs
  rw [ez, es, eb, e2, e3, e4, m.wh, m.b42]
  exact ⟨by omega, by omega, g.2.2.1, er, g.2.2.2⟩
theorem st_in {h : Hp_} (I : Iv h) {c : Nat} (g : Hs h c) {x : Int32} (ex : x = h_i h 213 c + 1) : x.toInt = (h_i h 213 c).toInt + 1 ∧ rin x.toInt (-1, 150) := by
  have t1 : (1 : Int32).toInt = 1 := rfl
  have zz := dp_rg I 227 (nB h c) (show tfa 227 = some (0, 150) by decide +kernel)
  have nz := n_nat (x := h_i h 227 (nB h c)) zz.1
  have z1 : (h_i h 227 (nB h c)).toInt ≤ 150 := zz.2
  have ns := n_nat (x := h_i h 213 c) g.1
  have s0 := g.1
  have l : (h_i h 213 c).toNatClampNeg < (h_i h 227 (nB h c)).toNatClampNeg := g.2.1
  have e : x.toInt = (h_i h 213 c).toInt + 1 := by rw [ex, tx_add (by rw [t1]; omega) (by rw [t1]; omega), t1]
  exact ⟨e, by show (-1 : Int) ≤ _; omega, by show _ ≤ (150 : Int); omega⟩
theorem wb_ix {h : Hp_} (I : Iv h) {c : Nat} (g : Hs h c) : (150 * h_i h 212 c + h_i h 213 c).toNatClampNeg = 150 * nB h c + nS h c ∧ vp_in (150 * h_i h 212 c + h_i h 213 c) 1800 := by
  have t150 : (150 : Int32).toInt = 150 := rfl
  have bb := dp_rg I 212 c (show tfa 212 = some (0, 11) by decide +kernel)
  have b0 : 0 ≤ (h_i h 212 c).toInt := bb.1
  have b1 : (h_i h 212 c).toInt ≤ 11 := bb.2
  have zz := dp_rg I 227 (nB h c) (show tfa 227 = some (0, 150) by decide +kernel)
  have nz := n_nat (x := h_i h 227 (nB h c)) zz.1
  have z1 : (h_i h 227 (nB h c)).toInt ≤ 150 := zz.2
  have nb := n_nat (x := h_i h 212 c) b0
  have ns := n_nat (x := h_i h 213 c) g.1
  have s0 := g.1
  have l : (h_i h 213 c).toNatClampNeg < (h_i h 227 (nB h c)).toNatClampNeg := g.2.1
  have m1 : (150 * h_i h 212 c).toInt = 150 * (h_i h 212 c).toInt := by rw [tx_mul (by rw [t150]; omega) (by rw [t150]; omega), t150]
  have m2 : (150 * h_i h 212 c + h_i h 213 c).toInt = 150 * (h_i h 212 c).toInt + (h_i h 213 c).toInt := by rw [tx_add (by omega) (by omega), m1]
  have nn := n_nat (x := 150 * h_i h 212 c + h_i h 213 c) (by omega)
  refine ⟨by show _ = 150 * (h_i h 212 c).toNatClampNeg + (h_i h 213 c).toNatClampNeg; omega, dp_in (lo := 0) (hi := 1799) ⟨by show (0 : Int) ≤ _; omega, by show _ ≤ (1799 : Int); omega⟩ (by decide) (by decide)⟩
theorem c_wakeBeat (d : Nat) {h : Hp_} (I : Iv h) (x1 x2 : Int32) (b1 : rin x1.toInt (0, 11)) (d1 : h_i h 208 x1.toNatClampNeg = 1) (g : Hs h x1.toNatClampNeg)
    (p1 : (h_i h 216 x1.toNatClampNeg).toInt + (mP (h_i h 228) (nB h x1.toNatClampNeg) (nZ h x1.toNatClampNeg - (nS h x1.toNatClampNeg + 1)) (nS h x1.toNatClampNeg + 1) : Int) ≤ 400) (p2 : ¬ x2 = 0 → (h_i h 216 x1.toNatClampNeg).toInt + (mP (h_i h 228) (nB h x1.toNatClampNeg) (nZ h x1.toNatClampNeg - nS h x1.toNatClampNeg) (nS h x1.toNatClampNeg) : Int) ≤ 400) :
    Cv (m_X12_wakeBeat (d + 8) 0 0) [.ref 1, .int x1, .int x2] h (fun h' => Iv h' ∧ Mo x1.toNatClampNeg h h' ∧ Jm h' x1.toNatClampNeg) := by
  have v1 := dp_in b1 (n := 12) (by decide) (by decide)
  obtain ⟨ix, vi⟩ := wb_ix I g
  have go : ∀ (h2 : Hp_) (x : Int32), Iv h2 → Mo x1.toNatClampNeg h h2 → h_i h2 208 x1.toNatClampNeg = 1 → h_i h2 212 x1.toNatClampNeg = h_i h 212 x1.toNatClampNeg → h_i h2 213 x1.toNatClampNeg = h_i h 213 x1.toNatClampNeg → h_i h2 210 x1.toNatClampNeg = h_i h 210 x1.toNatClampNeg → (h_i h2 216 x1.toNatClampNeg).toInt + (mP (h_i h 228) (nB h x1.toNatClampNeg) (nZ h x1.toNatClampNeg - (nS h x1.toNatClampNeg + 1)) (nS h x1.toNatClampNeg + 1) : Int) ≤ 400 → x = h_i h2 213 x1.toNatClampNeg + 1 →
      Cv (m_X12_goOn (d + 3) 0 0) [.ref 1, .int x1] (h_im h2 213 x1.toNatClampNeg x) (fun h' => Wf h' ∧ (Iv h' ∧ Mo x1.toNatClampNeg h h' ∧ Jm h' x1.toNatClampNeg)) := by
    intro h2 x I2 M2 e1 e2 e3 e4 e5 ex
    rw [e3] at ex
    obtain ⟨exi, exr⟩ := st_in I g ex
    have M3 : Mo x1.toNatClampNeg h (h_im h2 213 x1.toNatClampNeg x) := M2.im (by decide) (fun _ => rfl)
    have G3 : Gs (h_im h2 213 x1.toNatClampNeg x) x1.toNatClampNeg := Gs_m g M3 (by rw [im_ne (by decide)]; exact e2) im_at (by rw [im_ne (by decide)]; exact e4) exi (by rw [im_ne (by decide)]; exact e5)
    have f1 : h_i (h_im h2 213 x1.toNatClampNeg x) 208 x1.toNatClampNeg = 1 := by rw [im_ne (by decide)]; exact e1
    exact Cv.mono (c_goOn d (i213 I2 _ exr) x1 b1 (fun n => absurd f1 n) (fun _ => G3)) (fun h' q => ⟨q.1.1, q.1, M3.tr q.2.1, q.2.2⟩)
  have tr := t_X12_wakeBeat d h I.1 x1 x2 (fun h' => Iv h' ∧ Mo x1.toNatClampNeg h h' ∧ Jm h' x1.toNatClampNeg)
  rw [ix] at tr
  have g0 := go h _ I (Mo.rf _ _) d1 rfl rfl rfl p1 rfl
  refine tr ⟨v1, v1, fun _ => ⟨vi, fun _ => ⟨v1, v1, g0⟩, fun _ => ?_⟩, fun x2n => ⟨vi, fun _ => ⟨v1, v1, g0⟩, fun w2 => ⟨vi, ?_⟩⟩⟩
  · refine Ct.mono (hc_X12_see (d + 1) [.int x1, .ref 1] h ⟨⟨x1, rfl, b1, fun _ y => (nomatch y)⟩, rfl, trivial⟩ I (fun _ y => (nomatch y))) (fun v h2 k => ?_)
    obtain ⟨I2, F2, _, ev⟩ := k
    have S2 : So x1.toNatClampNeg h h2 := So.fr F2 (by decide +kernel)
    refine ⟨ev, I2.1, v1, v1, go h2 _ I2 (Mo.fr F2 (by decide +kernel)) (by rw [S2.1]; exact d1) S2.2.1 S2.2.2.1 (fr_i F2 (a := 210) (by decide +kernel) _) (by rw [S2.2.2.2]; exact p1) rfl⟩
  · have q2 := p2 x2n
    rw [mP_s g.2.1, if_pos w2] at q2
    refine Ci.mono (c_comes d I x1 _ b1 (by omega)) (fun r h2 C => ⟨C.1.1, fun _ => ⟨v1, v1, go h2 _ C.1 C.2.1 (by rw [C.2.2.1.1]; exact d1) C.2.2.1.2.1 C.2.2.1.2.2.1 C.2.2.1.2.2.2 (by rw [C.2.2.2]; omega) rfl⟩, fun _ => ⟨C.1, C.2.1, ?_⟩⟩)
    have f2 := C.2.2.1.2.1
    have f3 := C.2.2.1.2.2.1
    have f4 : h_i h2 210 x1.toNatClampNeg = -1 := by rw [C.2.2.1.2.2.2]; exact g.2.2.2
    have ez : nZ h2 x1.toNatClampNeg = nZ h x1.toNatClampNeg := by show (h_i h2 227 (h_i h2 212 x1.toNatClampNeg).toNatClampNeg).toNatClampNeg = _; rw [f2, C.2.1.2.1]
    have es : nS h2 x1.toNatClampNeg = nS h x1.toNatClampNeg := by show (h_i h2 213 x1.toNatClampNeg).toNatClampNeg = _; rw [f3]
    have eb : nB h2 x1.toNatClampNeg = nB h x1.toNatClampNeg := by show (h_i h2 212 x1.toNatClampNeg).toNatClampNeg = _; rw [f2]
    refine ⟨fun _ => f4, fun _ => ?_⟩
    rw [ez, es, eb, f2, f3, C.2.1.wh, C.2.1.b42, C.2.2.2]
    exact ⟨g.1, g.2.1, g.2.2.1, by omega, fun z => absurd f4 z⟩
theorem i248 {h : Hp_} (I : Iv h) (k : Nat) : Iv (h_im h 248 k (vp_nar .boolean 1)) := I.im (by rw [tfa_tf (show tfa 248 = some (0, 1) by decide +kernel)]; exact ⟨by decide, by decide⟩) (jw_jr (by decide) (by decide) _)
/-- the same man, the same account -/
theorem Jm_s {c : Nat} {h h' : Hp_} (m : Mo c h h') (o : So c h h') (e : h_i h' 210 c = h_i h 210 c) (j : Jm h c) : Jm h' c := by
  obtain ⟨_, ez, es, eb⟩ := Gs_f m o
  unfold Jm
  rw [ez, es, eb, o.1, o.2.1, o.2.2.1, o.2.2.2, m.wh, m.b42, e]
  exact j
theorem c_wake (d : Nat) {h : Hp_} (I : Iv h) (x1 : Int32) (b1 : rin x1.toInt (0, 11)) (j : Jm h x1.toNatClampNeg) : Cv (m_X12_wake (d + 9) 0 0) [.ref 1, .int x1] h (fun h' => Iv h' ∧ Mo x1.toNatClampNeg h h' ∧ Jm h' x1.toNatClampNeg) := by
  have v1 := dp_in b1 (n := 12) (by decide) (by decide)
  have fin : ∀ (s0 : Int32), (s0 = 0 → h_i h 210 x1.toNatClampNeg = -1) → (¬ s0 = 0 → ¬ h_i h 210 x1.toNatClampNeg = -1) → AW (m_X12_wake (d + 9) 0 0) 0 0 29 [(0, .ref 1), (1, .int x1)] [.int s0] h (kV (fun h' => Iv h' ∧ Mo x1.toNatClampNeg h h' ∧ Jm h' x1.toNatClampNeg)) := by
    intro s0 z0 z1
    have gb := dp_rg I 210 x1.toNatClampNeg (show tfa 210 = some (-1, 15) by decide +kernel)
    have IA := i211 I x1.toNatClampNeg (-1)
    have MA : Mo x1.toNatClampNeg h (h_im h 211 x1.toNatClampNeg (-1)) := (Mo.rf _ _).im (by decide) (fun y => absurd y (by decide))
    have SA : So x1.toNatClampNeg h (h_im h 211 x1.toNatClampNeg (-1)) := (So.rf _ _).im (by decide)
    have IB := i211 (i210 (i209 I x1.toNatClampNeg gb) x1.toNatClampNeg m1_in) x1.toNatClampNeg (-1)
    have MB : Mo x1.toNatClampNeg h (h_im (h_im (h_im h 209 x1.toNatClampNeg (h_i h 210 x1.toNatClampNeg)) 210 x1.toNatClampNeg (-1)) 211 x1.toNatClampNeg (-1)) := (((Mo.rf _ _).im (by decide) (fun y => absurd y (by decide))).im (by decide) (fun _ => rfl)).im (by decide) (fun y => absurd y (by decide))
    have SB : So x1.toNatClampNeg h (h_im (h_im (h_im h 209 x1.toNatClampNeg (h_i h 210 x1.toNatClampNeg)) 210 x1.toNatClampNeg (-1)) 211 x1.toNatClampNeg (-1)) := (((So.rf _ _).im (by decide)).im (by decide)).im (by decide)
    have gB : h_i (h_im (h_im (h_im h 209 x1.toNatClampNeg (h_i h 210 x1.toNatClampNeg)) 210 x1.toNatClampNeg (-1)) 211 x1.toNatClampNeg (-1)) 210 x1.toNatClampNeg = -1 := by rw [im_ne (by decide), im_at]
    have gA : h_i (h_im h 211 x1.toNatClampNeg (-1)) 210 x1.toNatClampNeg = h_i h 210 x1.toNatClampNeg := im_ne (by decide)
    have wrap : ∀ {y : MethodName} {cc : ByteArray} {nL : Nat} {ret : Option FieldType} {R : Room} {vs : List Value} {h2 : Hp_}, Mo x1.toNatClampNeg h h2 → Cv (fun _ _ _ => True, y, cc, nL, ret, R) vs h2 (fun h' => Iv h' ∧ Mo x1.toNatClampNeg h2 h' ∧ Jd h' x1.toNatClampNeg) → Cv (fun _ _ _ => True, y, cc, nL, ret, R) vs h2 (fun h' => Wf h' ∧ (Iv h' ∧ Mo x1.toNatClampNeg h h' ∧ Jm h' x1.toNatClampNeg)) := fun M2 C => Cv.mono C (fun h' q => ⟨q.1.1, q.1, M2.tr q.2.1, q.2.2.jm⟩)
    have wfree : ∀ {h2 : Hp_}, Iv h2 → Mo x1.toNatClampNeg h h2 → Cv (m_X12_free (d + 0) 0 0) [.ref 1, .int x1] h2 (fun h' => Wf h' ∧ (Iv h' ∧ Mo x1.toNatClampNeg h h' ∧ Jm h' x1.toNatClampNeg)) := fun I2 M2 => Cv.mono (c_free d I2 x1 b1) (fun h' q => ⟨q.1.1, q.1, M2.tr q.2.1, Jd.jm ⟨by rw [q.2.2.1]; decide, fun _ => q.2.2.2⟩⟩)
    have bt : ∀ {h2 : Hp_}, Iv h2 → Mo x1.toNatClampNeg h h2 → So x1.toNatClampNeg h h2 → h_i h2 210 x1.toNatClampNeg = -1 → h_i h 208 x1.toNatClampNeg = 1 → Cv (m_X12_wakeBeat (d + 8) 0 0) [.ref 1, .int x1, .int s0] h2 (fun h' => Wf h' ∧ (Iv h' ∧ Mo x1.toNatClampNeg h h' ∧ Jm h' x1.toNatClampNeg)) := by
      intro h2 I2 M2 S2 e2 d1
      obtain ⟨j1, j2, j3, j4, j5⟩ := j.2 d1
      obtain ⟨_, ez, es, eb⟩ := Gs_f M2 S2
      refine Cv.mono (c_wakeBeat d I2 x1 s0 b1 (by rw [S2.1]; exact d1) ⟨by rw [S2.2.2.1]; exact j1, by rw [es, ez]; exact j2, by rw [S2.2.1, M2.b42]; exact j3, e2⟩ ?_ (fun z => ?_)) (fun h' q => ⟨q.1.1, q.1, M2.tr q.2.1, q.2.2⟩)
      · rw [ez, es, eb, S2.2.2.2, M2.wh]; exact j4
      · rw [ez, es, eb, S2.2.2.2, M2.wh]; exact j5 (z1 z)
    refine t_X12_wake_29 d h I.1 x1 s0 _ ⟨fun e0 => ⟨v1, v1, fun n2 => ⟨v1, fun n3 => ⟨v1, fun n1 => ⟨IA, MA, Jm_s MA SA gA j⟩, fun d1 => bt IA MA SA (by rw [gA]; exact z0 e0) d1⟩, fun d3 => ⟨fun n => absurd e0 n, fun _ => wrap MA (c_goHome d IA x1 b1)⟩⟩, fun _ => wfree IA MA⟩, fun n0 => ⟨v1, v1, v1, v1, v1, fun n2 => ⟨v1, fun n3 => ⟨v1, fun n1 => ⟨IB, MB, ⟨fun _ => gB, fun z => absurd (by rw [← SB.1]; exact z) n1⟩⟩, fun d1 => bt IB MB SB gB d1⟩, fun d3 => ⟨fun _ => ⟨v1, v1, fun _ => ⟨v1, ?_⟩, fun _ => ⟨v1, fun _ => ⟨v1, ?_⟩, fun _ => ?_⟩⟩, fun e0 => absurd e0 n0⟩⟩, fun _ => wfree IB MB⟩⟩
    · exact wrap (MB.im (by decide) (fun y => absurd y (by decide))) (c_goDrawn d (i248 IB _) x1 b1 (by rw [im_ne (by decide), SB.1, d3]; exact ⟨by decide, by decide⟩))
    · exact wrap (MB.im (by decide) (fun y => absurd y (by decide))) (c_goDrawn d (i248 IB _) x1 b1 (by rw [im_ne (by decide), SB.1, d3]; exact ⟨by decide, by decide⟩))
    · exact wrap MB (c_stay d IB x1 b1 (by rw [SB.1, d3]; exact ⟨by decide, by decide⟩))
  exact t_X12_wake d h I.1 x1 _ ⟨v1, fun _ => ⟨v1, fun e => fin 0 (fun _ => e) (fun n => absurd rfl n), fun n => fin 1 (fun z => absurd z (by decide)) (fun _ => n)⟩, fun _ => ⟨I, Mo.rf _ _, j⟩⟩
end
section
/-! tick of the reference -/
noncomputable def J2 (h : Hp_) : Prop := ∀ c : Nat, c < 12 → (c : Int) < (h_i h 1 7).toInt → Jm h c
theorem J2_o {c : Nat} {h h' : Hp_} (m : Mo c h h') (J : J2 h) (j : Jm h' c) : J2 h' := fun k hk hm => by
  by_cases e : k = c
  · rw [e]; exact j
  · exact Jm_o m e (J k hk (by rw [← m.2.2.2.1 7 (Or.inr (Or.inl rfl))]; exact hm))
/-- what Jm looks at stays -/
noncomputable def Jz (h h' : Hp_) : Prop := (∀ a, mrow a = true → ∀ k, h_i h' a k = h_i h a k) ∧ (∀ k, h_i h' 227 k = h_i h 227 k) ∧ (∀ k, h_i h' 228 k = h_i h 228 k) ∧ h_i h' 1 42 = h_i h 1 42
theorem Jm_z {h h' : Hp_} {c : Nat} (e : Jz h h') (J : Jm h c) : Jm h' c := by
  have f := fun (a : Nat) (ha : mrow a = true) => e.1 a ha c
  have ez : nZ h' c = nZ h c := by show (h_i h' 227 (h_i h' 212 c).toNatClampNeg).toNatClampNeg = _; rw [f 212 rfl, e.2.1]
  have es : nS h' c = nS h c := by show (h_i h' 213 c).toNatClampNeg = _; rw [f 213 rfl]
  have eb : nB h' c = nB h c := by show (h_i h' 212 c).toNatClampNeg = _; rw [f 212 rfl]
  have w : h_i h' 228 = h_i h 228 := funext e.2.2.1
  unfold Jm
  rw [ez, es, eb, f 208 rfl, f 210 rfl, f 212 rfl, f 213 rfl, f 216 rfl, w, e.2.2.2]
  exact J
/-- what J2 looks at stays -/
noncomputable def Js (h h' : Hp_) : Prop := Jz h h' ∧ h_i h' 1 7 = h_i h 1 7
theorem J2_s {h h' : Hp_} (e : Js h h') (J : J2 h) : J2 h' := fun c hc hm => Jm_z e.1 (J c hc (by rw [← e.2]; exact hm))
theorem Jz.im {h : Hp_} {a k : Nat} {x : Int32} (n : (mrow a || Nat.beq a 227 || Nat.beq a 228) = false) (n1 : ¬ (a = 1 ∧ k = 42)) : Jz h (h_im h a k x) := by
  simp only [Bool.or_eq_false_iff] at n
  have b : ∀ {y : Nat}, Nat.beq a y = false → y ≠ a := fun {y} z e => by rw [e, Nat.beq_refl] at z; cases z
  refine ⟨fun r hr j => im_ne (fun e => by rw [e, n.1.1] at hr; cases hr), fun j => im_ne (b n.1.2), fun j => im_ne (b n.2), ?_⟩
  rw [h_i_im, if_neg (fun e => n1 ⟨e.1.symm, e.2.symm⟩)]
theorem Js.im {h : Hp_} {a k : Nat} {x : Int32} (n : (mrow a || Nat.beq a 227 || Nat.beq a 228) = false) (n1 : ¬ (a = 1 ∧ (k = 42 ∨ k = 7))) : Js h (h_im h a k x) := ⟨Jz.im n (fun e => n1 ⟨e.1, Or.inl e.2⟩), by rw [h_i_im, if_neg (fun e => n1 ⟨e.1.symm, Or.inr e.2.symm⟩)]⟩
noncomputable def tK2 (h0 : Hp_) (F : Int) : Option Value → Hp_ → Prop := kI (fun r h' => Iv h' ∧ J2 h' ∧ Fr wsT h0 h' ∧ r = h_i h' 1 0 ∧ (h_i h' 1 0).toInt = F)
theorem men_in {h : Hp_} (I : Iv h) : rin (h_i h 1 7).toInt (0, 12) := by
  have := I.2.1 1 7
  rwa [show tf 1 7 = (0, 12) by decide +kernel] at this
theorem tw_loop {F : Int} (d : Nat) (h0 : Hp_) (x1 x2 : Int32) (y : Int32) (O : ∀ h, Iv h → J2 h → Fr wsT h0 h → h_i h 1 0 = y → AW (m_X12_tick (d + 10) 0 0) 0 0 27 [(0, .ref 1), (1, .int x1), (2, .int (x2 + 1))] [] h (tK2 h0 F)) :
    ∀ (r : Nat) (x3 : Int32) (h : Hp_), 0 ≤ x3.toInt → 12 - x3.toInt ≤ r → Iv h → J2 h → Fr wsT h0 h → h_i h 1 0 = y → AW (m_X12_tick (d + 10) 0 0) 0 0 82 [(0, .ref 1), (1, .int x1), (2, .int x2), (3, .int x3)] [] h (tK2 h0 F) := by
  have t1 : (1 : Int32).toInt = 1 := rfl
  intro r
  induction r with
  | zero =>
    intro x3 h p3 m3 I J S ey
    have e7 : (h_i h 1 7).toInt ≤ 12 := (men_in I).2
    refine t_X12_tick_82 d h I.1 x1 x2 x3 _ ⟨fun _ => O h I J S ey, fun z => ?_⟩
    have z := q_nle z
    omega
  | succ r ih =>
    intro x3 h p3 m3 I J S ey
    have e7 : (h_i h 1 7).toInt ≤ 12 := (men_in I).2
    refine t_X12_tick_82 d h I.1 x1 x2 x3 _ ⟨fun _ => O h I J S ey, fun z => ?_⟩
    have z := q_nle z
    have b3 : rin x3.toInt (0, 11) := ⟨p3, by show _ ≤ (11 : Int); omega⟩
    have n3 := n_nat (x := x3) p3
    have ex : (x3 + 1).toInt = x3.toInt + 1 := tx_add (by rw [t1]; omega) (by rw [t1]; omega)
    exact Cv.mono (c_wake d I x3 b3 (J _ (by omega) (by omega))) (fun h' q => ⟨q.1.1, ih (x3 + 1) h' (by omega) (by omega) q.1 (J2_o q.2.1 J q.2.2) (S.tr q.2.1.sr.st) (by rw [q.2.1.2.2.2.1 0 (Or.inl rfl)]; exact ey)⟩)
theorem i220 {h : Hp_} (I : Iv h) (k : Nat) (x : Int32) : Iv (h_im h 220 k (vp_nar .byte x.toInt8.toInt32)) := I.im (by rw [tfa_tf (show tfa 220 = some (-128, 127) by decide +kernel)]; exact ok_b _ rtop (rtop_in _)) (jw_jr (by decide) (by decide) _)
theorem th_loop {F : Int} (d : Nat) (h0 : Hp_) (x1 x2 : Int32) (y : Int32) (hy : rin y.toInt (0, 19999)) (O : ∀ h, Iv h → J2 h → Fr wsT h0 h → h_i h 1 0 = y + 1 → AW (m_X12_tick (d + 10) 0 0) 0 0 27 [(0, .ref 1), (1, .int x1), (2, .int (x2 + 1))] [] h (tK2 h0 F)) :
    ∀ (r : Nat) (x3 : Int32) (h : Hp_), 0 ≤ x3.toInt → 12 - x3.toInt ≤ r → Iv h → J2 h → Fr wsT h0 h → h_i h 1 0 = y → AW (m_X12_tick (d + 10) 0 0) 0 0 34 [(0, .ref 1), (1, .int x1), (2, .int x2), (3, .int x3)] [] h (tK2 h0 F) := by
  have t1 : (1 : Int32).toInt = 1 := rfl
  have tb : (20001 : Int32).toInt = 20001 := rfl
  have y0 : 0 ≤ y.toInt := hy.1
  have y1 : y.toInt ≤ 19999 := hy.2
  have ey1 : (y + 1).toInt = y.toInt + 1 := tx_add (by rw [t1]; omega) (by rw [t1]; omega)
  have fin : ∀ h, Iv h → J2 h → Fr wsT h0 h → h_i h 1 0 = y → AW (m_X12_tick (d + 10) 0 0) 0 0 82 [(0, .ref 1), (1, .int x1), (2, .int x2), (3, .int 0)] [] (h_im h 1 0 ((h_i h 1 0) + 1)) (tK2 h0 F) := by
    intro h I J S ey
    rw [ey]
    have I2 : Iv (h_im h 1 0 (y + 1)) := I.im (by rw [show tf 1 0 = (0, 20000) by decide +kernel]; exact ⟨by show (0 : Int) ≤ _; omega, by show _ ≤ (20000 : Int); omega⟩) (by decide)
    exact tw_loop d h0 x1 x2 (y + 1) O 12 0 _ (by decide) (by decide) I2 (J2_s (Js.im (by decide) (fun z => absurd z.2 (by decide))) J) (S.im (by decide +kernel)) im_at
  intro r
  induction r with
  | zero =>
    intro x3 h p3 m3 I J S ey
    have e7 : (h_i h 1 7).toInt ≤ 12 := (men_in I).2
    refine t_X12_tick_34 d h I.1 x1 x2 x3 _ ⟨fun _ => fin h I J S ey, fun z => ?_⟩
    have z := q_nle z
    omega
  | succ r ih =>
    intro x3 h p3 m3 I J S ey
    have e7 : (h_i h 1 7).toInt ≤ 12 := (men_in I).2
    refine t_X12_tick_34 d h I.1 x1 x2 x3 _ ⟨fun _ => fin h I J S ey, fun z => ?_⟩
    have z := q_nle z
    have ex : (x3 + 1).toInt = x3.toInt + 1 := tx_add (by rw [t1]; omega) (by rw [t1]; omega)
    have m1 : (20001 * x3).toInt = 20001 * x3.toInt := by rw [tx_mul (by rw [tb]; omega) (by rw [tb]; omega), tb]
    have m2 : (20001 * x3 + h_i h 1 0).toInt = 20001 * x3.toInt + y.toInt := by rw [ey, tx_add (by omega) (by omega), m1]
    refine ⟨dp_in (lo := 0) (hi := 11) ⟨p3, by show _ ≤ (11 : Int); omega⟩ (by decide) (by decide), dp_in (lo := 0) (hi := 240011) ⟨by show (0 : Int) ≤ _; omega, by show _ ≤ (240011 : Int); omega⟩ (by decide) (by decide), ?_⟩
    exact ih (x3 + 1) _ (by omega) (by omega) (i220 I _ _) (J2_s (Js.im (by decide) (fun z => absurd z.1 (by decide))) J) (S.im (inw_row (by decide +kernel) _)) (by rw [im_ne (by decide)]; exact ey)
theorem to_loop {F : Int} (d : Nat) (h0 : Hp_) (x1 : Int32) (b1 : rin x1.toInt (0, 1500)) : ∀ (r : Nat) (x2 y : Int32) (h : Hp_), 0 ≤ x2.toInt → x1.toInt - x2.toInt ≤ r → 0 ≤ y.toInt → (y.toInt + (x1.toInt - x2.toInt) ≤ 20000 ∧ x2.toInt ≤ x1.toInt ∧ y.toInt + (x1.toInt - x2.toInt) = F) → Iv h → J2 h → Fr wsT h0 h → h_i h 1 0 = y → AW (m_X12_tick (d + 10) 0 0) 0 0 27 [(0, .ref 1), (1, .int x1), (2, .int x2)] [] h (tK2 h0 F) := by
  have t1 : (1 : Int32).toInt = 1 := rfl
  have c0 : 0 ≤ x1.toInt := b1.1
  have c1 : x1.toInt ≤ 1500 := b1.2
  intro r
  induction r with
  | zero =>
    intro x2 y h p2 m2 py my I J S ey
    refine t_X12_tick_27 d h I.1 x1 x2 _ ⟨fun zz => ⟨I, J, S, rfl, by rw [ey]; have := q_le.mp zz; omega⟩, fun z => ?_⟩
    have z := q_nle z
    omega
  | succ r ih =>
    intro x2 y h p2 m2 py my I J S ey
    refine t_X12_tick_27 d h I.1 x1 x2 _ ⟨fun zz => ⟨I, J, S, rfl, by rw [ey]; have := q_le.mp zz; omega⟩, fun z => ?_⟩
    have z := q_nle z
    have ex : (x2 + 1).toInt = x2.toInt + 1 := tx_add (by rw [t1]; omega) (by rw [t1]; omega)
    have ey1 : (y + 1).toInt = y.toInt + 1 := tx_add (by rw [t1]; omega) (by rw [t1]; omega)
    exact th_loop d h0 x1 x2 y ⟨py, by show _ ≤ (19999 : Int); omega⟩ (fun h' I' J' e' => ih (x2 + 1) (y + 1) h' (by omega) (by omega) (by omega) (by omega) I' J' e') 12 0 h (by decide) (by decide) I J S ey
theorem c_tickM (d : Nat) {h : Hp_} (I : Iv h) (J : J2 h) (x1 : Int32) : Ci (m_X12_tick (d + 10) 0 0) [.ref 1, .int x1] h (fun r h' => Iv h' ∧ J2 h' ∧ Fr wsT h h' ∧ otk (h_i h 1 0) x1 r (h_i h' 1 0)) := by
  have nr := I.2.1 1 0
  rw [show tf 1 0 = (0, 20000) by decide +kernel] at nr
  have n0 : 0 ≤ (h_i h 1 0).toInt := nr.1
  have n1 : (h_i h 1 0).toInt ≤ 20000 := nr.2
  have t0 : (0 : Int32).toInt = 0 := rfl
  have t15 : (1500 : Int32).toInt = 1500 := rfl
  have t20 : (20000 : Int32).toInt = 20000 := rfl
  refine t_X12_tick d h I.1 x1 _ ⟨fun n => ⟨I, J, Fr.rf _ _, Or.inr ⟨fun o => n o.1, rfl, rfl⟩⟩, fun z => ⟨fun y => ?_, fun n => ⟨I, J, Fr.rf _ _, Or.inr ⟨fun o => n (q_le.mpr (by have z1 := q_le.mp z.1; have z2 := q_le.mp z.2; have := o.2; rw [tx_add (by omega) (by omega)]; omega)), rfl, rfl⟩⟩⟩⟩
  have z1 := q_le.mp z.1
  have z2 := q_le.mp z.2
  have y := q_le.mp y
  have es : (h_i h 1 0 + x1).toInt = (h_i h 1 0).toInt + x1.toInt := tx_add (by omega) (by omega)
  refine AW.mono (to_loop (F := (h_i h 1 0).toInt + x1.toInt) d h x1 ⟨by show (0 : Int) ≤ _; omega, by show _ ≤ (1500 : Int); omega⟩ 1500 0 (h_i h 1 0) h (by decide) (by rw [t0]; omega) n0 (by rw [t0]; omega) I J (Fr.rf _ _) rfl) (fun v h' q => ?_)
  obtain ⟨r, ev, q1, q2, q3, q4, q5⟩ := q
  exact ⟨r, ev, q1, q2, q3, Or.inl ⟨⟨z, by omega⟩, q4, q5⟩⟩
end
section
/-! begin of the reference -/
theorem Mo.im1 {c : Nat} {h0 h : Hp_} {k : Nat} {x : Int32} (m : Mo c h0 h) (hk0 : ¬ (k = 0 ∨ k = 7 ∨ k = 42) ∧ inw wsR 1 k = true) : Mo c h0 (h_im h 1 k x) := by
  have hk := hk0.1
  refine ⟨fun r hr j hj => ?_, fun j => ?_, fun j => ?_, fun j hj => ?_, m.2.2.2.2.im hk0.2⟩
  · rw [im_ne (fun e => by rw [e] at hr; exact absurd hr (by decide))]; exact m.1 r hr j hj
  · rw [im_ne (by decide)]; exact m.2.1 j
  · rw [im_ne (by decide)]; exact m.2.2.1 j
  · rw [h_i_im, if_neg (fun e => hk (by rw [← e.2]; exact hj))]; exact m.2.2.2.1 j hj
theorem mP_le {wh : Nat → Int32} {b : Nat} : ∀ {f s : Nat}, mP wh b f s ≤ f
  | 0, _ => Nat.le_refl _
  | f + 1, s => by
    have := mP_le (wh := wh) (b := b) (f := f) (s := s + 1)
    show (if wh (150 * b + s) = 2 then 1 else 0) + mP wh b f (s + 1) ≤ f + 1
    split <;> omega
theorem bt_ix {h : Hp_} (I : Iv h) {x : Int32} (bx : rin x.toInt (0, 11)) {s : Nat} {y : Int32} (ey : y.toInt = 150 * x.toInt + s) (hs : s ≤ 150) : (150 * x + h_i h 227 x.toNatClampNeg).toInt = 150 * x.toInt + ((h_i h 227 x.toNatClampNeg).toNatClampNeg : Int) ∧ (h_i h 227 x.toNatClampNeg).toNatClampNeg ≤ 150 ∧ y.toNatClampNeg = 150 * x.toNatClampNeg + s := by
  have t150 : (150 : Int32).toInt = 150 := rfl
  have c0 : 0 ≤ x.toInt := bx.1
  have c1 : x.toInt ≤ 11 := bx.2
  have zz := dp_rg I 227 x.toNatClampNeg (show tfa 227 = some (0, 150) by decide +kernel)
  have nz := n_nat (x := h_i h 227 x.toNatClampNeg) zz.1
  have z0 : 0 ≤ (h_i h 227 x.toNatClampNeg).toInt := zz.1
  have z1 : (h_i h 227 x.toNatClampNeg).toInt ≤ 150 := zz.2
  have m1 : (150 * x).toInt = 150 * x.toInt := by rw [tx_mul (by rw [t150]; omega) (by rw [t150]; omega), t150]
  have nx := n_nat (x := x) c0
  have ny := n_nat (x := y) (by omega)
  exact ⟨by rw [tx_add (by omega) (by omega), m1]; omega, by omega, by omega⟩
theorem c_pointsOf (d : Nat) {h : Hp_} (I : Iv h) (x1 : Int32) (b1 : rin x1.toInt (0, 11)) : Ci (m_X12_pointsOf (d + 0) 0 0) [.ref 1, .int x1] h (fun r h' => h' = h ∧ r.toInt = (mP (h_i h 228) x1.toNatClampNeg (h_i h 227 x1.toNatClampNeg).toNatClampNeg 0 : Int)) := by
  have v1 := dp_in b1 (n := 12) (by decide) (by decide)
  have c0 : 0 ≤ x1.toInt := b1.1
  have c1 : x1.toInt ≤ 11 := b1.2
  have t0 : (0 : Int32).toInt = 0 := rfl
  have t1 : (1 : Int32).toInt = 1 := rfl
  have t150 : (150 : Int32).toInt = 150 := rfl
  have m1 : (150 * x1).toInt = 150 * x1.toInt := by rw [tx_mul (by rw [t150]; omega) (by rw [t150]; omega), t150]
  have lp : ∀ (r s : Nat) (x2 x3 : Int32), x3.toInt = 150 * x1.toInt + s → s + r = (h_i h 227 x1.toNatClampNeg).toNatClampNeg → 0 ≤ x2.toInt → x2.toInt ≤ s → x2.toInt + (mP (h_i h 228) x1.toNatClampNeg r s : Int) = (mP (h_i h 228) x1.toNatClampNeg (h_i h 227 x1.toNatClampNeg).toNatClampNeg 0 : Int) →
      AW (m_X12_pointsOf (d + 0) 0 0) 0 0 8 [(0, .ref 1), (1, .int x1), (2, .int x2), (3, .int x3)] [] h (kI (fun r h' => h' = h ∧ r.toInt = (mP (h_i h 228) x1.toNatClampNeg (h_i h 227 x1.toNatClampNeg).toNatClampNeg 0 : Int))) := by
    intro r
    induction r with
    | zero =>
      intro s x2 x3 e3 es p2 q2 e2
      have zb := (bt_ix I b1 (s := 0) (y := 150 * x1) (by rw [m1]; omega) (by omega)).2.1
      obtain ⟨k1, k2, k3⟩ := bt_ix I b1 e3 (by omega)
      refine t_X12_pointsOf_8 d h I.1 x1 x2 x3 _ ⟨v1, fun _ => ⟨rfl, by rw [← e2]; show _ = x2.toInt + ((0 : Nat) : Int); omega⟩, fun z => ?_⟩
      have z := q_nle z
      omega
    | succ r ih =>
      intro s x2 x3 e3 es p2 q2 e2
      have zb := (bt_ix I b1 (s := 0) (y := 150 * x1) (by rw [m1]; omega) (by omega)).2.1
      obtain ⟨k1, k2, k3⟩ := bt_ix I b1 e3 (by omega)
      have ex : (x3 + 1).toInt = 150 * x1.toInt + ((s + 1 : Nat) : Int) := by rw [tx_add (by rw [t1]; omega) (by rw [t1]; omega), t1, e3]; omega
      have ea : (x2 + 0).toInt = x2.toInt := by rw [tx_add (by rw [t0]; omega) (by rw [t0]; omega), t0]; omega
      have eb : (x2 + 1).toInt = x2.toInt + 1 := tx_add (by rw [t1]; omega) (by rw [t1]; omega)
      have e2' : x2.toInt + (((if h_i h 228 (150 * x1.toNatClampNeg + s) = 2 then 1 else 0) + mP (h_i h 228) x1.toNatClampNeg r (s + 1) : Nat) : Int) = (mP (h_i h 228) x1.toNatClampNeg (h_i h 227 x1.toNatClampNeg).toNatClampNeg 0 : Int) := e2
      refine t_X12_pointsOf_8 d h I.1 x1 x2 x3 _ ⟨v1, fun z => ?_, fun _ => ⟨dp_in (lo := 0) (hi := 1799) ⟨by show (0 : Int) ≤ _; omega, by show _ ≤ (1799 : Int); omega⟩ (by decide) (by decide), fun z => ?_, fun z => ?_⟩⟩
      · have z := q_le.mp z
        omega
      · rw [k3] at z
        rw [if_neg z] at e2'
        exact ih (s + 1) (x2 + 0) (x3 + 1) ex (by omega) (by omega) (by omega) (by rw [ea]; omega)
      · rw [k3] at z
        rw [if_pos z] at e2'
        exact ih (s + 1) (x2 + 1) (x3 + 1) ex (by omega) (by omega) (by omega) (by rw [eb]; omega)
  exact t_X12_pointsOf d h x1 _ (lp (h_i h 227 x1.toNatClampNeg).toNatClampNeg 0 0 (150 * x1) (by rw [m1]; omega) (by omega) (by decide) (by decide) (by rw [t0]; omega))
end
section
/-! begin of the reference, whole -/
theorem i63 {h : Hp_} (I : Iv h) {x : Int32} (b : rin x.toInt (0, 400)) : Iv (h_im h 1 63 x) := I.im (by rw [show tf 1 63 = (0, 400) by decide +kernel]; exact b) (by decide)
theorem rows_in {h : Hp_} (I : Iv h) : rin (h_i h 1 63).toInt (0, 400) := by
  have := I.2.1 1 63
  rwa [show tf 1 63 = (0, 400) by decide +kernel] at this
theorem i2xx (a : Nat) (e : tfa a = some rtop) (n : a ≠ 0) (j : jr a = false) {h : Hp_} (I : Iv h) (k : Nat) (x : Int32) : Iv (h_im h a k x) := tr_ a e I k x n j
/-- while the rows are laid: what stands of the man -/
noncomputable def Bg (h0 : Hp_) (c : Nat) (x2 : Int32) (N : Nat) (h : Hp_) : Prop := Iv h ∧ Mo c h0 h ∧ h_i h 208 c = 1 ∧ h_i h 212 c = x2 ∧ h_i h 213 c = 0 ∧ h_i h 210 c = -1 ∧ (h_i h 216 c).toInt + (N : Int) ≤ 400
theorem Bg.im {h0 : Hp_} {c : Nat} {x2 : Int32} {N : Nat} {h : Hp_} {a k : Nat} {x : Int32} (B : Bg h0 c x2 N h) (I : Iv (h_im h a k x)) (n : (mrow a || Nat.beq a 227 || Nat.beq a 228 || Nat.beq a 1 || !(inw wsR a 999)) = false) : Bg h0 c x2 N (h_im h a k x) := by
  simp only [Bool.or_eq_false_iff] at n
  have ne : ∀ {y : Nat}, mrow y = true → y ≠ a := fun {y} z e => by rw [e, n.1.1.1.1] at z; cases z
  refine ⟨I, B.2.1.im (by rw [n.1.1.1.2, n.1.1.2, n.1.2, n.2]; rfl) (fun z => by rw [n.1.1.1.1] at z; cases z), ?_, ?_, ?_, ?_, ?_⟩
  · rw [im_ne (ne rfl)]; exact B.2.2.1
  · rw [im_ne (ne rfl)]; exact B.2.2.2.1
  · rw [im_ne (ne rfl)]; exact B.2.2.2.2.1
  · rw [im_ne (ne rfl)]; exact B.2.2.2.2.2.1
  · rw [im_ne (ne rfl)]; exact B.2.2.2.2.2.2
theorem bg_loop (d : Nat) (h0 : Hp_) (x1 x2 : Int32) (b1 : rin x1.toInt (0, 11)) (b2 : rin x2.toInt (0, 11)) (hb : x2.toInt < (h_i h0 1 42).toInt) :
    ∀ (r s : Nat) (x3 : Int32) (h : Hp_), x3.toInt = 150 * x2.toInt + s → s + r = (h_i h0 227 x2.toNatClampNeg).toNatClampNeg → Bg h0 x1.toNatClampNeg x2 (mP (h_i h0 228) x2.toNatClampNeg (h_i h0 227 x2.toNatClampNeg).toNatClampNeg 0) h → (h_i h 1 63).toInt + (mP (h_i h0 228) x2.toNatClampNeg r s : Int) ≤ 400 →
    AW (m_X12_begin (d + 4) 0 0) 0 0 106 [(0, .ref 1), (1, .int x1), (2, .int x2), (3, .int x3)] [] h (kI (fun _ h' => Iv h' ∧ Mo x1.toNatClampNeg h0 h' ∧ Jm h' x1.toNatClampNeg)) := by
  have v1 := dp_in b1 (n := 12) (by decide) (by decide)
  have v2 := dp_in b2 (n := 12) (by decide) (by decide)
  have c0 : 0 ≤ x2.toInt := b2.1
  have c1 : x2.toInt ≤ 11 := b2.2
  have t0 : (0 : Int32).toInt = 0 := rfl
  have t1 : (1 : Int32).toInt = 1 := rfl
  have z0 : (0 : Int32).toNatClampNeg = 0 := by simp
  have fin : ∀ h, Bg h0 x1.toNatClampNeg x2 (mP (h_i h0 228) x2.toNatClampNeg (h_i h0 227 x2.toNatClampNeg).toNatClampNeg 0) h → Cv (m_X12_goOn (d + 3) 0 0) [.ref 1, .int x1] (h_im h 217 x1.toNatClampNeg (h_i h 1 63)) (fun h' => Wf h' ∧ (Iv h' ∧ Mo x1.toNatClampNeg h0 h' ∧ Jm h' x1.toNatClampNeg)) := by
    intro h B0
    have I0 := B0.1
    have B := B0.im (a := 217) (k := x1.toNatClampNeg) (x := h_i h 1 63) (I0.im (by rw [tfa_tf (show tfa 217 = some (0, 400) by decide +kernel)]; exact rows_in I0) (jw_jr (by decide) (by decide) _)) (by decide)
    generalize h_im h 217 x1.toNatClampNeg (h_i h 1 63) = h2 at B ⊢
    obtain ⟨I, M, e1, e2, e3, e4, e5⟩ := B
    have ez : nZ h2 x1.toNatClampNeg = (h_i h0 227 x2.toNatClampNeg).toNatClampNeg := by show (h_i h2 227 (h_i h2 212 x1.toNatClampNeg).toNatClampNeg).toNatClampNeg = _; rw [e2, M.2.1]
    have es : nS h2 x1.toNatClampNeg = 0 := by show (h_i h2 213 x1.toNatClampNeg).toNatClampNeg = _; rw [e3]; exact z0
    have eb : nB h2 x1.toNatClampNeg = x2.toNatClampNeg := by show (h_i h2 212 x1.toNatClampNeg).toNatClampNeg = _; rw [e2]
    have G : Gs h2 x1.toNatClampNeg := by
      unfold Gs
      rw [ez, es, eb, e2, e3, e4, M.wh, M.b42, Nat.sub_zero]
      exact ⟨by decide, Nat.zero_le _, hb, e5, rfl⟩
    exact Cv.mono (c_goOn d I x1 b1 (fun n => absurd e1 n) (fun _ => G)) (fun h' q => ⟨q.1.1, q.1, M.tr q.2.1, q.2.2⟩)
  intro r
  induction r with
  | zero =>
    intro s x3 h e3 es B er
    have ew := B.2.1.2.1 x2.toNatClampNeg
    obtain ⟨_, zb, _⟩ := bt_ix B.1 b2 (s := 0) (y := 150 * x2) (by rw [tx_mul (by rw [show (150 : Int32).toInt = 150 from rfl]; omega) (by rw [show (150 : Int32).toInt = 150 from rfl]; omega)]; show (150 : Int) * x2.toInt = _; omega) (by omega)
    rw [ew] at zb
    obtain ⟨k1, k2, k3⟩ := bt_ix B.1 b2 e3 (by omega)
    rw [ew] at k1
    refine t_X12_begin_106 d h B.1.1 x1 x2 x3 _ ⟨v2, fun _ => ⟨v1, fin h B⟩, fun z => ?_⟩
    rw [ew] at z
    have z := q_nle z
    omega
  | succ r ih =>
    intro s x3 h e3 es B er
    have ew := B.2.1.2.1 x2.toNatClampNeg
    obtain ⟨_, zb, _⟩ := bt_ix B.1 b2 (s := 0) (y := 150 * x2) (by rw [tx_mul (by rw [show (150 : Int32).toInt = 150 from rfl]; omega) (by rw [show (150 : Int32).toInt = 150 from rfl]; omega)]; show (150 : Int) * x2.toInt = _; omega) (by omega)
    rw [ew] at zb
    obtain ⟨k1, k2, k3⟩ := bt_ix B.1 b2 e3 (by omega)
    rw [ew] at k1
    have ex : (x3 + 1).toInt = 150 * x2.toInt + ((s + 1 : Nat) : Int) := by rw [tx_add (by rw [t1]; omega) (by rw [t1]; omega), t1, e3]; omega
    have v3 : vp_in x3 1800 := dp_in (lo := 0) (hi := 1799) ⟨by show (0 : Int) ≤ _; omega, by show _ ≤ (1799 : Int); omega⟩ (by decide) (by decide)
    have er' : (h_i h 1 63).toInt + (((if h_i h0 228 (150 * x2.toNatClampNeg + s) = 2 then 1 else 0) + mP (h_i h0 228) x2.toNatClampNeg r (s + 1) : Nat) : Int) ≤ 400 := er
    have wh : h_i h 228 x3.toNatClampNeg = h_i h0 228 (150 * x2.toNatClampNeg + s) := by rw [k3]; exact B.2.1.2.2.1 _
    refine t_X12_begin_106 d h B.1.1 x1 x2 x3 _ ⟨v2, fun _ => ⟨v1, fin h B⟩, fun z => ⟨v3, fun w => ?_, fun w => ?_⟩⟩
    · rw [wh] at w
      rw [if_neg w] at er'
      exact ih (s + 1) (x3 + 1) h ex (by omega) B (by omega)
    · rw [wh] at w
      rw [if_pos w] at er'
      have r0 : 0 ≤ (h_i h 1 63).toInt := (rows_in B.1).1
      have vr : vp_in (h_i h 1 63) 400 := dp_in (lo := 0) (hi := 399) ⟨r0, by show _ ≤ (399 : Int); omega⟩ (by decide) (by decide)
      have e63 : (h_i h 1 63 + 1).toInt = (h_i h 1 63).toInt + 1 := tx_add (by rw [t1]; omega) (by rw [t1]; omega)
      refine ⟨vr, v3, vr, v3, vr, vr, vr, vr, ?_⟩
      have B1 := B.im (i2xx 238 (by decide +kernel) (by decide) (by decide) B.1 (h_i h 1 63).toNatClampNeg x1) (by decide)
      have B2 := B1.im (i2xx 239 (by decide +kernel) (by decide) (by decide) B1.1 (h_i h 1 63).toNatClampNeg (h_i h 229 x3.toNatClampNeg)) (by decide)
      have B3 := B2.im (i2xx 240 (by decide +kernel) (by decide) (by decide) B2.1 (h_i h 1 63).toNatClampNeg ((h_i h 1 0) + (h_i h 230 x3.toNatClampNeg))) (by decide)
      have B4 := B3.im (i2xx 241 (by decide +kernel) (by decide) (by decide) B3.1 (h_i h 1 63).toNatClampNeg (-1)) (by decide)
      have B5 := B4.im (i2xx 242 (by decide +kernel) (by decide) (by decide) B4.1 (h_i h 1 63).toNatClampNeg (-1)) (by decide)
      have B6 := B5.im (i2xx 244 (by decide +kernel) (by decide) (by decide) B5.1 (h_i h 1 63).toNatClampNeg (h_i h 1 0)) (by decide)
      refine ih (s + 1) (x3 + 1) _ ex (by omega) ⟨i63 B6.1 ⟨by show (0 : Int) ≤ _; omega, by show _ ≤ (400 : Int); omega⟩, B6.2.1.im1 (by decide), ?_, ?_, ?_, ?_, ?_⟩ ?_
      · rw [im_ne (by decide)]; exact B6.2.2.1
      · rw [im_ne (by decide)]; exact B6.2.2.2.1
      · rw [im_ne (by decide)]; exact B6.2.2.2.2.1
      · rw [im_ne (by decide)]; exact B6.2.2.2.2.2.1
      · rw [im_ne (by decide)]; exact B6.2.2.2.2.2.2
      · rw [im_at]; omega
theorem i212 {h : Hp_} (I : Iv h) (k : Nat) {x : Int32} (b : rin x.toInt (0, 11)) : Iv (h_im h 212 k x) := I.im (by rw [tfa_tf (show tfa 212 = some (0, 11) by decide +kernel)]; exact b) (jw_jr (by decide) (by decide) _)
theorem i215 {h : Hp_} (I : Iv h) (k : Nat) {x : Int32} (b : rin x.toInt (0, 400)) : Iv (h_im h 215 k x) := I.im (by rw [tfa_tf (show tfa 215 = some (0, 400) by decide +kernel)]; exact b) (jw_jr (by decide) (by decide) _)
theorem c_begin (d : Nat) {h : Hp_} (I : Iv h) (J : J2 h) (x1 x2 : Int32) : Ci (m_X12_begin (d + 4) 0 0) [.ref 1, .int x1, .int x2] h (fun _ h' => Iv h' ∧ J2 h' ∧ Sr h h') := by
  have t0 : (0 : Int32).toInt = 0 := rfl
  have t1 : (1 : Int32).toInt = 1 := rfl
  have t400 : (400 : Int32).toInt = 400 := rfl
  have mm := men_in I
  have m0 : 0 ≤ (h_i h 1 7).toInt := mm.1
  have m1 : (h_i h 1 7).toInt ≤ 12 := mm.2
  have bm := I.2.1 1 42
  rw [show tf 1 42 = (0, 12) by decide +kernel] at bm
  have p0 : 0 ≤ (h_i h 1 42).toInt := bm.1
  have p1 : (h_i h 1 42).toInt ≤ 12 := bm.2
  have e7 : (h_i h 1 7 - 1).toInt = (h_i h 1 7).toInt - 1 := by rw [tx_sub (by rw [t1]; omega) (by rw [t1]; omega), t1]
  have e42 : (h_i h 1 42 - 1).toInt = (h_i h 1 42).toInt - 1 := by rw [tx_sub (by rw [t1]; omega) (by rw [t1]; omega), t1]
  refine t_X12_begin d h I.1 x1 x2 _ ⟨fun _ => ⟨I, J, Sr.rf _⟩, fun z => ⟨fun _ => ⟨I, J, Sr.rf _⟩, fun y => ?_⟩⟩
  have z1 := q_le.mp z.1
  have z2 := q_le.mp z.2
  have y1 := q_le.mp y.1
  have y2 := q_le.mp y.2
  have b1 : rin x1.toInt (0, 11) := ⟨by show (0 : Int) ≤ _; omega, by show _ ≤ (11 : Int); omega⟩
  have b2 : rin x2.toInt (0, 11) := ⟨by show (0 : Int) ≤ _; omega, by show _ ≤ (11 : Int); omega⟩
  have v1 := dp_in b1 (n := 12) (by decide) (by decide)
  have n1 := n_nat (x := x1) (by omega)
  refine ⟨v1, fun _ => ⟨I, J, Sr.rf _⟩, fun d0 => ?_⟩
  refine Ci.mono (c_pointsOf d I x2 b2) (fun r h9 q => ?_)
  obtain ⟨e9, er⟩ := q
  subst e9
  refine ⟨I.1, fun le => ⟨v1, v1, v1, v1, v1, v1, ?_⟩, fun _ => ⟨I, J, Sr.rf _⟩⟩
  have le := q_le.mp le
  have rr := rows_in I
  have r0 : 0 ≤ (h_i h9 1 63).toInt := rr.1
  have r1 : (h_i h9 1 63).toInt ≤ 400 := rr.2
  have mb := mP_le (wh := h_i h9 228) (b := x2.toNatClampNeg) (f := (h_i h9 227 x2.toNatClampNeg).toNatClampNeg) (s := 0)
  have t150 : (150 : Int32).toInt = 150 := rfl
  have m150 : (150 * x2).toInt = 150 * x2.toInt := by rw [tx_mul (by rw [t150]; omega) (by rw [t150]; omega), t150]
  obtain ⟨_, zb, _⟩ := bt_ix I b2 (s := 0) (y := 150 * x2) (by rw [m150]; omega) (by omega)
  have es : (h_i h9 1 63 + r).toInt = (h_i h9 1 63).toInt + r.toInt := tx_add (by omega) (by omega)
  have g1 : h_i h9 210 x1.toNatClampNeg = -1 := (J _ (by omega) (by omega)).1 d0
  have I6 := i216 (i215 (i2xx 214 (by decide +kernel) (by decide) (by decide) (i213 (i212 (i208 I x1.toNatClampNeg 1) x1.toNatClampNeg b2) x1.toNatClampNeg (x := 0) ⟨by decide, by decide⟩) x1.toNatClampNeg (h_i h9 1 0)) x1.toNatClampNeg rr) x1.toNatClampNeg rr
  refine AW.mono (bg_loop d h9 x1 x2 b1 b2 (by omega) (h_i h9 227 x2.toNatClampNeg).toNatClampNeg 0 (150 * x2) _ (by rw [m150]; omega) (by omega) ⟨I6, ?_, ?_, ?_, ?_, ?_, ?_⟩ ?_) (fun v h' q => ?_)
  · exact ((((((Mo.rf _ _).im (by decide) (fun _ => rfl)).im (by decide) (fun _ => rfl)).im (by decide) (fun _ => rfl)).im (by decide) (fun y => absurd y (by decide))).im (by decide) (fun y => absurd y (by decide))).im (by decide) (fun _ => rfl)
  · rw [im_ne (by decide), im_ne (by decide), im_ne (by decide), im_ne (by decide), im_ne (by decide), im_at]
  · rw [im_ne (by decide), im_ne (by decide), im_ne (by decide), im_ne (by decide), im_at]
  · rw [im_ne (by decide), im_ne (by decide), im_ne (by decide), im_at]
  · rw [im_ne (by decide), im_ne (by decide), im_ne (by decide), im_ne (by decide), im_ne (by decide), im_ne (by decide)]; exact g1
  · rw [im_at]; omega
  · rw [im_ne (by decide), im_ne (by decide), im_ne (by decide), im_ne (by decide), im_ne (by decide), im_ne (by decide)]; omega
  · obtain ⟨r2, ev, I', M', j'⟩ := q
    exact ⟨r2, ev, I', J2_o M' J j', M'.sr⟩
end
section
theorem t_X12_drop_0 (d : Nat) (h : Hp_) (w : Wf h) (x1 : Int32) (x2 : Int32) (K : Hp_ → Prop) (k : vp_in x1 12 ∧ (vp_in x1 12 ∧ (((h_i h 217 x1.toNatClampNeg) ≤ (h_i h 216 x1.toNatClampNeg) → vp_in x1 12 ∧ (K (h_im h 213 x1.toNatClampNeg (-1)))) ∧ (¬ (h_i h 217 x1.toNatClampNeg) ≤ (h_i h 216 x1.toNatClampNeg) → vp_in x1 12 ∧ (vp_in (h_i h 216 x1.toNatClampNeg) 400 ∧ ((¬ (h_i h 241 ((h_i h 216 x1.toNatClampNeg) : Int32).toNatClampNeg) = (-1) → vp_in x1 12 ∧ (vp_in x1 12 ∧ (AW (m_X12_drop (d + 1) 0 0) 0 0 0 [(0, .ref 1), (1, .int x1), (2, .int x2)] [] (h_im h 216 x1.toNatClampNeg ((h_i h 216 x1.toNatClampNeg) + 1)) (kV K)))) ∧ ((h_i h 241 ((h_i h 216 x1.toNatClampNeg) : Int32).toNatClampNeg) = (-1) → vp_in x1 12 ∧ (vp_in (h_i h 216 x1.toNatClampNeg) 400 ∧ ((¬ (h_i h 242 ((h_i h 216 x1.toNatClampNeg) : Int32).toNatClampNeg) = (-1) → vp_in x1 12 ∧ (vp_in x1 12 ∧ (AW (m_X12_drop (d + 1) 0 0) 0 0 0 [(0, .ref 1), (1, .int x1), (2, .int x2)] [] (h_im h 216 x1.toNatClampNeg ((h_i h 216 x1.toNatClampNeg) + 1)) (kV K)))) ∧ ((h_i h 242 ((h_i h 216 x1.toNatClampNeg) : Int32).toNatClampNeg) = (-1) → vp_in x1 12 ∧ (Cv (m_X12_miss (d + 0) 0 0) [.ref 1, .int (h_i h 216 x1.toNatClampNeg), .int x2] h (fun h36 => Wf h36 ∧ (vp_in x1 12 ∧ (vp_in x1 12 ∧ (AW (m_X12_drop (d + 1) 0 0) 0 0 0 [(0, .ref 1), (1, .int x1), (2, .int x2)] [] (h_im h36 216 x1.toNatClampNeg ((h_i h36 216 x1.toNatClampNeg) + 1)) (kV K)))))))))))))))) : AW (m_X12_drop (d + 1) 0 0) 0 0 0 [(0, .ref 1), (1, .int x1), (2, .int x2)] [] h (kV K) := by
  refine aw_aload_n (i := 0) rfl d_X12_drop_0 0 rfl ?_
  refine aw_getr (k0 := 20) kc_12 (ws_1 w) (Nat.le_of_ble_eq_true rfl) tw_1762 d_X12_drop_1 rfl (wr_1_20 w) ?_
  refine aw_iload_n (i := 1) rfl d_X12_drop_4 1 rfl ?_
  obtain ⟨b21, k⟩ := k
  refine aw_iald (ws_216 w) b21 d_X12_drop_5 ?_
  refine aw_aload_n (i := 0) rfl d_X12_drop_6 0 rfl ?_
  refine aw_getr (k0 := 21) kc_12 (ws_1 w) (Nat.le_of_ble_eq_true rfl) tw_1763 d_X12_drop_7 rfl (wr_1_21 w) ?_
  refine aw_iload_n (i := 1) rfl d_X12_drop_10 1 rfl ?_
  obtain ⟨b22, k⟩ := k
  refine aw_iald (ws_217 w) b22 d_X12_drop_11 ?_
  refine aw_icmp_ge (tgt := 69) d_X12_drop_12 rfl (fun c23 => ?_) (fun c23 => ?_)
  · have k := k.1 c23
    refine aw_aload_n (i := 0) rfl d_X12_drop_69 0 rfl ?_
    refine aw_getr (k0 := 17) kc_12 (ws_1 w) (Nat.le_of_ble_eq_true rfl) tw_1759 d_X12_drop_70 rfl (wr_1_17 w) ?_
    refine aw_iload_n (i := 1) rfl d_X12_drop_73 1 rfl ?_
    refine aw_iconst (v := (-1)) d_X12_drop_74 ic_m1 ?_
    obtain ⟨b24, k⟩ := k
    refine aw_iast (ws_213 w) b24 d_X12_drop_75 ?_
    exact aw_vret rfl d_X12_drop_76 ⟨Nat.le_refl _, Nat.le_refl _⟩ ⟨rfl, k⟩
  · have k := k.2 c23
    refine aw_aload_n (i := 0) rfl d_X12_drop_15 0 rfl ?_
    refine aw_getr (k0 := 56) kc_12 (ws_1 w) (Nat.le_of_ble_eq_true rfl) tw_1798 d_X12_drop_16 rfl (wr_1_56 w) ?_
    refine aw_aload_n (i := 0) rfl d_X12_drop_19 0 rfl ?_
    refine aw_getr (k0 := 20) kc_12 (ws_1 w) (Nat.le_of_ble_eq_true rfl) tw_1762 d_X12_drop_20 rfl (wr_1_20 w) ?_
    refine aw_iload_n (i := 1) rfl d_X12_drop_23 1 rfl ?_
    obtain ⟨b25, k⟩ := k
    refine aw_iald (ws_216 w) b25 d_X12_drop_24 ?_
    obtain ⟨b26, k⟩ := k
    refine aw_iald (ws_241 w) b26 d_X12_drop_25 ?_
    refine aw_iconst (v := (-1)) d_X12_drop_26 ic_m1 ?_
    refine aw_icmp_ne (tgt := 56) d_X12_drop_27 rfl (fun c27 => ?_) (fun c27 => ?_)
    · have k := k.1 c27
      refine aw_aload_n (i := 0) rfl d_X12_drop_56 0 rfl ?_
      refine aw_getr (k0 := 20) kc_12 (ws_1 w) (Nat.le_of_ble_eq_true rfl) tw_1762 d_X12_drop_57 rfl (wr_1_20 w) ?_
      refine aw_iload_n (i := 1) rfl d_X12_drop_60 1 rfl ?_
      refine aw_dup2 d_X12_drop_61 ⟨rfl, rfl⟩ ?_
      obtain ⟨b28, k⟩ := k
      refine aw_iald (ws_216 w) b28 d_X12_drop_62 ?_
      refine aw_iconst (v := 1) d_X12_drop_63 ic_1 ?_
      refine aw_iadd d_X12_drop_64 ?_
      obtain ⟨b29, k⟩ := k
      refine aw_iast (ws_216 w) b29 d_X12_drop_65 ?_
      refine aw_goto (tgt := 0) d_X12_drop_66 rfl ?_
      exact k
    · have k := k.2 c27
      refine aw_aload_n (i := 0) rfl d_X12_drop_30 0 rfl ?_
      refine aw_getr (k0 := 57) kc_12 (ws_1 w) (Nat.le_of_ble_eq_true rfl) tw_1799 d_X12_drop_31 rfl (wr_1_57 w) ?_
      refine aw_aload_n (i := 0) rfl d_X12_drop_34 0 rfl ?_
      refine aw_getr (k0 := 20) kc_12 (ws_1 w) (Nat.le_of_ble_eq_true rfl) tw_1762 d_X12_drop_35 rfl (wr_1_20 w) ?_
      refine aw_iload_n (i := 1) rfl d_X12_drop_38 1 rfl ?_
      obtain ⟨b30, k⟩ := k
      refine aw_iald (ws_216 w) b30 d_X12_drop_39 ?_
      obtain ⟨b31, k⟩ := k
      refine aw_iald (ws_242 w) b31 d_X12_drop_40 ?_
      refine aw_iconst (v := (-1)) d_X12_drop_41 ic_m1 ?_
      refine aw_icmp_ne (tgt := 56) d_X12_drop_42 rfl (fun c32 => ?_) (fun c32 => ?_)
      · have k := k.1 c32
        refine aw_aload_n (i := 0) rfl d_X12_drop_56 0 rfl ?_
        refine aw_getr (k0 := 20) kc_12 (ws_1 w) (Nat.le_of_ble_eq_true rfl) tw_1762 d_X12_drop_57 rfl (wr_1_20 w) ?_
        refine aw_iload_n (i := 1) rfl d_X12_drop_60 1 rfl ?_
        refine aw_dup2 d_X12_drop_61 ⟨rfl, rfl⟩ ?_
        obtain ⟨b33, k⟩ := k
        refine aw_iald (ws_216 w) b33 d_X12_drop_62 ?_
        refine aw_iconst (v := 1) d_X12_drop_63 ic_1 ?_
        refine aw_iadd d_X12_drop_64 ?_
        obtain ⟨b34, k⟩ := k
        refine aw_iast (ws_216 w) b34 d_X12_drop_65 ?_
        refine aw_goto (tgt := 0) d_X12_drop_66 rfl ?_
        exact k
      · have k := k.2 c32
        refine aw_aload_n (i := 0) rfl d_X12_drop_45 0 rfl ?_
        refine aw_aload_n (i := 0) rfl d_X12_drop_46 0 rfl ?_
        refine aw_getr (k0 := 20) kc_12 (ws_1 w) (Nat.le_of_ble_eq_true rfl) tw_1762 d_X12_drop_47 rfl (wr_1_20 w) ?_
        refine aw_iload_n (i := 1) rfl d_X12_drop_50 1 rfl ?_
        obtain ⟨b35, k⟩ := k
        refine aw_iald (ws_216 w) b35 d_X12_drop_51 ?_
        refine aw_iload_n (i := 2) rfl d_X12_drop_52 2 rfl ?_
        refine aw_Vv 1 [.int (h_i h 216 x1.toNatClampNeg), .int x2] [] d_X12_drop_53 (cV_X12_miss (d + 0) 0 0) kc_12 (ws_1 w) tw_2352 rfl (rr0 (Nat.le_of_ble_eq_true rfl) (Nat.le_of_ble_eq_true rfl)) (Nat.le_of_ble_eq_true rfl) xs0 k (fun h36 kk => ?_)
        obtain ⟨w37, k⟩ := kk
        refine aw_aload_n (i := 0) rfl d_X12_drop_56 0 rfl ?_
        refine aw_getr (k0 := 20) kc_12 (ws_1 w37) (Nat.le_of_ble_eq_true rfl) tw_1762 d_X12_drop_57 rfl (wr_1_20 w37) ?_
        refine aw_iload_n (i := 1) rfl d_X12_drop_60 1 rfl ?_
        refine aw_dup2 d_X12_drop_61 ⟨rfl, rfl⟩ ?_
        obtain ⟨b39, k⟩ := k
        refine aw_iald (ws_216 w37) b39 d_X12_drop_62 ?_
        refine aw_iconst (v := 1) d_X12_drop_63 ic_1 ?_
        refine aw_iadd d_X12_drop_64 ?_
        obtain ⟨b40, k⟩ := k
        refine aw_iast (ws_216 w37) b40 d_X12_drop_65 ?_
        refine aw_goto (tgt := 0) d_X12_drop_66 rfl ?_
        exact k
end
section
/-! draw, ill and constable of the reference -/
theorem dr_loop (d : Nat) (h0 : Hp_) (x1 x2 : Int32) (b1 : rin x1.toInt (0, 11)) : ∀ (r : Nat) (h : Hp_), Iv h → Mo x1.toNatClampNeg h0 h → h_i h 208 x1.toNatClampNeg = h_i h0 208 x1.toNatClampNeg ∧ h_i h 210 x1.toNatClampNeg = h_i h0 210 x1.toNatClampNeg → 400 - (h_i h 216 x1.toNatClampNeg).toInt ≤ r →
    AW (m_X12_drop (d + 1) 0 0) 0 0 0 [(0, .ref 1), (1, .int x1), (2, .int x2)] [] h (kV (fun h' => Iv h' ∧ Mo x1.toNatClampNeg h0 h' ∧ h_i h' 208 x1.toNatClampNeg = h_i h0 208 x1.toNatClampNeg ∧ h_i h' 210 x1.toNatClampNeg = h_i h0 210 x1.toNatClampNeg)) := by
  have v1 := dp_in b1 (n := 12) (by decide) (by decide)
  have t1 : (1 : Int32).toInt = 1 := rfl
  intro r
  induction r with
  | zero =>
    intro h I M e m
    have e7 : (h_i h 217 x1.toNatClampNeg).toInt ≤ 400 := (dp_rg I 217 x1.toNatClampNeg (show tfa 217 = some (0, 400) by decide +kernel)).2
    refine t_X12_drop_0 d h I.1 x1 x2 _ ⟨v1, v1, fun _ => ⟨v1, i213 I _ m1_st, M.im (by decide) (fun _ => rfl), by rw [im_ne (by decide)]; exact e.1, by rw [im_ne (by decide)]; exact e.2⟩, fun z => ?_⟩
    have z := q_nle z
    omega
  | succ r ih =>
    intro h I M e m
    have e7 : (h_i h 217 x1.toNatClampNeg).toInt ≤ 400 := (dp_rg I 217 x1.toNatClampNeg (show tfa 217 = some (0, 400) by decide +kernel)).2
    have r0 : 0 ≤ (h_i h 216 x1.toNatClampNeg).toInt := (rw_in I _).1
    refine t_X12_drop_0 d h I.1 x1 x2 _ ⟨v1, v1, fun _ => ⟨v1, i213 I _ m1_st, M.im (by decide) (fun _ => rfl), by rw [im_ne (by decide)]; exact e.1, by rw [im_ne (by decide)]; exact e.2⟩, fun z => ?_⟩
    have z := q_nle z
    have vr : vp_in (h_i h 216 x1.toNatClampNeg) 400 := dp_in (lo := 0) (hi := 399) ⟨r0, by show _ ≤ (399 : Int); omega⟩ (by decide) (by decide)
    have go : ∀ h2, Iv h2 → Mo x1.toNatClampNeg h0 h2 → h_i h2 208 x1.toNatClampNeg = h_i h0 208 x1.toNatClampNeg ∧ h_i h2 210 x1.toNatClampNeg = h_i h0 210 x1.toNatClampNeg → h_i h2 216 x1.toNatClampNeg = h_i h 216 x1.toNatClampNeg → AW (m_X12_drop (d + 1) 0 0) 0 0 0 [(0, .ref 1), (1, .int x1), (2, .int x2)] [] (h_im h2 216 x1.toNatClampNeg ((h_i h2 216 x1.toNatClampNeg) + 1)) (kV (fun h' => Iv h' ∧ Mo x1.toNatClampNeg h0 h' ∧ h_i h' 208 x1.toNatClampNeg = h_i h0 208 x1.toNatClampNeg ∧ h_i h' 210 x1.toNatClampNeg = h_i h0 210 x1.toNatClampNeg)) := by
      intro h2 I2 M2 e2 e6
      have ex : (h_i h2 216 x1.toNatClampNeg + 1).toInt = (h_i h 216 x1.toNatClampNeg).toInt + 1 := by rw [e6, tx_add (by rw [t1]; omega) (by rw [t1]; omega), t1]
      exact ih _ (i216 I2 _ ⟨by show (0 : Int) ≤ _; omega, by show _ ≤ (400 : Int); omega⟩) (M2.im (by decide) (fun _ => rfl)) ⟨by rw [im_ne (by decide)]; exact e2.1, by rw [im_ne (by decide)]; exact e2.2⟩ (by rw [im_at]; omega)
    refine ⟨v1, vr, fun _ => ⟨v1, v1, go h I M e rfl⟩, fun _ => ⟨v1, vr, fun _ => ⟨v1, v1, go h I M e rfl⟩, fun _ => ⟨v1, ?_⟩⟩⟩
    refine Cv.mono (c_miss d I x1.toNatClampNeg _ x2 ⟨r0, by show _ ≤ (399 : Int); omega⟩) (fun h2 q => ⟨q.1.1, v1, v1, go h2 q.1 (M.tr q.2.1) ⟨by rw [q.2.2.1.1]; exact e.1, by rw [q.2.2.2]; exact e.2⟩ q.2.2.1.2.2.2⟩)
theorem c_drop (d : Nat) {h : Hp_} (I : Iv h) (x1 x2 : Int32) (b1 : rin x1.toInt (0, 11)) : Cv (m_X12_drop (d + 1) 0 0) [.ref 1, .int x1, .int x2] h (fun h' => Iv h' ∧ Mo x1.toNatClampNeg h h' ∧ h_i h' 208 x1.toNatClampNeg = h_i h 208 x1.toNatClampNeg ∧ h_i h' 210 x1.toNatClampNeg = h_i h 210 x1.toNatClampNeg) := by
  refine Ct.of (fun _ _ _ => trivial) pn_X12 (Nat.le_of_ble_eq_true rfl) ?_
  have r0 : 0 ≤ (h_i h 216 x1.toNatClampNeg).toInt := (rw_in I _).1
  exact dr_loop d h x1 x2 b1 400 h I (Mo.rf _ _) ⟨rfl, rfl⟩ (by omega)
theorem man_ix {h : Hp_} (I : Iv h) {x1 : Int32} (z : 0 ≤ x1 ∧ x1 ≤ (h_i h 1 7) - 1) : rin x1.toInt (0, 11) ∧ x1.toNatClampNeg < 12 ∧ (x1.toNatClampNeg : Int) < (h_i h 1 7).toInt := by
  have t0 : (0 : Int32).toInt = 0 := rfl
  have t1 : (1 : Int32).toInt = 1 := rfl
  have m0 : 0 ≤ (h_i h 1 7).toInt := (men_in I).1
  have m1 : (h_i h 1 7).toInt ≤ 12 := (men_in I).2
  have e7 : (h_i h 1 7 - 1).toInt = (h_i h 1 7).toInt - 1 := by rw [tx_sub (by rw [t1]; omega) (by rw [t1]; omega), t1]
  have z1 := q_le.mp z.1
  have z2 := q_le.mp z.2
  have n1 := n_nat (x := x1) (by omega)
  exact ⟨⟨by show (0 : Int) ≤ _; omega, by show _ ≤ (11 : Int); omega⟩, by omega, by omega⟩
theorem c_ill (d : Nat) {h : Hp_} (I : Iv h) (J : J2 h) (x1 x2 : Int32) : Ci (m_X12_ill (d + 2) 0 0) [.ref 1, .int x1, .int x2] h (fun _ h' => Iv h' ∧ J2 h' ∧ Sr h h') := by
  refine t_X12_ill d h I.1 x1 x2 _ ⟨fun _ => ⟨I, J, Sr.rf _⟩, fun z => ?_⟩
  obtain ⟨b1, _⟩ := man_ix I z
  have v1 := dp_in b1 (n := 12) (by decide) (by decide)
  have st : ∀ h2, Iv h2 → Mo x1.toNatClampNeg h h2 → Iv (h_im (h_im (h_im (h_im (h_im h2 208 x1.toNatClampNeg 4) 209 x1.toNatClampNeg (h_i h2 206 x1.toNatClampNeg)) 210 x1.toNatClampNeg (-1)) 211 x1.toNatClampNeg (-1)) 213 x1.toNatClampNeg (-1)) ∧ J2 (h_im (h_im (h_im (h_im (h_im h2 208 x1.toNatClampNeg 4) 209 x1.toNatClampNeg (h_i h2 206 x1.toNatClampNeg)) 210 x1.toNatClampNeg (-1)) 211 x1.toNatClampNeg (-1)) 213 x1.toNatClampNeg (-1)) ∧ Sr h (h_im (h_im (h_im (h_im (h_im h2 208 x1.toNatClampNeg 4) 209 x1.toNatClampNeg (h_i h2 206 x1.toNatClampNeg)) 210 x1.toNatClampNeg (-1)) 211 x1.toNatClampNeg (-1)) 213 x1.toNatClampNeg (-1)) := by
    intro h2 I2 M2
    have e8 : h_i (h_im (h_im (h_im (h_im (h_im h2 208 x1.toNatClampNeg 4) 209 x1.toNatClampNeg (h_i h2 206 x1.toNatClampNeg)) 210 x1.toNatClampNeg (-1)) 211 x1.toNatClampNeg (-1)) 213 x1.toNatClampNeg (-1)) 208 x1.toNatClampNeg = 4 := by rw [im_ne (by decide), im_ne (by decide), im_ne (by decide), im_ne (by decide), im_at]
    have M5 : Mo x1.toNatClampNeg h (h_im (h_im (h_im (h_im (h_im h2 208 x1.toNatClampNeg 4) 209 x1.toNatClampNeg (h_i h2 206 x1.toNatClampNeg)) 210 x1.toNatClampNeg (-1)) 211 x1.toNatClampNeg (-1)) 213 x1.toNatClampNeg (-1)) := ((((M2.im (by decide) (fun _ => rfl)).im (by decide) (fun y => absurd y (by decide))).im (by decide) (fun _ => rfl)).im (by decide) (fun y => absurd y (by decide))).im (by decide) (fun _ => rfl)
    exact ⟨i213 (i211 (i210 (i209 (i208 I2 _ _) _ (b15 (home_in I2 _))) _ m1_in) _ _) _ m1_st, J2_o M5 J (Jd.jm ⟨by rw [e8]; decide, fun y => by rw [e8] at y; exact absurd y (by decide)⟩), M5.sr⟩
  have fr : Cv (m_X12_free (d + 0) 0 0) [.ref 1, .int x1] h (fun h' => Wf h' ∧ (Iv h' ∧ J2 h' ∧ Sr h h')) := Cv.mono (c_free d I x1 b1) (fun h' q => ⟨q.1.1, q.1, J2_o q.2.1 J (Jd.jm ⟨by rw [q.2.2.1]; decide, fun _ => q.2.2.2⟩), q.2.1.sr⟩)
  have dp : Cv (m_X12_drop (d + 1) 0 0) [.ref 1, .int x1, .int 4] h (fun h16 => Wf h16 ∧ (vp_in x1 12 ∧ (vp_in x1 12 ∧ (vp_in x1 12 ∧ (vp_in x1 12 ∧ (vp_in x1 12 ∧ (vp_in x1 12 ∧ (Iv (h_im (h_im (h_im (h_im (h_im h16 208 x1.toNatClampNeg 4) 209 x1.toNatClampNeg (h_i h16 206 x1.toNatClampNeg)) 210 x1.toNatClampNeg (-1)) 211 x1.toNatClampNeg (-1)) 213 x1.toNatClampNeg (-1)) ∧ J2 (h_im (h_im (h_im (h_im (h_im h16 208 x1.toNatClampNeg 4) 209 x1.toNatClampNeg (h_i h16 206 x1.toNatClampNeg)) 210 x1.toNatClampNeg (-1)) 211 x1.toNatClampNeg (-1)) 213 x1.toNatClampNeg (-1)) ∧ Sr h (h_im (h_im (h_im (h_im (h_im h16 208 x1.toNatClampNeg 4) 209 x1.toNatClampNeg (h_i h16 206 x1.toNatClampNeg)) 210 x1.toNatClampNeg (-1)) 211 x1.toNatClampNeg (-1)) 213 x1.toNatClampNeg (-1)))))))))) := Cv.mono (c_drop d I x1 4 b1) (fun h' q => ⟨q.1.1, v1, v1, v1, v1, v1, v1, st h' q.1 q.2.1⟩)
  exact ⟨v1, fun _ => ⟨fun _ => ⟨fun _ => ⟨v1, fun _ => ⟨v1, v1, v1, v1, v1, v1, st h I (Mo.rf _ _)⟩, fun _ => dp⟩, fun _ => fr⟩, fun _ => ⟨I, J, Sr.rf _⟩⟩, fun _ => ⟨fun _ => ⟨fun _ => ⟨v1, fun _ => ⟨v1, v1, v1, v1, v1, v1, st h I (Mo.rf _ _)⟩, fun _ => dp⟩, fun _ => fr⟩, fun _ => ⟨I, J, Sr.rf _⟩⟩⟩
theorem i248b {h : Hp_} (I : Iv h) (k : Nat) {x : Int32} (b : rin x.toInt (0, 1)) : Iv (h_im h 248 k x) := I.im (by rw [tfa_tf (show tfa 248 = some (0, 1) by decide +kernel)]; exact b) (jw_jr (by decide) (by decide) _)
theorem i218 {h : Hp_} (I : Iv h) (k : Nat) {x : Int32} (b : rin x.toInt (0, 15)) : Iv (h_im h 218 k x) := I.im (by rw [tfa_tf (show tfa 218 = some (0, 15) by decide +kernel)]; exact b) (jw_jr (by decide) (by decide) _)
theorem c_draw (d : Nat) {h : Hp_} (I : Iv h) (J : J2 h) (x1 x2 x3 : Int32) : Ci (m_X12_draw (d + 5) 0 0) [.ref 1, .int x1, .int x2, .int x3] h (fun _ h' => Iv h' ∧ J2 h' ∧ Sr h h') := by
  refine t_X12_draw d h I.1 x1 x2 x3 _ ⟨fun _ => ⟨I, J, Sr.rf _⟩, fun z => ⟨fun _ => ⟨I, J, Sr.rf _⟩, fun y => ⟨fun _ => ⟨I, J, Sr.rf _⟩, fun _ => ?_⟩⟩⟩
  obtain ⟨b1, _⟩ := man_ix I z
  have v1 := dp_in b1 (n := 12) (by decide) (by decide)
  have b2 : rin x2.toInt (0, 15) := by
    have y1 := q_le.mp y.1
    have y2 := q_le.mp y.2
    exact ⟨y1, y2⟩
  have st : ∀ (h2 : Hp_) (x : Int32), Iv h2 → Mo x1.toNatClampNeg h h2 → rin x.toInt (0, 1) → Iv (h_im (h_im (h_im (h_im (h_im h2 213 x1.toNatClampNeg (-1)) 208 x1.toNatClampNeg 3) 218 x1.toNatClampNeg x2) 219 x1.toNatClampNeg x3) 248 x1.toNatClampNeg x) ∧ Mo x1.toNatClampNeg h (h_im (h_im (h_im (h_im (h_im h2 213 x1.toNatClampNeg (-1)) 208 x1.toNatClampNeg 3) 218 x1.toNatClampNeg x2) 219 x1.toNatClampNeg x3) 248 x1.toNatClampNeg x) ∧ h_i (h_im (h_im (h_im (h_im (h_im h2 213 x1.toNatClampNeg (-1)) 208 x1.toNatClampNeg 3) 218 x1.toNatClampNeg x2) 219 x1.toNatClampNeg x3) 248 x1.toNatClampNeg x) 208 x1.toNatClampNeg = 3 := by
    intro h2 x I2 M2 bx
    exact ⟨i248b (i2xx 219 (by decide +kernel) (by decide) (by decide) (i218 (i208 (i213 I2 _ m1_st) _ _) _ b2) _ _) _ bx, ((((M2.im (by decide) (fun _ => rfl)).im (by decide) (fun _ => rfl)).im (by decide) (fun y => absurd y (by decide))).im (by decide) (fun y => absurd y (by decide))).im (by decide) (fun y => absurd y (by decide)), by rw [im_ne (by decide), im_ne (by decide), im_ne (by decide), im_at]⟩
  have k0 : rin (vp_nar .boolean 0).toInt (0, 1) := ⟨by decide, by decide⟩
  have k1 : rin (vp_nar .boolean 1).toInt (0, 1) := ⟨by decide, by decide⟩
  have fin : ∀ (h2 : Hp_) (x : Int32), Iv h2 → Mo x1.toNatClampNeg h h2 → rin x.toInt (0, 1) → (Iv (h_im (h_im (h_im (h_im (h_im h2 213 x1.toNatClampNeg (-1)) 208 x1.toNatClampNeg 3) 218 x1.toNatClampNeg x2) 219 x1.toNatClampNeg x3) 248 x1.toNatClampNeg x) ∧ J2 (h_im (h_im (h_im (h_im (h_im h2 213 x1.toNatClampNeg (-1)) 208 x1.toNatClampNeg 3) 218 x1.toNatClampNeg x2) 219 x1.toNatClampNeg x3) 248 x1.toNatClampNeg x) ∧ Sr h (h_im (h_im (h_im (h_im (h_im h2 213 x1.toNatClampNeg (-1)) 208 x1.toNatClampNeg 3) 218 x1.toNatClampNeg x2) 219 x1.toNatClampNeg x3) 248 x1.toNatClampNeg x)) ∧ Cv (m_X12_goDrawn (d + 4) 0 0) [.ref 1, .int x1] (h_im (h_im (h_im (h_im (h_im h2 213 x1.toNatClampNeg (-1)) 208 x1.toNatClampNeg 3) 218 x1.toNatClampNeg x2) 219 x1.toNatClampNeg x3) 248 x1.toNatClampNeg x) (fun h' => Wf h' ∧ (Iv h' ∧ J2 h' ∧ Sr h h')) := by
    intro h2 x I2 M2 bx
    obtain ⟨I3, M3, e3⟩ := st h2 x I2 M2 bx
    exact ⟨⟨I3, J2_o M3 J (Jd.jm ⟨by rw [e3]; decide, fun y => by rw [e3] at y; exact absurd y (by decide)⟩), M3.sr⟩, Cv.mono (c_goDrawn d I3 x1 b1 (by rw [e3]; exact ⟨by decide, by decide⟩)) (fun h' q => ⟨q.1.1, q.1, J2_o (M3.tr q.2.1) J q.2.2.jm, (M3.tr q.2.1).sr⟩)⟩
  refine ⟨v1, Ci.mono (c_walkOf d I _ x2 b2) (fun r h2 q => ?_)⟩
  obtain ⟨I2, F2, _⟩ := q
  have M2 : Mo x1.toNatClampNeg h h2 := Mo.fr F2 (by decide +kernel)
  have S2 : So x1.toNatClampNeg h h2 := So.fr F2 (by decide +kernel)
  have J2' : J2 h2 := J2_o M2 J (by
    by_cases e : x1.toNatClampNeg < 12
    · exact Jm_s M2 S2 (fr_i F2 (a := 210) (by decide +kernel) _) (J _ e (man_ix I z).2.2)
    · exact absurd (man_ix I z).2.1 e)
  refine ⟨I2.1, fun _ => ⟨I2, J2', M2.sr⟩, fun _ => ⟨v1, fun _ => ⟨I2, J2', M2.sr⟩, fun _ => ⟨v1, fun _ => ⟨v1, fun _ => ⟨v1, v1, v1, v1, v1, fun _ => ⟨v1, v1, fun _ => (fin h2 _ I2 M2 k0).1, fun _ => (fin h2 _ I2 M2 k0).2⟩, fun _ => ⟨v1, v1, fun _ => (fin h2 _ I2 M2 k1).1, fun _ => (fin h2 _ I2 M2 k1).2⟩⟩, fun _ => ?_⟩, fun _ => ⟨I2, J2', M2.sr⟩⟩⟩⟩
  refine Cv.mono (c_drop d I2 x1 3 b1) (fun h3 q => ?_)
  have M3 := M2.tr q.2.1
  exact ⟨q.1.1, v1, v1, v1, v1, v1, fun _ => ⟨v1, v1, fun _ => (fin h3 _ q.1 M3 k0).1, fun _ => (fin h3 _ q.1 M3 k0).2⟩, fun _ => ⟨v1, v1, fun _ => (fin h3 _ q.1 M3 k1).1, fun _ => (fin h3 _ q.1 M3 k1).2⟩⟩
end
section
/-! constable of the reference; what every other call leaves of the men -/
noncomputable def okm (m x1 x2 x3 : Int32) : Prop := (1 ≤ x1 ∧ x1 ≤ 4) ∧ (0 ≤ x2 ∧ x2 ≤ 40) ∧ (0 ≤ x3 ∧ x3 ≤ 15) ∧ ¬ m = 12
noncomputable def ocm (m x1 x2 x3 r m' : Int32) : Prop := (okm m x1 x2 x3 ∧ r = m ∧ m' = m + 1) ∨ (¬ okm m x1 x2 x3 ∧ r = -1 ∧ m' = m)
noncomputable def Cw (ok : Prop) (m x1 : Int32) (h h' : Hp_) : Prop := (ok → h_i h' 204 m.toNatClampNeg = x1) ∧ ∀ k, (k ≠ m.toNatClampNeg ∨ ¬ ok) → h_i h' 204 k = h_i h 204 k
theorem tx_back (x : Int32) : x + 1 - 1 = x := Int32.add_sub_cancel x 1
theorem c_conM (d : Nat) {h : Hp_} (I : Iv h) (J : J2 h) (x1 x2 x3 : Int32) : Ci (m_X12_constable (d + 2) 0 0) [.ref 1, .int x1, .int x2, .int x3] h (fun r h' => Iv h' ∧ J2 h' ∧ Sn h h' ∧ ocm (h_i h 1 7) x1 x2 x3 r (h_i h' 1 7) ∧ Cw (okm (h_i h 1 7) x1 x2 x3) (h_i h 1 7) x1 h h') := by
  have t0 : (0 : Int32).toInt = 0 := rfl
  have t1 : (1 : Int32).toInt = 1 := rfl
  have t12 : (12 : Int32).toInt = 12 := rfl
  have m0 : 0 ≤ (h_i h 1 7).toInt := (men_in I).1
  have m1 : (h_i h 1 7).toInt ≤ 12 := (men_in I).2
  refine t_X12_constable d h I.1 x1 x2 x3 _ ⟨fun n => ⟨I, J, Fr.rf _ _, Or.inr ⟨fun o => n o.1, rfl, rfl⟩, fun o => absurd o.1 n, fun _ _ => rfl⟩, fun a1 => ⟨fun n => ⟨I, J, Fr.rf _ _, Or.inr ⟨fun o => n o.2.1, rfl, rfl⟩, fun o => absurd o.2.1 n, fun _ _ => rfl⟩, fun a2 => ⟨fun n => ⟨I, J, Fr.rf _ _, Or.inr ⟨fun o => n o.2.2.1, rfl, rfl⟩, fun o => absurd o.2.2.1 n, fun _ _ => rfl⟩, fun y => ⟨fun z => ?_, fun n => ⟨I, J, Fr.rf _ _, Or.inr ⟨fun o => o.2.2.2 n, rfl, rfl⟩, fun o => absurd n o.2.2.2, fun _ _ => rfl⟩⟩⟩⟩⟩
  have ok : okm (h_i h 1 7) x1 x2 x3 := ⟨a1, a2, y, z⟩
  have y1 := q_le.mp y.1
  have y2 := q_le.mp y.2
  have b3 : rin x3.toInt (0, 15) := ⟨y1, y2⟩
  have lt : (h_i h 1 7).toInt ≤ 11 := by
    rcases Int.lt_or_le (h_i h 1 7).toInt 12 with u | u
    · omega
    · exact absurd (Int32.toInt_inj.mp (by rw [t12]; omega)) z
  have v : vp_in (h_i h 1 7) 12 := dp_in (lo := 0) (hi := 11) ⟨m0, lt⟩ (by decide) (by decide)
  have e7 : (h_i h 1 7 + 1).toInt = (h_i h 1 7).toInt + 1 := tx_add (by rw [t1]; omega) (by rw [t1]; omega)
  refine ⟨v, v, v, v, v, v, v, v, v, v, v, v, ?_⟩
  have nr := I.2.1 1 0
  rw [show tf 1 0 = (0, 20000) by decide +kernel] at nr
  have nc := n_nat m0
  generalize ecc : (h_i h 1 7).toNatClampNeg = c at nc ⊢
  have z4 : rin (0 : Int32).toInt (0, 400) := ⟨by decide, by decide⟩
  have IA := i2xx 205 (by decide +kernel) (by decide) (by decide) (i2xx 204 (by decide +kernel) (by decide) (by decide) I c x1) c x2
  have FB : Fr wsN h (h_im (h_im (h_im (h_im h 204 c x1) 205 c x2) 206 c x3) 207 c (h_i h 1 0)) := ((((Fr.rf _ _).im (inw_row (by decide +kernel) _)).im (inw_row (by decide +kernel) _)).im (inw_row (by decide +kernel) _)).im (inw_row (by decide +kernel) _)
  have JB : J2 (h_im (h_im (h_im (h_im h 204 c x1) 205 c x2) 206 c x3) 207 c (h_i h 1 0)) := J2_s (Js.im (by decide) (fun z => absurd z.1 (by decide))) (J2_s (Js.im (by decide) (fun z => absurd z.1 (by decide))) (J2_s (Js.im (by decide) (fun z => absurd z.1 (by decide))) (J2_s (Js.im (by decide) (fun z => absurd z.1 (by decide))) J)))
  have IB : Iv (h_im (h_im (h_im (h_im h 204 c x1) 205 c x2) 206 c x3) 207 c (h_i h 1 0)) := (IA.im (by rw [tfa_tf (show tfa 206 = some (0, 15) by decide +kernel)]; exact b3) (jw_jr (by decide) (by decide) _)).im (by rw [tfa_tf (show tfa 207 = some (0, 20000) by decide +kernel)]; exact nr) (jw_jr (by decide) (by decide) _)
  have MB : Mo c (h_im (h_im (h_im (h_im h 204 c x1) 205 c x2) 206 c x3) 207 c (h_i h 1 0)) (h_im (h_im (h_im (h_im h 204 c x1) 205 c x2) 206 c x3) 207 c (h_i h 1 0)) := Mo.rf _ _
  have IC := i213 (i211 (i210 (i209 (i208 IB c 0) c (b15 b3)) c m1_in) c (-1)) c m1_st
  have MC := ((((MB.im (b := 208) (k := c) (x := 0) (by decide) (fun _ => rfl)).im (b := 209) (k := c) (x := x3) (by decide) (fun y => absurd y (by decide))).im (b := 210) (k := c) (x := -1) (by decide) (fun _ => rfl)).im (b := 211) (k := c) (x := -1) (by decide) (fun y => absurd y (by decide))).im (b := 213) (k := c) (x := -1) (by decide) (fun _ => rfl)
  have ID : Iv (h_im (h_im (h_im (h_im (h_im (h_im (h_im (h_im (h_im (h_im (h_im (h_im h 204 c x1) 205 c x2) 206 c x3) 207 c (h_i h 1 0)) 208 c 0) 209 c x3) 210 c (-1)) 211 c (-1)) 213 c (-1)) 215 c 0) 216 c 0) 217 c 0) := (i216 (i215 IC c z4) c z4).im (by rw [tfa_tf (show tfa 217 = some (0, 400) by decide +kernel)]; exact z4) (jw_jr (by decide) (by decide) _)
  have MD := ((MC.im (b := 215) (k := c) (x := 0) (by decide) (fun y => absurd y (by decide))).im (b := 216) (k := c) (x := 0) (by decide) (fun _ => rfl)).im (b := 217) (k := c) (x := 0) (by decide) (fun y => absurd y (by decide))
  have e8 : h_i (h_im (h_im (h_im (h_im (h_im (h_im (h_im (h_im (h_im (h_im (h_im (h_im h 204 c x1) 205 c x2) 206 c x3) 207 c (h_i h 1 0)) 208 c 0) 209 c x3) 210 c (-1)) 211 c (-1)) 213 c (-1)) 215 c 0) 216 c 0) 217 c 0) 208 c = 0 := by rw [im_ne (by decide), im_ne (by decide), im_ne (by decide), im_ne (by decide), im_ne (by decide), im_ne (by decide), im_ne (by decide), im_at]
  have e10 : h_i (h_im (h_im (h_im (h_im (h_im (h_im (h_im (h_im (h_im (h_im (h_im (h_im h 204 c x1) 205 c x2) 206 c x3) 207 c (h_i h 1 0)) 208 c 0) 209 c x3) 210 c (-1)) 211 c (-1)) 213 c (-1)) 215 c 0) 216 c 0) 217 c 0) 210 c = -1 := by rw [im_ne (by decide), im_ne (by decide), im_ne (by decide), im_ne (by decide), im_ne (by decide), im_at]
  have JC := Jd.jm ⟨by rw [e8]; decide, fun _ => e10⟩
  have JD := J2_o MD JB JC
  have eM := (MD.2.2.2.1 7 (Or.inr (Or.inl rfl))).trans (show h_i (h_im (h_im (h_im (h_im h 204 c x1) 205 c x2) 206 c x3) 207 c (h_i h 1 0)) 1 7 = h_i h 1 7 by rw [im_ne (by decide), im_ne (by decide), im_ne (by decide), im_ne (by decide)])
  refine ⟨ID.im (by rw [show tf 1 7 = (0, 12) by decide +kernel]; exact ⟨by show (0 : Int) ≤ _; omega, by show _ ≤ (12 : Int); omega⟩) (by decide), fun k hk hm => Jm_z (Jz.im (by decide) (fun y => absurd y.2 (by decide))) ?_, Fr.im (FB.tr MD.sr.sn) (by decide +kernel), Or.inl ⟨ok, tx_back _, im_at⟩, fun _ => ?_, fun k hk => ?_⟩
  · rw [im_at, e7] at hm
    by_cases ek : k = c
    · rw [ek]; exact JC
    · exact JD k hk (by rw [eM]; omega)
  · rw [ecc, im_ne (by decide), im_ne (by decide), im_ne (by decide), im_ne (by decide), im_ne (by decide), im_ne (by decide), im_ne (by decide), im_ne (by decide), im_ne (by decide), im_ne (by decide), im_ne (by decide), im_ne (by decide), im_at]
  · have nk : k ≠ c := fun e => hk.elim (fun y => y (by rw [ecc]; exact e)) (fun y => y ok)
    rw [im_ne (by decide), im_ne (by decide), im_ne (by decide), im_ne (by decide), im_ne (by decide), im_ne (by decide), im_ne (by decide), im_ne (by decide), im_ne (by decide), im_ne (by decide), im_ne (by decide), im_ne (by decide), h_i_im, if_neg (fun e => nk e.2)]
/-- a call that writes nothing that the men's account looks at -/
noncomputable def jso (ws : List Nat) : Bool := off ws 208 && off ws 210 && off ws 212 && off ws 213 && off ws 216 && off ws 227 && off ws 228 && !inw ws 1 42 && !inw ws 1 7
theorem Js.fr {ws : List Nat} {h h' : Hp_} (f : Fr ws h h') (o : jso ws = true) : Js h h' := by
  unfold jso at o
  simp only [Bool.and_eq_true] at o
  obtain ⟨⟨⟨⟨⟨⟨⟨⟨o1, o2⟩, o3⟩, o4⟩, o5⟩, o6⟩, o7⟩, o8⟩, o9⟩ := o
  rw [Bool.not_eq_true'] at o8 o9
  refine ⟨⟨fun r hr k => ?_, fun k => fr_i f o6 k, fun k => fr_i f o7 k, (f.2 1 42 o8).1⟩, (f.2 1 7 o9).1⟩
  unfold mrow at hr
  simp only [Bool.or_eq_true] at hr
  rcases hr with (((z | z) | z) | z) | z <;> have z := Nat.eq_of_beq_eq_true z <;> subst z
  · exact fr_i f o1 k
  · exact fr_i f o2 k
  · exact fr_i f o3 k
  · exact fr_i f o4 k
  · exact fr_i f o5 k
theorem Mf.js {W : List Nat} {h h' : Hp_} (m : Mf W h h') : Js h h' := by
  refine ⟨⟨fun r hr k => ?_, fun k => m.2.1 227 (by decide) (by decide) k, fun k => m.2.1 228 (by decide) (by decide) k, m.1 42⟩, m.1 7⟩
  unfold mrow at hr
  simp only [Bool.or_eq_true] at hr
  rcases hr with (((z | z) | z) | z) | z <;> have z := Nat.eq_of_beq_eq_true z <;> subst z <;> exact m.2.1 _ (by decide) (by decide) k
end
section
theorem t_X12_look_0 (d : Nat) (h : Hp_) (w : Wf h)  (K : Int32 → Hp_ → Prop) (k : ((h_i h 1 32) ≤ (h_i h 1 33) → ((h_i h 1 32) ≤ (h_i h 1 33) → K (-1) h) ∧ (¬ (h_i h 1 32) ≤ (h_i h 1 33) → vp_in (h_i h 1 33) 160 ∧ (K (h_i h 225 ((h_i h 1 33) : Int32).toNatClampNeg) h))) ∧ (¬ (h_i h 1 32) ≤ (h_i h 1 33) → vp_in (h_i h 1 33) 160 ∧ ((¬ (h_i h 225 ((h_i h 1 33) : Int32).toNatClampNeg) = 32 → ((h_i h 1 32) ≤ (h_i h 1 33) → K (-1) h) ∧ (¬ (h_i h 1 32) ≤ (h_i h 1 33) → vp_in (h_i h 1 33) 160 ∧ (K (h_i h 225 ((h_i h 1 33) : Int32).toNatClampNeg) h))) ∧ ((h_i h 225 ((h_i h 1 33) : Int32).toNatClampNeg) = 32 → AW (m_X12_look (d + 0) 0 0) 0 0 0 [(0, .ref 1)] [] (h_im h 1 33 ((h_i h 1 33) + 1)) (kI K))))) : AW (m_X12_look (d + 0) 0 0) 0 0 0 [(0, .ref 1)] [] h (kI K) := by
  refine aw_aload_n (i := 0) rfl d_X12_look_0 0 rfl ?_
  refine aw_geti (k0 := 33) kc_12 (ws_1 w) (Nat.le_of_ble_eq_true rfl) tw_1775 d_X12_look_1 rfl ?_
  refine aw_aload_n (i := 0) rfl d_X12_look_4 0 rfl ?_
  refine aw_geti (k0 := 32) kc_12 (ws_1 w) (Nat.le_of_ble_eq_true rfl) tw_1774 d_X12_look_5 rfl ?_
  refine aw_icmp_ge (tgt := 38) d_X12_look_8 rfl (fun c8 => ?_) (fun c8 => ?_)
  · have k := k.1 c8
    refine aw_aload_n (i := 0) rfl d_X12_look_38 0 rfl ?_
    refine aw_geti (k0 := 33) kc_12 (ws_1 w) (Nat.le_of_ble_eq_true rfl) tw_1775 d_X12_look_39 rfl ?_
    refine aw_aload_n (i := 0) rfl d_X12_look_42 0 rfl ?_
    refine aw_geti (k0 := 32) kc_12 (ws_1 w) (Nat.le_of_ble_eq_true rfl) tw_1774 d_X12_look_43 rfl ?_
    refine aw_icmp_ge (tgt := 61) d_X12_look_46 rfl (fun c9 => ?_) (fun c9 => ?_)
    · have k := k.1 c9
      refine aw_iconst (v := (-1)) d_X12_look_61 ic_m1 ?_
      exact aw_iret rfl d_X12_look_62 ⟨Nat.le_refl _, Nat.le_refl _⟩ ⟨_, rfl, k⟩
    · have k := k.2 c9
      refine aw_aload_n (i := 0) rfl d_X12_look_49 0 rfl ?_
      refine aw_getr (k0 := 30) kc_12 (ws_1 w) (Nat.le_of_ble_eq_true rfl) tw_1772 d_X12_look_50 rfl (wr_1_30 w) ?_
      refine aw_aload_n (i := 0) rfl d_X12_look_53 0 rfl ?_
      refine aw_geti (k0 := 33) kc_12 (ws_1 w) (Nat.le_of_ble_eq_true rfl) tw_1775 d_X12_look_54 rfl ?_
      obtain ⟨b10, k⟩ := k
      refine aw_iald (ws_225 w) b10 d_X12_look_57 ?_
      refine aw_goto (tgt := 62) d_X12_look_58 rfl ?_
      exact aw_iret rfl d_X12_look_62 ⟨Nat.le_refl _, Nat.le_refl _⟩ ⟨_, rfl, k⟩
  · have k := k.2 c8
    refine aw_aload_n (i := 0) rfl d_X12_look_11 0 rfl ?_
    refine aw_getr (k0 := 30) kc_12 (ws_1 w) (Nat.le_of_ble_eq_true rfl) tw_1772 d_X12_look_12 rfl (wr_1_30 w) ?_
    refine aw_aload_n (i := 0) rfl d_X12_look_15 0 rfl ?_
    refine aw_geti (k0 := 33) kc_12 (ws_1 w) (Nat.le_of_ble_eq_true rfl) tw_1775 d_X12_look_16 rfl ?_
    obtain ⟨b11, k⟩ := k
    refine aw_iald (ws_225 w) b11 d_X12_look_19 ?_
    refine aw_bipush (v := 32) d_X12_look_20 ib_32 ?_
    refine aw_icmp_ne (tgt := 38) d_X12_look_22 rfl (fun c12 => ?_) (fun c12 => ?_)
    · have k := k.1 c12
      refine aw_aload_n (i := 0) rfl d_X12_look_38 0 rfl ?_
      refine aw_geti (k0 := 33) kc_12 (ws_1 w) (Nat.le_of_ble_eq_true rfl) tw_1775 d_X12_look_39 rfl ?_
      refine aw_aload_n (i := 0) rfl d_X12_look_42 0 rfl ?_
      refine aw_geti (k0 := 32) kc_12 (ws_1 w) (Nat.le_of_ble_eq_true rfl) tw_1774 d_X12_look_43 rfl ?_
      refine aw_icmp_ge (tgt := 61) d_X12_look_46 rfl (fun c13 => ?_) (fun c13 => ?_)
      · have k := k.1 c13
        refine aw_iconst (v := (-1)) d_X12_look_61 ic_m1 ?_
        exact aw_iret rfl d_X12_look_62 ⟨Nat.le_refl _, Nat.le_refl _⟩ ⟨_, rfl, k⟩
      · have k := k.2 c13
        refine aw_aload_n (i := 0) rfl d_X12_look_49 0 rfl ?_
        refine aw_getr (k0 := 30) kc_12 (ws_1 w) (Nat.le_of_ble_eq_true rfl) tw_1772 d_X12_look_50 rfl (wr_1_30 w) ?_
        refine aw_aload_n (i := 0) rfl d_X12_look_53 0 rfl ?_
        refine aw_geti (k0 := 33) kc_12 (ws_1 w) (Nat.le_of_ble_eq_true rfl) tw_1775 d_X12_look_54 rfl ?_
        obtain ⟨b14, k⟩ := k
        refine aw_iald (ws_225 w) b14 d_X12_look_57 ?_
        refine aw_goto (tgt := 62) d_X12_look_58 rfl ?_
        exact aw_iret rfl d_X12_look_62 ⟨Nat.le_refl _, Nat.le_refl _⟩ ⟨_, rfl, k⟩
    · have k := k.2 c12
      refine aw_aload_n (i := 0) rfl d_X12_look_25 0 rfl ?_
      refine aw_dup d_X12_look_26 rfl ?_
      refine aw_geti (k0 := 33) kc_12 (ws_1 w) (Nat.le_of_ble_eq_true rfl) tw_1775 d_X12_look_27 rfl ?_
      refine aw_iconst (v := 1) d_X12_look_30 ic_1 ?_
      refine aw_iadd d_X12_look_31 ?_
      refine aw_puti (k0 := 33) kc_12 (ws_1 w) (Nat.le_of_ble_eq_true rfl) tw_1775 d_X12_look_32 rfl rfl nf_i ?_
      refine aw_goto (tgt := 0) d_X12_look_35 rfl ?_
      exact k
theorem t_X12_bad (d : Nat) (h : Hp_) (w : Wf h)  (K : Hp_ → Prop) (k : (¬ (h_i h 1 34) = (-1) → K (h_im h 1 34 (h_i h 1 34))) ∧ ((h_i h 1 34) = (-1) → K (h_im h 1 34 (h_i h 1 33)))) : Cv (m_X12_bad (d + 0) 0 0) [.ref 1] h K := by
  refine Ct.of (fun _ _ _ => trivial) pn_X12 (Nat.le_of_ble_eq_true rfl) ?_
  show AW (m_X12_bad (d + 0) 0 0) 0 0 0 [(0, .ref 1)] [] h (kV K)
  refine aw_aload_n (i := 0) rfl d_X12_bad_0 0 rfl ?_
  refine aw_aload_n (i := 0) rfl d_X12_bad_1 0 rfl ?_
  refine aw_geti (k0 := 34) kc_12 (ws_1 w) (Nat.le_of_ble_eq_true rfl) tw_1776 d_X12_bad_2 rfl ?_
  refine aw_iconst (v := (-1)) d_X12_bad_5 ic_m1 ?_
  refine aw_icmp_ne (tgt := 16) d_X12_bad_6 rfl (fun c1 => ?_) (fun c1 => ?_)
  · have k := k.1 c1
    refine aw_aload_n (i := 0) rfl d_X12_bad_16 0 rfl ?_
    refine aw_geti (k0 := 34) kc_12 (ws_1 w) (Nat.le_of_ble_eq_true rfl) tw_1776 d_X12_bad_17 rfl ?_
    refine aw_puti (k0 := 34) kc_12 (ws_1 w) (Nat.le_of_ble_eq_true rfl) tw_1776 d_X12_bad_20 rfl rfl nf_i ?_
    exact aw_vret rfl d_X12_bad_23 ⟨Nat.le_refl _, Nat.le_refl _⟩ ⟨rfl, k⟩
  · have k := k.2 c1
    refine aw_aload_n (i := 0) rfl d_X12_bad_9 0 rfl ?_
    refine aw_geti (k0 := 33) kc_12 (ws_1 w) (Nat.le_of_ble_eq_true rfl) tw_1775 d_X12_bad_10 rfl ?_
    refine aw_goto (tgt := 20) d_X12_bad_13 rfl ?_
    refine aw_puti (k0 := 34) kc_12 (ws_1 w) (Nat.le_of_ble_eq_true rfl) tw_1776 d_X12_bad_20 rfl rfl nf_i ?_
    exact aw_vret rfl d_X12_bad_23 ⟨Nat.le_refl _, Nat.le_refl _⟩ ⟨rfl, k⟩
theorem t_X12_say (d : Nat) (h : Hp_) (w : Wf h) (x1 : Int32) (K : Hp_ → Prop) (k : vp_in (h_i h 1 36) 560 ∧ (K (h_im (h_im h 226 ((h_i h 1 36) : Int32).toNatClampNeg x1) 1 36 ((h_i h 1 36) + 1)))) : Cv (m_X12_say (d + 0) 0 0) [.ref 1, .int x1] h K := by
  refine Ct.of (fun _ _ _ => trivial) pn_X12 (Nat.le_of_ble_eq_true rfl) ?_
  show AW (m_X12_say (d + 0) 0 0) 0 0 0 [(0, .ref 1), (1, .int x1)] [] h (kV K)
  refine aw_aload_n (i := 0) rfl d_X12_say_0 0 rfl ?_
  refine aw_getr (k0 := 31) kc_12 (ws_1 w) (Nat.le_of_ble_eq_true rfl) tw_1773 d_X12_say_1 rfl (wr_1_31 w) ?_
  refine aw_aload_n (i := 0) rfl d_X12_say_4 0 rfl ?_
  refine aw_geti (k0 := 36) kc_12 (ws_1 w) (Nat.le_of_ble_eq_true rfl) tw_1778 d_X12_say_5 rfl ?_
  refine aw_iload_n (i := 1) rfl d_X12_say_8 1 rfl ?_
  obtain ⟨b1, k⟩ := k
  refine aw_iast (ws_226 w) b1 d_X12_say_9 ?_
  refine aw_aload_n (i := 0) rfl d_X12_say_10 0 rfl ?_
  refine aw_dup d_X12_say_11 rfl ?_
  refine aw_geti (k0 := 36) kc_12 (ws_1 w) (Nat.le_of_ble_eq_true rfl) tw_1778 d_X12_say_12 rfl ?_
  refine aw_vi (v2 := (h_i h 1 36)) (rfl) ?_
  refine aw_iconst (v := 1) d_X12_say_15 ic_1 ?_
  refine aw_iadd d_X12_say_16 ?_
  refine aw_puti (k0 := 36) kc_12 (ws_1 w) (Nat.le_of_ble_eq_true rfl) tw_1778 d_X12_say_17 rfl rfl nf_i ?_
  exact aw_vret rfl d_X12_say_20 ⟨Nat.le_refl _, Nat.le_refl _⟩ ⟨rfl, k⟩
theorem t_X12_number (d : Nat) (h : Hp_) (w : Wf h)  (K : Int32 → Hp_ → Prop) (k : Ci (m_X12_look (d + 0) 0 0) [.ref 1] h (fun r3 h1 => Wf h1 ∧ (Ci (m_X12_isDigit (d + 0) 0 0) [.int r3] h1 (fun r6 h4 => Wf h4 ∧ ((¬ r6 = 0 → AW (m_X12_number (d + 1) 0 0) 0 0 20 [(0, .ref 1), (1, .int 0), (2, .int 0)] [] h4 (kI K)) ∧ (r6 = 0 → Cv (m_X12_bad (d + 0) 0 0) [.ref 1] h4 (fun h8 => Wf h8 ∧ (K (-1) h8)))))))) : Ci (m_X12_number (d + 1) 0 0) [.ref 1] h K := by
  refine Ct.of (fun _ _ _ => trivial) pn_X12 (Nat.le_of_ble_eq_true rfl) ?_
  show AW (m_X12_number (d + 1) 0 0) 0 0 0 [(0, .ref 1)] [] h (kI K)
  refine aw_aload_n (i := 0) rfl d_X12_number_0 0 rfl ?_
  refine aw_Vi 1 [] [] d_X12_number_1 (cV_X12_look (d + 0) 0 0) kc_12 (ws_1 w) tw_2206 rfl (rr0 (Nat.le_of_ble_eq_true rfl) (Nat.le_of_ble_eq_true rfl)) (Nat.le_of_ble_eq_true rfl) xs0 k (fun r3 h1 kk => ?_)
  obtain ⟨w2, k⟩ := kk
  refine aw_Si [.int r3] [] d_X12_number_4 (cS_X12_isDigit (d + 0) 0 0) tw_2222 rfl (rr0 (Nat.le_of_ble_eq_true rfl) (Nat.le_of_ble_eq_true rfl)) (Nat.le_of_ble_eq_true rfl) xs0 k (fun r6 h4 kk => ?_)
  obtain ⟨w5, k⟩ := kk
  refine aw_if_ne (tgt := 16) d_X12_number_7 rfl (fun c7 => ?_) (fun c7 => ?_)
  · have k := k.1 c7
    refine aw_iconst (v := 0) d_X12_number_16 ic_0 ?_
    refine aw_istore_n (i := 1) rfl [(0, .ref 1), (1, .int 0)] d_X12_number_17 (Nat.le_of_ble_eq_true rfl) rfl rfl ?_
    refine aw_iconst (v := 0) d_X12_number_18 ic_0 ?_
    refine aw_istore_n (i := 2) rfl [(0, .ref 1), (1, .int 0), (2, .int 0)] d_X12_number_19 (Nat.le_of_ble_eq_true rfl) rfl rfl ?_
    exact k
  · have k := k.2 c7
    refine aw_aload_n (i := 0) rfl d_X12_number_10 0 rfl ?_
    refine aw_Vv 1 [] [] d_X12_number_11 (cV_X12_bad (d + 0) 0 0) kc_12 (ws_1 w5) tw_2225 rfl (rr0 (Nat.le_of_ble_eq_true rfl) (Nat.le_of_ble_eq_true rfl)) (Nat.le_of_ble_eq_true rfl) xs0 k (fun h8 kk => ?_)
    obtain ⟨w9, k⟩ := kk
    refine aw_iconst (v := (-1)) d_X12_number_14 ic_m1 ?_
    exact aw_iret rfl d_X12_number_15 ⟨Nat.le_refl _, Nat.le_refl _⟩ ⟨_, rfl, k⟩
theorem t_X12_number_20 (d : Nat) (h : Hp_) (w : Wf h) (x1 : Int32) (x2 : Int32) (K : Int32 → Hp_ → Prop) (k : ((h_i h 1 32) ≤ (h_i h 1 33) → K x1 h) ∧ (¬ (h_i h 1 32) ≤ (h_i h 1 33) → vp_in (h_i h 1 33) 160 ∧ (Ci (m_X12_isDigit (d + 0) 0 0) [.int (h_i h 225 ((h_i h 1 33) : Int32).toNatClampNeg)] h (fun r15 h13 => Wf h13 ∧ ((r15 = 0 → K x1 h13) ∧ (¬ r15 = 0 → (¬ x2 = 4 → vp_in (h_i h13 1 33) 160 ∧ (AW (m_X12_number (d + 1) 0 0) 0 0 20 [(0, .ref 1), (1, .int (((10 * x1) + (h_i h13 225 ((h_i h13 1 33) : Int32).toNatClampNeg)) - 48)), (2, .int (x2 + 1))] [] (h_im h13 1 33 ((h_i h13 1 33) + 1)) (kI K))) ∧ (x2 = 4 → Cv (m_X12_bad (d + 0) 0 0) [.ref 1] h13 (fun h19 => Wf h19 ∧ (K (-1) h19))))))))) : AW (m_X12_number (d + 1) 0 0) 0 0 20 [(0, .ref 1), (1, .int x1), (2, .int x2)] [] h (kI K) := by
  refine aw_aload_n (i := 0) rfl d_X12_number_20 0 rfl ?_
  refine aw_geti (k0 := 33) kc_12 (ws_1 w) (Nat.le_of_ble_eq_true rfl) tw_1775 d_X12_number_21 rfl ?_
  refine aw_aload_n (i := 0) rfl d_X12_number_24 0 rfl ?_
  refine aw_geti (k0 := 32) kc_12 (ws_1 w) (Nat.le_of_ble_eq_true rfl) tw_1774 d_X12_number_25 rfl ?_
  refine aw_icmp_ge (tgt := 91) d_X12_number_28 rfl (fun c11 => ?_) (fun c11 => ?_)
  · have k := k.1 c11
    refine aw_iload_n (i := 1) rfl d_X12_number_91 1 rfl ?_
    exact aw_iret rfl d_X12_number_92 ⟨Nat.le_refl _, Nat.le_refl _⟩ ⟨_, rfl, k⟩
  · have k := k.2 c11
    refine aw_aload_n (i := 0) rfl d_X12_number_31 0 rfl ?_
    refine aw_getr (k0 := 30) kc_12 (ws_1 w) (Nat.le_of_ble_eq_true rfl) tw_1772 d_X12_number_32 rfl (wr_1_30 w) ?_
    refine aw_aload_n (i := 0) rfl d_X12_number_35 0 rfl ?_
    refine aw_geti (k0 := 33) kc_12 (ws_1 w) (Nat.le_of_ble_eq_true rfl) tw_1775 d_X12_number_36 rfl ?_
    obtain ⟨b12, k⟩ := k
    refine aw_iald (ws_225 w) b12 d_X12_number_39 ?_
    refine aw_Si [.int (h_i h 225 ((h_i h 1 33) : Int32).toNatClampNeg)] [] d_X12_number_40 (cS_X12_isDigit (d + 0) 0 0) tw_2222 rfl (rr0 (Nat.le_of_ble_eq_true rfl) (Nat.le_of_ble_eq_true rfl)) (Nat.le_of_ble_eq_true rfl) xs0 k (fun r15 h13 kk => ?_)
    obtain ⟨w14, k⟩ := kk
    refine aw_if_eq (tgt := 91) d_X12_number_43 rfl (fun c16 => ?_) (fun c16 => ?_)
    · have k := k.1 c16
      refine aw_iload_n (i := 1) rfl d_X12_number_91 1 rfl ?_
      exact aw_iret rfl d_X12_number_92 ⟨Nat.le_refl _, Nat.le_refl _⟩ ⟨_, rfl, k⟩
    · have k := k.2 c16
      refine aw_iload_n (i := 2) rfl d_X12_number_46 2 rfl ?_
      refine aw_iconst (v := 4) d_X12_number_47 ic_4 ?_
      refine aw_icmp_ne (tgt := 57) d_X12_number_48 rfl (fun c17 => ?_) (fun c17 => ?_)
      · have k := k.1 c17
        refine aw_bipush (v := 10) d_X12_number_57 ib_10 ?_
        refine aw_iload_n (i := 1) rfl d_X12_number_59 1 rfl ?_
        refine aw_imul d_X12_number_60 ?_
        refine aw_aload_n (i := 0) rfl d_X12_number_61 0 rfl ?_
        refine aw_getr (k0 := 30) kc_12 (ws_1 w14) (Nat.le_of_ble_eq_true rfl) tw_1772 d_X12_number_62 rfl (wr_1_30 w14) ?_
        refine aw_aload_n (i := 0) rfl d_X12_number_65 0 rfl ?_
        refine aw_geti (k0 := 33) kc_12 (ws_1 w14) (Nat.le_of_ble_eq_true rfl) tw_1775 d_X12_number_66 rfl ?_
        obtain ⟨b18, k⟩ := k
        refine aw_iald (ws_225 w14) b18 d_X12_number_69 ?_
        refine aw_iadd d_X12_number_70 ?_
        refine aw_bipush (v := 48) d_X12_number_71 ib_48 ?_
        refine aw_isub d_X12_number_73 ?_
        refine aw_istore_n (i := 1) rfl [(0, .ref 1), (1, .int (((10 * x1) + (h_i h13 225 ((h_i h13 1 33) : Int32).toNatClampNeg)) - 48)), (2, .int x2)] d_X12_number_74 (Nat.le_of_ble_eq_true rfl) rfl rfl ?_
        refine aw_iinc (v := (x2 + 1)) [(0, .ref 1), (1, .int (((10 * x1) + (h_i h13 225 ((h_i h13 1 33) : Int32).toNatClampNeg)) - 48)), (2, .int (x2 + 1))] d_X12_number_75 2 rfl rfl (Nat.le_of_ble_eq_true rfl) rfl rfl ?_
        refine aw_aload_n (i := 0) rfl d_X12_number_78 0 rfl ?_
        refine aw_dup d_X12_number_79 rfl ?_
        refine aw_geti (k0 := 33) kc_12 (ws_1 w14) (Nat.le_of_ble_eq_true rfl) tw_1775 d_X12_number_80 rfl ?_
        refine aw_iconst (v := 1) d_X12_number_83 ic_1 ?_
        refine aw_iadd d_X12_number_84 ?_
        refine aw_puti (k0 := 33) kc_12 (ws_1 w14) (Nat.le_of_ble_eq_true rfl) tw_1775 d_X12_number_85 rfl rfl nf_i ?_
        refine aw_goto (tgt := 20) d_X12_number_88 rfl ?_
        exact k
      · have k := k.2 c17
        refine aw_aload_n (i := 0) rfl d_X12_number_51 0 rfl ?_
        refine aw_Vv 1 [] [] d_X12_number_52 (cV_X12_bad (d + 0) 0 0) kc_12 (ws_1 w14) tw_2225 rfl (rr0 (Nat.le_of_ble_eq_true rfl) (Nat.le_of_ble_eq_true rfl)) (Nat.le_of_ble_eq_true rfl) xs0 k (fun h19 kk => ?_)
        obtain ⟨w20, k⟩ := kk
        refine aw_iconst (v := (-1)) d_X12_number_55 ic_m1 ?_
        exact aw_iret rfl d_X12_number_56 ⟨Nat.le_refl _, Nat.le_refl _⟩ ⟨_, rfl, k⟩
theorem t_X12_within (d : Nat) (h : Hp_) (w : Wf h) (x1 : Int32) (x2 : Int32) (K : Int32 → Hp_ → Prop) (k : Ci (m_X12_number (d + 1) 0 0) [.ref 1] h (fun r3 h1 => Wf h1 ∧ ((¬ (h_i h1 1 34) = (-1) → K r3 h1) ∧ ((h_i h1 1 34) = (-1) → ((x1 ≤ r3 ∧ r3 ≤ x2) → K r3 h1) ∧ (¬ (x1 ≤ r3 ∧ r3 ≤ x2) → K r3 (h_im h1 1 34 ((h_i h1 1 33) - 1))))))) : Ci (m_X12_within (d + 2) 0 0) [.ref 1, .int x1, .int x2] h K := by
  refine Ct.of (fun _ _ _ => trivial) pn_X12 (Nat.le_of_ble_eq_true rfl) ?_
  show AW (m_X12_within (d + 2) 0 0) 0 0 0 [(0, .ref 1), (1, .int x1), (2, .int x2)] [] h (kI K)
  refine aw_aload_n (i := 0) rfl d_X12_within_0 0 rfl ?_
  refine aw_Vi 1 [] [] d_X12_within_1 (cV_X12_number (d + 1) 0 0) kc_12 (ws_1 w) tw_2218 rfl (rr0 (Nat.le_of_ble_eq_true rfl) (Nat.le_of_ble_eq_true rfl)) (Nat.le_of_ble_eq_true rfl) xs0 k (fun r3 h1 kk => ?_)
  obtain ⟨w2, k⟩ := kk
  refine aw_istore_n (i := 3) rfl [(0, .ref 1), (1, .int x1), (2, .int x2), (3, .int r3)] d_X12_within_4 (Nat.le_of_ble_eq_true rfl) rfl rfl ?_
  refine aw_aload_n (i := 0) rfl d_X12_within_5 0 rfl ?_
  refine aw_geti (k0 := 34) kc_12 (ws_1 w2) (Nat.le_of_ble_eq_true rfl) tw_1776 d_X12_within_6 rfl ?_
  refine aw_iconst (v := (-1)) d_X12_within_9 ic_m1 ?_
  refine aw_icmp_ne (tgt := 32) d_X12_within_10 rfl (fun c4 => ?_) (fun c4 => ?_)
  · have k := k.1 c4
    refine aw_iload_n (i := 3) rfl d_X12_within_32 3 rfl ?_
    exact aw_iret rfl d_X12_within_33 ⟨Nat.le_refl _, Nat.le_refl _⟩ ⟨_, rfl, k⟩
  · have k := k.2 c4
    refine aw_iload_n (i := 3) rfl d_X12_within_13 3 rfl ?_
    refine aw_iload_n (i := 1) rfl d_X12_within_14 1 rfl ?_
    refine aw_iload_n (i := 2) rfl d_X12_within_15 2 rfl ?_
    refine aw_Si [.int r3, .int x1, .int x2] [] d_X12_within_16 (cS_X12_in (d + 0) 0 0) tw_2143 rfl (rr0 (Nat.le_of_ble_eq_true rfl) (Nat.le_of_ble_eq_true rfl)) (Nat.le_of_ble_eq_true rfl) xs0 (s_X12_in _ _ r3 x1 x2) (fun _ _ kk => ?_)
    obtain ⟨e5, e6⟩ := kk
    rw [e5, e6]
    refine aw_ifb_ne (tgt := 32) d_X12_within_19 rfl (fun c7 => ?_) (fun c7 => ?_)
    · have k := k.1 c7
      refine aw_iload_n (i := 3) rfl d_X12_within_32 3 rfl ?_
      exact aw_iret rfl d_X12_within_33 ⟨Nat.le_refl _, Nat.le_refl _⟩ ⟨_, rfl, k⟩
    · have k := k.2 c7
      refine aw_aload_n (i := 0) rfl d_X12_within_22 0 rfl ?_
      refine aw_aload_n (i := 0) rfl d_X12_within_23 0 rfl ?_
      refine aw_geti (k0 := 33) kc_12 (ws_1 w2) (Nat.le_of_ble_eq_true rfl) tw_1775 d_X12_within_24 rfl ?_
      refine aw_iconst (v := 1) d_X12_within_27 ic_1 ?_
      refine aw_isub d_X12_within_28 ?_
      refine aw_puti (k0 := 34) kc_12 (ws_1 w2) (Nat.le_of_ble_eq_true rfl) tw_1776 d_X12_within_29 rfl rfl nf_i ?_
      refine aw_iload_n (i := 3) rfl d_X12_within_32 3 rfl ?_
      exact aw_iret rfl d_X12_within_33 ⟨Nat.le_refl _, Nat.le_refl _⟩ ⟨_, rfl, k⟩
theorem t_X12_isDigit (d : Nat) (h : Hp_) (x0 : Int32) (K : Int32 → Hp_ → Prop) (k : (x0 < 48 → K 0 h) ∧ (¬ x0 < 48 → (57 < x0 → K 0 h) ∧ (¬ 57 < x0 → K 1 h))) : Ci (m_X12_isDigit (d + 0) 0 0) [.int x0] h K := by
  refine Ct.of (fun _ _ _ => trivial) pn_X12 (Nat.le_of_ble_eq_true rfl) ?_
  show AW (m_X12_isDigit (d + 0) 0 0) 0 0 0 [(0, .int x0)] [] h (kI K)
  refine aw_iload_n (i := 0) rfl d_X12_isDigit_0 0 rfl ?_
  refine aw_bipush (v := 48) d_X12_isDigit_1 ib_48 ?_
  refine aw_icmp_lt (tgt := 16) d_X12_isDigit_3 rfl (fun c1 => ?_) (fun c1 => ?_)
  · have k := k.1 c1
    refine aw_iconst (v := 0) d_X12_isDigit_16 ic_0 ?_
    exact aw_zret rfl rfl d_X12_isDigit_17 ⟨Nat.le_refl _, Nat.le_refl _⟩ ⟨_, rfl, k⟩
  · have k := k.2 c1
    refine aw_iload_n (i := 0) rfl d_X12_isDigit_6 0 rfl ?_
    refine aw_bipush (v := 57) d_X12_isDigit_7 ib_57 ?_
    refine aw_icmp_gt (tgt := 16) d_X12_isDigit_9 rfl (fun c2 => ?_) (fun c2 => ?_)
    · have k := k.1 c2
      refine aw_iconst (v := 0) d_X12_isDigit_16 ic_0 ?_
      exact aw_zret rfl rfl d_X12_isDigit_17 ⟨Nat.le_refl _, Nat.le_refl _⟩ ⟨_, rfl, k⟩
    · have k := k.2 c2
      refine aw_iconst (v := 1) d_X12_isDigit_12 ic_1 ?_
      refine aw_goto (tgt := 17) d_X12_isDigit_13 rfl ?_
      exact aw_zret rfl rfl d_X12_isDigit_17 ⟨Nat.le_refl _, Nat.le_refl _⟩ ⟨_, rfl, k⟩
theorem t_X12_opens (d : Nat) (h : Hp_) (w : Wf h)  (K : Int32 → Hp_ → Prop) (k : (¬ (h_i h 1 35) = 6 → K 1 (h_im (h_im h 1 35 ((h_i h 1 35) + 1)) 1 33 ((h_i h 1 33) + 1))) ∧ ((h_i h 1 35) = 6 → Cv (m_X12_bad (d + 0) 0 0) [.ref 1] h (fun h2 => Wf h2 ∧ (K 0 h2)))) : Ci (m_X12_opens (d + 1) 0 0) [.ref 1] h K := by
  refine Ct.of (fun _ _ _ => trivial) pn_X12 (Nat.le_of_ble_eq_true rfl) ?_
  show AW (m_X12_opens (d + 1) 0 0) 0 0 0 [(0, .ref 1)] [] h (kI K)
  refine aw_aload_n (i := 0) rfl d_X12_opens_0 0 rfl ?_
  refine aw_geti (k0 := 35) kc_12 (ws_1 w) (Nat.le_of_ble_eq_true rfl) tw_1777 d_X12_opens_1 rfl ?_
  refine aw_bipush (v := 6) d_X12_opens_4 ib_6 ?_
  refine aw_icmp_ne (tgt := 15) d_X12_opens_6 rfl (fun c1 => ?_) (fun c1 => ?_)
  · have k := k.1 c1
    refine aw_aload_n (i := 0) rfl d_X12_opens_15 0 rfl ?_
    refine aw_dup d_X12_opens_16 rfl ?_
    refine aw_geti (k0 := 35) kc_12 (ws_1 w) (Nat.le_of_ble_eq_true rfl) tw_1777 d_X12_opens_17 rfl ?_
    refine aw_iconst (v := 1) d_X12_opens_20 ic_1 ?_
    refine aw_iadd d_X12_opens_21 ?_
    refine aw_puti (k0 := 35) kc_12 (ws_1 w) (Nat.le_of_ble_eq_true rfl) tw_1777 d_X12_opens_22 rfl rfl nf_i ?_
    refine aw_aload_n (i := 0) rfl d_X12_opens_25 0 rfl ?_
    refine aw_dup d_X12_opens_26 rfl ?_
    refine aw_geti (k0 := 33) kc_12 (ws_1 w) (Nat.le_of_ble_eq_true rfl) tw_1775 d_X12_opens_27 rfl ?_
    refine aw_vi (v2 := (h_i h 1 33)) (rfl) ?_
    refine aw_iconst (v := 1) d_X12_opens_30 ic_1 ?_
    refine aw_iadd d_X12_opens_31 ?_
    refine aw_puti (k0 := 33) kc_12 (ws_1 w) (Nat.le_of_ble_eq_true rfl) tw_1775 d_X12_opens_32 rfl rfl nf_i ?_
    refine aw_iconst (v := 1) d_X12_opens_35 ic_1 ?_
    exact aw_zret rfl rfl d_X12_opens_36 ⟨Nat.le_refl _, Nat.le_refl _⟩ ⟨_, rfl, k⟩
  · have k := k.2 c1
    refine aw_aload_n (i := 0) rfl d_X12_opens_9 0 rfl ?_
    refine aw_Vv 1 [] [] d_X12_opens_10 (cV_X12_bad (d + 0) 0 0) kc_12 (ws_1 w) tw_2225 rfl (rr0 (Nat.le_of_ble_eq_true rfl) (Nat.le_of_ble_eq_true rfl)) (Nat.le_of_ble_eq_true rfl) xs0 k (fun h2 kk => ?_)
    obtain ⟨w3, k⟩ := kk
    refine aw_iconst (v := 0) d_X12_opens_13 ic_0 ?_
    exact aw_zret rfl rfl d_X12_opens_14 ⟨Nat.le_refl _, Nat.le_refl _⟩ ⟨_, rfl, k⟩
theorem t_X12_closes (d : Nat) (h : Hp_) (w : Wf h) (x1 : Int32) (K : Hp_ → Prop) (k : (¬ (h_i h 1 34) = (-1) → K (h_im (h_im h 1 33 ((h_i h 1 33) + 1)) 1 35 ((h_i h 1 35) - 1))) ∧ ((h_i h 1 34) = (-1) → Ci (m_X12_look (d + 0) 0 0) [.ref 1] h (fun r4 h2 => Wf h2 ∧ ((r4 = x1 → K (h_im (h_im h2 1 33 ((h_i h2 1 33) + 1)) 1 35 ((h_i h2 1 35) - 1))) ∧ (¬ r4 = x1 → Cv (m_X12_bad (d + 0) 0 0) [.ref 1] h2 (fun h6 => Wf h6 ∧ (K (h_im (h_im h6 1 33 ((h_i h6 1 33) + 1)) 1 35 ((h_i h6 1 35) - 1))))))))) : Cv (m_X12_closes (d + 1) 0 0) [.ref 1, .int x1] h K := by
  refine Ct.of (fun _ _ _ => trivial) pn_X12 (Nat.le_of_ble_eq_true rfl) ?_
  show AW (m_X12_closes (d + 1) 0 0) 0 0 0 [(0, .ref 1), (1, .int x1)] [] h (kV K)
  refine aw_aload_n (i := 0) rfl d_X12_closes_0 0 rfl ?_
  refine aw_geti (k0 := 34) kc_12 (ws_1 w) (Nat.le_of_ble_eq_true rfl) tw_1776 d_X12_closes_1 rfl ?_
  refine aw_iconst (v := (-1)) d_X12_closes_4 ic_m1 ?_
  refine aw_icmp_ne (tgt := 20) d_X12_closes_5 rfl (fun c1 => ?_) (fun c1 => ?_)
  · have k := k.1 c1
    refine aw_aload_n (i := 0) rfl d_X12_closes_20 0 rfl ?_
    refine aw_dup d_X12_closes_21 rfl ?_
    refine aw_geti (k0 := 33) kc_12 (ws_1 w) (Nat.le_of_ble_eq_true rfl) tw_1775 d_X12_closes_22 rfl ?_
    refine aw_iconst (v := 1) d_X12_closes_25 ic_1 ?_
    refine aw_iadd d_X12_closes_26 ?_
    refine aw_puti (k0 := 33) kc_12 (ws_1 w) (Nat.le_of_ble_eq_true rfl) tw_1775 d_X12_closes_27 rfl rfl nf_i ?_
    refine aw_aload_n (i := 0) rfl d_X12_closes_30 0 rfl ?_
    refine aw_dup d_X12_closes_31 rfl ?_
    refine aw_geti (k0 := 35) kc_12 (ws_1 w) (Nat.le_of_ble_eq_true rfl) tw_1777 d_X12_closes_32 rfl ?_
    refine aw_vi (v2 := (h_i h 1 35)) (rfl) ?_
    refine aw_iconst (v := 1) d_X12_closes_35 ic_1 ?_
    refine aw_isub d_X12_closes_36 ?_
    refine aw_puti (k0 := 35) kc_12 (ws_1 w) (Nat.le_of_ble_eq_true rfl) tw_1777 d_X12_closes_37 rfl rfl nf_i ?_
    exact aw_vret rfl d_X12_closes_40 ⟨Nat.le_refl _, Nat.le_refl _⟩ ⟨rfl, k⟩
  · have k := k.2 c1
    refine aw_aload_n (i := 0) rfl d_X12_closes_8 0 rfl ?_
    refine aw_Vi 1 [] [] d_X12_closes_9 (cV_X12_look (d + 0) 0 0) kc_12 (ws_1 w) tw_2206 rfl (rr0 (Nat.le_of_ble_eq_true rfl) (Nat.le_of_ble_eq_true rfl)) (Nat.le_of_ble_eq_true rfl) xs0 k (fun r4 h2 kk => ?_)
    obtain ⟨w3, k⟩ := kk
    refine aw_iload_n (i := 1) rfl d_X12_closes_12 1 rfl ?_
    refine aw_icmp_eq (tgt := 20) d_X12_closes_13 rfl (fun c5 => ?_) (fun c5 => ?_)
    · have k := k.1 c5
      refine aw_aload_n (i := 0) rfl d_X12_closes_20 0 rfl ?_
      refine aw_dup d_X12_closes_21 rfl ?_
      refine aw_geti (k0 := 33) kc_12 (ws_1 w3) (Nat.le_of_ble_eq_true rfl) tw_1775 d_X12_closes_22 rfl ?_
      refine aw_iconst (v := 1) d_X12_closes_25 ic_1 ?_
      refine aw_iadd d_X12_closes_26 ?_
      refine aw_puti (k0 := 33) kc_12 (ws_1 w3) (Nat.le_of_ble_eq_true rfl) tw_1775 d_X12_closes_27 rfl rfl nf_i ?_
      refine aw_aload_n (i := 0) rfl d_X12_closes_30 0 rfl ?_
      refine aw_dup d_X12_closes_31 rfl ?_
      refine aw_geti (k0 := 35) kc_12 (ws_1 w3) (Nat.le_of_ble_eq_true rfl) tw_1777 d_X12_closes_32 rfl ?_
      refine aw_vi (v2 := (h_i h2 1 35)) (rfl) ?_
      refine aw_iconst (v := 1) d_X12_closes_35 ic_1 ?_
      refine aw_isub d_X12_closes_36 ?_
      refine aw_puti (k0 := 35) kc_12 (ws_1 w3) (Nat.le_of_ble_eq_true rfl) tw_1777 d_X12_closes_37 rfl rfl nf_i ?_
      exact aw_vret rfl d_X12_closes_40 ⟨Nat.le_refl _, Nat.le_refl _⟩ ⟨rfl, k⟩
    · have k := k.2 c5
      refine aw_aload_n (i := 0) rfl d_X12_closes_16 0 rfl ?_
      refine aw_Vv 1 [] [] d_X12_closes_17 (cV_X12_bad (d + 0) 0 0) kc_12 (ws_1 w3) tw_2225 rfl (rr0 (Nat.le_of_ble_eq_true rfl) (Nat.le_of_ble_eq_true rfl)) (Nat.le_of_ble_eq_true rfl) xs0 k (fun h6 kk => ?_)
      obtain ⟨w7, k⟩ := kk
      refine aw_aload_n (i := 0) rfl d_X12_closes_20 0 rfl ?_
      refine aw_dup d_X12_closes_21 rfl ?_
      refine aw_geti (k0 := 33) kc_12 (ws_1 w7) (Nat.le_of_ble_eq_true rfl) tw_1775 d_X12_closes_22 rfl ?_
      refine aw_iconst (v := 1) d_X12_closes_25 ic_1 ?_
      refine aw_iadd d_X12_closes_26 ?_
      refine aw_puti (k0 := 33) kc_12 (ws_1 w7) (Nat.le_of_ble_eq_true rfl) tw_1775 d_X12_closes_27 rfl rfl nf_i ?_
      refine aw_aload_n (i := 0) rfl d_X12_closes_30 0 rfl ?_
      refine aw_dup d_X12_closes_31 rfl ?_
      refine aw_geti (k0 := 35) kc_12 (ws_1 w7) (Nat.le_of_ble_eq_true rfl) tw_1777 d_X12_closes_32 rfl ?_
      refine aw_vi (v2 := (h_i h6 1 35)) (rfl) ?_
      refine aw_iconst (v := 1) d_X12_closes_35 ic_1 ?_
      refine aw_isub d_X12_closes_36 ?_
      refine aw_puti (k0 := 35) kc_12 (ws_1 w7) (Nat.le_of_ble_eq_true rfl) tw_1777 d_X12_closes_37 rfl rfl nf_i ?_
      exact aw_vret rfl d_X12_closes_40 ⟨Nat.le_refl _, Nat.le_refl _⟩ ⟨rfl, k⟩
theorem t_X12_isLetter (d : Nat) (h : Hp_) (x0 : Int32) (x1 : Int32) (K : Int32 → Hp_ → Prop) (k : (x0 = 97 → (¬ x1 = 2 → K 0 h) ∧ (x1 = 2 → K 1 h)) ∧ ((x0 = 99 → K 1 h) ∧ ((x0 = 100 → (¬ x1 = 1 → K 0 h) ∧ (x1 = 1 → K 1 h)) ∧ ((x0 = 101 → (¬ x1 = 1 → K 0 h) ∧ (x1 = 1 → K 1 h)) ∧ ((x0 = 104 → (¬ x1 = 1 → K 0 h) ∧ (x1 = 1 → K 1 h)) ∧ ((x0 = 107 → (¬ x1 = 1 → K 0 h) ∧ (x1 = 1 → K 1 h)) ∧ ((x0 = 109 → (¬ x1 = 2 → K 0 h) ∧ (x1 = 2 → K 1 h)) ∧ ((x0 = 110 → (¬ x1 = 1 → K 0 h) ∧ (x1 = 1 → K 1 h)) ∧ ((x0 = 112 → (¬ x1 = 1 → K 0 h) ∧ (x1 = 1 → K 1 h)) ∧ ((x0 = 116 → K 1 h) ∧ ((x0 = 119 → (¬ x1 = 1 → K 0 h) ∧ (x1 = 1 → K 1 h)) ∧ ((x0 = 120 → (¬ x1 = 2 → K 0 h) ∧ (x1 = 2 → K 1 h)) ∧ ((x0 = 121 → (¬ x1 = 2 → K 0 h) ∧ (x1 = 2 → K 1 h)) ∧ ((¬ x0 = 97 ∧ ¬ x0 = 99 ∧ ¬ x0 = 100 ∧ ¬ x0 = 101 ∧ ¬ x0 = 104 ∧ ¬ x0 = 107 ∧ ¬ x0 = 109 ∧ ¬ x0 = 110 ∧ ¬ x0 = 112 ∧ ¬ x0 = 116 ∧ ¬ x0 = 119 ∧ ¬ x0 = 120 ∧ ¬ x0 = 121 → K 0 h))))))))))))))) : Ci (m_X12_isLetter (d + 0) 0 0) [.int x0, .int x1] h K := by
  refine Ct.of (fun _ _ _ => trivial) pn_X12 (Nat.le_of_ble_eq_true rfl) ?_
  show AW (m_X12_isLetter (d + 0) 0 0) 0 0 0 [(0, .int x0), (1, .int x1)] [] h (kI K)
  refine aw_iload_n (i := 0) rfl d_X12_isLetter_0 0 rfl ?_
  by_cases e1 : x0 = 97
  · refine aw_tableIn (off := 128) (tgt := 129) d_X12_isLetter_1 (by rw [e1]; decide) (by rw [e1]; decide) (by rw [e1]; decide) rfl ?_
    have k := k.1 e1
    refine aw_iload_n (i := 1) rfl d_X12_isLetter_129 1 rfl ?_
    refine aw_iconst (v := 2) d_X12_isLetter_130 ic_2 ?_
    refine aw_icmp_ne (tgt := 138) d_X12_isLetter_131 rfl (fun c2 => ?_) (fun c2 => ?_)
    · have k := k.1 c2
      refine aw_iconst (v := 0) d_X12_isLetter_138 ic_0 ?_
      exact aw_zret rfl rfl d_X12_isLetter_139 ⟨Nat.le_refl _, Nat.le_refl _⟩ ⟨_, rfl, k⟩
    · have k := k.2 c2
      refine aw_iconst (v := 1) d_X12_isLetter_134 ic_1 ?_
      refine aw_goto (tgt := 139) d_X12_isLetter_135 rfl ?_
      exact aw_zret rfl rfl d_X12_isLetter_139 ⟨Nat.le_refl _, Nat.le_refl _⟩ ⟨_, rfl, k⟩
  · have k := k.2
    by_cases e3 : x0 = 99
    · refine aw_tableIn (off := 115) (tgt := 116) d_X12_isLetter_1 (by rw [e3]; decide) (by rw [e3]; decide) (by rw [e3]; decide) rfl ?_
      have k := k.1 e3
      refine aw_iconst (v := 1) d_X12_isLetter_116 ic_1 ?_
      exact aw_zret rfl rfl d_X12_isLetter_117 ⟨Nat.le_refl _, Nat.le_refl _⟩ ⟨_, rfl, k⟩
    · have k := k.2
      by_cases e4 : x0 = 100
      · refine aw_tableIn (off := 117) (tgt := 118) d_X12_isLetter_1 (by rw [e4]; decide) (by rw [e4]; decide) (by rw [e4]; decide) rfl ?_
        have k := k.1 e4
        refine aw_iload_n (i := 1) rfl d_X12_isLetter_118 1 rfl ?_
        refine aw_iconst (v := 1) d_X12_isLetter_119 ic_1 ?_
        refine aw_icmp_ne (tgt := 127) d_X12_isLetter_120 rfl (fun c5 => ?_) (fun c5 => ?_)
        · have k := k.1 c5
          refine aw_iconst (v := 0) d_X12_isLetter_127 ic_0 ?_
          exact aw_zret rfl rfl d_X12_isLetter_128 ⟨Nat.le_refl _, Nat.le_refl _⟩ ⟨_, rfl, k⟩
        · have k := k.2 c5
          refine aw_iconst (v := 1) d_X12_isLetter_123 ic_1 ?_
          refine aw_goto (tgt := 128) d_X12_isLetter_124 rfl ?_
          exact aw_zret rfl rfl d_X12_isLetter_128 ⟨Nat.le_refl _, Nat.le_refl _⟩ ⟨_, rfl, k⟩
      · have k := k.2
        by_cases e6 : x0 = 101
        · refine aw_tableIn (off := 117) (tgt := 118) d_X12_isLetter_1 (by rw [e6]; decide) (by rw [e6]; decide) (by rw [e6]; decide) rfl ?_
          have k := k.1 e6
          refine aw_iload_n (i := 1) rfl d_X12_isLetter_118 1 rfl ?_
          refine aw_iconst (v := 1) d_X12_isLetter_119 ic_1 ?_
          refine aw_icmp_ne (tgt := 127) d_X12_isLetter_120 rfl (fun c7 => ?_) (fun c7 => ?_)
          · have k := k.1 c7
            refine aw_iconst (v := 0) d_X12_isLetter_127 ic_0 ?_
            exact aw_zret rfl rfl d_X12_isLetter_128 ⟨Nat.le_refl _, Nat.le_refl _⟩ ⟨_, rfl, k⟩
          · have k := k.2 c7
            refine aw_iconst (v := 1) d_X12_isLetter_123 ic_1 ?_
            refine aw_goto (tgt := 128) d_X12_isLetter_124 rfl ?_
            exact aw_zret rfl rfl d_X12_isLetter_128 ⟨Nat.le_refl _, Nat.le_refl _⟩ ⟨_, rfl, k⟩
        · have k := k.2
          by_cases e8 : x0 = 104
          · refine aw_tableIn (off := 117) (tgt := 118) d_X12_isLetter_1 (by rw [e8]; decide) (by rw [e8]; decide) (by rw [e8]; decide) rfl ?_
            have k := k.1 e8
            refine aw_iload_n (i := 1) rfl d_X12_isLetter_118 1 rfl ?_
            refine aw_iconst (v := 1) d_X12_isLetter_119 ic_1 ?_
            refine aw_icmp_ne (tgt := 127) d_X12_isLetter_120 rfl (fun c9 => ?_) (fun c9 => ?_)
            · have k := k.1 c9
              refine aw_iconst (v := 0) d_X12_isLetter_127 ic_0 ?_
              exact aw_zret rfl rfl d_X12_isLetter_128 ⟨Nat.le_refl _, Nat.le_refl _⟩ ⟨_, rfl, k⟩
            · have k := k.2 c9
              refine aw_iconst (v := 1) d_X12_isLetter_123 ic_1 ?_
              refine aw_goto (tgt := 128) d_X12_isLetter_124 rfl ?_
              exact aw_zret rfl rfl d_X12_isLetter_128 ⟨Nat.le_refl _, Nat.le_refl _⟩ ⟨_, rfl, k⟩
          · have k := k.2
            by_cases e10 : x0 = 107
            · refine aw_tableIn (off := 117) (tgt := 118) d_X12_isLetter_1 (by rw [e10]; decide) (by rw [e10]; decide) (by rw [e10]; decide) rfl ?_
              have k := k.1 e10
              refine aw_iload_n (i := 1) rfl d_X12_isLetter_118 1 rfl ?_
              refine aw_iconst (v := 1) d_X12_isLetter_119 ic_1 ?_
              refine aw_icmp_ne (tgt := 127) d_X12_isLetter_120 rfl (fun c11 => ?_) (fun c11 => ?_)
              · have k := k.1 c11
                refine aw_iconst (v := 0) d_X12_isLetter_127 ic_0 ?_
                exact aw_zret rfl rfl d_X12_isLetter_128 ⟨Nat.le_refl _, Nat.le_refl _⟩ ⟨_, rfl, k⟩
              · have k := k.2 c11
                refine aw_iconst (v := 1) d_X12_isLetter_123 ic_1 ?_
                refine aw_goto (tgt := 128) d_X12_isLetter_124 rfl ?_
                exact aw_zret rfl rfl d_X12_isLetter_128 ⟨Nat.le_refl _, Nat.le_refl _⟩ ⟨_, rfl, k⟩
            · have k := k.2
              by_cases e12 : x0 = 109
              · refine aw_tableIn (off := 128) (tgt := 129) d_X12_isLetter_1 (by rw [e12]; decide) (by rw [e12]; decide) (by rw [e12]; decide) rfl ?_
                have k := k.1 e12
                refine aw_iload_n (i := 1) rfl d_X12_isLetter_129 1 rfl ?_
                refine aw_iconst (v := 2) d_X12_isLetter_130 ic_2 ?_
                refine aw_icmp_ne (tgt := 138) d_X12_isLetter_131 rfl (fun c13 => ?_) (fun c13 => ?_)
                · have k := k.1 c13
                  refine aw_iconst (v := 0) d_X12_isLetter_138 ic_0 ?_
                  exact aw_zret rfl rfl d_X12_isLetter_139 ⟨Nat.le_refl _, Nat.le_refl _⟩ ⟨_, rfl, k⟩
                · have k := k.2 c13
                  refine aw_iconst (v := 1) d_X12_isLetter_134 ic_1 ?_
                  refine aw_goto (tgt := 139) d_X12_isLetter_135 rfl ?_
                  exact aw_zret rfl rfl d_X12_isLetter_139 ⟨Nat.le_refl _, Nat.le_refl _⟩ ⟨_, rfl, k⟩
              · have k := k.2
                by_cases e14 : x0 = 110
                · refine aw_tableIn (off := 117) (tgt := 118) d_X12_isLetter_1 (by rw [e14]; decide) (by rw [e14]; decide) (by rw [e14]; decide) rfl ?_
                  have k := k.1 e14
                  refine aw_iload_n (i := 1) rfl d_X12_isLetter_118 1 rfl ?_
                  refine aw_iconst (v := 1) d_X12_isLetter_119 ic_1 ?_
                  refine aw_icmp_ne (tgt := 127) d_X12_isLetter_120 rfl (fun c15 => ?_) (fun c15 => ?_)
                  · have k := k.1 c15
                    refine aw_iconst (v := 0) d_X12_isLetter_127 ic_0 ?_
                    exact aw_zret rfl rfl d_X12_isLetter_128 ⟨Nat.le_refl _, Nat.le_refl _⟩ ⟨_, rfl, k⟩
                  · have k := k.2 c15
                    refine aw_iconst (v := 1) d_X12_isLetter_123 ic_1 ?_
                    refine aw_goto (tgt := 128) d_X12_isLetter_124 rfl ?_
                    exact aw_zret rfl rfl d_X12_isLetter_128 ⟨Nat.le_refl _, Nat.le_refl _⟩ ⟨_, rfl, k⟩
                · have k := k.2
                  by_cases e16 : x0 = 112
                  · refine aw_tableIn (off := 117) (tgt := 118) d_X12_isLetter_1 (by rw [e16]; decide) (by rw [e16]; decide) (by rw [e16]; decide) rfl ?_
                    have k := k.1 e16
                    refine aw_iload_n (i := 1) rfl d_X12_isLetter_118 1 rfl ?_
                    refine aw_iconst (v := 1) d_X12_isLetter_119 ic_1 ?_
                    refine aw_icmp_ne (tgt := 127) d_X12_isLetter_120 rfl (fun c17 => ?_) (fun c17 => ?_)
                    · have k := k.1 c17
                      refine aw_iconst (v := 0) d_X12_isLetter_127 ic_0 ?_
                      exact aw_zret rfl rfl d_X12_isLetter_128 ⟨Nat.le_refl _, Nat.le_refl _⟩ ⟨_, rfl, k⟩
                    · have k := k.2 c17
                      refine aw_iconst (v := 1) d_X12_isLetter_123 ic_1 ?_
                      refine aw_goto (tgt := 128) d_X12_isLetter_124 rfl ?_
                      exact aw_zret rfl rfl d_X12_isLetter_128 ⟨Nat.le_refl _, Nat.le_refl _⟩ ⟨_, rfl, k⟩
                  · have k := k.2
                    by_cases e18 : x0 = 116
                    · refine aw_tableIn (off := 115) (tgt := 116) d_X12_isLetter_1 (by rw [e18]; decide) (by rw [e18]; decide) (by rw [e18]; decide) rfl ?_
                      have k := k.1 e18
                      refine aw_iconst (v := 1) d_X12_isLetter_116 ic_1 ?_
                      exact aw_zret rfl rfl d_X12_isLetter_117 ⟨Nat.le_refl _, Nat.le_refl _⟩ ⟨_, rfl, k⟩
                    · have k := k.2
                      by_cases e19 : x0 = 119
                      · refine aw_tableIn (off := 117) (tgt := 118) d_X12_isLetter_1 (by rw [e19]; decide) (by rw [e19]; decide) (by rw [e19]; decide) rfl ?_
                        have k := k.1 e19
                        refine aw_iload_n (i := 1) rfl d_X12_isLetter_118 1 rfl ?_
                        refine aw_iconst (v := 1) d_X12_isLetter_119 ic_1 ?_
                        refine aw_icmp_ne (tgt := 127) d_X12_isLetter_120 rfl (fun c20 => ?_) (fun c20 => ?_)
                        · have k := k.1 c20
                          refine aw_iconst (v := 0) d_X12_isLetter_127 ic_0 ?_
                          exact aw_zret rfl rfl d_X12_isLetter_128 ⟨Nat.le_refl _, Nat.le_refl _⟩ ⟨_, rfl, k⟩
                        · have k := k.2 c20
                          refine aw_iconst (v := 1) d_X12_isLetter_123 ic_1 ?_
                          refine aw_goto (tgt := 128) d_X12_isLetter_124 rfl ?_
                          exact aw_zret rfl rfl d_X12_isLetter_128 ⟨Nat.le_refl _, Nat.le_refl _⟩ ⟨_, rfl, k⟩
                      · have k := k.2
                        by_cases e21 : x0 = 120
                        · refine aw_tableIn (off := 128) (tgt := 129) d_X12_isLetter_1 (by rw [e21]; decide) (by rw [e21]; decide) (by rw [e21]; decide) rfl ?_
                          have k := k.1 e21
                          refine aw_iload_n (i := 1) rfl d_X12_isLetter_129 1 rfl ?_
                          refine aw_iconst (v := 2) d_X12_isLetter_130 ic_2 ?_
                          refine aw_icmp_ne (tgt := 138) d_X12_isLetter_131 rfl (fun c22 => ?_) (fun c22 => ?_)
                          · have k := k.1 c22
                            refine aw_iconst (v := 0) d_X12_isLetter_138 ic_0 ?_
                            exact aw_zret rfl rfl d_X12_isLetter_139 ⟨Nat.le_refl _, Nat.le_refl _⟩ ⟨_, rfl, k⟩
                          · have k := k.2 c22
                            refine aw_iconst (v := 1) d_X12_isLetter_134 ic_1 ?_
                            refine aw_goto (tgt := 139) d_X12_isLetter_135 rfl ?_
                            exact aw_zret rfl rfl d_X12_isLetter_139 ⟨Nat.le_refl _, Nat.le_refl _⟩ ⟨_, rfl, k⟩
                        · have k := k.2
                          by_cases e23 : x0 = 121
                          · refine aw_tableIn (off := 128) (tgt := 129) d_X12_isLetter_1 (by rw [e23]; decide) (by rw [e23]; decide) (by rw [e23]; decide) rfl ?_
                            have k := k.1 e23
                            refine aw_iload_n (i := 1) rfl d_X12_isLetter_129 1 rfl ?_
                            refine aw_iconst (v := 2) d_X12_isLetter_130 ic_2 ?_
                            refine aw_icmp_ne (tgt := 138) d_X12_isLetter_131 rfl (fun c24 => ?_) (fun c24 => ?_)
                            · have k := k.1 c24
                              refine aw_iconst (v := 0) d_X12_isLetter_138 ic_0 ?_
                              exact aw_zret rfl rfl d_X12_isLetter_139 ⟨Nat.le_refl _, Nat.le_refl _⟩ ⟨_, rfl, k⟩
                            · have k := k.2 c24
                              refine aw_iconst (v := 1) d_X12_isLetter_134 ic_1 ?_
                              refine aw_goto (tgt := 139) d_X12_isLetter_135 rfl ?_
                              exact aw_zret rfl rfl d_X12_isLetter_139 ⟨Nat.le_refl _, Nat.le_refl _⟩ ⟨_, rfl, k⟩
                          · have k := k.2
                            have k := k ⟨e1, e3, e4, e6, e8, e10, e12, e14, e16, e18, e19, e21, e23⟩
                            have n25 := sw_ne (97) (by decide) e1
                            have n26 := sw_ne (99) (by decide) e3
                            have n27 := sw_ne (100) (by decide) e4
                            have n28 := sw_ne (101) (by decide) e6
                            have n29 := sw_ne (104) (by decide) e8
                            have n30 := sw_ne (107) (by decide) e10
                            have n31 := sw_ne (109) (by decide) e12
                            have n32 := sw_ne (110) (by decide) e14
                            have n33 := sw_ne (112) (by decide) e16
                            have n34 := sw_ne (116) (by decide) e18
                            have n35 := sw_ne (119) (by decide) e19
                            have n36 := sw_ne (120) (by decide) e21
                            have n37 := sw_ne (121) (by decide) e23
                            refine aw_tableD (tgt := 140) d_X12_isLetter_1 (by
                              rcases (show (x0 : Int32).toInt < 97 ∨ 121 < (x0 : Int32).toInt ∨ (x0 : Int32).toInt = 98 ∨ (x0 : Int32).toInt = 102 ∨ (x0 : Int32).toInt = 103 ∨ (x0 : Int32).toInt = 105 ∨ (x0 : Int32).toInt = 106 ∨ (x0 : Int32).toInt = 108 ∨ (x0 : Int32).toInt = 111 ∨ (x0 : Int32).toInt = 113 ∨ (x0 : Int32).toInt = 114 ∨ (x0 : Int32).toInt = 115 ∨ (x0 : Int32).toInt = 117 ∨ (x0 : Int32).toInt = 118 by omega) with e | e | e | e | e | e | e | e | e | e | e | e | e | e
                              · exact Or.inl e
                              · exact Or.inr (Or.inl e)
                              · exact Or.inr (Or.inr (by rw [e]; decide))
                              · exact Or.inr (Or.inr (by rw [e]; decide))
                              · exact Or.inr (Or.inr (by rw [e]; decide))
                              · exact Or.inr (Or.inr (by rw [e]; decide))
                              · exact Or.inr (Or.inr (by rw [e]; decide))
                              · exact Or.inr (Or.inr (by rw [e]; decide))
                              · exact Or.inr (Or.inr (by rw [e]; decide))
                              · exact Or.inr (Or.inr (by rw [e]; decide))
                              · exact Or.inr (Or.inr (by rw [e]; decide))
                              · exact Or.inr (Or.inr (by rw [e]; decide))
                              · exact Or.inr (Or.inr (by rw [e]; decide))
                              · exact Or.inr (Or.inr (by rw [e]; decide))) rfl ?_
                            refine aw_iconst (v := 0) d_X12_isLetter_140 ic_0 ?_
                            exact aw_zret rfl rfl d_X12_isLetter_141 ⟨Nat.le_refl _, Nat.le_refl _⟩ ⟨_, rfl, k⟩
theorem t_X12_isSign (d : Nat) (h : Hp_) (x0 : Int32) (K : Int32 → Hp_ → Prop) (k : (x0 = 61 → K 1 h) ∧ (¬ x0 = 61 → (x0 = 60 → K 1 h) ∧ (¬ x0 = 60 → (¬ x0 = 62 → K 0 h) ∧ (x0 = 62 → K 1 h)))) : Ci (m_X12_isSign (d + 0) 0 0) [.int x0] h K := by
  refine Ct.of (fun _ _ _ => trivial) pn_X12 (Nat.le_of_ble_eq_true rfl) ?_
  show AW (m_X12_isSign (d + 0) 0 0) 0 0 0 [(0, .int x0)] [] h (kI K)
  refine aw_iload_n (i := 0) rfl d_X12_isSign_0 0 rfl ?_
  refine aw_bipush (v := 61) d_X12_isSign_1 ib_61 ?_
  refine aw_icmp_eq (tgt := 18) d_X12_isSign_3 rfl (fun c1 => ?_) (fun c1 => ?_)
  · have k := k.1 c1
    refine aw_iconst (v := 1) d_X12_isSign_18 ic_1 ?_
    refine aw_goto (tgt := 23) d_X12_isSign_19 rfl ?_
    exact aw_zret rfl rfl d_X12_isSign_23 ⟨Nat.le_refl _, Nat.le_refl _⟩ ⟨_, rfl, k⟩
  · have k := k.2 c1
    refine aw_iload_n (i := 0) rfl d_X12_isSign_6 0 rfl ?_
    refine aw_bipush (v := 60) d_X12_isSign_7 ib_60 ?_
    refine aw_icmp_eq (tgt := 18) d_X12_isSign_9 rfl (fun c2 => ?_) (fun c2 => ?_)
    · have k := k.1 c2
      refine aw_iconst (v := 1) d_X12_isSign_18 ic_1 ?_
      refine aw_goto (tgt := 23) d_X12_isSign_19 rfl ?_
      exact aw_zret rfl rfl d_X12_isSign_23 ⟨Nat.le_refl _, Nat.le_refl _⟩ ⟨_, rfl, k⟩
    · have k := k.2 c2
      refine aw_iload_n (i := 0) rfl d_X12_isSign_12 0 rfl ?_
      refine aw_bipush (v := 62) d_X12_isSign_13 ib_62 ?_
      refine aw_icmp_ne (tgt := 22) d_X12_isSign_15 rfl (fun c3 => ?_) (fun c3 => ?_)
      · have k := k.1 c3
        refine aw_iconst (v := 0) d_X12_isSign_22 ic_0 ?_
        exact aw_zret rfl rfl d_X12_isSign_23 ⟨Nat.le_refl _, Nat.le_refl _⟩ ⟨_, rfl, k⟩
      · have k := k.2 c3
        refine aw_iconst (v := 1) d_X12_isSign_18 ic_1 ?_
        refine aw_goto (tgt := 23) d_X12_isSign_19 rfl ?_
        exact aw_zret rfl rfl d_X12_isSign_23 ⟨Nat.le_refl _, Nat.le_refl _⟩ ⟨_, rfl, k⟩
theorem t_X12_ask (d : Nat) (h : Hp_) (w : Wf h)  (K : Hp_ → Prop) (k : (¬ (h_i h 1 34) = (-1) → Cv (m_X12_say (d + 0) 0 0) [.ref 1, .int 2] (h_im h 1 33 ((h_i h 1 33) + 1)) (fun h2 => Wf h2 ∧ (K h2))) ∧ ((h_i h 1 34) = (-1) → Ci (m_X12_look (d + 0) 0 0) [.ref 1] h (fun r7 h5 => Wf h5 ∧ ((r7 = 63 → Cv (m_X12_say (d + 0) 0 0) [.ref 1, .int 2] (h_im h5 1 33 ((h_i h5 1 33) + 1)) (fun h9 => Wf h9 ∧ (K h9))) ∧ (¬ r7 = 63 → Cv (m_X12_bad (d + 0) 0 0) [.ref 1] h5 (fun h12 => Wf h12 ∧ (Cv (m_X12_say (d + 0) 0 0) [.ref 1, .int 2] (h_im h12 1 33 ((h_i h12 1 33) + 1)) (fun h15 => Wf h15 ∧ (K h15))))))))) : Cv (m_X12_ask (d + 1) 0 0) [.ref 1] h K := by
  refine Ct.of (fun _ _ _ => trivial) pn_X12 (Nat.le_of_ble_eq_true rfl) ?_
  show AW (m_X12_ask (d + 1) 0 0) 0 0 0 [(0, .ref 1)] [] h (kV K)
  refine aw_aload_n (i := 0) rfl d_X12_ask_0 0 rfl ?_
  refine aw_geti (k0 := 34) kc_12 (ws_1 w) (Nat.le_of_ble_eq_true rfl) tw_1776 d_X12_ask_1 rfl ?_
  refine aw_iconst (v := (-1)) d_X12_ask_4 ic_m1 ?_
  refine aw_icmp_ne (tgt := 21) d_X12_ask_5 rfl (fun c1 => ?_) (fun c1 => ?_)
  · have k := k.1 c1
    refine aw_aload_n (i := 0) rfl d_X12_ask_21 0 rfl ?_
    refine aw_dup d_X12_ask_22 rfl ?_
    refine aw_geti (k0 := 33) kc_12 (ws_1 w) (Nat.le_of_ble_eq_true rfl) tw_1775 d_X12_ask_23 rfl ?_
    refine aw_iconst (v := 1) d_X12_ask_26 ic_1 ?_
    refine aw_iadd d_X12_ask_27 ?_
    refine aw_puti (k0 := 33) kc_12 (ws_1 w) (Nat.le_of_ble_eq_true rfl) tw_1775 d_X12_ask_28 rfl rfl nf_i ?_
    refine aw_aload_n (i := 0) rfl d_X12_ask_31 0 rfl ?_
    refine aw_iconst (v := 2) d_X12_ask_32 ic_2 ?_
    refine aw_Vv 1 [.int 2] [] d_X12_ask_33 (cV_X12_say (d + 0) 0 0) kc_12 (ws_1 w) tw_2210 rfl (rr0 (Nat.le_of_ble_eq_true rfl) (Nat.le_of_ble_eq_true rfl)) (Nat.le_of_ble_eq_true rfl) xs0 k (fun h2 kk => ?_)
    obtain ⟨w3, k⟩ := kk
    exact aw_vret rfl d_X12_ask_36 ⟨Nat.le_refl _, Nat.le_refl _⟩ ⟨rfl, k⟩
  · have k := k.2 c1
    refine aw_aload_n (i := 0) rfl d_X12_ask_8 0 rfl ?_
    refine aw_Vi 1 [] [] d_X12_ask_9 (cV_X12_look (d + 0) 0 0) kc_12 (ws_1 w) tw_2206 rfl (rr0 (Nat.le_of_ble_eq_true rfl) (Nat.le_of_ble_eq_true rfl)) (Nat.le_of_ble_eq_true rfl) xs0 k (fun r7 h5 kk => ?_)
    obtain ⟨w6, k⟩ := kk
    refine aw_bipush (v := 63) d_X12_ask_12 ib_63 ?_
    refine aw_icmp_eq (tgt := 21) d_X12_ask_14 rfl (fun c8 => ?_) (fun c8 => ?_)
    · have k := k.1 c8
      refine aw_aload_n (i := 0) rfl d_X12_ask_21 0 rfl ?_
      refine aw_dup d_X12_ask_22 rfl ?_
      refine aw_geti (k0 := 33) kc_12 (ws_1 w6) (Nat.le_of_ble_eq_true rfl) tw_1775 d_X12_ask_23 rfl ?_
      refine aw_iconst (v := 1) d_X12_ask_26 ic_1 ?_
      refine aw_iadd d_X12_ask_27 ?_
      refine aw_puti (k0 := 33) kc_12 (ws_1 w6) (Nat.le_of_ble_eq_true rfl) tw_1775 d_X12_ask_28 rfl rfl nf_i ?_
      refine aw_aload_n (i := 0) rfl d_X12_ask_31 0 rfl ?_
      refine aw_iconst (v := 2) d_X12_ask_32 ic_2 ?_
      refine aw_Vv 1 [.int 2] [] d_X12_ask_33 (cV_X12_say (d + 0) 0 0) kc_12 (ws_1 w6) tw_2210 rfl (rr0 (Nat.le_of_ble_eq_true rfl) (Nat.le_of_ble_eq_true rfl)) (Nat.le_of_ble_eq_true rfl) xs0 k (fun h9 kk => ?_)
      obtain ⟨w10, k⟩ := kk
      exact aw_vret rfl d_X12_ask_36 ⟨Nat.le_refl _, Nat.le_refl _⟩ ⟨rfl, k⟩
    · have k := k.2 c8
      refine aw_aload_n (i := 0) rfl d_X12_ask_17 0 rfl ?_
      refine aw_Vv 1 [] [] d_X12_ask_18 (cV_X12_bad (d + 0) 0 0) kc_12 (ws_1 w6) tw_2225 rfl (rr0 (Nat.le_of_ble_eq_true rfl) (Nat.le_of_ble_eq_true rfl)) (Nat.le_of_ble_eq_true rfl) xs0 k (fun h12 kk => ?_)
      obtain ⟨w13, k⟩ := kk
      refine aw_aload_n (i := 0) rfl d_X12_ask_21 0 rfl ?_
      refine aw_dup d_X12_ask_22 rfl ?_
      refine aw_geti (k0 := 33) kc_12 (ws_1 w13) (Nat.le_of_ble_eq_true rfl) tw_1775 d_X12_ask_23 rfl ?_
      refine aw_iconst (v := 1) d_X12_ask_26 ic_1 ?_
      refine aw_iadd d_X12_ask_27 ?_
      refine aw_puti (k0 := 33) kc_12 (ws_1 w13) (Nat.le_of_ble_eq_true rfl) tw_1775 d_X12_ask_28 rfl rfl nf_i ?_
      refine aw_aload_n (i := 0) rfl d_X12_ask_31 0 rfl ?_
      refine aw_iconst (v := 2) d_X12_ask_32 ic_2 ?_
      refine aw_Vv 1 [.int 2] [] d_X12_ask_33 (cV_X12_say (d + 0) 0 0) kc_12 (ws_1 w13) tw_2210 rfl (rr0 (Nat.le_of_ble_eq_true rfl) (Nat.le_of_ble_eq_true rfl)) (Nat.le_of_ble_eq_true rfl) xs0 k (fun h15 kk => ?_)
      obtain ⟨w16, k⟩ := kk
      exact aw_vret rfl d_X12_ask_36 ⟨Nat.le_refl _, Nat.le_refl _⟩ ⟨rfl, k⟩
end
section
/-! the reference's reader: its small methods -/
noncomputable def wzp : List Nat := [1033, 1034, 1035, 1036, 226999]
noncomputable abbrev pa (h : Hp_) : Int := (h_i h 1 33).toInt
noncomputable abbrev pz (h : Hp_) : Int := (h_i h 1 32).toInt
theorem pz_in {h : Hp_} (I : Iv h) : rin (pz h) (0, 160) := by
  have := I.2.1 1 32
  rwa [show tf 1 32 = (0, 160) by decide +kernel] at this
theorem pa_in {h : Hp_} (I : Iv h) : rin (pa h) (0, 180) := by
  have := I.2.1 1 33
  rwa [show tf 1 33 = (0, 180) by decide +kernel] at this
theorem i33 {h : Hp_} (I : Iv h) {x : Int32} (b : rin x.toInt (0, 180)) : Iv (h_im h 1 33 x) := I.im (by rw [show tf 1 33 = (0, 180) by decide +kernel]; exact b) (by decide)
theorem i34 {h : Hp_} (I : Iv h) (x : Int32) : Iv (h_im h 1 34 x) := I.im (by rw [show tf 1 34 = rtop by decide +kernel]; exact rtop_in _) (by decide)
theorem i36 {h : Hp_} (I : Iv h) {x : Int32} (b : rin x.toInt (0, 559)) : Iv (h_im h 1 36 x) := I.im (by rw [show tf 1 36 = (0, 559) by decide +kernel]; exact b) (by decide)
theorem i226 {h : Hp_} (I : Iv h) (k : Nat) (x : Int32) : Iv (h_im h 226 k x) := tr_ 226 (by decide +kernel) I k x (by decide) (by decide)
theorem f_ne {h : Hp_} {k j : Nat} {x : Int32} (n : j ≠ k) : h_i (h_im h 1 k x) 1 j = h_i h 1 j := by rw [h_i_im, if_neg (fun e => n e.2)]
/-- what look leaves: only the place may have moved on, over blanks -/
noncomputable def Lk (h : Hp_) (r : Int32) (h' : Hp_) : Prop := Iv h' ∧ Fr [1033] h h' ∧ pa h ≤ pa h' ∧ (pa h' ≤ pa h ∨ pa h' ≤ pz h) ∧ ((r = -1 ∧ pz h ≤ pa h') ∨ (pa h' < pz h ∧ r = h_i h 225 (h_i h' 1 33).toNatClampNeg))
theorem c_look (d : Nat) {h : Hp_} (I : Iv h) : Ci (m_X12_look (d + 0) 0 0) [.ref 1] h (fun r h' => Lk h r h') := by
  have t1 : (1 : Int32).toInt = 1 := rfl
  have lp : ∀ (q : Nat) (h2 : Hp_), Iv h2 → Fr [1033] h h2 → pa h ≤ pa h2 → (pa h2 ≤ pa h ∨ pa h2 ≤ pz h) → pz h - pa h2 ≤ q → AW (m_X12_look (d + 0) 0 0) 0 0 0 [(0, .ref 1)] [] h2 (kI (fun r h' => Lk h r h')) := by
    intro q
    induction q with
    | zero =>
      intro h2 I2 F2 l1 l2 m
      have ez : h_i h2 1 32 = h_i h 1 32 := (F2.2 1 32 (by decide +kernel)).1
      have fin : Lk h (-1) h2 := ⟨I2, F2, l1, l2, Or.inl ⟨rfl, by omega⟩⟩
      refine t_X12_look_0 d h2 I2.1 _ ⟨fun y => ⟨fun _ => fin, fun z => absurd y z⟩, fun z => ?_⟩
      rw [ez] at z
      have z := q_nle z
      have m' : (h_i h 1 32).toInt - (h_i h2 1 33).toInt ≤ 0 := m
      omega
    | succ q ih =>
      intro h2 I2 F2 l1 l2 m
      have ez : h_i h2 1 32 = h_i h 1 32 := (F2.2 1 32 (by decide +kernel)).1
      have et : ∀ k, h_i h2 225 k = h_i h 225 k := fun k => fr_i F2 (by decide +kernel) k
      have p0 : 0 ≤ (h_i h2 1 33).toInt := (pa_in I2).1
      have z1 : (h_i h 1 32).toInt ≤ 160 := (pz_in I).2
      have m' : (h_i h 1 32).toInt - (h_i h2 1 33).toInt ≤ (q + 1 : Nat) := m
      have fin1 : h_i h2 1 32 ≤ h_i h2 1 33 → Lk h (-1) h2 := fun y => ⟨I2, F2, l1, l2, Or.inl ⟨rfl, by rw [ez] at y; exact q_le.mp y⟩⟩
      have fin2 : ¬ h_i h2 1 32 ≤ h_i h2 1 33 → Lk h (h_i h2 225 (h_i h2 1 33).toNatClampNeg) h2 := fun y => ⟨I2, F2, l1, l2, Or.inr ⟨by rw [ez] at y; exact q_nle y, et _⟩⟩
      refine t_X12_look_0 d h2 I2.1 _ ⟨fun y => ⟨fun _ => fin1 y, fun z => absurd y z⟩, fun z => ?_⟩
      have z' := z
      rw [ez] at z'
      have z' := q_nle z'
      have v : vp_in (h_i h2 1 33) 160 := dp_in (lo := 0) (hi := 159) ⟨p0, by show _ ≤ (159 : Int); omega⟩ (by decide) (by decide)
      refine ⟨v, fun _ => ⟨fun y => absurd y z, fun _ => ⟨v, fin2 z⟩⟩, fun _ => ?_⟩
      have ex : (h_i h2 1 33 + 1).toInt = (h_i h2 1 33).toInt + 1 := tx_add (by rw [t1]; omega) (by rw [t1]; omega)
      have l1' : (h_i h 1 33).toInt ≤ (h_i h2 1 33).toInt := l1
      refine ih _ (i33 I2 ⟨by show (0 : Int) ≤ _; omega, by show _ ≤ (180 : Int); omega⟩) (F2.im (by decide +kernel)) ?_ ?_ ?_
      · show (h_i h 1 33).toInt ≤ (h_i (h_im h2 1 33 _) 1 33).toInt
        rw [im_at]; omega
      · right
        show (h_i (h_im h2 1 33 _) 1 33).toInt ≤ (h_i h 1 32).toInt
        rw [im_at]; omega
      · show (h_i h 1 32).toInt - (h_i (h_im h2 1 33 _) 1 33).toInt ≤ _
        rw [im_at]; omega
  refine Ct.of (fun _ _ _ => trivial) pn_X12 (Nat.le_of_ble_eq_true rfl) ?_
  have z0 : 0 ≤ (h_i h 1 32).toInt := (pz_in I).1
  have p0 : 0 ≤ (h_i h 1 33).toInt := (pa_in I).1
  have z1 : (h_i h 1 32).toInt ≤ 160 := (pz_in I).2
  exact lp 160 h I (Fr.rf _ _) (Int.le_refl _) (Or.inl (Int.le_refl _)) (by show (h_i h 1 32).toInt - (h_i h 1 33).toInt ≤ 160; omega)
theorem c_bad (d : Nat) {h : Hp_} (I : Iv h) : Cv (m_X12_bad (d + 0) 0 0) [.ref 1] h (fun h' => Iv h' ∧ Fr [1034] h h' ∧ ¬ h_i h' 1 34 = -1) := by
  have p0 : 0 ≤ (h_i h 1 33).toInt := (pa_in I).1
  refine t_X12_bad d h I.1 _ ⟨fun z => ⟨i34 I _, (Fr.rf _ _).im (by decide +kernel), by rw [im_at]; exact z⟩, fun _ => ⟨i34 I _, (Fr.rf _ _).im (by decide +kernel), ?_⟩⟩
  rw [im_at]
  intro e
  rw [e] at p0
  exact absurd p0 (by decide)
theorem c_say (d : Nat) {h : Hp_} (I : Iv h) (x : Int32) (l : (h_i h 1 36).toInt ≤ 558) : Cv (m_X12_say (d + 0) 0 0) [.ref 1, .int x] h (fun h' => Iv h' ∧ Fr [1036, 226999] h h' ∧ (h_i h' 1 36).toInt = (h_i h 1 36).toInt + 1 ∧ h_i h' 226 (h_i h 1 36).toNatClampNeg = x ∧ ∀ k, k ≠ (h_i h 1 36).toNatClampNeg → h_i h' 226 k = h_i h 226 k) := by
  have t1 : (1 : Int32).toInt = 1 := rfl
  have sr := I.2.1 1 36
  rw [show tf 1 36 = (0, 559) by decide +kernel] at sr
  have s0 : 0 ≤ (h_i h 1 36).toInt := sr.1
  have ex : (h_i h 1 36 + 1).toInt = (h_i h 1 36).toInt + 1 := tx_add (by rw [t1]; omega) (by rw [t1]; omega)
  refine t_X12_say d h I.1 x _ ⟨dp_in (lo := 0) (hi := 559) ⟨s0, by show _ ≤ (559 : Int); omega⟩ (by decide) (by decide), i36 (i226 I _ _) ⟨by show (0 : Int) ≤ _; omega, by show _ ≤ (559 : Int); omega⟩, ((Fr.rf _ _).im (inw_row (by decide +kernel) _)).im (by decide +kernel), by rw [im_at]; exact ex, by rw [im_ne (by decide), im_at], fun k hk => ?_⟩
  rw [im_ne (by decide), h_i_im, if_neg (fun e => hk e.2)]
end
section
/-! a number read -/
noncomputable def Nu (h : Hp_) (h' : Hp_) : Prop := Iv h' ∧ Fr [1033, 1034] h h' ∧ pa h ≤ pa h' ∧ pa h' ≤ pz h ∧ (h_i h' 1 34 = -1 → pa h < pa h')
theorem c_isDigit (d : Nat) (h : Hp_) (x : Int32) : Ci (m_X12_isDigit (d + 0) 0 0) [.int x] h (fun r h' => h' = h ∧ ((r = 1 ∧ ¬ x < 48 ∧ ¬ 57 < x) ∨ (r = 0 ∧ ¬ (¬ x < 48 ∧ ¬ 57 < x)))) :=
  t_X12_isDigit d h x _ ⟨fun z => ⟨rfl, Or.inr ⟨rfl, fun y => y.1 z⟩⟩, fun z => ⟨fun y => ⟨rfl, Or.inr ⟨rfl, fun u => u.2 y⟩⟩, fun y => ⟨rfl, Or.inl ⟨rfl, z, y⟩⟩⟩⟩
theorem nu_loop (d : Nat) (h : Hp_) (I : Iv h) : ∀ (q : Nat) (x1 x2 : Int32) (h2 : Hp_), Iv h2 → Fr [1033, 1034] h h2 → h_i h2 1 34 = -1 → pa h ≤ pa h2 → pa h2 ≤ pz h → pz h - pa h2 ≤ q → (pa h < pa h2 ∨ (x2 = 0 ∧ pa h2 < pz h ∧ (¬ h_i h2 225 (h_i h2 1 33).toNatClampNeg < 48 ∧ ¬ 57 < h_i h2 225 (h_i h2 1 33).toNatClampNeg))) →
    AW (m_X12_number (d + 1) 0 0) 0 0 20 [(0, .ref 1), (1, .int x1), (2, .int x2)] [] h2 (kI (fun _ h' => Nu h h')) := by
  have t1 : (1 : Int32).toInt = 1 := rfl
  have z1 : (h_i h 1 32).toInt ≤ 160 := (pz_in I).2
  intro q
  induction q with
  | zero =>
    intro x1 x2 h2 I2 F2 w l1 l2 m c
    have ez : h_i h2 1 32 = h_i h 1 32 := (F2.2 1 32 (by decide +kernel)).1
    have m' : (h_i h 1 32).toInt - (h_i h2 1 33).toInt ≤ 0 := m
    refine t_X12_number_20 d h2 I2.1 x1 x2 _ ⟨fun _ => ⟨I2, F2, l1, l2, fun _ => ?_⟩, fun z => ?_⟩
    · rcases c with c | c
      · exact c
      · have c2 : (h_i h2 1 33).toInt < (h_i h 1 32).toInt := c.2.1
        omega
    · rw [ez] at z
      have z := q_nle z
      omega
  | succ q ih =>
    intro x1 x2 h2 I2 F2 w l1 l2 m c
    have ez : h_i h2 1 32 = h_i h 1 32 := (F2.2 1 32 (by decide +kernel)).1
    have m' : (h_i h 1 32).toInt - (h_i h2 1 33).toInt ≤ (q + 1 : Nat) := m
    have p0 : 0 ≤ (h_i h2 1 33).toInt := (pa_in I2).1
    have l1' : (h_i h 1 33).toInt ≤ (h_i h2 1 33).toInt := l1
    refine t_X12_number_20 d h2 I2.1 x1 x2 _ ⟨fun z => ⟨I2, F2, l1, l2, fun _ => ?_⟩, fun z => ?_⟩
    · rcases c with c | c
      · exact c
      · rw [ez] at z
        have z := q_le.mp z
        have c2 : (h_i h2 1 33).toInt < (h_i h 1 32).toInt := c.2.1
        omega
    · rw [ez] at z
      have z := q_nle z
      have v : vp_in (h_i h2 1 33) 160 := dp_in (lo := 0) (hi := 159) ⟨p0, by show _ ≤ (159 : Int); omega⟩ (by decide) (by decide)
      refine ⟨v, Ci.mono (c_isDigit d h2 _) (fun r h3 k => ?_)⟩
      obtain ⟨e3, k⟩ := k
      subst e3
      refine ⟨I2.1, fun r0 => ⟨I2, F2, l1, l2, fun _ => ?_⟩, fun r1 => ⟨fun n4 => ⟨v, ?_⟩, fun e4 => ?_⟩⟩
      · rcases c with c | c
        · exact c
        · rcases k with k | k
          · rw [r0] at k; exact absurd k.1 (by decide)
          · exact absurd c.2.2 k.2
      · have ex : (h_i h3 1 33 + 1).toInt = (h_i h3 1 33).toInt + 1 := tx_add (by rw [t1]; omega) (by rw [t1]; omega)
        refine ih _ _ _ (i33 I2 ⟨by show (0 : Int) ≤ _; omega, by show _ ≤ (180 : Int); omega⟩) (F2.im (by decide +kernel)) (by rw [f_ne (by decide)]; exact w) ?_ ?_ ?_ (Or.inl ?_)
        · show (h_i h 1 33).toInt ≤ (h_i (h_im h3 1 33 _) 1 33).toInt
          rw [im_at]; omega
        · show (h_i (h_im h3 1 33 _) 1 33).toInt ≤ (h_i h 1 32).toInt
          rw [im_at]; omega
        · show (h_i h 1 32).toInt - (h_i (h_im h3 1 33 _) 1 33).toInt ≤ _
          rw [im_at]; omega
        · show (h_i h 1 33).toInt < (h_i (h_im h3 1 33 _) 1 33).toInt
          rw [im_at]; omega
      · refine Cv.mono (c_bad d I2) (fun h4 k4 => ⟨k4.1.1, k4.1, F2.tr (k4.2.1.more (by decide +kernel)), ?_, ?_, fun y => absurd y k4.2.2⟩)
        · show (h_i h 1 33).toInt ≤ (h_i h4 1 33).toInt
          rw [(k4.2.1.2 1 33 (by decide +kernel)).1]; exact l1'
        · show (h_i h4 1 33).toInt ≤ (h_i h 1 32).toInt
          rw [(k4.2.1.2 1 33 (by decide +kernel)).1]; exact l2
theorem c_number (d : Nat) {h : Hp_} (I : Iv h) (w : h_i h 1 34 = -1) (l : pa h ≤ pz h) : Ci (m_X12_number (d + 1) 0 0) [.ref 1] h (fun _ h' => Nu h h') := by
  have z1 : (h_i h 1 32).toInt ≤ 160 := (pz_in I).2
  have p0 : 0 ≤ (h_i h 1 33).toInt := (pa_in I).1
  refine t_X12_number d h I.1 _ (Ci.mono (c_look d I) (fun r h2 L => ?_))
  obtain ⟨I2, F2, l1, l2, lr⟩ := L
  have l1' : (h_i h 1 33).toInt ≤ (h_i h2 1 33).toInt := l1
  have l2' : (h_i h2 1 33).toInt ≤ (h_i h 1 32).toInt := by
    have l' : (h_i h 1 33).toInt ≤ (h_i h 1 32).toInt := l
    rcases l2 with u | u
    · have u' : (h_i h2 1 33).toInt ≤ (h_i h 1 33).toInt := u
      omega
    · exact u
  have F2' : Fr [1033, 1034] h h2 := F2.more (by decide +kernel)
  have w2 : h_i h2 1 34 = -1 := by rw [(F2.2 1 34 (by decide +kernel)).1]; exact w
  refine ⟨I2.1, Ci.mono (c_isDigit d h2 r) (fun r6 h4 k => ?_)⟩
  obtain ⟨e4, k⟩ := k
  subst e4
  refine ⟨I2.1, fun n0 => ?_, fun _ => ?_⟩
  · rcases k with k | k
    · rcases lr with u | u
      · rw [u.1] at k; exact absurd (by decide) k.2.1
      · refine nu_loop d h I 160 0 0 h4 I2 F2' w2 l1 l2' (by show (h_i h 1 32).toInt - (h_i h4 1 33).toInt ≤ 160; omega) (Or.inr ⟨rfl, u.1, ?_⟩)
        rw [fr_i F2 (a := 225) (by decide +kernel), ← u.2]
        exact k.2
    · exact absurd k.1 n0
  · refine Cv.mono (c_bad d I2) (fun h5 k5 => ⟨k5.1.1, k5.1, F2'.tr (k5.2.1.more (by decide +kernel)), ?_, ?_, fun y => absurd y k5.2.2⟩)
    · show (h_i h 1 33).toInt ≤ (h_i h5 1 33).toInt
      rw [(k5.2.1.2 1 33 (by decide +kernel)).1]; exact l1'
    · show (h_i h5 1 33).toInt ≤ (h_i h 1 32).toInt
      rw [(k5.2.1.2 1 33 (by decide +kernel)).1]; exact l2'
end
section
/-! a number within bounds; brackets opened and closed -/
noncomputable def Wi (h : Hp_) (x1 x2 r : Int32) (h' : Hp_) : Prop := Nu h h' ∧ (h_i h' 1 34 = -1 → x1 ≤ r ∧ r ≤ x2)
theorem c_within (d : Nat) {h : Hp_} (I : Iv h) (w : h_i h 1 34 = -1) (l : pa h ≤ pz h) (x1 x2 : Int32) : Ci (m_X12_within (d + 2) 0 0) [.ref 1, .int x1, .int x2] h (fun r h' => Wi h x1 x2 r h') := by
  have p0 : 0 ≤ (h_i h 1 33).toInt := (pa_in I).1
  have t1 : (1 : Int32).toInt = 1 := rfl
  refine t_X12_within d h I.1 x1 x2 _ (Ci.mono (c_number d I w l) (fun r h2 N => ?_))
  have I2 := N.1
  refine ⟨I2.1, fun n => ⟨N, fun y => absurd y n⟩, fun e => ⟨fun b => ⟨N, fun _ => b⟩, fun _ => ?_⟩⟩
  have g : (h_i h 1 33).toInt < (h_i h2 1 33).toInt := N.2.2.2.2 e
  have u : (h_i h2 1 33).toInt ≤ 180 := (pa_in I2).2
  have em : (h_i h2 1 33 - 1).toInt = (h_i h2 1 33).toInt - 1 := by rw [tx_sub (by rw [t1]; omega) (by rw [t1]; omega), t1]
  have ne : ¬ h_i (h_im h2 1 34 (h_i h2 1 33 - 1)) 1 34 = -1 := by
    rw [im_at]
    intro y
    have y := congrArg Int32.toInt y
    rw [em, show (-1 : Int32).toInt = -1 from rfl] at y
    omega
  refine ⟨⟨i34 I2 _, N.2.1.im (by decide +kernel), ?_, ?_, fun y => absurd y ne⟩, fun y => absurd y ne⟩
  · show (h_i h 1 33).toInt ≤ (h_i (h_im h2 1 34 _) 1 33).toInt
    rw [f_ne (by decide)]; exact N.2.2.1
  · show (h_i (h_im h2 1 34 _) 1 33).toInt ≤ (h_i h 1 32).toInt
    rw [f_ne (by decide)]; exact N.2.2.2.1
theorem dp_in7 {h : Hp_} (I : Iv h) : rin (h_i h 1 35).toInt (0, 7) := by
  have := I.2.1 1 35
  rwa [show tf 1 35 = (0, 7) by decide +kernel] at this
theorem i35 {h : Hp_} (I : Iv h) {x : Int32} (b : rin x.toInt (0, 7)) : Iv (h_im h 1 35 x) := I.im (by rw [show tf 1 35 = (0, 7) by decide +kernel]; exact b) (by decide)
/-- a bracket opened: one deeper, one further; or wrong -/
theorem c_opens (d : Nat) {h : Hp_} (I : Iv h) (l : pa h < pz h) (dl : (h_i h 1 35).toInt ≤ 6) : Ci (m_X12_opens (d + 1) 0 0) [.ref 1] h (fun r h' => Iv h' ∧ Fr [1033, 1034, 1035] h h' ∧ ((r = 1 ∧ h_i h' 1 34 = h_i h 1 34 ∧ pa h' = pa h + 1 ∧ (h_i h' 1 35).toInt = (h_i h 1 35).toInt + 1 ∧ (h_i h 1 35).toInt ≤ 5) ∨ (r = 0 ∧ ¬ h_i h' 1 34 = -1 ∧ h_i h' 1 33 = h_i h 1 33 ∧ h_i h' 1 35 = h_i h 1 35))) := by
  have t1 : (1 : Int32).toInt = 1 := rfl
  have t6 : (6 : Int32).toInt = 6 := rfl
  have p0 : 0 ≤ (h_i h 1 33).toInt := (pa_in I).1
  have z1 : (h_i h 1 32).toInt ≤ 160 := (pz_in I).2
  have l' : (h_i h 1 33).toInt < (h_i h 1 32).toInt := l
  have d0 : 0 ≤ (h_i h 1 35).toInt := (dp_in7 I).1
  have e33 : (h_i h 1 33 + 1).toInt = (h_i h 1 33).toInt + 1 := tx_add (by rw [t1]; omega) (by rw [t1]; omega)
  have e35 : (h_i h 1 35 + 1).toInt = (h_i h 1 35).toInt + 1 := tx_add (by rw [t1]; omega) (by rw [t1]; omega)
  refine t_X12_opens d h I.1 _ ⟨fun n => ?_, fun _ => ?_⟩
  · have d5 : (h_i h 1 35).toInt ≤ 5 := by
      rcases Int.lt_or_le (h_i h 1 35).toInt 6 with u | u
      · omega
      · exact absurd (Int32.toInt_inj.mp (by rw [t6]; omega)) n
    refine ⟨i33 (i35 I ⟨by show (0 : Int) ≤ _; omega, by show _ ≤ (7 : Int); omega⟩) ⟨by show (0 : Int) ≤ _; omega, by show _ ≤ (180 : Int); omega⟩, ((Fr.rf _ _).im (by decide +kernel)).im (by decide +kernel), Or.inl ⟨rfl, ?_, ?_, ?_, d5⟩⟩
    · rw [f_ne (by decide), f_ne (by decide)]
    · show (h_i (h_im _ 1 33 _) 1 33).toInt = _
      rw [im_at]; exact e33
    · rw [f_ne (by decide), im_at]; exact e35
  · exact Cv.mono (c_bad d I) (fun h2 k => ⟨k.1.1, k.1, k.2.1.more (by decide +kernel), Or.inr ⟨rfl, k.2.2, (k.2.1.2 1 33 (by decide +kernel)).1, (k.2.1.2 1 35 (by decide +kernel)).1⟩⟩)
/-- a bracket closed: one less deep; the place one further, wherever it was -/
theorem c_closes (d : Nat) {h : Hp_} (I : Iv h) (x : Int32) (l : (h_i h 1 34 = -1 → pa h ≤ pz h) ∧ pa h ≤ 179) (hx : ¬ x = -1) (dl : 1 ≤ (h_i h 1 35).toInt) : Cv (m_X12_closes (d + 1) 0 0) [.ref 1, .int x] h (fun h' => Iv h' ∧ Fr [1033, 1034, 1035] h h' ∧ (h_i h' 1 35).toInt = (h_i h 1 35).toInt - 1 ∧ pa h + 1 ≤ pa h' ∧ (¬ h_i h 1 34 = -1 → h_i h' 1 34 = h_i h 1 34 ∧ pa h' = pa h + 1) ∧ (h_i h 1 34 = -1 → pa h' ≤ pz h + 1 ∧ (h_i h' 1 34 = -1 → pa h' ≤ pz h))) := by
  have t1 : (1 : Int32).toInt = 1 := rfl
  have p0 : 0 ≤ (h_i h 1 33).toInt := (pa_in I).1
  have z1 : (h_i h 1 32).toInt ≤ 160 := (pz_in I).2
  have d7 : (h_i h 1 35).toInt ≤ 7 := (dp_in7 I).2
  have st : ∀ h2, Iv h2 → Fr [1033, 1034, 1035] h h2 → h_i h2 1 35 = h_i h 1 35 → 0 ≤ pa h2 → pa h2 ≤ 179 → Iv (h_im (h_im h2 1 33 ((h_i h2 1 33) + 1)) 1 35 ((h_i h2 1 35) - 1)) ∧ Fr [1033, 1034, 1035] h (h_im (h_im h2 1 33 ((h_i h2 1 33) + 1)) 1 35 ((h_i h2 1 35) - 1)) ∧ (h_i (h_im (h_im h2 1 33 ((h_i h2 1 33) + 1)) 1 35 ((h_i h2 1 35) - 1)) 1 35).toInt = (h_i h 1 35).toInt - 1 ∧ pa (h_im (h_im h2 1 33 ((h_i h2 1 33) + 1)) 1 35 ((h_i h2 1 35) - 1)) = pa h2 + 1 ∧ h_i (h_im (h_im h2 1 33 ((h_i h2 1 33) + 1)) 1 35 ((h_i h2 1 35) - 1)) 1 34 = h_i h2 1 34 := by
    intro h2 I2 F2 e5 a0 a1
    have a0' : 0 ≤ (h_i h2 1 33).toInt := a0
    have a1' : (h_i h2 1 33).toInt ≤ 179 := a1
    have e33 : (h_i h2 1 33 + 1).toInt = (h_i h2 1 33).toInt + 1 := tx_add (by rw [t1]; omega) (by rw [t1]; omega)
    have e35 : (h_i h2 1 35 - 1).toInt = (h_i h 1 35).toInt - 1 := by rw [e5, tx_sub (by rw [t1]; omega) (by rw [t1]; omega), t1]
    refine ⟨i35 (i33 I2 ⟨by show (0 : Int) ≤ _; omega, by show _ ≤ (180 : Int); omega⟩) ⟨by show (0 : Int) ≤ _; omega, by show _ ≤ (7 : Int); omega⟩, (F2.im (by decide +kernel)).im (by decide +kernel), by rw [im_at]; exact e35, ?_, by rw [f_ne (by decide), f_ne (by decide)]⟩
    show (h_i (h_im (h_im h2 1 33 _) 1 35 _) 1 33).toInt = _
    rw [f_ne (by decide), im_at]; exact e33
  refine t_X12_closes d h I.1 x _ ⟨fun n => ?_, fun e => ?_⟩
  · obtain ⟨s1, s2, s3, s4, s5⟩ := st h I (Fr.rf _ _) rfl p0 l.2
    exact ⟨s1, s2, s3, by omega, fun _ => ⟨s5, s4⟩, fun y => absurd y n⟩
  · have lw : (h_i h 1 33).toInt ≤ (h_i h 1 32).toInt := l.1 e
    refine Ci.mono (c_look d I) (fun r h2 L => ?_)
    obtain ⟨I2, F2, l1, l2, lr⟩ := L
    have F2' : Fr [1033, 1034, 1035] h h2 := F2.more (by decide +kernel)
    have e5 : h_i h2 1 35 = h_i h 1 35 := (F2.2 1 35 (by decide +kernel)).1
    have e4 : h_i h2 1 34 = h_i h 1 34 := (F2.2 1 34 (by decide +kernel)).1
    have l1' : (h_i h 1 33).toInt ≤ (h_i h2 1 33).toInt := l1
    have l2' : (h_i h2 1 33).toInt ≤ (h_i h 1 32).toInt := by
      rcases l2 with u | u
      · have u' : (h_i h2 1 33).toInt ≤ (h_i h 1 33).toInt := u
        omega
      · exact u
    refine ⟨I2.1, fun er => ?_, fun _ => ?_⟩
    · have at2 : (h_i h2 1 33).toInt < (h_i h 1 32).toInt := by
        rcases lr with u | u
        · exact absurd (er.symm.trans u.1) hx
        · exact u.1
      obtain ⟨s1, s2, s3, s4, s5⟩ := st h2 I2 F2' e5 (by show 0 ≤ (h_i h2 1 33).toInt; omega) (by show (h_i h2 1 33).toInt ≤ 179; omega)
      refine ⟨s1, s2, s3, ?_, fun y => absurd e y, fun _ => ⟨?_, fun _ => ?_⟩⟩
      · rw [s4]; show (h_i h 1 33).toInt + 1 ≤ (h_i h2 1 33).toInt + 1; omega
      · rw [s4]; show (h_i h2 1 33).toInt + 1 ≤ (h_i h 1 32).toInt + 1; omega
      · rw [s4]; show (h_i h2 1 33).toInt + 1 ≤ (h_i h 1 32).toInt; omega
    · refine Cv.mono (c_bad d I2) (fun h3 k => ?_)
      have f3 : h_i h3 1 33 = h_i h2 1 33 := (k.2.1.2 1 33 (by decide +kernel)).1
      have f5 : h_i h3 1 35 = h_i h 1 35 := (k.2.1.2 1 35 (by decide +kernel)).1.trans e5
      obtain ⟨s1, s2, s3, s4, s5⟩ := st h3 k.1 (F2'.tr (k.2.1.more (by decide +kernel))) f5 (by show 0 ≤ (h_i h3 1 33).toInt; rw [f3]; omega) (by show (h_i h3 1 33).toInt ≤ 179; rw [f3]; omega)
      refine ⟨k.1.1, s1, s2, s3, ?_, fun y => absurd e y, fun _ => ⟨?_, fun y => absurd (s5.symm.trans y) k.2.2⟩⟩
      · rw [s4]; show (h_i h 1 33).toInt + 1 ≤ (h_i h3 1 33).toInt + 1; rw [f3]; omega
      · rw [s4]; show (h_i h3 1 33).toInt + 1 ≤ (h_i h 1 32).toInt + 1; rw [f3]; omega
end
section
/-! codes of told sums: put together -/
theorem prun_cat {s : Nat} {cd : Nat → Int32} : ∀ {f i n j m g k l : Nat}, prun s cd f i n j m → prun s cd g j m k l → prun s cd (f + g) i n k l
  | 0, i, n, j, m, g, k, l, a, b => by
    obtain ⟨e1, e2⟩ := a
    subst e1 e2
    rw [Nat.zero_add]; exact b
  | f + 1, i, n, j, m, g, k, l, a, b => by
    obtain ⟨i', n', h1, h2⟩ := a
    rw [Nat.add_right_comm]
    exact ⟨i', n', h1, prun_cat h2 b⟩
/-- from i to j the codes raise the pile by one, by k at most between -/
noncomputable def PR (s : Nat) (cd : Nat → Int32) (i j k : Nat) : Prop := ∃ g, ∀ n, n + k ≤ 199 → prun s cd g i n j (n + 1)
theorem PR.num {s : Nat} {cd : Nat → Int32} {i : Nat} (h : cd i = 0) : PR s cd i (i + 2) 1 := ⟨1, fun n hn => ⟨i + 2, n + 1, by unfold pst; rw [if_pos h, if_pos (by omega)], rfl, rfl⟩⟩
theorem PR.let_ {s : Nat} {cd : Nat → Int32} {i : Nat} (h : cd i = 1) (o : okl s (cd (i + 1)) = true) : PR s cd i (i + 2) 1 := ⟨1, fun n hn => ⟨i + 2, n + 1, by unfold pst; rw [if_neg (by rw [h]; decide), if_pos h, if_pos ⟨by omega, o⟩], rfl, rfl⟩⟩
theorem PR.not_ {s : Nat} {cd : Nat → Int32} {i j k : Nat} (a : PR s cd i j k) (h : cd j = 33) : PR s cd i (j + 1) k := by
  obtain ⟨g, hg⟩ := a
  refine ⟨g + 1, fun n hn => prun_cat (hg n hn) ⟨j + 1, n + 1, ?_, rfl, rfl⟩⟩
  unfold pst
  rw [if_neg (by rw [h]; decide), if_neg (by rw [h]; decide), if_pos h, if_pos (by omega)]
noncomputable def opc (c : Int32) : Bool := !(decide (c = 0) || decide (c = 1) || decide (c = 33) || decide (c = 2) || decide (c = 3))
theorem PR.bin {s : Nat} {cd : Nat → Int32} {i j m k1 k2 K : Nat} (a : PR s cd i j k1) (b : PR s cd j m k2) (h : opc (cd m) = true) (l1 : k1 ≤ K) (l2 : k2 + 1 ≤ K) : PR s cd i (m + 1) K := by
  obtain ⟨g1, h1⟩ := a
  obtain ⟨g2, h2⟩ := b
  refine ⟨g1 + g2 + 1, fun n hn => prun_cat (prun_cat (h1 n (by omega)) (h2 (n + 1) (by omega))) ⟨m + 1, n + 1, ?_, rfl, rfl⟩⟩
  unfold opc at h
  rw [Bool.not_eq_true', Bool.or_eq_false_iff, Bool.or_eq_false_iff, Bool.or_eq_false_iff, Bool.or_eq_false_iff, decide_eq_false_iff_not, decide_eq_false_iff_not, decide_eq_false_iff_not, decide_eq_false_iff_not, decide_eq_false_iff_not] at h
  unfold pst
  rw [if_neg h.1.1.1.1, if_neg h.1.1.1.2, if_neg h.1.1.2, if_neg (fun z => z.elim h.1.2 h.2), if_pos (by omega)]
  rfl
theorem PR.more {s : Nat} {cd : Nat → Int32} {i j k K : Nat} (a : PR s cd i j k) (l : k ≤ K) : PR s cd i j K := by
  obtain ⟨g, hg⟩ := a
  exact ⟨g, fun n hn => hg n (by omega)⟩
theorem pst_sh {s : Nat} {cd cd' : Nat → Int32} {i n t : Nat} {q : Nat × Nat} (e0 : cd' (i + t) = cd i) (e1 : cd i = 1 → cd' (i + t + 1) = cd (i + 1)) (h : pst s cd i n = some q) : pst s cd' (i + t) n = some (q.1 + t, q.2) := by
  obtain ⟨i', n'⟩ := q
  rcases pst_0 h with ⟨c, q1, q2, q3⟩ | ⟨c, q1, qk, q2, q3⟩ | ⟨c, q1, q2, q3⟩ | ⟨c, q1, q2, q3⟩
  · subst q2 q3
    unfold pst
    rw [e0, if_pos c, if_pos q1, Nat.add_right_comm]
  · subst q2 q3
    unfold pst
    rw [e0, e1 c, if_neg (by rw [c]; decide), if_pos c, if_pos ⟨q1, qk⟩, Nat.add_right_comm]
  · subst q2 q3
    unfold pst
    rw [e0, if_neg (by rw [c]; decide), if_neg (by rw [c]; decide), if_pos c, if_pos q1, Nat.add_right_comm]
  · subst q2 q3
    unfold pst
    rw [e0, if_neg c.1, if_neg c.2.1, if_neg c.2.2.1, if_neg (fun z => z.elim c.2.2.2.1 c.2.2.2.2), if_pos q1, Nat.add_right_comm]
theorem pst_1 {s : Nat} {cd : Nat → Int32} {i n i' n' : Nat} (h : pst s cd i n = some (i', n')) (c : cd i = 1) : i' = i + 2 := by
  rcases pst_0 h with ⟨q, _⟩ | ⟨_, _, _, q2, _⟩ | ⟨q, _⟩ | ⟨q, _⟩
  · rw [c] at q; exact absurd q (by decide)
  · exact q2
  · rw [c] at q; exact absurd q (by decide)
  · exact absurd c q.2.1
theorem prun_sh {s : Nat} {cd cd' : Nat → Int32} {t : Nat} : ∀ {g i n j m : Nat}, (∀ x, i ≤ x → x < j → cd' (x + t) = cd x) → prun s cd g i n j m → prun s cd' g (i + t) n (j + t) m
  | 0, _, _, _, _, _, h => ⟨by rw [h.1], h.2⟩
  | g + 1, i, n, j, m, e, h => by
    obtain ⟨i', n', h1, h2⟩ := h
    have l1 := pst_le h1
    have l2 := prun_le h2
    refine ⟨i' + t, n', ?_, prun_sh (fun x a b => e x (by omega) b) h2⟩
    refine pst_sh (q := (i', n')) (e i (Nat.le_refl _) (by omega)) (fun c => ?_) h1
    have := pst_1 h1 c
    rw [show i + t + 1 = (i + 1) + t by omega]
    exact e (i + 1) (by omega) (by omega)
theorem PR.sh {s : Nat} {cd cd' : Nat → Int32} {t i j k : Nat} (e : ∀ x, i ≤ x → x < j → cd' (x + t) = cd x) (a : PR s cd i j k) : PR s cd' (i + t) (j + t) k := by
  obtain ⟨g, hg⟩ := a
  exact ⟨g, fun n hn => prun_sh e (hg n hn)⟩
theorem PR.same {s : Nat} {cd cd' : Nat → Int32} {i j k : Nat} (e : ∀ x, i ≤ x → x < j → cd' x = cd x) (a : PR s cd i j k) : PR s cd' i j k := PR.sh (t := 0) e a
theorem PR.ex {s : Nat} {cd : Nat → Int32} {i j k : Nat} (a : PR s cd i j k) (l : k ≤ 199) : ∃ g, prun s cd g i 0 j 1 := by
  obtain ⟨g, hg⟩ := a
  exact ⟨g, hg 0 (by omega)⟩
end
