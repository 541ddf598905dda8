/-! the reference's texts at work: long min and max, both, work, tell -/
theorem mw_minL : Cond.code Lib.MathLoose.min_long.x Lib.MathLoose.min_long.code 4 (some .long) ∈ lw_g := tw_2442
theorem mw_maxL : Cond.code Lib.MathLoose.max_long.x Lib.MathLoose.max_long.code 4 (some .long) ∈ lw_g := tw_2445
theorem aw_lmin {M : Mc_} {kc ks pc : Nat} {lv : List (Nat × Value)} {rest : List Value} {h : Hp_} {K : Option Value → Hp_ → Prop} {idx : Nat} {x y : Int64} (hd : decode (mC M) pc = .ok (.invokestatic idx, 3)) (hlk : Cond.methodLink (mY M).cls idx Lib.MathLoose.min_long.x ∈ lw_g) (hfr : 1 ≤ (mR M).frames) (hlo : (rest.map (fun v => v.category)).sum + 15 ≤ (mR M).locals) (hk : kc ≤ (mR M).cells ∧ ks ≤ (mR M).slots) (k : AW M kc ks (pc + 3) lv (.long (if y < x then y else x) :: rest) h K) : AW M kc ks pc lv (.long y :: .long x :: rest) h K := by
  intro l p e s m args below meth c dC dI cy A ad0 adV ad dom0 dom H locs ls hf hX hT hE hW hS hl ho hs
  exact va_mmin_long hf.1 hf.2.1 (hf.2.2.1.trans hl.1.symm) hf.2.2.2.2.2.1 (hf.2.2.2.2.2.2.2.1 _ hlk) (hf.2.2.2.2.2.2.2.1 _ tw_2441) (hf.2.2.2.2.2.2.2.1 _ tw_14) (hf.2.2.2.2.2.2.2.1 _ mw_minL) hfr (by rw [cat_cv]; exact hlo) hk.1 hk.2 hd (k l p e s m args below meth c dC dI cy A ad0 adV ad dom0 dom H locs ls hf hX hT hE hW hS hl ho (ok_c ok_l (ok_t (ok_t hs))))
theorem aw_lmax {M : Mc_} {kc ks pc : Nat} {lv : List (Nat × Value)} {rest : List Value} {h : Hp_} {K : Option Value → Hp_ → Prop} {idx : Nat} {x y : Int64} (hd : decode (mC M) pc = .ok (.invokestatic idx, 3)) (hlk : Cond.methodLink (mY M).cls idx Lib.MathLoose.max_long.x ∈ lw_g) (hfr : 1 ≤ (mR M).frames) (hlo : (rest.map (fun v => v.category)).sum + 15 ≤ (mR M).locals) (hk : kc ≤ (mR M).cells ∧ ks ≤ (mR M).slots) (k : AW M kc ks (pc + 3) lv (.long (if y < x then x else y) :: rest) h K) : AW M kc ks pc lv (.long y :: .long x :: rest) h K := by
  intro l p e s m args below meth c dC dI cy A ad0 adV ad dom0 dom H locs ls hf hX hT hE hW hS hl ho hs
  exact va_mmax_long hf.1 hf.2.1 (hf.2.2.1.trans hl.1.symm) hf.2.2.2.2.2.1 (hf.2.2.2.2.2.2.2.1 _ hlk) (hf.2.2.2.2.2.2.2.1 _ tw_2444) (hf.2.2.2.2.2.2.2.1 _ tw_14) (hf.2.2.2.2.2.2.2.1 _ mw_maxL) hfr (by rw [cat_cv]; exact hlo) hk.1 hk.2 hd (k l p e s m args below meth c dC dI cy A ad0 adV ad dom0 dom H locs ls hf hX hT hE hW hS hl ho (ok_c ok_l (ok_t (ok_t hs))))
def bndv (v : Int64) : Int32 := (if (if v < (1000000 : Int64) then v else (1000000 : Int64)) < (-1000000 : Int64) then (-1000000 : Int64) else (if v < (1000000 : Int64) then v else (1000000 : Int64))).toInt32
theorem c_bounded (d : Nat) (h : Hp_) (v : Int64) : Ci (m_X12_bounded (d + 1) 0 0) [.long v] h (fun r h' => r = bndv v ∧ h' = h) := by
  refine Ct.of (fun _ _ _ => trivial) rfl (Nat.le_of_ble_eq_true rfl) ?_
  show AW (m_X12_bounded (d + 1) 0 0) 0 0 0 [(0, .long v)] [] h (kI _)
  refine aw_ldc2 (v := (-1000000)) d_X12_bounded_0 tw_2438 ?_
  refine aw_ldc2 (v := 1000000) d_X12_bounded_3 tw_2439 ?_
  refine aw_lload_n (i := 0) rfl d_X12_bounded_6 0 rfl ?_
  refine aw_lmin d_X12_bounded_7 tw_2440 (show 1 ≤ d + 1 by omega) (Nat.le_trans (Nat.le_of_ble_eq_true rfl) (show 100 ≤ 100 * (d + 1) by omega)) ⟨Nat.le_refl _, Nat.le_refl _⟩ ?_
  refine aw_lmax d_X12_bounded_10 tw_2443 (show 1 ≤ d + 1 by omega) (Nat.le_trans (Nat.le_of_ble_eq_true rfl) (show 100 ≤ 100 * (d + 1) by omega)) ⟨Nat.le_refl _, Nat.le_refl _⟩ ?_
  refine aw_l2i d_X12_bounded_13 ?_
  exact aw_iret rfl d_X12_bounded_14 ⟨Nat.le_refl _, Nat.le_refl _⟩ ⟨_, rfl, rfl, rfl⟩
/-- what a sign makes of two numbers -/
def bothv (c a b : Int32) : Int32 :=
  if c = 38 then (if a = 0 then 0 else if b = 0 then 0 else 1)
  else if c = 42 then bndv (a.toInt64 * b.toInt64)
  else if c = 43 then bndv (a.toInt64 + b.toInt64)
  else if c = 45 then bndv (a.toInt64 - b.toInt64)
  else if c = 60 then (if b ≤ a then 0 else 1)
  else if c = 61 then (if a = b then 1 else 0)
  else if c = 62 then (if a ≤ b then 0 else 1)
  else (if a = 0 then (if b = 0 then 0 else 1) else 1)
theorem c_both (d : Nat) (h : Hp_) (w : Wf h) (c a b : Int32) : Ci (m_X12_both (d + 2) 0 0) [.int c, .int a, .int b] h (fun r h' => r = bothv c a b ∧ h' = h) := by
  have bd : ∀ v, Ci (m_X12_bounded (d + 1) 0 0) [.long v] h (fun r h' => Wf h' ∧ r = bndv v ∧ h' = h) := fun v => Ci.mono (c_bounded d h v) (fun r h' e => ⟨by rw [e.2]; exact w, e⟩)
  refine t_X12_both d h c a b _ ⟨fun e => ⟨fun y => ⟨?_, rfl⟩, fun y => ⟨fun z => ⟨?_, rfl⟩, fun z => ⟨?_, rfl⟩⟩⟩, fun e => ?_, fun e => ?_, fun e => ?_, fun e => ⟨fun y => ⟨?_, rfl⟩, fun y => ⟨?_, rfl⟩⟩, fun e => ⟨fun y => ⟨?_, rfl⟩, fun y => ⟨?_, rfl⟩⟩, fun e => ⟨fun y => ⟨?_, rfl⟩, fun y => ⟨?_, rfl⟩⟩, fun e => ⟨fun y => ⟨?_, rfl⟩, fun y => ⟨fun z => ⟨?_, rfl⟩, fun z => ⟨?_, rfl⟩⟩⟩⟩
  · unfold bothv; rw [if_pos e, if_pos y]
  · unfold bothv; rw [if_pos e, if_neg y, if_pos z]
  · unfold bothv; rw [if_pos e, if_neg y, if_neg z]
  · subst e; exact Ci.mono (bd _) (fun r h' q => ⟨q.1, by unfold bothv; rw [if_neg (by decide), if_pos rfl]; exact q.2⟩)
  · subst e; exact Ci.mono (bd _) (fun r h' q => ⟨q.1, by unfold bothv; rw [if_neg (by decide), if_neg (by decide), if_pos rfl]; exact q.2⟩)
  · subst e; exact Ci.mono (bd _) (fun r h' q => ⟨q.1, by unfold bothv; rw [if_neg (by decide), if_neg (by decide), if_neg (by decide), if_pos rfl]; exact q.2⟩)
  · subst e; unfold bothv; rw [if_neg (by decide), if_neg (by decide), if_neg (by decide), if_neg (by decide), if_pos rfl, if_pos y]
  · subst e; unfold bothv; rw [if_neg (by decide), if_neg (by decide), if_neg (by decide), if_neg (by decide), if_pos rfl, if_neg y]
  · subst e; unfold bothv; rw [if_neg (by decide), if_neg (by decide), if_neg (by decide), if_neg (by decide), if_neg (by decide), if_pos rfl, if_neg y]
  · subst e; unfold bothv; rw [if_neg (by decide), if_neg (by decide), if_neg (by decide), if_neg (by decide), if_neg (by decide), if_pos rfl, if_pos y]
  · subst e; unfold bothv; rw [if_neg (by decide), if_neg (by decide), if_neg (by decide), if_neg (by decide), if_neg (by decide), if_neg (by decide), if_pos rfl, if_pos y]
  · subst e; unfold bothv; rw [if_neg (by decide), if_neg (by decide), if_neg (by decide), if_neg (by decide), if_neg (by decide), if_neg (by decide), if_pos rfl, if_neg y]
  · unfold bothv; rw [if_neg e.1, if_neg e.2.1, if_neg e.2.2.1, if_neg e.2.2.2.1, if_neg e.2.2.2.2.1, if_neg e.2.2.2.2.2.1, if_neg e.2.2.2.2.2.2, if_neg y]
  · unfold bothv; rw [if_neg e.1, if_neg e.2.1, if_neg e.2.2.1, if_neg e.2.2.2.1, if_neg e.2.2.2.2.1, if_neg e.2.2.2.2.2.1, if_neg e.2.2.2.2.2.2, if_pos y, if_pos z]
  · unfold bothv; rw [if_neg e.1, if_neg e.2.1, if_neg e.2.2.1, if_neg e.2.2.2.1, if_neg e.2.2.2.2.1, if_neg e.2.2.2.2.2.1, if_neg e.2.2.2.2.2.2, if_pos y, if_neg z]
/-- a told sum or condition, worked out: g codes from place i on, the pile p, n high -/
def upp (p : Nat → Int32) (n : Nat) (v : Int32) : Nat → Int32 := fun k => if k = n then v else p k
def wev (cd lt : Nat → Int32) : Nat → Nat → Nat → (Nat → Int32) → Int32
  | 0, _, _, p => p 0
  | g + 1, i, n, p =>
    if cd i = 0 then wev cd lt g (i + 2) (n + 1) (upp p n (cd (i + 1)))
    else if cd i = 1 then wev cd lt g (i + 2) (n + 1) (upp p n (lt (cd (i + 1)).toNatClampNeg))
    else if cd i = 33 then wev cd lt g (i + 1) n (upp p (n - 1) (if p (n - 1) = 0 then 1 else 0))
    else wev cd lt g (i + 1) (n - 1) (upp p (n - 2) (bothv (cd i) (p (n - 2)) (p (n - 1))))
theorem pst_le {s : Nat} {cd : Nat → Int32} {i n i' n' : Nat} (h : pst s cd i n = some (i', n')) : i < i' ∧ i' ≤ i + 2 := by
  unfold pst at h
  split at h
  · split at h
    · cases h; omega
    · cases h
  · split at h
    · split at h
      · cases h; omega
      · cases h
    · split at h
      · split at h
        · cases h; omega
        · cases h
      · split at h
        · cases h
        · split at h
          · cases h; omega
          · cases h
theorem prun_le {s : Nat} {cd : Nat → Int32} : ∀ {g i n j m : Nat}, prun s cd g i n j m → i + g ≤ j
  | 0, _, _, _, _, h => by have := h.1; omega
  | g + 1, i, n, j, m, h => by
    obtain ⟨i', n', h1, h2⟩ := h
    have := pst_le h1
    have := prun_le h2
    omega
theorem okl_rg {s : Nat} {c : Int32} (h : okl s c = true) : rin c.toInt (0, 127) := by
  unfold okl at h
  obtain ⟨x, hx, e⟩ := List.any_eq_true.mp h
  have e := of_decide_eq_true e
  subst e
  have a1 : ([99, 116, 107, 119, 112, 104, 100, 110, 101] : List Int32).all (fun x => decide (0 ≤ x.toInt ∧ x.toInt ≤ 127)) = true := by decide
  have a2 : ([99, 116, 121, 109, 120, 97] : List Int32).all (fun x => decide (0 ≤ x.toInt ∧ x.toInt ≤ 127)) = true := by decide
  cases z : Nat.beq s 1 with
  | true =>
    rw [z] at hx
    have z2 : 0 ≤ x.toInt ∧ x.toInt ≤ 127 := of_decide_eq_true (List.all_eq_true.mp a1 x hx)
    exact z2
  | false =>
    rw [z] at hx
    have z2 : 0 ≤ x.toInt ∧ x.toInt ≤ 127 := of_decide_eq_true (List.all_eq_true.mp a2 x hx)
    exact z2
theorem on_j {n : Nat} (h : n ≤ 1000000) : (Int32.ofNat n).toInt = (n : Int) := Int32.toInt_ofNat_of_lt (by omega)
theorem on_k {n : Nat} (h : n ≤ 1000000) : (Int32.ofNat n).toNatClampNeg = n := by
  show (Int32.ofNat n).toInt.toNat = n
  rw [on_j h]; rfl
theorem on_s {n : Nat} (h : n < 1000000) : Int32.ofNat n + 1 = Int32.ofNat (n + 1) := by
  refine Int32.toInt_inj.mp ?_
  have t1 : (1 : Int32).toInt = 1 := rfl
  rw [tx_add (by rw [t1, on_j (by omega)]; omega) (by rw [t1, on_j (by omega)]; omega), on_j (by omega), on_j (by omega), t1]
  omega
theorem on_p {n : Nat} (h : n < 1000000) : Int32.ofNat (n + 1) - 1 = Int32.ofNat n := by
  refine Int32.toInt_inj.mp ?_
  have t1 : (1 : Int32).toInt = 1 := rfl
  rw [tx_sub (by rw [t1, on_j (by omega)]; omega) (by rw [t1, on_j (by omega)]; omega), on_j (by omega), on_j (by omega), t1]
  omega
theorem on_m {n : Nat} (h : n < 1000000) : Int32.ofNat (n + 1) + (-1) = Int32.ofNat n := by
  refine Int32.toInt_inj.mp ?_
  have t1 : (-1 : Int32).toInt = -1 := rfl
  rw [tx_add (by rw [t1, on_j (by omega)]; omega) (by rw [t1, on_j (by omega)]; omega), on_j (by omega), on_j (by omega), t1]
  omega
theorem on_in {n N : Nat} (h : n < N) (hN : N ≤ 1000000) : vp_in (Int32.ofNat n) N := dp_in (lo := 0) (hi := (N : Int) - 1) ⟨by rw [on_j (by omega)]; show (0 : Int) ≤ _; omega, by rw [on_j (by omega)]; show _ ≤ (N : Int) - 1; omega⟩ (by omega) (by omega)
def wzw : List Nat := [1052, 237999]
theorem t237 : tfa 237 = some rtop := by decide +kernel
/-- what stands while a text is worked -/
def Ws (h0 : Hp_) (cd lt : Nat → Int32) (i : Nat) (h : Hp_) : Prop := Iv h ∧ Fr wzw h0 h ∧ h_i h 231 = cd ∧ h_i h 236 = lt ∧ h_i h 1 52 = Int32.ofNat i
theorem Ws.rd {h0 h : Hp_} {cd lt : Nat → Int32} {i : Nat} (W : Ws h0 cd lt i h) (i' : Nat) : Ws h0 cd lt i' (h_im h 1 52 (Int32.ofNat i')) :=
  ⟨W.1.im (by rw [show tf 1 52 = rtop by decide +kernel]; exact rtop_in _) (by decide), W.2.1.im (by decide +kernel), by rw [← W.2.2.1]; exact funext (fun k => by rw [h_i_im, if_neg (fun z => absurd z.1 (by decide))]), by rw [← W.2.2.2.1]; exact funext (fun k => by rw [h_i_im, if_neg (fun z => absurd z.1 (by decide))]), by rw [h_i_im, if_pos ⟨rfl, rfl⟩]⟩
theorem Ws.pl {h0 h : Hp_} {cd lt : Nat → Int32} {i : Nat} (W : Ws h0 cd lt i h) (k : Nat) (v : Int32) : Ws h0 cd lt i (h_im h 237 k v) :=
  ⟨W.1.im (by rw [tfa_tf t237]; exact rtop_in _) (jw_jr (by decide) (by decide) _), W.2.1.im (inw_row (by decide +kernel) _), by rw [← W.2.2.1]; exact funext (fun j => by rw [h_i_im, if_neg (fun z => absurd z.1 (by decide))]), by rw [← W.2.2.2.1]; exact funext (fun j => by rw [h_i_im, if_neg (fun z => absurd z.1 (by decide))]), by rw [h_i_im, if_neg (fun z => absurd z.1 (by decide))]; exact W.2.2.2.2⟩
theorem pl_is (h : Hp_) (k : Nat) (v : Int32) : h_i (h_im h 237 k v) 237 = upp (h_i h 237) k v := funext (fun j => by
  rw [h_i_im]
  unfold upp
  by_cases e : j = k
  · rw [if_pos ⟨rfl, e⟩, if_pos e]
  · rw [if_neg (fun z => e z.2), if_neg e])
theorem pl_rd (h : Hp_) (v : Int32) : h_i (h_im h 1 52 v) 237 = h_i h 237 := funext (fun j => by rw [h_i_im, if_neg (fun z => absurd z.1 (by decide))])
