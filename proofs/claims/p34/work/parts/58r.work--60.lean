section
/-! the reference's texts at work: long min and max, both, work, tell -/
theorem mw_minL : Cond.code Lib.MathLoose.min_long.x Lib.MathLoose.min_long.code 4 (some .long) ∈ lw_g := tw_2442
theorem mw_maxL : Cond.code Lib.MathLoose.max_long.x Lib.MathLoose.max_long.code 4 (some .long) ∈ lw_g := tw_2445
theorem aw_lmin {M : Mc_} {kc ks pc : Nat} {lv : List (Nat × Value)} {rest : List Value} {h : Hp_} {K : Option Value → Hp_ → Prop} {idx : Nat} {x y : Int64} (hd : decode (mC M) pc = .ok (.invokestatic idx, 3)) (hlk : Cond.methodLink (mY M).cls idx Lib.MathLoose.min_long.x ∈ lw_g) (hfr : 1 ≤ (mR M).frames) (hlo : (rest.map (fun v => v.category)).sum + 15 ≤ (mR M).locals) (hk : kc ≤ (mR M).cells ∧ ks ≤ (mR M).slots) (k : AW M kc ks (pc + 3) lv (.long (if y < x then y else x) :: rest) h K) : AW M kc ks pc lv (.long y :: .long x :: rest) h K := by
  intro l p e s m args below meth c dC dI cy A ad0 adV ad dom0 dom H locs ls hf hX hT hE hW hS hl ho hs
  exact va_mmin_long hf.1 hf.2.1 (hf.2.2.1.trans hl.1.symm) hf.2.2.2.2.2.1 (hf.2.2.2.2.2.2.2.1 _ hlk) (hf.2.2.2.2.2.2.2.1 _ tw_2441) (hf.2.2.2.2.2.2.2.1 _ tw_14) (hf.2.2.2.2.2.2.2.1 _ mw_minL) hfr (by rw [cat_cv]; exact hlo) hk.1 hk.2 hd (k l p e s m args below meth c dC dI cy A ad0 adV ad dom0 dom H locs ls hf hX hT hE hW hS hl ho (ok_c ok_l (ok_t (ok_t hs))))
theorem aw_lmax {M : Mc_} {kc ks pc : Nat} {lv : List (Nat × Value)} {rest : List Value} {h : Hp_} {K : Option Value → Hp_ → Prop} {idx : Nat} {x y : Int64} (hd : decode (mC M) pc = .ok (.invokestatic idx, 3)) (hlk : Cond.methodLink (mY M).cls idx Lib.MathLoose.max_long.x ∈ lw_g) (hfr : 1 ≤ (mR M).frames) (hlo : (rest.map (fun v => v.category)).sum + 15 ≤ (mR M).locals) (hk : kc ≤ (mR M).cells ∧ ks ≤ (mR M).slots) (k : AW M kc ks (pc + 3) lv (.long (if y < x then x else y) :: rest) h K) : AW M kc ks pc lv (.long y :: .long x :: rest) h K := by
  intro l p e s m args below meth c dC dI cy A ad0 adV ad dom0 dom H locs ls hf hX hT hE hW hS hl ho hs
  exact va_mmax_long hf.1 hf.2.1 (hf.2.2.1.trans hl.1.symm) hf.2.2.2.2.2.1 (hf.2.2.2.2.2.2.2.1 _ hlk) (hf.2.2.2.2.2.2.2.1 _ tw_2444) (hf.2.2.2.2.2.2.2.1 _ tw_14) (hf.2.2.2.2.2.2.2.1 _ mw_maxL) hfr (by rw [cat_cv]; exact hlo) hk.1 hk.2 hd (k l p e s m args below meth c dC dI cy A ad0 adV ad dom0 dom H locs ls hf hX hT hE hW hS hl ho (ok_c ok_l (ok_t (ok_t hs))))
noncomputable def bndv (v : Int64) : Int32 := (if (if v < (1000000 : Int64) then v else (1000000 : Int64)) < (-1000000 : Int64) then (-1000000 : Int64) else (if v < (1000000 : Int64) then v else (1000000 : Int64))).toInt32
theorem c_bounded (d : Nat) (h : Hp_) (v : Int64) : Ci (m_X12_bounded (d + 1) 0 0) [.long v] h (fun r h' => r = bndv v ∧ h' = h) := by
  refine Ct.of (fun _ _ _ => trivial) rfl (Nat.le_of_ble_eq_true rfl) ?_
  show AW (m_X12_bounded (d + 1) 0 0) 0 0 0 [(0, .long v)] [] h (kI _)
  refine aw_ldc2 (v := (-1000000)) d_X12_bounded_0 tw_2438 ?_
  refine aw_ldc2 (v := 1000000) d_X12_bounded_3 tw_2439 ?_
  refine aw_lload_n (i := 0) rfl d_X12_bounded_6 0 rfl ?_
  refine aw_lmin d_X12_bounded_7 tw_2440 (show 1 ≤ d + 1 by omega) (Nat.le_trans (Nat.le_of_ble_eq_true rfl) (show 100 ≤ 100 * (d + 1) by omega)) ⟨Nat.le_refl _, Nat.le_refl _⟩ ?_
  refine aw_lmax d_X12_bounded_10 tw_2443 (show 1 ≤ d + 1 by omega) (Nat.le_trans (Nat.le_of_ble_eq_true rfl) (show 100 ≤ 100 * (d + 1) by omega)) ⟨Nat.le_refl _, Nat.le_refl _⟩ ?_
  refine aw_l2i d_X12_bounded_13 ?_
  exact aw_iret rfl d_X12_bounded_14 ⟨Nat.le_refl _, Nat.le_refl _⟩ ⟨_, rfl, rfl, rfl⟩
/-- what a sign makes of two numbers -/
noncomputable def bothv (c a b : Int32) : Int32 :=
  if c = 38 then (if a = 0 then 0 else if b = 0 then 0 else 1)
  else if c = 42 then bndv (a.toInt64 * b.toInt64)
  else if c = 43 then bndv (a.toInt64 + b.toInt64)
  else if c = 45 then bndv (a.toInt64 - b.toInt64)
  else if c = 60 then (if b ≤ a then 0 else 1)
  else if c = 61 then (if a = b then 1 else 0)
  else if c = 62 then (if a ≤ b then 0 else 1)
  else (if a = 0 then (if b = 0 then 0 else 1) else 1)
theorem c_both (d : Nat) (h : Hp_) (w : Wf h) (c a b : Int32) : Ci (m_X12_both (d + 2) 0 0) [.int c, .int a, .int b] h (fun r h' => r = bothv c a b ∧ h' = h) := by
  have bd : ∀ v, Ci (m_X12_bounded (d + 1) 0 0) [.long v] h (fun r h' => Wf h' ∧ r = bndv v ∧ h' = h) := fun v => Ci.mono (c_bounded d h v) (fun r h' e => ⟨by rw [e.2]; exact w, e⟩)
  refine t_X12_both d h c a b _ ⟨fun e => ⟨fun y => ⟨?_, rfl⟩, fun y => ⟨fun z => ⟨?_, rfl⟩, fun z => ⟨?_, rfl⟩⟩⟩, fun e => ?_, fun e => ?_, fun e => ?_, fun e => ⟨fun y => ⟨?_, rfl⟩, fun y => ⟨?_, rfl⟩⟩, fun e => ⟨fun y => ⟨?_, rfl⟩, fun y => ⟨?_, rfl⟩⟩, fun e => ⟨fun y => ⟨?_, rfl⟩, fun y => ⟨?_, rfl⟩⟩, fun e => ⟨fun y => ⟨?_, rfl⟩, fun y => ⟨fun z => ⟨?_, rfl⟩, fun z => ⟨?_, rfl⟩⟩⟩⟩
  · unfold bothv; rw [if_pos e, if_pos y]
  · unfold bothv; rw [if_pos e, if_neg y, if_pos z]
  · unfold bothv; rw [if_pos e, if_neg y, if_neg z]
  · subst e; exact Ci.mono (bd _) (fun r h' q => ⟨q.1, by unfold bothv; rw [if_neg (by decide), if_pos rfl]; exact q.2⟩)
  · subst e; exact Ci.mono (bd _) (fun r h' q => ⟨q.1, by unfold bothv; rw [if_neg (by decide), if_neg (by decide), if_pos rfl]; exact q.2⟩)
  · subst e; exact Ci.mono (bd _) (fun r h' q => ⟨q.1, by unfold bothv; rw [if_neg (by decide), if_neg (by decide), if_neg (by decide), if_pos rfl]; exact q.2⟩)
  · subst e; unfold bothv; rw [if_neg (by decide), if_neg (by decide), if_neg (by decide), if_neg (by decide), if_pos rfl, if_pos y]
  · subst e; unfold bothv; rw [if_neg (by decide), if_neg (by decide), if_neg (by decide), if_neg (by decide), if_pos rfl, if_neg y]
  · subst e; unfold bothv; rw [if_neg (by decide), if_neg (by decide), if_neg (by decide), if_neg (by decide), if_neg (by decide), if_pos rfl, if_neg y]
  · subst e; unfold bothv; rw [if_neg (by decide), if_neg (by decide), if_neg (by decide), if_neg (by decide), if_neg (by decide), if_pos rfl, if_pos y]
  · subst e; unfold bothv; rw [if_neg (by decide), if_neg (by decide), if_neg (by decide), if_neg (by decide), if_neg (by decide), if_neg (by decide), if_pos rfl, if_pos y]
  · subst e; unfold bothv; rw [if_neg (by decide), if_neg (by decide), if_neg (by decide), if_neg (by decide), if_neg (by decide), if_neg (by decide), if_pos rfl, if_neg y]
  · unfold bothv; rw [if_neg e.1, if_neg e.2.1, if_neg e.2.2.1, if_neg e.2.2.2.1, if_neg e.2.2.2.2.1, if_neg e.2.2.2.2.2.1, if_neg e.2.2.2.2.2.2, if_neg y]
  · unfold bothv; rw [if_neg e.1, if_neg e.2.1, if_neg e.2.2.1, if_neg e.2.2.2.1, if_neg e.2.2.2.2.1, if_neg e.2.2.2.2.2.1, if_neg e.2.2.2.2.2.2, if_pos y, if_pos z]
  · unfold bothv; rw [if_neg e.1, if_neg e.2.1, if_neg e.2.2.1, if_neg e.2.2.2.1, if_neg e.2.2.2.2.1, if_neg e.2.2.2.2.2.1, if_neg e.2.2.2.2.2.2, if_pos y, if_neg z]
/-- a told sum or condition, worked out: g codes from place i on, the pile p, n high -/
noncomputable def upp (p : Nat → Int32) (n : Nat) (v : Int32) : Nat → Int32 := fun k => if k = n then v else p k
noncomputable def wev (cd lt : Nat → Int32) : Nat → Nat → Nat → (Nat → Int32) → Int32
  | 0, _, _, p => p 0
  | g + 1, i, n, p =>
    if cd i = 0 then wev cd lt g (i + 2) (n + 1) (upp p n (cd (i + 1)))
    else if cd i = 1 then wev cd lt g (i + 2) (n + 1) (upp p n (lt (cd (i + 1)).toNatClampNeg))
    else if cd i = 33 then wev cd lt g (i + 1) n (upp p (n - 1) (if p (n - 1) = 0 then 1 else 0))
    else wev cd lt g (i + 1) (n - 1) (upp p (n - 2) (bothv (cd i) (p (n - 2)) (p (n - 1))))
theorem pst_le {s : Nat} {cd : Nat → Int32} {i n i' n' : Nat} (h : pst s cd i n = some (i', n')) : i < i' ∧ i' ≤ i + 2 := by
  unfold pst at h
  split at h
  · split at h
    · cases h; omega
    · cases h
  · split at h
    · split at h
      · cases h; omega
      · cases h
    · split at h
      · split at h
        · cases h; omega
        · cases h
      · split at h
        · cases h
        · split at h
          · cases h; omega
          · cases h
theorem prun_le {s : Nat} {cd : Nat → Int32} : ∀ {g i n j m : Nat}, prun s cd g i n j m → i + g ≤ j
  | 0, _, _, _, _, h => by have := h.1; omega
  | g + 1, i, n, j, m, h => by
    obtain ⟨i', n', h1, h2⟩ := h
    have := pst_le h1
    have := prun_le h2
    omega
theorem okl_rg {s : Nat} {c : Int32} (h : okl s c = true) : rin c.toInt (0, 127) := by
  unfold okl at h
  obtain ⟨x, hx, e⟩ := List.any_eq_true.mp h
  have e := of_decide_eq_true e
  subst e
  have a1 : ([99, 116, 107, 119, 112, 104, 100, 110, 101] : List Int32).all (fun x => decide (0 ≤ x.toInt ∧ x.toInt ≤ 127)) = true := by decide
  have a2 : ([99, 116, 121, 109, 120, 97] : List Int32).all (fun x => decide (0 ≤ x.toInt ∧ x.toInt ≤ 127)) = true := by decide
  cases z : Nat.beq s 1 with
  | true =>
    rw [z] at hx
    have z2 : 0 ≤ x.toInt ∧ x.toInt ≤ 127 := of_decide_eq_true (List.all_eq_true.mp a1 x hx)
    exact z2
  | false =>
    rw [z] at hx
    have z2 : 0 ≤ x.toInt ∧ x.toInt ≤ 127 := of_decide_eq_true (List.all_eq_true.mp a2 x hx)
    exact z2
theorem on_j {n : Nat} (h : n ≤ 1000000) : (Int32.ofNat n).toInt = (n : Int) := Int32.toInt_ofNat_of_lt (by omega)
theorem on_k {n : Nat} (h : n ≤ 1000000) : (Int32.ofNat n).toNatClampNeg = n := by
  show (Int32.ofNat n).toInt.toNat = n
  rw [on_j h]; rfl
theorem on_s {n : Nat} (h : n < 1000000) : Int32.ofNat n + 1 = Int32.ofNat (n + 1) := by
  refine Int32.toInt_inj.mp ?_
  have t1 : (1 : Int32).toInt = 1 := rfl
  rw [tx_add (by rw [t1, on_j (by omega)]; omega) (by rw [t1, on_j (by omega)]; omega), on_j (by omega), on_j (by omega), t1]
  omega
theorem on_p {n : Nat} (h : n < 1000000) : Int32.ofNat (n + 1) - 1 = Int32.ofNat n := by
  refine Int32.toInt_inj.mp ?_
  have t1 : (1 : Int32).toInt = 1 := rfl
  rw [tx_sub (by rw [t1, on_j (by omega)]; omega) (by rw [t1, on_j (by omega)]; omega), on_j (by omega), on_j (by omega), t1]
  omega
theorem on_m {n : Nat} (h : n < 1000000) : Int32.ofNat (n + 1) + (-1) = Int32.ofNat n := by
  refine Int32.toInt_inj.mp ?_
  have t1 : (-1 : Int32).toInt = -1 := rfl
  rw [tx_add (by rw [t1, on_j (by omega)]; omega) (by rw [t1, on_j (by omega)]; omega), on_j (by omega), on_j (by omega), t1]
  omega
theorem on_in {n N : Nat} (h : n < N) (hN : N ≤ 1000000) : vp_in (Int32.ofNat n) N := dp_in (lo := 0) (hi := (N : Int) - 1) ⟨by rw [on_j (by omega)]; show (0 : Int) ≤ _; omega, by rw [on_j (by omega)]; show _ ≤ (N : Int) - 1; omega⟩ (by omega) (by omega)
noncomputable def wzw : List Nat := [1052, 237999]
theorem t237 : tfa 237 = some rtop := by decide +kernel
/-- what stands while a text is worked -/
noncomputable def Ws (h0 : Hp_) (cd lt : Nat → Int32) (i : Nat) (h : Hp_) : Prop := Iv h ∧ Fr wzw h0 h ∧ h_i h 231 = cd ∧ h_i h 236 = lt ∧ h_i h 1 52 = Int32.ofNat i
theorem Ws.rd {h0 h : Hp_} {cd lt : Nat → Int32} {i : Nat} (W : Ws h0 cd lt i h) (i' : Nat) : Ws h0 cd lt i' (h_im h 1 52 (Int32.ofNat i')) :=
  ⟨W.1.im (by rw [show tf 1 52 = rtop by decide +kernel]; exact rtop_in _) (by decide), W.2.1.im (by decide +kernel), by rw [← W.2.2.1]; exact funext (fun k => by rw [h_i_im, if_neg (fun z => absurd z.1 (by decide))]), by rw [← W.2.2.2.1]; exact funext (fun k => by rw [h_i_im, if_neg (fun z => absurd z.1 (by decide))]), by rw [h_i_im, if_pos ⟨rfl, rfl⟩]⟩
theorem Ws.pl {h0 h : Hp_} {cd lt : Nat → Int32} {i : Nat} (W : Ws h0 cd lt i h) (k : Nat) (v : Int32) : Ws h0 cd lt i (h_im h 237 k v) :=
  ⟨W.1.im (by rw [tfa_tf t237]; exact rtop_in _) (jw_jr (by decide) (by decide) _), W.2.1.im (inw_row (by decide +kernel) _), by rw [← W.2.2.1]; exact funext (fun j => by rw [h_i_im, if_neg (fun z => absurd z.1 (by decide))]), by rw [← W.2.2.2.1]; exact funext (fun j => by rw [h_i_im, if_neg (fun z => absurd z.1 (by decide))]), by rw [h_i_im, if_neg (fun z => absurd z.1 (by decide))]; exact W.2.2.2.2⟩
theorem pl_is (h : Hp_) (k : Nat) (v : Int32) : h_i (h_im h 237 k v) 237 = upp (h_i h 237) k v := funext (fun j => by
  rw [h_i_im]
  unfold upp
  by_cases e : j = k
  · rw [if_pos ⟨rfl, e⟩, if_pos e]
  · rw [if_neg (fun z => e z.2), if_neg e])
theorem pl_rd (h : Hp_) (v : Int32) : h_i (h_im h 1 52 v) 237 = h_i h 237 := funext (fun j => by rw [h_i_im, if_neg (fun z => absurd z.1 (by decide))])
end
section
/-! work and tell of the reference -/
theorem pst_0 {s : Nat} {cd : Nat → Int32} {i n i' n' : Nat} (h : pst s cd i n = some (i', n')) : (cd i = 0 ∧ n < 199 ∧ i' = i + 2 ∧ n' = n + 1) ∨ (cd i = 1 ∧ n < 199 ∧ okl s (cd (i + 1)) = true ∧ i' = i + 2 ∧ n' = n + 1) ∨ (cd i = 33 ∧ 1 ≤ n ∧ i' = i + 1 ∧ n' = n) ∨ ((¬ cd i = 0 ∧ ¬ cd i = 1 ∧ ¬ cd i = 33 ∧ ¬ cd i = 2 ∧ ¬ cd i = 3) ∧ 2 ≤ n ∧ i' = i + 1 ∧ n' = n - 1) := by
  unfold pst at h
  split at h
  · rename_i e
    split at h
    · cases h; exact Or.inl ⟨e, by assumption, rfl, rfl⟩
    · cases h
  · rename_i e0
    split at h
    · rename_i e
      split at h
      · rename_i y
        cases h; exact Or.inr (Or.inl ⟨e, y.1, y.2, rfl, rfl⟩)
      · cases h
    · rename_i e1
      split at h
      · rename_i e
        split at h
        · cases h; exact Or.inr (Or.inr (Or.inl ⟨e, by assumption, rfl, rfl⟩))
        · cases h
      · rename_i e33
        split at h
        · cases h
        · rename_i e23
          split at h
          · cases h; exact Or.inr (Or.inr (Or.inr ⟨⟨e0, e1, e33, fun z => e23 (Or.inl z), fun z => e23 (Or.inr z)⟩, by assumption, rfl, rfl⟩))
          · cases h
theorem wev_s (cd lt : Nat → Int32) (g i n : Nat) (p : Nat → Int32) : wev cd lt (g + 1) i n p = if cd i = 0 then wev cd lt g (i + 2) (n + 1) (upp p n (cd (i + 1)))
    else if cd i = 1 then wev cd lt g (i + 2) (n + 1) (upp p n (lt (cd (i + 1)).toNatClampNeg))
    else if cd i = 33 then wev cd lt g (i + 1) n (upp p (n - 1) (if p (n - 1) = 0 then 1 else 0))
    else wev cd lt g (i + 1) (n - 1) (upp p (n - 2) (bothv (cd i) (p (n - 2)) (p (n - 1)))) := rfl
theorem wk_loop (d s : Nat) (h0 : Hp_) (cd lt : Nat → Int32) (j : Nat) (hj : j < 22400) (hend : cd j = 2 ∨ cd j = 3) : ∀ (g i n : Nat) (h : Hp_), prun s cd g i n j 1 → n ≤ 199 → Ws h0 cd lt i h →
    AW (m_X12_work (d + 3) 0 0) 0 0 2 [(0, .ref 1), (1, .int (Int32.ofNat n))] [] h (kI (fun r h' => Ws h0 cd lt (j + 1) h' ∧ r = wev cd lt g i n (h_i h 237))) := by
  intro g
  induction g with
  | zero =>
    intro i n h hp hn W
    obtain ⟨e1, e2⟩ := hp
    subst e1 e2
    obtain ⟨I, F, ec, el, er⟩ := W
    have z0 : (0 : Int32).toNatClampNeg = 0 := by simp
    have v0 : vp_in 0 200 := dp_in (lo := 0) (hi := 0) ⟨by decide, by decide⟩ (by decide) (by decide)
    have fin : Ws h0 cd lt (i + 1) (h_im h 1 52 ((h_i h 1 52) + 1)) := by
      rw [er, on_s (by omega)]
      exact Ws.rd (i := i) ⟨I, F, ec, el, er⟩ (i + 1)
    have hv : vp_in (h_i h 1 52) 22400 := by rw [er]; exact on_in hj (by decide)
    have ex : h_i h 231 (h_i h 1 52).toNatClampNeg = cd i := by rw [er, on_k (by omega), ec]
    refine t_X12_work_2 d h I.1 _ _ ⟨hv, fun _ => ⟨v0, fin, by rw [z0]; rfl⟩, fun c2 => ⟨hv, fun _ => ⟨v0, fin, by rw [z0]; rfl⟩, fun c3 => ?_⟩⟩
    rw [ex] at c2 c3
    rcases hend with z | z
    · exact absurd z c2
    · exact absurd z c3
  | succ g ih =>
    intro i n h hp hn W
    obtain ⟨i', n', hs, hp⟩ := hp
    have le := prun_le hp
    have W' := W
    obtain ⟨I, F, ec, el, er⟩ := W
    have li := pst_le hs
    have hv : vp_in (h_i h 1 52) 22400 := by rw [er]; exact on_in (by omega) (by decide)
    have ex : h_i h 231 (h_i h 1 52).toNatClampNeg = cd i := by rw [er, on_k (by omega), ec]
    have er1 : h_i h 1 52 + 1 = Int32.ofNat (i + 1) := by rw [er, on_s (by omega)]
    have hv1 : i + 1 < 22400 → vp_in (h_i h 1 52 + 1) 22400 := fun z => by rw [er1]; exact on_in z (by decide)
    have ex1 : h_i h 231 (h_i h 1 52 + 1).toNatClampNeg = cd (i + 1) := by rw [er1, on_k (by omega), ec]
    have cn : (Int32.ofNat n).toNatClampNeg = n := on_k (by omega)
    refine t_X12_work_2 d h I.1 _ _ ⟨hv, fun c2 => ?_, fun c2 => ⟨hv, fun c3 => ?_, fun c3 => ⟨hv, fun c0 => ⟨fun y => absurd c0 y, fun _ => ?_⟩, fun c0 => ⟨fun c1 => ⟨fun c33 => ?_, fun c33 => ?_⟩, fun c1 => ⟨fun _ => ?_, fun y => absurd y c0⟩⟩⟩⟩⟩
    · rw [ex] at c2
      unfold pst at hs
      rw [if_neg (by rw [c2]; decide), if_neg (by rw [c2]; decide), if_neg (by rw [c2]; decide), if_pos (Or.inl c2)] at hs
      cases hs
    · rw [ex] at c3
      unfold pst at hs
      rw [if_neg (by rw [c3]; decide), if_neg (by rw [c3]; decide), if_neg (by rw [c3]; decide), if_pos (Or.inr c3)] at hs
      cases hs
    · rw [ex] at c0
      rcases pst_0 hs with ⟨_, q1, q2, q3⟩ | ⟨q, _⟩ | ⟨q, _⟩ | ⟨q, _⟩
      · subst q2 q3
        refine ⟨hv1 (by omega), on_in (by omega) (by decide), ?_⟩
        rw [er1, on_s (by omega), on_s (by omega), cn]
        have e1 : h_i h 231 (Int32.ofNat (i + 1)).toNatClampNeg = cd (i + 1) := by rw [← er1]; exact ex1
        rw [e1]
        refine AW.mono (ih (i + 2) (n + 1) _ hp (by omega) (((W'.rd (i + 1)).pl n (cd (i + 1))).rd (i + 2))) (fun v h' q => ?_)
        obtain ⟨r, ev, q1, q2⟩ := q
        refine ⟨r, ev, q1, ?_⟩
        rw [q2, pl_rd, pl_is, pl_rd]
        show _ = wev cd lt (g + 1) i n (h_i h 237)
        rw [wev_s, if_pos c0]
      · rw [c0] at q; exact absurd q (by decide)
      · rw [c0] at q; exact absurd q (by decide)
      · exact absurd c0 q.1
    · rw [ex] at c0 c1 c33 c2 c3
      rcases pst_0 hs with ⟨q, _⟩ | ⟨q, _⟩ | ⟨q, _⟩ | ⟨_, q1, q2, q3⟩
      · exact absurd q c0
      · exact absurd q c1
      · exact absurd q c33
      · subst q2 q3
        obtain ⟨m, em⟩ : ∃ m, n = m + 2 := ⟨n - 2, by omega⟩
        subst em
        have a1 : Int32.ofNat (m + 2) + (-1) = Int32.ofNat (m + 1) := on_m (n := m + 1) (by omega)
        have a2 : Int32.ofNat (m + 1) - 1 = Int32.ofNat m := on_p (by omega)
        rw [a1, a2, on_k (n := m) (by omega), on_k (n := m + 1) (by omega), ex, er1]
        refine ⟨on_in (by omega) (by decide), on_in (by omega) (by decide), ?_⟩
        refine Ci.mono (c_both d _ (W'.rd (i + 1)).1.1 _ _ _) (fun r h9 q => ?_)
        obtain ⟨q1, q2⟩ := q
        subst q2
        refine ⟨(W'.rd (i + 1)).1.1, on_in (by omega) (by decide), ?_⟩
        refine AW.mono (ih (i + 1) (m + 1) _ hp (by omega) ((W'.rd (i + 1)).pl m r)) (fun v h' q => ?_)
        obtain ⟨r', ev, q3, q4⟩ := q
        refine ⟨r', ev, q3, ?_⟩
        rw [q4, pl_is, pl_rd, q1]
        show _ = wev cd lt (g + 1) i (m + 2) (h_i h 237)
        rw [wev_s, if_neg c0, if_neg c1, if_neg c33]
        rfl
    · rw [ex] at c0 c1 c33 c2 c3
      rcases pst_0 hs with ⟨q, _⟩ | ⟨q, _⟩ | ⟨_, q1, q2, q3⟩ | ⟨q, _⟩
      · exact absurd q c0
      · exact absurd q c1
      · subst q2 q3
        obtain ⟨m, em⟩ : ∃ m, n' = m + 1 := ⟨n' - 1, by omega⟩
        subst em
        have a2 : Int32.ofNat (m + 1) - 1 = Int32.ofNat m := on_p (by omega)
        rw [a2, on_k (n := m) (by omega), er1]
        have fin : ∀ x : Int32, x = (if h_i h 237 m = 0 then 1 else 0) → AW (m_X12_work (d + 3) 0 0) 0 0 2 [(0, .ref 1), (1, .int (Int32.ofNat (m + 1)))] [] (h_im (h_im h 1 52 (Int32.ofNat (i + 1))) 237 m x) (kI (fun r h' => Ws h0 cd lt (j + 1) h' ∧ r = wev cd lt (g + 1) i (m + 1) (h_i h 237))) := by
          intro x hx
          refine AW.mono (ih (i + 1) (m + 1) _ hp (by omega) ((W'.rd (i + 1)).pl m x)) (fun v h' q => ?_)
          obtain ⟨r', ev, q3, q4⟩ := q
          refine ⟨r', ev, q3, ?_⟩
          rw [q4, pl_is, pl_rd, hx]
          show _ = wev cd lt (g + 1) i (m + 1) (h_i h 237)
          rw [wev_s, if_neg c0, if_neg c1, if_pos c33]
          rfl
        exact ⟨on_in (by omega) (by decide), fun y => ⟨on_in (by omega) (by decide), fin 0 (by rw [if_neg y])⟩, fun y => ⟨on_in (by omega) (by decide), fin 1 (by rw [if_pos y])⟩⟩
      · exact absurd c33 q.2.2.1
    · rw [ex] at c1
      rcases pst_0 hs with ⟨q, _⟩ | ⟨_, q1, qk, q2, q3⟩ | ⟨q, _⟩ | ⟨q, _⟩
      · rw [c1] at q; exact absurd q (by decide)
      · subst q2 q3
        have rg := okl_rg qk
        refine ⟨hv1 (by omega), by rw [ex1]; exact dp_in rg (by decide) (by decide), on_in (by omega) (by decide), ?_⟩
        rw [ex1, er1, on_s (by omega), on_s (by omega), cn]
        refine AW.mono (ih (i + 2) (n + 1) _ hp (by omega) (((W'.rd (i + 1)).pl n (h_i h 236 (cd (i + 1)).toNatClampNeg)).rd (i + 2))) (fun v h' q => ?_)
        obtain ⟨r, ev, q1, q2⟩ := q
        refine ⟨r, ev, q1, ?_⟩
        rw [q2, pl_rd, pl_is, pl_rd, el]
        show _ = wev cd lt (g + 1) i n (h_i h 237)
        rw [wev_s, if_neg (by rw [c1]; decide), if_pos c1]
      · rw [c1] at q; exact absurd q (by decide)
      · exact absurd c1 q.2.1
theorem c_work (d s : Nat) (h0 : Hp_) (cd lt : Nat → Int32) {j g i : Nat} (hj : j < 22400) (hend : cd j = 2 ∨ cd j = 3) {h : Hp_} (hp : prun s cd g i 0 j 1) (W : Ws h0 cd lt i h) : Ci (m_X12_work (d + 3) 0 0) [.ref 1] h (fun r h' => Ws h0 cd lt (j + 1) h' ∧ r = wev cd lt g i 0 (h_i h 237)) :=
  t_X12_work d h _ (wk_loop d s h0 cd lt j hj hend g i 0 h hp (by omega) W)
end
section
/-! tell of the reference -/
theorem wev_ind {s : Nat} {cd lt lt' : Nat → Int32} {j : Nat} (hl : ∀ c, okl s c = true → lt c.toNatClampNeg = lt' c.toNatClampNeg) : ∀ (g i n : Nat) (p p' : Nat → Int32), prun s cd g i n j 1 → (∀ k, k < n → p k = p' k) → wev cd lt g i n p = wev cd lt' g i n p' := by
  intro g
  induction g with
  | zero =>
    intro i n p p' h e
    have := h.2
    exact e 0 (by omega)
  | succ g ih =>
    intro i n p p' h e
    obtain ⟨i', n', hs, hp⟩ := h
    rw [wev_s, wev_s]
    rcases pst_0 hs with ⟨c, q1, q2, q3⟩ | ⟨c, q1, qk, q2, q3⟩ | ⟨c, q1, q2, q3⟩ | ⟨c, q1, q2, q3⟩
    · subst q2 q3
      rw [if_pos c, if_pos c]
      refine ih _ _ _ _ hp (fun k hk => ?_)
      unfold upp
      split
      · rfl
      · exact e k (by omega)
    · subst q2 q3
      have c0 : ¬ cd i = 0 := by rw [c]; decide
      rw [if_neg c0, if_neg c0, if_pos c, if_pos c]
      refine ih _ _ _ _ hp (fun k hk => ?_)
      unfold upp
      split
      · exact hl _ qk
      · exact e k (by omega)
    · subst q2 q3
      have c0 : ¬ cd i = 0 := by rw [c]; decide
      have c1 : ¬ cd i = 1 := by rw [c]; decide
      rw [if_neg c0, if_neg c0, if_neg c1, if_neg c1, if_pos c, if_pos c]
      refine ih _ _ _ _ hp (fun k hk => ?_)
      unfold upp
      rw [e _ (show n' - 1 < n' by omega)]
      split
      · rfl
      · exact e k (by omega)
    · subst q2 q3
      rw [if_neg c.1, if_neg c.1, if_neg c.2.1, if_neg c.2.1, if_neg c.2.2.1, if_neg c.2.2.1]
      refine ih _ _ _ _ hp (fun k hk => ?_)
      unfold upp
      rw [e _ (show n - 1 < n by omega), e _ (show n - 2 < n by omega)]
      split
      · rfl
      · exact e k (by omega)
/-- what a text tells: the answer of the first clause whose condition holds -/
noncomputable def tel (s : Nat) (cd lt : Nat → Int32) : Nat → Nat → Nat → Int32 → Prop
  | 0, _, _, v => v = 0
  | f + 1, i, e, v => ∃ j k g1 g2, prun s cd g1 i 0 j 1 ∧ cd j = 2 ∧ prun s cd g2 (j + 1) 0 k 1 ∧ cd k = 3 ∧ ((¬ wev cd lt g1 i 0 (fun _ => 0) = 0 ∧ v = wev cd lt g2 (j + 1) 0 (fun _ => 0)) ∨ (wev cd lt g1 i 0 (fun _ => 0) = 0 ∧ tel s cd lt f (k + 1) e v))
theorem pcl_le {s : Nat} {cd : Nat → Int32} : ∀ {f i e : Nat}, pcl s cd f i e → i ≤ e
  | 0, _, _, h => by have : _ = _ := h; omega
  | f + 1, i, e, h => by
    obtain ⟨j, k, ⟨g1, p1⟩, _, ⟨g2, p2⟩, _, h2⟩ := h
    have := prun_le p1
    have := prun_le p2
    have := pcl_le h2
    omega
theorem tl_loop (d s t e : Nat) (h0 : Hp_) (cd lt : Nat → Int32) (ht : t < 40) (he : e ≤ 22400) :
    ∀ (f i : Nat) (h : Hp_), pcl s cd f i e → Ws h0 cd lt i h → 560 * t + (h_i h0 232 t).toNatClampNeg = e → AW (m_X12_tell (d + 4) 0 0) 0 0 23 [(0, .ref 1), (3, .int (Int32.ofNat t))] [] h (kI (fun r h' => Iv h' ∧ Fr wzw h0 h' ∧ tel s cd lt f i e r)) := by
  have key : ∀ (i : Nat) (h : Hp_), Ws h0 cd lt i h → 560 * t + (h_i h0 232 t).toNatClampNeg = e → i ≤ 22400 → ((560 * Int32.ofNat t + h_i h 232 (Int32.ofNat t).toNatClampNeg).toInt = (e : Int) ∧ (h_i h 1 52).toInt = (i : Int)) := by
    intro i h W e1 li
    have t560 : (560 : Int32).toInt = 560 := rfl
    have sz : rin (h_i h 232 t).toInt (0, 560) := by
      have := W.1.2.1 232 t
      rwa [tfa_tf (show tfa 232 = some (0, 560) by decide +kernel)] at this
    have s0 : 0 ≤ (h_i h 232 t).toInt := sz.1
    have s1 : (h_i h 232 t).toInt ≤ 560 := sz.2
    have es : h_i h 232 t = h_i h0 232 t := (W.2.1.2 232 t (by
      cases q : inw wzw 232 t with
      | false => rfl
      | true =>
        exfalso
        have o : off wzw 232 = true := by decide +kernel
        rw [off_inw o] at q; cases q)).1
    have en : ((h_i h 232 t).toNatClampNeg : Int) = (h_i h 232 t).toInt := n_nat s0
    rw [← es] at e1
    have m1 : (560 * Int32.ofNat t).toInt = 560 * (t : Int) := by rw [tx_mul (by rw [t560, on_j (by omega)]; omega) (by rw [t560, on_j (by omega)]; omega), t560, on_j (by omega)]
    rw [on_k (by omega), tx_add (by omega) (by omega), m1, W.2.2.2.2, on_j (by omega)]
    omega
  intro f
  induction f with
  | zero =>
    intro i h hp W e1
    have hp : i = e := hp
    obtain ⟨k1, k2⟩ := key i h W e1 (by omega)
    refine t_X12_tell_23 d h W.1.1 _ _ ⟨on_in ht (by decide), fun _ => ⟨W.1, W.2.1, rfl⟩, fun z => ?_⟩
    have z := q_nle z
    omega
  | succ f ih =>
    intro i h hp W e1
    obtain ⟨j, k, ⟨g1, p1⟩, cj, ⟨g2, p2⟩, ck, hp2⟩ := hp
    have l1 := prun_le p1
    have l2 := prun_le p2
    have l3 := pcl_le hp2
    obtain ⟨k1, k2⟩ := key i h W e1 (by omega)
    have ind := fun (lt' : Nat → Int32) (p : Nat → Int32) (g i j : Nat) (q : prun s cd g i 0 j 1) => wev_ind (s := s) (cd := cd) (lt := lt) (lt' := lt) (fun _ _ => rfl) g i 0 p (fun _ => 0) q (fun k hk => absurd hk (Nat.not_lt_zero k))
    refine t_X12_tell_23 d h W.1.1 _ _ ⟨on_in ht (by decide), fun z => ?_, fun _ => ?_⟩
    · have z := q_le.mp z
      omega
    · refine Ci.mono (c_work d s h0 cd lt (by omega) (Or.inl cj) p1 W) (fun r h1 q => ?_)
      obtain ⟨W1, e2⟩ := q
      rw [ind lt _ g1 i j p1] at e2
      refine ⟨W1.1.1, fun z => ?_, fun z => ?_⟩
      · refine Ci.mono (c_work d s h0 cd lt (by omega) (Or.inr ck) p2 W1) (fun r2 h2 q2 => ?_)
        obtain ⟨W2, _⟩ := q2
        refine ⟨W2.1.1, AW.mono (ih (k + 1) h2 hp2 W2 e1) (fun v h' q3 => ?_)⟩
        obtain ⟨r3, ev, I3, F3, t3⟩ := q3
        exact ⟨r3, ev, I3, F3, j, k, g1, g2, p1, cj, p2, ck, Or.inr ⟨by rw [← e2]; exact z, t3⟩⟩
      · refine Ci.mono (c_work d s h0 cd lt (by omega) (Or.inr ck) p2 W1) (fun r2 h2 q2 => ?_)
        obtain ⟨W2, e3⟩ := q2
        rw [ind lt _ g2 (j + 1) k p2] at e3
        exact ⟨W2.1.1, W2.1, W2.2.1, j, k, g1, g2, p1, cj, p2, ck, Or.inl ⟨by rw [← e2]; exact z, e3⟩⟩
/-- the text t, told from the heap h -/
noncomputable def Tel (h : Hp_) (x1 x2 r : Int32) : Prop := (x2 = -1 ∧ r = 0) ∨ (¬ x2 = -1 ∧ ∃ f t, t < 40 ∧ 20 * x1 + x2 = Int32.ofNat t ∧ tel (t / 20 + 1) (h_i h 231) (h_i h 236) f (560 * t) (560 * t + (h_i h 232 t).toNatClampNeg) r)
theorem c_tell (d : Nat) {h : Hp_} (I : Iv h) (x1 x2 : Int32) (b1 : rin x1.toInt (0, 1)) (b2 : rin x2.toInt (-1, 19)) : Ci (m_X12_tell (d + 4) 0 0) [.ref 1, .int x1, .int x2] h (fun r h' => Iv h' ∧ Fr wzw h h' ∧ Tel h x1 x2 r) := by
  have c1 : 0 ≤ x1.toInt := b1.1
  have c2 : x1.toInt ≤ 1 := b1.2
  have c3 : -1 ≤ x2.toInt := b2.1
  have c4 : x2.toInt ≤ 19 := b2.2
  have t20 : (20 : Int32).toInt = 20 := rfl
  have t560 : (560 : Int32).toInt = 560 := rfl
  have tm : (-1 : Int32).toInt = -1 := rfl
  refine t_X12_tell d h I.1 x1 x2 _ ⟨fun z => ?_, fun z => ⟨I, Fr.rf _ _, Or.inl ⟨z, rfl⟩⟩⟩
  have c5 : 0 ≤ x2.toInt := by
    rcases Int.lt_or_le x2.toInt 0 with y | y
    · exact absurd (Int32.toInt_inj.mp (by rw [tm]; omega)) z
    · exact y
  have m1 : (20 * x1).toInt = 20 * x1.toInt := by rw [tx_mul (by rw [t20]; omega) (by rw [t20]; omega), t20]
  have m2 : (20 * x1 + x2).toInt = 20 * x1.toInt + x2.toInt := by rw [tx_add (by omega) (by omega), m1]
  obtain ⟨t, et, ht⟩ : ∃ t : Nat, 20 * x1 + x2 = Int32.ofNat t ∧ t < 40 := ⟨(20 * x1.toInt + x2.toInt).toNat, by
    refine Int32.toInt_inj.mp ?_
    rw [on_j (by omega), m2]
    omega, by omega⟩
  rw [et]
  have m3 : 560 * Int32.ofNat t = Int32.ofNat (560 * t) := by
    refine Int32.toInt_inj.mp ?_
    rw [tx_mul (by rw [t560, on_j (by omega)]; omega) (by rw [t560, on_j (by omega)]; omega), t560, on_j (by omega), on_j (by omega)]
    omega
  rw [m3]
  obtain ⟨f, hf⟩ := I.2.2.2.2.2.2.2.2 t ht
  have sz : rin (h_i h 232 t).toInt (0, 560) := by
    have := I.2.1 232 t
    rwa [tfa_tf (show tfa 232 = some (0, 560) by decide +kernel)] at this
  have s1 : (h_i h 232 t).toInt ≤ 560 := sz.2
  have en : ((h_i h 232 t).toNatClampNeg : Int) = (h_i h 232 t).toInt := n_nat sz.1
  have W0 : Ws h (h_i h 231) (h_i h 236) (560 * t) (h_im h 1 52 (Int32.ofNat (560 * t))) :=
    ⟨I.im (by rw [show tf 1 52 = rtop by decide +kernel]; exact rtop_in _) (by decide), (Fr.rf _ _).im (by decide +kernel), funext (fun k => by rw [h_i_im, if_neg (fun z => absurd z.1 (by decide))]), funext (fun k => by rw [h_i_im, if_neg (fun z => absurd z.1 (by decide))]), by rw [h_i_im, if_pos ⟨rfl, rfl⟩]⟩
  refine AW.mono (tl_loop d (t / 20 + 1) t (560 * t + (h_i h 232 t).toNatClampNeg) h (h_i h 231) (h_i h 236) ht (by omega) f (560 * t) _ hf W0 rfl) (fun v h' q => ?_)
  obtain ⟨r, ev, I', F', T⟩ := q
  exact ⟨r, ev, I', F', Or.inr ⟨z, f, t, ht, et, T⟩⟩
noncomputable def wz_X12_tell : List Nat := wzw
noncomputable def q_X12_tell : Ctr := ([.inl (((-1), 19), (0, 0), none), .inl ((0, 1), (0, 0), none), .inr 11], [], (some (.inl (((-2147483648), 2147483647), (0, 0), none))), [], wz_X12_tell)
theorem hc_X12_tell (n : Nat) : Hc (m_X12_tell (n + 4) 0 0) q_X12_tell := by
  intro vs h ma I hp
  match vs, ma with
  | [v2, v1, v0], ma =>
    obtain ⟨⟨x2, e2, b2, _⟩, ⟨x1, e1, b1, _⟩, e0, _⟩ := ma
    have e0 : v0 = .ref 1 := e0
    subst e0 e1 e2
    refine Ct.mono (c_tell n I x1 x2 b1 b2) (fun v h' q => ?_)
    obtain ⟨r, ev, I', F', _⟩ := q
    subst ev
    exact ⟨I', F', fun _ z => (nomatch z), _, rfl, r, rfl, rtop_in _, fun _ z => (nomatch z)⟩
end
section
/-! walkOf as a call by hand -/
theorem c_walkOf (d : Nat) {h : Hp_} (I : Iv h) (x1 x2 : Int32) (b : rin x2.toInt (0, 15)) : Ci (m_X12_walkOf (d + 0) 0 0) [.ref 1, .int x1, .int x2] h (fun r h' => Iv h' ∧ Fr wz_X12_walkOf h h' ∧ rin r.toInt (-1, 100000)) := by
  refine Ct.mono (hc_X12_walkOf d [.int x2, .int x1, .ref 1] h ⟨⟨x2, rfl, b, fun _ z => (nomatch z)⟩, ⟨x1, rfl, rtop_in _, fun _ z => (nomatch z)⟩, rfl, trivial⟩ I (fun _ z => (nomatch z))) (fun v h' q => ?_)
  obtain ⟨I', F', _, a, ea, r, er, br, _⟩ := q
  subst ea
  exact ⟨r, by rw [er], I', F', br⟩
theorem fr_i {ws : List Nat} {h h' : Hp_} (f : Fr ws h h') {a : Nat} (o : off ws a = true) (k : Nat) : h_i h' a k = h_i h a k := (f.2 a k (off_inw o k)).1
theorem t_X12_doesSee (d : Nat) (h : Hp_) (x1 : Int32) (x2 : Int32) (K : Int32 → Hp_ → Prop) (k : AW (m_X12_doesSee (d + 1) 0 0) 0 0 12 [(0, .ref 1), (1, .int x1), (2, .int x2), (3, .int 0), (4, .int 0), (5, .int (150 * x1))] [] h (kI K)) : Ci (m_X12_doesSee (d + 1) 0 0) [.ref 1, .int x1, .int x2] h K := by
  refine Ct.of (fun _ _ _ => trivial) rfl (Nat.le_of_ble_eq_true rfl) ?_
  show AW (m_X12_doesSee (d + 1) 0 0) 0 0 0 [(0, .ref 1), (1, .int x1), (2, .int x2)] [] h (kI K)
  refine aw_iconst (v := 0) d_X12_doesSee_0 ic_0 ?_
  refine aw_istore_n (i := 3) rfl [(0, .ref 1), (1, .int x1), (2, .int x2), (3, .int 0)] d_X12_doesSee_1 (Nat.le_of_ble_eq_true rfl) rfl rfl ?_
  refine aw_iconst (v := 0) d_X12_doesSee_2 ic_0 ?_
  refine aw_istore [(0, .ref 1), (1, .int x1), (2, .int x2), (3, .int 0), (4, .int 0)] d_X12_doesSee_3 (Nat.le_of_ble_eq_true rfl) rfl rfl ?_
  refine aw_sipush (v := 150) d_X12_doesSee_5 is_150 ?_
  refine aw_iload_n (i := 1) rfl d_X12_doesSee_8 1 rfl ?_
  refine aw_imul d_X12_doesSee_9 ?_
  refine aw_istore [(0, .ref 1), (1, .int x1), (2, .int x2), (3, .int 0), (4, .int 0), (5, .int (150 * x1))] d_X12_doesSee_10 (Nat.le_of_ble_eq_true rfl) rfl rfl ?_
  exact k
theorem t_X12_doesSee_12 (d : Nat) (h : Hp_) (w : Wf h) (x1 : Int32) (x2 : Int32) (x3 : Int32) (x4 : Int32) (x5 : Int32) (K : Int32 → Hp_ → Prop) (k : vp_in x1 12 ∧ ((((150 * x1) + (h_i h 227 x1.toNatClampNeg)) ≤ x5 → K 0 h) ∧ (¬ ((150 * x1) + (h_i h 227 x1.toNatClampNeg)) ≤ x5 → (1440 < x3 → K 0 h) ∧ (¬ 1440 < x3 → vp_in x5 1800 ∧ ((¬ (h_i h 228 x5.toNatClampNeg) = 1 → (¬ (h_i h 228 x5.toNatClampNeg) = 3 → vp_in x5 1800 ∧ (Ci (m_X12_walkOf (d + 0) 0 0) [.ref 1, .int x4, .int (h_i h 229 x5.toNatClampNeg)] h (fun r10 h8 => Wf h8 ∧ ((¬ r10 = (-1) → vp_in x5 1800 ∧ ((¬ (h_i h 228 x5.toNatClampNeg) = 2 → AW (m_X12_doesSee (d + 1) 0 0) 0 0 12 [(0, .ref 1), (1, .int x1), (2, .int x2), (3, .int (x3 + r10)), (4, .int (h_i h8 229 x5.toNatClampNeg)), (5, .int (x5 + 1))] [] h8 (kI K)) ∧ ((h_i h 228 x5.toNatClampNeg) = 2 → vp_in x5 1800 ∧ (AW (m_X12_doesSee (d + 1) 0 0) 0 0 12 [(0, .ref 1), (1, .int x1), (2, .int x2), (3, .int (if (x3 + r10) < (h_i h8 230 x5.toNatClampNeg) then (h_i h8 230 x5.toNatClampNeg) else (x3 + r10))), (4, .int (h_i h8 229 x5.toNatClampNeg)), (5, .int (x5 + 1))] [] h8 (kI K))))) ∧ (r10 = (-1) → AW (m_X12_doesSee (d + 1) 0 0) 0 0 12 [(0, .ref 1), (1, .int x1), (2, .int x2), (3, .int x3), (4, .int x4), (5, .int (x5 + 1))] [] h8 (kI K)))))) ∧ ((h_i h 228 x5.toNatClampNeg) = 3 → vp_in x2 8 ∧ ((¬ x4 = (h_i h 281 x2.toNatClampNeg) → AW (m_X12_doesSee (d + 1) 0 0) 0 0 12 [(0, .ref 1), (1, .int x1), (2, .int x2), (3, .int (x3 + 1)), (4, .int x4), (5, .int (x5 + 1))] [] h (kI K)) ∧ (x4 = (h_i h 281 x2.toNatClampNeg) → vp_in x2 8 ∧ (vp_in x2 8 ∧ ((¬ ((h_i h 282 x2.toNatClampNeg) ≤ (x3 + 1) ∧ (x3 + 1) ≤ (h_i h 283 x2.toNatClampNeg)) → AW (m_X12_doesSee (d + 1) 0 0) 0 0 12 [(0, .ref 1), (1, .int x1), (2, .int x2), (3, .int (x3 + 1)), (4, .int x4), (5, .int (x5 + 1))] [] h (kI K)) ∧ (((h_i h 282 x2.toNatClampNeg) ≤ (x3 + 1) ∧ (x3 + 1) ≤ (h_i h 283 x2.toNatClampNeg)) → K 1 h))))))) ∧ ((h_i h 228 x5.toNatClampNeg) = 1 → vp_in x5 1800 ∧ (AW (m_X12_doesSee (d + 1) 0 0) 0 0 12 [(0, .ref 1), (1, .int x1), (2, .int x2), (3, .int (x3 + (h_i h 229 x5.toNatClampNeg))), (4, .int x4), (5, .int (x5 + 1))] [] h (kI K)))))))) : AW (m_X12_doesSee (d + 1) 0 0) 0 0 12 [(0, .ref 1), (1, .int x1), (2, .int x2), (3, .int x3), (4, .int x4), (5, .int x5)] [] h (kI K) := by
  refine aw_iload d_X12_doesSee_12 5 rfl ?_
  refine aw_sipush (v := 150) d_X12_doesSee_14 is_150 ?_
  refine aw_iload_n (i := 1) rfl d_X12_doesSee_17 1 rfl ?_
  refine aw_imul d_X12_doesSee_18 ?_
  refine aw_aload_n (i := 0) rfl d_X12_doesSee_19 0 rfl ?_
  refine aw_getr (k0 := 38) kc_12 (ws_1 w) (Nat.le_of_ble_eq_true rfl) tw_1780 d_X12_doesSee_20 rfl (wr_1_38 w) ?_
  refine aw_iload_n (i := 1) rfl d_X12_doesSee_23 1 rfl ?_
  obtain ⟨b1, k⟩ := k
  refine aw_iald (ws_227 w) b1 d_X12_doesSee_24 ?_
  refine aw_iadd d_X12_doesSee_25 ?_
  refine aw_icmp_ge (tgt := 167) d_X12_doesSee_26 rfl (fun c2 => ?_) (fun c2 => ?_)
  · have k := k.1 c2
    refine aw_iconst (v := 0) d_X12_doesSee_167 ic_0 ?_
    exact aw_zret rfl rfl d_X12_doesSee_168 ⟨Nat.le_refl _, Nat.le_refl _⟩ ⟨_, rfl, k⟩
  · have k := k.2 c2
    refine aw_iload_n (i := 3) rfl d_X12_doesSee_29 3 rfl ?_
    refine aw_sipush (v := 1440) d_X12_doesSee_30 is_1440 ?_
    refine aw_icmp_gt (tgt := 167) d_X12_doesSee_33 rfl (fun c3 => ?_) (fun c3 => ?_)
    · have k := k.1 c3
      refine aw_iconst (v := 0) d_X12_doesSee_167 ic_0 ?_
      exact aw_zret rfl rfl d_X12_doesSee_168 ⟨Nat.le_refl _, Nat.le_refl _⟩ ⟨_, rfl, k⟩
    · have k := k.2 c3
      refine aw_aload_n (i := 0) rfl d_X12_doesSee_36 0 rfl ?_
      refine aw_getr (k0 := 39) kc_12 (ws_1 w) (Nat.le_of_ble_eq_true rfl) tw_1781 d_X12_doesSee_37 rfl (wr_1_39 w) ?_
      refine aw_iload d_X12_doesSee_40 5 rfl ?_
      obtain ⟨b4, k⟩ := k
      refine aw_iald (ws_228 w) b4 d_X12_doesSee_42 ?_
      refine aw_istore [(0, .ref 1), (1, .int x1), (2, .int x2), (3, .int x3), (4, .int x4), (5, .int x5), (6, .int (h_i h 228 x5.toNatClampNeg))] d_X12_doesSee_43 (Nat.le_of_ble_eq_true rfl) rfl rfl ?_
      refine aw_iload d_X12_doesSee_45 6 rfl ?_
      refine aw_iconst (v := 1) d_X12_doesSee_47 ic_1 ?_
      refine aw_icmp_ne (tgt := 64) d_X12_doesSee_48 rfl (fun c5 => ?_) (fun c5 => ?_)
      · have k := k.1 c5
        refine aw_iload d_X12_doesSee_64 6 rfl ?_
        refine aw_iconst (v := 3) d_X12_doesSee_66 ic_3 ?_
        refine aw_icmp_ne (tgt := 105) d_X12_doesSee_67 rfl (fun c6 => ?_) (fun c6 => ?_)
        · have k := k.1 c6
          refine aw_aload_n (i := 0) rfl d_X12_doesSee_105 0 rfl ?_
          refine aw_iload d_X12_doesSee_106 4 rfl ?_
          refine aw_aload_n (i := 0) rfl d_X12_doesSee_108 0 rfl ?_
          refine aw_getr (k0 := 40) kc_12 (ws_1 w) (Nat.le_of_ble_eq_true rfl) tw_1782 d_X12_doesSee_109 rfl (wr_1_40 w) ?_
          refine aw_iload d_X12_doesSee_112 5 rfl ?_
          obtain ⟨b7, k⟩ := k
          refine aw_iald (ws_229 w) b7 d_X12_doesSee_114 ?_
          refine aw_Vi 1 [.int x4, .int (h_i h 229 x5.toNatClampNeg)] [] d_X12_doesSee_115 (cV_X12_walkOf (d + 0) 0 0) kc_12 (ws_1 w) tw_2150 rfl (rr0 (Nat.le_of_ble_eq_true rfl) (Nat.le_of_ble_eq_true rfl)) (Nat.le_of_ble_eq_true rfl) xs0 k (fun r10 h8 kk => ?_)
          obtain ⟨w9, k⟩ := kk
          refine aw_istore [(0, .ref 1), (1, .int x1), (2, .int x2), (3, .int x3), (4, .int x4), (5, .int x5), (6, .int (h_i h 228 x5.toNatClampNeg)), (7, .int r10)] d_X12_doesSee_118 (Nat.le_of_ble_eq_true rfl) rfl rfl ?_
          refine aw_iload d_X12_doesSee_120 7 rfl ?_
          refine aw_iconst (v := (-1)) d_X12_doesSee_122 ic_m1 ?_
          refine aw_icmp_ne (tgt := 129) d_X12_doesSee_123 rfl (fun c11 => ?_) (fun c11 => ?_)
          · have k := k.1 c11
            refine aw_iload_n (i := 3) rfl d_X12_doesSee_129 3 rfl ?_
            refine aw_iload d_X12_doesSee_130 7 rfl ?_
            refine aw_iadd d_X12_doesSee_132 ?_
            refine aw_istore_n (i := 3) rfl [(0, .ref 1), (1, .int x1), (2, .int x2), (3, .int (x3 + r10)), (4, .int x4), (5, .int x5), (6, .int (h_i h 228 x5.toNatClampNeg)), (7, .int r10)] d_X12_doesSee_133 (Nat.le_of_ble_eq_true rfl) rfl rfl ?_
            refine aw_aload_n (i := 0) rfl d_X12_doesSee_134 0 rfl ?_
            refine aw_getr (k0 := 40) kc_12 (ws_1 w9) (Nat.le_of_ble_eq_true rfl) tw_1782 d_X12_doesSee_135 rfl (wr_1_40 w9) ?_
            refine aw_iload d_X12_doesSee_138 5 rfl ?_
            obtain ⟨b12, k⟩ := k
            refine aw_iald (ws_229 w9) b12 d_X12_doesSee_140 ?_
            refine aw_istore [(0, .ref 1), (1, .int x1), (2, .int x2), (3, .int (x3 + r10)), (4, .int (h_i h8 229 x5.toNatClampNeg)), (5, .int x5), (6, .int (h_i h 228 x5.toNatClampNeg)), (7, .int r10)] d_X12_doesSee_141 (Nat.le_of_ble_eq_true rfl) rfl rfl ?_
            refine aw_iload d_X12_doesSee_143 6 rfl ?_
            refine aw_iconst (v := 2) d_X12_doesSee_145 ic_2 ?_
            refine aw_icmp_ne (tgt := 161) d_X12_doesSee_146 rfl (fun c13 => ?_) (fun c13 => ?_)
            · have k := k.1 c13
              refine aw_iinc (v := (x5 + 1)) [(0, .ref 1), (1, .int x1), (2, .int x2), (3, .int (x3 + r10)), (4, .int (h_i h8 229 x5.toNatClampNeg)), (5, .int (x5 + 1)), (6, .int (h_i h 228 x5.toNatClampNeg)), (7, .int r10)] d_X12_doesSee_161 5 rfl rfl (Nat.le_of_ble_eq_true rfl) rfl rfl ?_
              refine aw_goto (tgt := 12) d_X12_doesSee_164 rfl ?_
              exact aw_lvp [0, 1, 2, 3, 4, 5] [(0, .ref 1), (1, .int x1), (2, .int x2), (3, .int (x3 + r10)), (4, .int (h_i h8 229 x5.toNatClampNeg)), (5, .int (x5 + 1))] rfl k
            · have k := k.2 c13
              refine aw_iload_n (i := 3) rfl d_X12_doesSee_149 3 rfl ?_
              refine aw_aload_n (i := 0) rfl d_X12_doesSee_150 0 rfl ?_
              refine aw_getr (k0 := 41) kc_12 (ws_1 w9) (Nat.le_of_ble_eq_true rfl) tw_1783 d_X12_doesSee_151 rfl (wr_1_41 w9) ?_
              refine aw_iload d_X12_doesSee_154 5 rfl ?_
              obtain ⟨b14, k⟩ := k
              refine aw_iald (ws_230 w9) b14 d_X12_doesSee_156 ?_
              refine aw_mmax d_X12_doesSee_157 tw_2470 (show 1 ≤ (d + 1) by omega) (Nat.le_trans (Nat.le_of_ble_eq_true rfl) (show 100 ≤ 100 * (d + 1) by omega)) ⟨Nat.le_refl _, Nat.le_refl _⟩ ?_
              refine aw_istore_n (i := 3) rfl [(0, .ref 1), (1, .int x1), (2, .int x2), (3, .int (if (x3 + r10) < (h_i h8 230 x5.toNatClampNeg) then (h_i h8 230 x5.toNatClampNeg) else (x3 + r10))), (4, .int (h_i h8 229 x5.toNatClampNeg)), (5, .int x5), (6, .int (h_i h 228 x5.toNatClampNeg)), (7, .int r10)] d_X12_doesSee_160 (Nat.le_of_ble_eq_true rfl) rfl rfl ?_
              refine aw_iinc (v := (x5 + 1)) [(0, .ref 1), (1, .int x1), (2, .int x2), (3, .int (if (x3 + r10) < (h_i h8 230 x5.toNatClampNeg) then (h_i h8 230 x5.toNatClampNeg) else (x3 + r10))), (4, .int (h_i h8 229 x5.toNatClampNeg)), (5, .int (x5 + 1)), (6, .int (h_i h 228 x5.toNatClampNeg)), (7, .int r10)] d_X12_doesSee_161 5 rfl rfl (Nat.le_of_ble_eq_true rfl) rfl rfl ?_
              refine aw_goto (tgt := 12) d_X12_doesSee_164 rfl ?_
              exact aw_lvp [0, 1, 2, 3, 4, 5] [(0, .ref 1), (1, .int x1), (2, .int x2), (3, .int (if (x3 + r10) < (h_i h8 230 x5.toNatClampNeg) then (h_i h8 230 x5.toNatClampNeg) else (x3 + r10))), (4, .int (h_i h8 229 x5.toNatClampNeg)), (5, .int (x5 + 1))] rfl k
          · have k := k.2 c11
            refine aw_goto (tgt := 161) d_X12_doesSee_126 rfl ?_
            refine aw_iinc (v := (x5 + 1)) [(0, .ref 1), (1, .int x1), (2, .int x2), (3, .int x3), (4, .int x4), (5, .int (x5 + 1)), (6, .int (h_i h 228 x5.toNatClampNeg)), (7, .int r10)] d_X12_doesSee_161 5 rfl rfl (Nat.le_of_ble_eq_true rfl) rfl rfl ?_
            refine aw_goto (tgt := 12) d_X12_doesSee_164 rfl ?_
            exact aw_lvp [0, 1, 2, 3, 4, 5] [(0, .ref 1), (1, .int x1), (2, .int x2), (3, .int x3), (4, .int x4), (5, .int (x5 + 1))] rfl k
        · have k := k.2 c6
          refine aw_iinc (v := (x3 + 1)) [(0, .ref 1), (1, .int x1), (2, .int x2), (3, .int (x3 + 1)), (4, .int x4), (5, .int x5), (6, .int (h_i h 228 x5.toNatClampNeg))] d_X12_doesSee_70 3 rfl rfl (Nat.le_of_ble_eq_true rfl) rfl rfl ?_
          refine aw_iload d_X12_doesSee_73 4 rfl ?_
          refine aw_aload_n (i := 0) rfl d_X12_doesSee_75 0 rfl ?_
          refine aw_getr (k0 := 105) kc_12 (ws_1 w) (Nat.le_of_ble_eq_true rfl) tw_1847 d_X12_doesSee_76 rfl (wr_1_105 w) ?_
          refine aw_iload_n (i := 2) rfl d_X12_doesSee_79 2 rfl ?_
          obtain ⟨b15, k⟩ := k
          refine aw_iald (ws_281 w) b15 d_X12_doesSee_80 ?_
          refine aw_icmp_ne (tgt := 161) d_X12_doesSee_81 rfl (fun c16 => ?_) (fun c16 => ?_)
          · have k := k.1 c16
            refine aw_iinc (v := (x5 + 1)) [(0, .ref 1), (1, .int x1), (2, .int x2), (3, .int (x3 + 1)), (4, .int x4), (5, .int (x5 + 1)), (6, .int (h_i h 228 x5.toNatClampNeg))] d_X12_doesSee_161 5 rfl rfl (Nat.le_of_ble_eq_true rfl) rfl rfl ?_
            refine aw_goto (tgt := 12) d_X12_doesSee_164 rfl ?_
            exact aw_lvp [0, 1, 2, 3, 4, 5] [(0, .ref 1), (1, .int x1), (2, .int x2), (3, .int (x3 + 1)), (4, .int x4), (5, .int (x5 + 1))] rfl k
          · have k := k.2 c16
            refine aw_iload_n (i := 3) rfl d_X12_doesSee_84 3 rfl ?_
            refine aw_aload_n (i := 0) rfl d_X12_doesSee_85 0 rfl ?_
            refine aw_getr (k0 := 106) kc_12 (ws_1 w) (Nat.le_of_ble_eq_true rfl) tw_1848 d_X12_doesSee_86 rfl (wr_1_106 w) ?_
            refine aw_iload_n (i := 2) rfl d_X12_doesSee_89 2 rfl ?_
            obtain ⟨b17, k⟩ := k
            refine aw_iald (ws_282 w) b17 d_X12_doesSee_90 ?_
            refine aw_aload_n (i := 0) rfl d_X12_doesSee_91 0 rfl ?_
            refine aw_getr (k0 := 107) kc_12 (ws_1 w) (Nat.le_of_ble_eq_true rfl) tw_1849 d_X12_doesSee_92 rfl (wr_1_107 w) ?_
            refine aw_iload_n (i := 2) rfl d_X12_doesSee_95 2 rfl ?_
            obtain ⟨b18, k⟩ := k
            refine aw_iald (ws_283 w) b18 d_X12_doesSee_96 ?_
            refine aw_Si [.int (x3 + 1), .int (h_i h 282 x2.toNatClampNeg), .int (h_i h 283 x2.toNatClampNeg)] [] d_X12_doesSee_97 (cS_X12_in (d + 0) 0 0) tw_2143 rfl (rr0 (Nat.le_of_ble_eq_true rfl) (Nat.le_of_ble_eq_true rfl)) (Nat.le_of_ble_eq_true rfl) xs0 (s_X12_in _ _ (x3 + 1) (h_i h 282 x2.toNatClampNeg) (h_i h 283 x2.toNatClampNeg)) (fun _ _ kk => ?_)
            obtain ⟨e19, e20⟩ := kk
            rw [e19, e20]
            refine aw_ifb_eq (tgt := 161) d_X12_doesSee_100 rfl (fun c21 => ?_) (fun c21 => ?_)
            · have k := k.1 c21
              refine aw_iinc (v := (x5 + 1)) [(0, .ref 1), (1, .int x1), (2, .int x2), (3, .int (x3 + 1)), (4, .int x4), (5, .int (x5 + 1)), (6, .int (h_i h 228 x5.toNatClampNeg))] d_X12_doesSee_161 5 rfl rfl (Nat.le_of_ble_eq_true rfl) rfl rfl ?_
              refine aw_goto (tgt := 12) d_X12_doesSee_164 rfl ?_
              exact aw_lvp [0, 1, 2, 3, 4, 5] [(0, .ref 1), (1, .int x1), (2, .int x2), (3, .int (x3 + 1)), (4, .int x4), (5, .int (x5 + 1))] rfl k
            · have k := k.2 c21
              refine aw_iconst (v := 1) d_X12_doesSee_103 ic_1 ?_
              exact aw_zret rfl rfl d_X12_doesSee_104 ⟨Nat.le_refl _, Nat.le_refl _⟩ ⟨_, rfl, k⟩
      · have k := k.2 c5
        refine aw_iload_n (i := 3) rfl d_X12_doesSee_51 3 rfl ?_
        refine aw_aload_n (i := 0) rfl d_X12_doesSee_52 0 rfl ?_
        refine aw_getr (k0 := 40) kc_12 (ws_1 w) (Nat.le_of_ble_eq_true rfl) tw_1782 d_X12_doesSee_53 rfl (wr_1_40 w) ?_
        refine aw_iload d_X12_doesSee_56 5 rfl ?_
        obtain ⟨b22, k⟩ := k
        refine aw_iald (ws_229 w) b22 d_X12_doesSee_58 ?_
        refine aw_iadd d_X12_doesSee_59 ?_
        refine aw_istore_n (i := 3) rfl [(0, .ref 1), (1, .int x1), (2, .int x2), (3, .int (x3 + (h_i h 229 x5.toNatClampNeg))), (4, .int x4), (5, .int x5), (6, .int (h_i h 228 x5.toNatClampNeg))] d_X12_doesSee_60 (Nat.le_of_ble_eq_true rfl) rfl rfl ?_
        refine aw_goto (tgt := 161) d_X12_doesSee_61 rfl ?_
        refine aw_iinc (v := (x5 + 1)) [(0, .ref 1), (1, .int x1), (2, .int x2), (3, .int (x3 + (h_i h 229 x5.toNatClampNeg))), (4, .int x4), (5, .int (x5 + 1)), (6, .int (h_i h 228 x5.toNatClampNeg))] d_X12_doesSee_161 5 rfl rfl (Nat.le_of_ble_eq_true rfl) rfl rfl ?_
        refine aw_goto (tgt := 12) d_X12_doesSee_164 rfl ?_
        exact aw_lvp [0, 1, 2, 3, 4, 5] [(0, .ref 1), (1, .int x1), (2, .int x2), (3, .int (x3 + (h_i h 229 x5.toNatClampNeg))), (4, .int x4), (5, .int (x5 + 1))] rfl k
theorem t_X12_lent (d : Nat) (h : Hp_) (w : Wf h) (x1 : Int32) (K : Int32 → Hp_ → Prop) (k : (¬ (0 ≤ x1 ∧ x1 ≤ (h_i h 1 7) - 1) → K (-1) h) ∧ ((0 ≤ x1 ∧ x1 ≤ (h_i h 1 7) - 1) → Ci (m_X12_findLending (d + 2) 0 0) [.ref 1] h (fun r6 h4 => Wf h4 ∧ ((¬ r6 = 1000000000 → Ci (m_X12_codeAll (d + 0) 0 0) [.ref 1] h4 (fun r10 h8 => Wf h8 ∧ (AW (m_X12_lent (d + 3) 0 0) 0 0 30 [(0, .ref 1), (1, .int x1), (2, .int r10), (3, .int (-1)), (4, .int 0)] [] h8 (kI K)))) ∧ (r6 = 1000000000 → K (-1) h4))))) : Ci (m_X12_lent (d + 3) 0 0) [.ref 1, .int x1] h K := by
  refine Ct.of (fun _ _ _ => trivial) rfl (Nat.le_of_ble_eq_true rfl) ?_
  show AW (m_X12_lent (d + 3) 0 0) 0 0 0 [(0, .ref 1), (1, .int x1)] [] h (kI K)
  refine aw_aload_n (i := 0) rfl d_X12_lent_0 0 rfl ?_
  refine aw_iload_n (i := 1) rfl d_X12_lent_1 1 rfl ?_
  refine aw_Vi 1 [.int x1] [] d_X12_lent_2 (cV_X12_isMan (d + 1) 0 0) kc_12 (ws_1 w) tw_2163 rfl (rr0 (Nat.le_of_ble_eq_true rfl) (Nat.le_of_ble_eq_true rfl)) (Nat.le_of_ble_eq_true rfl) xs0 (s_X12_isMan _ _ w x1) (fun _ _ kk => ?_)
  obtain ⟨e1, e2⟩ := kk
  rw [e1, e2]
  refine aw_ifb_eq (tgt := 18) d_X12_lent_5 rfl (fun c3 => ?_) (fun c3 => ?_)
  · have k := k.1 c3
    refine aw_iconst (v := (-1)) d_X12_lent_18 ic_m1 ?_
    exact aw_iret rfl d_X12_lent_19 ⟨Nat.le_refl _, Nat.le_refl _⟩ ⟨_, rfl, k⟩
  · have k := k.2 c3
    refine aw_aload_n (i := 0) rfl d_X12_lent_8 0 rfl ?_
    refine aw_Vi 1 [] [] d_X12_lent_9 (cV_X12_findLending (d + 2) 0 0) kc_12 (ws_1 w) tw_2639 rfl (rr0 (Nat.le_of_ble_eq_true rfl) (Nat.le_of_ble_eq_true rfl)) (Nat.le_of_ble_eq_true rfl) xs0 k (fun r6 h4 kk => ?_)
    obtain ⟨w5, k⟩ := kk
    refine aw_ldcw (v := 1000000000) d_X12_lent_12 tw_2647 ?_
    refine aw_icmp_ne (tgt := 20) d_X12_lent_15 rfl (fun c7 => ?_) (fun c7 => ?_)
    · have k := k.1 c7
      refine aw_aload_n (i := 0) rfl d_X12_lent_20 0 rfl ?_
      refine aw_Vi 1 [] [] d_X12_lent_21 (cV_X12_codeAll (d + 0) 0 0) kc_12 (ws_1 w5) tw_2652 rfl (rr0 (Nat.le_of_ble_eq_true rfl) (Nat.le_of_ble_eq_true rfl)) (Nat.le_of_ble_eq_true rfl) xs0 k (fun r10 h8 kk => ?_)
      obtain ⟨w9, k⟩ := kk
      refine aw_istore_n (i := 2) rfl [(0, .ref 1), (1, .int x1), (2, .int r10)] d_X12_lent_24 (Nat.le_of_ble_eq_true rfl) rfl rfl ?_
      refine aw_iconst (v := (-1)) d_X12_lent_25 ic_m1 ?_
      refine aw_istore_n (i := 3) rfl [(0, .ref 1), (1, .int x1), (2, .int r10), (3, .int (-1))] d_X12_lent_26 (Nat.le_of_ble_eq_true rfl) rfl rfl ?_
      refine aw_iconst (v := 0) d_X12_lent_27 ic_0 ?_
      refine aw_istore [(0, .ref 1), (1, .int x1), (2, .int r10), (3, .int (-1)), (4, .int 0)] d_X12_lent_28 (Nat.le_of_ble_eq_true rfl) rfl rfl ?_
      exact k
    · have k := k.2 c7
      refine aw_iconst (v := (-1)) d_X12_lent_18 ic_m1 ?_
      exact aw_iret rfl d_X12_lent_19 ⟨Nat.le_refl _, Nat.le_refl _⟩ ⟨_, rfl, k⟩
theorem t_X12_lent_30 (d : Nat) (h : Hp_) (w : Wf h) (x1 : Int32) (x2 : Int32) (x3 : Int32) (x4 : Int32) (K : Int32 → Hp_ → Prop) (k : (x1 < x4 → K x3 h) ∧ (¬ x1 < x4 → AW (m_X12_lent (d + 3) 0 0) 0 0 46 [(0, .ref 1), (1, .int x1), (2, .int x2), (3, .int (-1)), (4, .int x4), (5, .int ((h_i h 1 119) - 1))] [] h (kI K))) : AW (m_X12_lent (d + 3) 0 0) 0 0 30 [(0, .ref 1), (1, .int x1), (2, .int x2), (3, .int x3), (4, .int x4)] [] h (kI K) := by
  refine aw_iload d_X12_lent_30 4 rfl ?_
  refine aw_iload_n (i := 1) rfl d_X12_lent_32 1 rfl ?_
  refine aw_icmp_gt (tgt := 170) d_X12_lent_33 rfl (fun c11 => ?_) (fun c11 => ?_)
  · have k := k.1 c11
    refine aw_iload_n (i := 3) rfl d_X12_lent_170 3 rfl ?_
    exact aw_iret rfl d_X12_lent_171 ⟨Nat.le_refl _, Nat.le_refl _⟩ ⟨_, rfl, k⟩
  · have k := k.2 c11
    refine aw_iconst (v := (-1)) d_X12_lent_36 ic_m1 ?_
    refine aw_istore_n (i := 3) rfl [(0, .ref 1), (1, .int x1), (2, .int x2), (3, .int (-1)), (4, .int x4)] d_X12_lent_37 (Nat.le_of_ble_eq_true rfl) rfl rfl ?_
    refine aw_aload_n (i := 0) rfl d_X12_lent_38 0 rfl ?_
    refine aw_geti (k0 := 119) kc_12 (ws_1 w) (Nat.le_of_ble_eq_true rfl) tw_1861 d_X12_lent_39 rfl ?_
    refine aw_iconst (v := 1) d_X12_lent_42 ic_1 ?_
    refine aw_isub d_X12_lent_43 ?_
    refine aw_istore [(0, .ref 1), (1, .int x1), (2, .int x2), (3, .int (-1)), (4, .int x4), (5, .int ((h_i h 1 119) - 1))] d_X12_lent_44 (Nat.le_of_ble_eq_true rfl) rfl rfl ?_
    exact k
theorem t_X12_lent_46 (d : Nat) (h : Hp_) (w : Wf h) (x1 : Int32) (x2 : Int32) (x3 : Int32) (x4 : Int32) (x5 : Int32) (K : Int32 → Hp_ → Prop) (k : (x5 < 0 → (¬ x3 = (-1) → AW (m_X12_lent (d + 3) 0 0) 0 0 30 [(0, .ref 1), (1, .int x1), (2, .int (x2 - ((1 : Int32) <<< ((2 * x3) &&& 31)))), (3, .int x3), (4, .int (x4 + 1))] [] h (kI K)) ∧ (x3 = (-1) → AW (m_X12_lent (d + 3) 0 0) 0 0 30 [(0, .ref 1), (1, .int x1), (2, .int (x2 - 0)), (3, .int x3), (4, .int (x4 + 1))] [] h (kI K))) ∧ (¬ x5 < 0 → vp_in ((4 * x4) + x5) 48 ∧ (Ci (m_X12_wanted (d + 0) 0 0) [.int x2, .int x5] h (fun r17 h15 => Wf h15 ∧ ((r17 = 0 → AW (m_X12_lent (d + 3) 0 0) 0 0 46 [(0, .ref 1), (1, .int x1), (2, .int x2), (3, .int x3), (4, .int x4), (5, .int (x5 + (-1)))] [] h15 (kI K)) ∧ (¬ r17 = 0 → (¬ (h_i h 292 (((4 * x4) + x5) : Int32).toNatClampNeg) = 1000000000 → vp_in (((256 * (x4 + 1)) + x2) - ((1 : Int32) <<< ((2 * x5) &&& 31))) 3328 ∧ ((1000000000 ≤ (h_i h15 291 ((((256 * (x4 + 1)) + x2) - ((1 : Int32) <<< ((2 * x5) &&& 31))) : Int32).toNatClampNeg) → AW (m_X12_lent (d + 3) 0 0) 0 0 46 [(0, .ref 1), (1, .int x1), (2, .int x2), (3, .int x3), (4, .int x4), (5, .int (x5 + (-1)))] [] h15 (kI K)) ∧ (¬ 1000000000 ≤ (h_i h15 291 ((((256 * (x4 + 1)) + x2) - ((1 : Int32) <<< ((2 * x5) &&& 31))) : Int32).toNatClampNeg) → vp_in ((256 * x4) + x2) 3328 ∧ ((¬ ((h_i h 292 (((4 * x4) + x5) : Int32).toNatClampNeg) + (h_i h15 291 ((((256 * (x4 + 1)) + x2) - ((1 : Int32) <<< ((2 * x5) &&& 31))) : Int32).toNatClampNeg)) = (h_i h15 291 (((256 * x4) + x2) : Int32).toNatClampNeg) → AW (m_X12_lent (d + 3) 0 0) 0 0 46 [(0, .ref 1), (1, .int x1), (2, .int x2), (3, .int x3), (4, .int x4), (5, .int (x5 + (-1)))] [] h15 (kI K)) ∧ (((h_i h 292 (((4 * x4) + x5) : Int32).toNatClampNeg) + (h_i h15 291 ((((256 * (x4 + 1)) + x2) - ((1 : Int32) <<< ((2 * x5) &&& 31))) : Int32).toNatClampNeg)) = (h_i h15 291 (((256 * x4) + x2) : Int32).toNatClampNeg) → AW (m_X12_lent (d + 3) 0 0) 0 0 46 [(0, .ref 1), (1, .int x1), (2, .int x2), (3, .int x5), (4, .int x4), (5, .int (x5 + (-1)))] [] h15 (kI K)))))) ∧ ((h_i h 292 (((4 * x4) + x5) : Int32).toNatClampNeg) = 1000000000 → AW (m_X12_lent (d + 3) 0 0) 0 0 46 [(0, .ref 1), (1, .int x1), (2, .int x2), (3, .int x3), (4, .int x4), (5, .int (x5 + (-1)))] [] h15 (kI K)))))))) : AW (m_X12_lent (d + 3) 0 0) 0 0 46 [(0, .ref 1), (1, .int x1), (2, .int x2), (3, .int x3), (4, .int x4), (5, .int x5)] [] h (kI K) := by
  refine aw_iload d_X12_lent_46 5 rfl ?_
  refine aw_if_lt (tgt := 147) d_X12_lent_48 rfl (fun c12 => ?_) (fun c12 => ?_)
  · have k := k.1 c12
    refine aw_iload_n (i := 2) rfl d_X12_lent_147 2 rfl ?_
    refine aw_iload_n (i := 3) rfl d_X12_lent_148 3 rfl ?_
    refine aw_iconst (v := (-1)) d_X12_lent_149 ic_m1 ?_
    refine aw_icmp_ne (tgt := 157) d_X12_lent_150 rfl (fun c13 => ?_) (fun c13 => ?_)
    · have k := k.1 c13
      refine aw_iconst (v := 1) d_X12_lent_157 ic_1 ?_
      refine aw_iconst (v := 2) d_X12_lent_158 ic_2 ?_
      refine aw_iload_n (i := 3) rfl d_X12_lent_159 3 rfl ?_
      refine aw_imul d_X12_lent_160 ?_
      refine aw_ishl d_X12_lent_161 ?_
      refine aw_isub d_X12_lent_162 ?_
      refine aw_istore_n (i := 2) rfl [(0, .ref 1), (1, .int x1), (2, .int (x2 - ((1 : Int32) <<< ((2 * x3) &&& 31)))), (3, .int x3), (4, .int x4), (5, .int x5)] d_X12_lent_163 (Nat.le_of_ble_eq_true rfl) rfl rfl ?_
      refine aw_iinc (v := (x4 + 1)) [(0, .ref 1), (1, .int x1), (2, .int (x2 - ((1 : Int32) <<< ((2 * x3) &&& 31)))), (3, .int x3), (4, .int (x4 + 1)), (5, .int x5)] d_X12_lent_164 4 rfl rfl (Nat.le_of_ble_eq_true rfl) rfl rfl ?_
      refine aw_goto (tgt := 30) d_X12_lent_167 rfl ?_
      exact aw_lvp [0, 1, 2, 3, 4] [(0, .ref 1), (1, .int x1), (2, .int (x2 - ((1 : Int32) <<< ((2 * x3) &&& 31)))), (3, .int x3), (4, .int (x4 + 1))] rfl k
    · have k := k.2 c13
      refine aw_iconst (v := 0) d_X12_lent_153 ic_0 ?_
      refine aw_goto (tgt := 162) d_X12_lent_154 rfl ?_
      refine aw_isub d_X12_lent_162 ?_
      refine aw_istore_n (i := 2) rfl [(0, .ref 1), (1, .int x1), (2, .int (x2 - 0)), (3, .int x3), (4, .int x4), (5, .int x5)] d_X12_lent_163 (Nat.le_of_ble_eq_true rfl) rfl rfl ?_
      refine aw_iinc (v := (x4 + 1)) [(0, .ref 1), (1, .int x1), (2, .int (x2 - 0)), (3, .int x3), (4, .int (x4 + 1)), (5, .int x5)] d_X12_lent_164 4 rfl rfl (Nat.le_of_ble_eq_true rfl) rfl rfl ?_
      refine aw_goto (tgt := 30) d_X12_lent_167 rfl ?_
      exact aw_lvp [0, 1, 2, 3, 4] [(0, .ref 1), (1, .int x1), (2, .int (x2 - 0)), (3, .int x3), (4, .int (x4 + 1))] rfl k
  · have k := k.2 c12
    refine aw_aload_n (i := 0) rfl d_X12_lent_51 0 rfl ?_
    refine aw_getr (k0 := 121) kc_12 (ws_1 w) (Nat.le_of_ble_eq_true rfl) tw_1863 d_X12_lent_52 rfl (wr_1_121 w) ?_
    refine aw_iconst (v := 4) d_X12_lent_55 ic_4 ?_
    refine aw_iload d_X12_lent_56 4 rfl ?_
    refine aw_imul d_X12_lent_58 ?_
    refine aw_iload d_X12_lent_59 5 rfl ?_
    refine aw_iadd d_X12_lent_61 ?_
    obtain ⟨b14, k⟩ := k
    refine aw_iald (ws_292 w) b14 d_X12_lent_62 ?_
    refine aw_istore [(0, .ref 1), (1, .int x1), (2, .int x2), (3, .int x3), (4, .int x4), (5, .int x5), (6, .int (h_i h 292 (((4 * x4) + x5) : Int32).toNatClampNeg))] d_X12_lent_63 (Nat.le_of_ble_eq_true rfl) rfl rfl ?_
    refine aw_iload_n (i := 2) rfl d_X12_lent_65 2 rfl ?_
    refine aw_iload d_X12_lent_66 5 rfl ?_
    refine aw_Si [.int x2, .int x5] [] d_X12_lent_68 (cS_X12_wanted (d + 0) 0 0) tw_2649 rfl (rr0 (Nat.le_of_ble_eq_true rfl) (Nat.le_of_ble_eq_true rfl)) (Nat.le_of_ble_eq_true rfl) xs0 k (fun r17 h15 kk => ?_)
    obtain ⟨w16, k⟩ := kk
    refine aw_if_eq (tgt := 141) d_X12_lent_71 rfl (fun c18 => ?_) (fun c18 => ?_)
    · have k := k.1 c18
      refine aw_iinc (v := (x5 + (-1))) [(0, .ref 1), (1, .int x1), (2, .int x2), (3, .int x3), (4, .int x4), (5, .int (x5 + (-1))), (6, .int (h_i h 292 (((4 * x4) + x5) : Int32).toNatClampNeg))] d_X12_lent_141 5 rfl rfl (Nat.le_of_ble_eq_true rfl) rfl rfl ?_
      refine aw_goto (tgt := 46) d_X12_lent_144 rfl ?_
      exact aw_lvp [0, 1, 2, 3, 4, 5] [(0, .ref 1), (1, .int x1), (2, .int x2), (3, .int x3), (4, .int x4), (5, .int (x5 + (-1)))] rfl k
    · have k := k.2 c18
      refine aw_iload d_X12_lent_74 6 rfl ?_
      refine aw_ldcw (v := 1000000000) d_X12_lent_76 tw_2647 ?_
      refine aw_icmp_ne (tgt := 85) d_X12_lent_79 rfl (fun c19 => ?_) (fun c19 => ?_)
      · have k := k.1 c19
        refine aw_aload_n (i := 0) rfl d_X12_lent_85 0 rfl ?_
        refine aw_getr (k0 := 120) kc_12 (ws_1 w16) (Nat.le_of_ble_eq_true rfl) tw_1862 d_X12_lent_86 rfl (wr_1_120 w16) ?_
        refine aw_sipush (v := 256) d_X12_lent_89 is_256 ?_
        refine aw_iload d_X12_lent_92 4 rfl ?_
        refine aw_iconst (v := 1) d_X12_lent_94 ic_1 ?_
        refine aw_iadd d_X12_lent_95 ?_
        refine aw_imul d_X12_lent_96 ?_
        refine aw_iload_n (i := 2) rfl d_X12_lent_97 2 rfl ?_
        refine aw_iadd d_X12_lent_98 ?_
        refine aw_iconst (v := 1) d_X12_lent_99 ic_1 ?_
        refine aw_iconst (v := 2) d_X12_lent_100 ic_2 ?_
        refine aw_iload d_X12_lent_101 5 rfl ?_
        refine aw_imul d_X12_lent_103 ?_
        refine aw_ishl d_X12_lent_104 ?_
        refine aw_isub d_X12_lent_105 ?_
        obtain ⟨b20, k⟩ := k
        refine aw_iald (ws_291 w16) b20 d_X12_lent_106 ?_
        refine aw_istore [(0, .ref 1), (1, .int x1), (2, .int x2), (3, .int x3), (4, .int x4), (5, .int x5), (6, .int (h_i h 292 (((4 * x4) + x5) : Int32).toNatClampNeg)), (7, .int (h_i h15 291 ((((256 * (x4 + 1)) + x2) - ((1 : Int32) <<< ((2 * x5) &&& 31))) : Int32).toNatClampNeg))] d_X12_lent_107 (Nat.le_of_ble_eq_true rfl) rfl rfl ?_
        refine aw_iload d_X12_lent_109 7 rfl ?_
        refine aw_ldcw (v := 1000000000) d_X12_lent_111 tw_2647 ?_
        refine aw_icmp_ge (tgt := 141) d_X12_lent_114 rfl (fun c21 => ?_) (fun c21 => ?_)
        · have k := k.1 c21
          refine aw_iinc (v := (x5 + (-1))) [(0, .ref 1), (1, .int x1), (2, .int x2), (3, .int x3), (4, .int x4), (5, .int (x5 + (-1))), (6, .int (h_i h 292 (((4 * x4) + x5) : Int32).toNatClampNeg)), (7, .int (h_i h15 291 ((((256 * (x4 + 1)) + x2) - ((1 : Int32) <<< ((2 * x5) &&& 31))) : Int32).toNatClampNeg))] d_X12_lent_141 5 rfl rfl (Nat.le_of_ble_eq_true rfl) rfl rfl ?_
          refine aw_goto (tgt := 46) d_X12_lent_144 rfl ?_
          exact aw_lvp [0, 1, 2, 3, 4, 5] [(0, .ref 1), (1, .int x1), (2, .int x2), (3, .int x3), (4, .int x4), (5, .int (x5 + (-1)))] rfl k
        · have k := k.2 c21
          refine aw_iload d_X12_lent_117 6 rfl ?_
          refine aw_iload d_X12_lent_119 7 rfl ?_
          refine aw_iadd d_X12_lent_121 ?_
          refine aw_aload_n (i := 0) rfl d_X12_lent_122 0 rfl ?_
          refine aw_getr (k0 := 120) kc_12 (ws_1 w16) (Nat.le_of_ble_eq_true rfl) tw_1862 d_X12_lent_123 rfl (wr_1_120 w16) ?_
          refine aw_sipush (v := 256) d_X12_lent_126 is_256 ?_
          refine aw_iload d_X12_lent_129 4 rfl ?_
          refine aw_imul d_X12_lent_131 ?_
          refine aw_iload_n (i := 2) rfl d_X12_lent_132 2 rfl ?_
          refine aw_iadd d_X12_lent_133 ?_
          obtain ⟨b22, k⟩ := k
          refine aw_iald (ws_291 w16) b22 d_X12_lent_134 ?_
          refine aw_icmp_ne (tgt := 141) d_X12_lent_135 rfl (fun c23 => ?_) (fun c23 => ?_)
          · have k := k.1 c23
            refine aw_iinc (v := (x5 + (-1))) [(0, .ref 1), (1, .int x1), (2, .int x2), (3, .int x3), (4, .int x4), (5, .int (x5 + (-1))), (6, .int (h_i h 292 (((4 * x4) + x5) : Int32).toNatClampNeg)), (7, .int (h_i h15 291 ((((256 * (x4 + 1)) + x2) - ((1 : Int32) <<< ((2 * x5) &&& 31))) : Int32).toNatClampNeg))] d_X12_lent_141 5 rfl rfl (Nat.le_of_ble_eq_true rfl) rfl rfl ?_
            refine aw_goto (tgt := 46) d_X12_lent_144 rfl ?_
            exact aw_lvp [0, 1, 2, 3, 4, 5] [(0, .ref 1), (1, .int x1), (2, .int x2), (3, .int x3), (4, .int x4), (5, .int (x5 + (-1)))] rfl k
          · have k := k.2 c23
            refine aw_iload d_X12_lent_138 5 rfl ?_
            refine aw_istore_n (i := 3) rfl [(0, .ref 1), (1, .int x1), (2, .int x2), (3, .int x5), (4, .int x4), (5, .int x5), (6, .int (h_i h 292 (((4 * x4) + x5) : Int32).toNatClampNeg)), (7, .int (h_i h15 291 ((((256 * (x4 + 1)) + x2) - ((1 : Int32) <<< ((2 * x5) &&& 31))) : Int32).toNatClampNeg))] d_X12_lent_140 (Nat.le_of_ble_eq_true rfl) rfl rfl ?_
            refine aw_iinc (v := (x5 + (-1))) [(0, .ref 1), (1, .int x1), (2, .int x2), (3, .int x5), (4, .int x4), (5, .int (x5 + (-1))), (6, .int (h_i h 292 (((4 * x4) + x5) : Int32).toNatClampNeg)), (7, .int (h_i h15 291 ((((256 * (x4 + 1)) + x2) - ((1 : Int32) <<< ((2 * x5) &&& 31))) : Int32).toNatClampNeg))] d_X12_lent_141 5 rfl rfl (Nat.le_of_ble_eq_true rfl) rfl rfl ?_
            refine aw_goto (tgt := 46) d_X12_lent_144 rfl ?_
            exact aw_lvp [0, 1, 2, 3, 4, 5] [(0, .ref 1), (1, .int x1), (2, .int x2), (3, .int x5), (4, .int x4), (5, .int (x5 + (-1)))] rfl k
      · have k := k.2 c19
        refine aw_goto (tgt := 141) d_X12_lent_82 rfl ?_
        refine aw_iinc (v := (x5 + (-1))) [(0, .ref 1), (1, .int x1), (2, .int x2), (3, .int x3), (4, .int x4), (5, .int (x5 + (-1))), (6, .int (h_i h 292 (((4 * x4) + x5) : Int32).toNatClampNeg))] d_X12_lent_141 5 rfl rfl (Nat.le_of_ble_eq_true rfl) rfl rfl ?_
        refine aw_goto (tgt := 46) d_X12_lent_144 rfl ?_
        exact aw_lvp [0, 1, 2, 3, 4, 5] [(0, .ref 1), (1, .int x1), (2, .int x2), (3, .int x3), (4, .int x4), (5, .int (x5 + (-1)))] rfl k
theorem t_X12_wanted (d : Nat) (h : Hp_) (x0 : Int32) (x1 : Int32) (K : Int32 → Hp_ → Prop) (k : K ((x0 >>> ((2 * x1) &&& 31)) &&& 3) h) : Ci (m_X12_wanted (d + 0) 0 0) [.int x0, .int x1] h K := by
  refine Ct.of (fun _ _ _ => trivial) rfl (Nat.le_of_ble_eq_true rfl) ?_
  show AW (m_X12_wanted (d + 0) 0 0) 0 0 0 [(0, .int x0), (1, .int x1)] [] h (kI K)
  refine aw_iload_n (i := 0) rfl d_X12_wanted_0 0 rfl ?_
  refine aw_iconst (v := 2) d_X12_wanted_1 ic_2 ?_
  refine aw_iload_n (i := 1) rfl d_X12_wanted_2 1 rfl ?_
  refine aw_imul d_X12_wanted_3 ?_
  refine aw_ishr d_X12_wanted_4 ?_
  refine aw_iconst (v := 3) d_X12_wanted_5 ic_3 ?_
  refine aw_iand d_X12_wanted_6 ?_
  exact aw_iret rfl d_X12_wanted_7 ⟨Nat.le_refl _, Nat.le_refl _⟩ ⟨_, rfl, k⟩
theorem t_X12_findShares (d : Nat) (h : Hp_) (w : Wf h) (x1 : Int32) (K : Int32 → Hp_ → Prop) (k : (¬ (1 ≤ x1 ∧ x1 ≤ (((1 : Int32) <<< ((h_i h 1 42) &&& 31)) - 1)) → (((1 : Int32) ≤ 0 ∧ (0 : Int32) ≤ 5) → AW (m_X12_findShares (d + 3) 0 0) 0 0 43 [(0, .ref 1), (1, .int x1), (3, .int 0)] [] (h_im h 1 113 0) (kI K)) ∧ (¬ ((1 : Int32) ≤ 0 ∧ (0 : Int32) ≤ 5) → K 0 h)) ∧ ((1 ≤ x1 ∧ x1 ≤ (((1 : Int32) <<< ((h_i h 1 42) &&& 31)) - 1)) → Ci (m_J6_bitCount_0f7a4 (d + 0) 0 0) [.int x1] h (fun r9 h7 => Wf h7 ∧ (((1 ≤ r9 ∧ r9 ≤ 5) → AW (m_X12_findShares (d + 3) 0 0) 0 0 43 [(0, .ref 1), (1, .int x1), (3, .int 0)] [] (h_im h7 1 113 0) (kI K)) ∧ (¬ (1 ≤ r9 ∧ r9 ≤ 5) → K 0 h7))))) : Ci (m_X12_findShares (d + 3) 0 0) [.ref 1, .int x1] h K := by
  refine Ct.of (fun _ _ _ => trivial) rfl (Nat.le_of_ble_eq_true rfl) ?_
  show AW (m_X12_findShares (d + 3) 0 0) 0 0 0 [(0, .ref 1), (1, .int x1)] [] h (kI K)
  refine aw_iload_n (i := 1) rfl d_X12_findShares_0 1 rfl ?_
  refine aw_iconst (v := 1) d_X12_findShares_1 ic_1 ?_
  refine aw_iconst (v := 1) d_X12_findShares_2 ic_1 ?_
  refine aw_aload_n (i := 0) rfl d_X12_findShares_3 0 rfl ?_
  refine aw_geti (k0 := 42) kc_12 (ws_1 w) (Nat.le_of_ble_eq_true rfl) tw_1784 d_X12_findShares_4 rfl ?_
  refine aw_ishl d_X12_findShares_7 ?_
  refine aw_iconst (v := 1) d_X12_findShares_8 ic_1 ?_
  refine aw_isub d_X12_findShares_9 ?_
  refine aw_Si [.int x1, .int 1, .int (((1 : Int32) <<< ((h_i h 1 42) &&& 31)) - 1)] [] d_X12_findShares_10 (cS_X12_in (d + 0) 0 0) tw_2143 rfl (rr0 (Nat.le_of_ble_eq_true rfl) (Nat.le_of_ble_eq_true rfl)) (Nat.le_of_ble_eq_true rfl) xs0 (s_X12_in _ _ x1 1 (((1 : Int32) <<< ((h_i h 1 42) &&& 31)) - 1)) (fun _ _ kk => ?_)
  obtain ⟨e1, e2⟩ := kk
  rw [e1, e2]
  refine aw_ifb_eq (tgt := 23) d_X12_findShares_13 rfl (fun c3 => ?_) (fun c3 => ?_)
  · have k := k.1 c3
    refine aw_iconst (v := 0) d_X12_findShares_23 ic_0 ?_
    refine aw_istore_n (i := 2) rfl [(0, .ref 1), (1, .int x1), (2, .int 0)] d_X12_findShares_24 (Nat.le_of_ble_eq_true rfl) rfl rfl ?_
    refine aw_iload_n (i := 2) rfl d_X12_findShares_25 2 rfl ?_
    refine aw_iconst (v := 1) d_X12_findShares_26 ic_1 ?_
    refine aw_iconst (v := 5) d_X12_findShares_27 ic_5 ?_
    refine aw_Si [.int 0, .int 1, .int 5] [] d_X12_findShares_28 (cS_X12_in (d + 0) 0 0) tw_2143 rfl (rr0 (Nat.le_of_ble_eq_true rfl) (Nat.le_of_ble_eq_true rfl)) (Nat.le_of_ble_eq_true rfl) xs0 (s_X12_in _ _ 0 1 5) (fun _ _ kk => ?_)
    obtain ⟨e4, e5⟩ := kk
    rw [e4, e5]
    refine aw_ifb_ne (tgt := 36) d_X12_findShares_31 rfl (fun c6 => ?_) (fun c6 => ?_)
    · have k := k.1 c6
      refine aw_aload_n (i := 0) rfl d_X12_findShares_36 0 rfl ?_
      refine aw_iconst (v := 0) d_X12_findShares_37 ic_0 ?_
      refine aw_puti (k0 := 113) kc_12 (ws_1 w) (Nat.le_of_ble_eq_true rfl) tw_1855 d_X12_findShares_38 rfl rfl nf_i ?_
      refine aw_iconst (v := 0) d_X12_findShares_41 ic_0 ?_
      refine aw_istore_n (i := 3) rfl [(0, .ref 1), (1, .int x1), (2, .int 0), (3, .int 0)] d_X12_findShares_42 (Nat.le_of_ble_eq_true rfl) rfl rfl ?_
      exact aw_lvp [0, 1, 3] [(0, .ref 1), (1, .int x1), (3, .int 0)] rfl k
    · have k := k.2 c6
      refine aw_iconst (v := 0) d_X12_findShares_34 ic_0 ?_
      exact aw_zret rfl rfl d_X12_findShares_35 ⟨Nat.le_refl _, Nat.le_refl _⟩ ⟨_, rfl, k⟩
  · have k := k.2 c3
    refine aw_iload_n (i := 1) rfl d_X12_findShares_16 1 rfl ?_
    refine aw_Si [.int x1] [] d_X12_findShares_17 (cS_J6_bitCount_0f7a4 (d + 0) 0 0) tw_2539 rfl (rr0 (Nat.le_of_ble_eq_true rfl) (Nat.le_of_ble_eq_true rfl)) (Nat.le_of_ble_eq_true rfl) xs0 k (fun r9 h7 kk => ?_)
    obtain ⟨w8, k⟩ := kk
    refine aw_goto (tgt := 24) d_X12_findShares_20 rfl ?_
    refine aw_istore_n (i := 2) rfl [(0, .ref 1), (1, .int x1), (2, .int r9)] d_X12_findShares_24 (Nat.le_of_ble_eq_true rfl) rfl rfl ?_
    refine aw_iload_n (i := 2) rfl d_X12_findShares_25 2 rfl ?_
    refine aw_iconst (v := 1) d_X12_findShares_26 ic_1 ?_
    refine aw_iconst (v := 5) d_X12_findShares_27 ic_5 ?_
    refine aw_Si [.int r9, .int 1, .int 5] [] d_X12_findShares_28 (cS_X12_in (d + 0) 0 0) tw_2143 rfl (rr0 (Nat.le_of_ble_eq_true rfl) (Nat.le_of_ble_eq_true rfl)) (Nat.le_of_ble_eq_true rfl) xs0 (s_X12_in _ _ r9 1 5) (fun _ _ kk => ?_)
    obtain ⟨e10, e11⟩ := kk
    rw [e10, e11]
    refine aw_ifb_ne (tgt := 36) d_X12_findShares_31 rfl (fun c12 => ?_) (fun c12 => ?_)
    · have k := k.1 c12
      refine aw_aload_n (i := 0) rfl d_X12_findShares_36 0 rfl ?_
      refine aw_iconst (v := 0) d_X12_findShares_37 ic_0 ?_
      refine aw_puti (k0 := 113) kc_12 (ws_1 w8) (Nat.le_of_ble_eq_true rfl) tw_1855 d_X12_findShares_38 rfl rfl nf_i ?_
      refine aw_iconst (v := 0) d_X12_findShares_41 ic_0 ?_
      refine aw_istore_n (i := 3) rfl [(0, .ref 1), (1, .int x1), (2, .int r9), (3, .int 0)] d_X12_findShares_42 (Nat.le_of_ble_eq_true rfl) rfl rfl ?_
      exact aw_lvp [0, 1, 3] [(0, .ref 1), (1, .int x1), (3, .int 0)] rfl k
    · have k := k.2 c12
      refine aw_iconst (v := 0) d_X12_findShares_34 ic_0 ?_
      exact aw_zret rfl rfl d_X12_findShares_35 ⟨Nat.le_refl _, Nat.le_refl _⟩ ⟨_, rfl, k⟩
theorem t_X12_findShares_43 (d : Nat) (h : Hp_) (w : Wf h) (x1 : Int32) (x3 : Int32) (K : Int32 → Hp_ → Prop) (k : ((h_i h 1 42) ≤ x3 → Cv (m_X12_share1 (d + 2) 0 0) [.ref 1, .int 0, .int 12] (h_im (h_im h 1 114 (-1)) 1 115 (-1)) (fun h14 => Wf h14 ∧ (K 1 h14))) ∧ (¬ (h_i h 1 42) ≤ x3 → (¬ ((x1 >>> (x3 &&& 31)) &&& 1) = 1 → AW (m_X12_findShares (d + 3) 0 0) 0 0 43 [(0, .ref 1), (1, .int x1), (3, .int (x3 + 1))] [] h (kI K)) ∧ (((x1 >>> (x3 &&& 31)) &&& 1) = 1 → vp_in (h_i h 1 113) 5 ∧ (vp_in (h_i h 1 113) 5 ∧ (AW (m_X12_findShares (d + 3) 0 0) 0 0 83 [(0, .ref 1), (1, .int x1), (3, .int x3), (4, .int 0)] [] (h_im (h_im h 284 ((h_i h 1 113) : Int32).toNatClampNeg x3) 287 ((h_i h 1 113) : Int32).toNatClampNeg 0) (kI K)))))) : AW (m_X12_findShares (d + 3) 0 0) 0 0 43 [(0, .ref 1), (1, .int x1), (3, .int x3)] [] h (kI K) := by
  refine aw_iload_n (i := 3) rfl d_X12_findShares_43 2 rfl ?_
  refine aw_aload_n (i := 0) rfl d_X12_findShares_44 0 rfl ?_
  refine aw_geti (k0 := 42) kc_12 (ws_1 w) (Nat.le_of_ble_eq_true rfl) tw_1784 d_X12_findShares_45 rfl ?_
  refine aw_icmp_ge (tgt := 144) d_X12_findShares_48 rfl (fun c13 => ?_) (fun c13 => ?_)
  · have k := k.1 c13
    refine aw_aload_n (i := 0) rfl d_X12_findShares_144 0 rfl ?_
    refine aw_iconst (v := (-1)) d_X12_findShares_145 ic_m1 ?_
    refine aw_puti (k0 := 114) kc_12 (ws_1 w) (Nat.le_of_ble_eq_true rfl) tw_1856 d_X12_findShares_146 rfl rfl nf_i ?_
    refine aw_aload_n (i := 0) rfl d_X12_findShares_149 0 rfl ?_
    refine aw_iconst (v := (-1)) d_X12_findShares_150 ic_m1 ?_
    refine aw_puti (k0 := 115) kc_12 (ws_1 w) (Nat.le_of_ble_eq_true rfl) tw_1857 d_X12_findShares_151 rfl rfl nf_i ?_
    refine aw_aload_n (i := 0) rfl d_X12_findShares_154 0 rfl ?_
    refine aw_iconst (v := 0) d_X12_findShares_155 ic_0 ?_
    refine aw_bipush (v := 12) d_X12_findShares_156 ib_12 ?_
    refine aw_Vv 1 [.int 0, .int 12] [] d_X12_findShares_158 (cV_X12_share1 (d + 2) 0 0) kc_12 (ws_1 w) tw_2615 rfl (rr0 (Nat.le_of_ble_eq_true rfl) (Nat.le_of_ble_eq_true rfl)) (Nat.le_of_ble_eq_true rfl) xs0 k (fun h14 kk => ?_)
    obtain ⟨w15, k⟩ := kk
    refine aw_iconst (v := 1) d_X12_findShares_161 ic_1 ?_
    exact aw_zret rfl rfl d_X12_findShares_162 ⟨Nat.le_refl _, Nat.le_refl _⟩ ⟨_, rfl, k⟩
  · have k := k.2 c13
    refine aw_iload_n (i := 1) rfl d_X12_findShares_51 1 rfl ?_
    refine aw_iload_n (i := 3) rfl d_X12_findShares_52 2 rfl ?_
    refine aw_ishr d_X12_findShares_53 ?_
    refine aw_iconst (v := 1) d_X12_findShares_54 ic_1 ?_
    refine aw_iand d_X12_findShares_55 ?_
    refine aw_iconst (v := 1) d_X12_findShares_56 ic_1 ?_
    refine aw_icmp_ne (tgt := 138) d_X12_findShares_57 rfl (fun c17 => ?_) (fun c17 => ?_)
    · have k := k.1 c17
      refine aw_iinc (v := (x3 + 1)) [(0, .ref 1), (1, .int x1), (3, .int (x3 + 1))] d_X12_findShares_138 2 rfl rfl (Nat.le_of_ble_eq_true rfl) rfl rfl ?_
      refine aw_goto (tgt := 43) d_X12_findShares_141 rfl ?_
      exact k
    · have k := k.2 c17
      refine aw_aload_n (i := 0) rfl d_X12_findShares_60 0 rfl ?_
      refine aw_getr (k0 := 109) kc_12 (ws_1 w) (Nat.le_of_ble_eq_true rfl) tw_1851 d_X12_findShares_61 rfl (wr_1_109 w) ?_
      refine aw_aload_n (i := 0) rfl d_X12_findShares_64 0 rfl ?_
      refine aw_geti (k0 := 113) kc_12 (ws_1 w) (Nat.le_of_ble_eq_true rfl) tw_1855 d_X12_findShares_65 rfl ?_
      refine aw_iload_n (i := 3) rfl d_X12_findShares_68 2 rfl ?_
      obtain ⟨b18, k⟩ := k
      refine aw_iast (ws_284 w) b18 d_X12_findShares_69 ?_
      refine aw_aload_n (i := 0) rfl d_X12_findShares_70 0 rfl ?_
      refine aw_getr (k0 := 112) kc_12 (ws_1 w) (Nat.le_of_ble_eq_true rfl) tw_1854 d_X12_findShares_71 rfl (wr_1_112 w) ?_
      refine aw_aload_n (i := 0) rfl d_X12_findShares_74 0 rfl ?_
      refine aw_geti (k0 := 113) kc_12 (ws_1 w) (Nat.le_of_ble_eq_true rfl) tw_1855 d_X12_findShares_75 rfl ?_
      refine aw_vi (v2 := (h_i h 1 113)) (rfl) ?_
      refine aw_iconst (v := 0) d_X12_findShares_78 ic_0 ?_
      obtain ⟨b19, k⟩ := k
      refine aw_iast (ws_287 w) b19 d_X12_findShares_79 ?_
      refine aw_iconst (v := 0) d_X12_findShares_80 ic_0 ?_
      refine aw_istore [(0, .ref 1), (1, .int x1), (3, .int x3), (4, .int 0)] d_X12_findShares_81 (Nat.le_of_ble_eq_true rfl) rfl rfl ?_
      exact k
theorem t_X12_findShares_83 (d : Nat) (h : Hp_) (w : Wf h) (x1 : Int32) (x3 : Int32) (x4 : Int32) (K : Int32 → Hp_ → Prop) (k : ((h_i h 1 108) ≤ x4 → AW (m_X12_findShares (d + 3) 0 0) 0 0 43 [(0, .ref 1), (1, .int x1), (3, .int (x3 + 1))] [] (h_im h 1 113 ((h_i h 1 113) + 1)) (kI K)) ∧ (¬ (h_i h 1 108) ≤ x4 → vp_in (h_i h 1 113) 5 ∧ (Ci (m_X12_doesSee (d + 1) 0 0) [.ref 1, .int x3, .int x4] h (fun r24 h22 => Wf h22 ∧ ((r24 = 0 → vp_in (h_i h 1 113) 5 ∧ (AW (m_X12_findShares (d + 3) 0 0) 0 0 83 [(0, .ref 1), (1, .int x1), (3, .int x3), (4, .int (x4 + 1))] [] (h_im h22 287 ((h_i h 1 113) : Int32).toNatClampNeg ((h_i h 287 ((h_i h 1 113) : Int32).toNatClampNeg) ||| 0)) (kI K))) ∧ (¬ r24 = 0 → vp_in (h_i h 1 113) 5 ∧ (AW (m_X12_findShares (d + 3) 0 0) 0 0 83 [(0, .ref 1), (1, .int x1), (3, .int x3), (4, .int (x4 + 1))] [] (h_im h22 287 ((h_i h 1 113) : Int32).toNatClampNeg ((h_i h 287 ((h_i h 1 113) : Int32).toNatClampNeg) ||| ((1 : Int32) <<< (x4 &&& 31)))) (kI K)))))))) : AW (m_X12_findShares (d + 3) 0 0) 0 0 83 [(0, .ref 1), (1, .int x1), (3, .int x3), (4, .int x4)] [] h (kI K) := by
  refine aw_iload d_X12_findShares_83 3 rfl ?_
  refine aw_aload_n (i := 0) rfl d_X12_findShares_85 0 rfl ?_
  refine aw_geti (k0 := 108) kc_12 (ws_1 w) (Nat.le_of_ble_eq_true rfl) tw_1850 d_X12_findShares_86 rfl ?_
  refine aw_icmp_ge (tgt := 128) d_X12_findShares_89 rfl (fun c20 => ?_) (fun c20 => ?_)
  · have k := k.1 c20
    refine aw_aload_n (i := 0) rfl d_X12_findShares_128 0 rfl ?_
    refine aw_dup d_X12_findShares_129 rfl ?_
    refine aw_geti (k0 := 113) kc_12 (ws_1 w) (Nat.le_of_ble_eq_true rfl) tw_1855 d_X12_findShares_130 rfl ?_
    refine aw_iconst (v := 1) d_X12_findShares_133 ic_1 ?_
    refine aw_iadd d_X12_findShares_134 ?_
    refine aw_puti (k0 := 113) kc_12 (ws_1 w) (Nat.le_of_ble_eq_true rfl) tw_1855 d_X12_findShares_135 rfl rfl nf_i ?_
    refine aw_iinc (v := (x3 + 1)) [(0, .ref 1), (1, .int x1), (3, .int (x3 + 1)), (4, .int x4)] d_X12_findShares_138 2 rfl rfl (Nat.le_of_ble_eq_true rfl) rfl rfl ?_
    refine aw_goto (tgt := 43) d_X12_findShares_141 rfl ?_
    exact aw_lvp [0, 1, 2] [(0, .ref 1), (1, .int x1), (3, .int (x3 + 1))] rfl k
  · have k := k.2 c20
    refine aw_aload_n (i := 0) rfl d_X12_findShares_92 0 rfl ?_
    refine aw_getr (k0 := 112) kc_12 (ws_1 w) (Nat.le_of_ble_eq_true rfl) tw_1854 d_X12_findShares_93 rfl (wr_1_112 w) ?_
    refine aw_aload_n (i := 0) rfl d_X12_findShares_96 0 rfl ?_
    refine aw_geti (k0 := 113) kc_12 (ws_1 w) (Nat.le_of_ble_eq_true rfl) tw_1855 d_X12_findShares_97 rfl ?_
    refine aw_dup2 d_X12_findShares_100 ⟨rfl, rfl⟩ ?_
    obtain ⟨b21, k⟩ := k
    refine aw_iald (ws_287 w) b21 d_X12_findShares_101 ?_
    refine aw_aload_n (i := 0) rfl d_X12_findShares_102 0 rfl ?_
    refine aw_iload_n (i := 3) rfl d_X12_findShares_103 2 rfl ?_
    refine aw_iload d_X12_findShares_104 3 rfl ?_
    refine aw_Vi 1 [.int x3, .int x4] [.int (h_i h 287 ((h_i h 1 113) : Int32).toNatClampNeg), .int (h_i h 1 113), .ref 287] d_X12_findShares_106 (cV_X12_doesSee (d + 1) 0 0) kc_12 (ws_1 w) tw_2603 rfl (rr0 (Nat.le_of_ble_eq_true rfl) (Nat.le_of_ble_eq_true rfl)) (Nat.le_of_ble_eq_true rfl) xs0 k (fun r24 h22 kk => ?_)
    obtain ⟨w23, k⟩ := kk
    refine aw_if_eq (tgt := 119) d_X12_findShares_109 rfl (fun c25 => ?_) (fun c25 => ?_)
    · have k := k.1 c25
      refine aw_iconst (v := 0) d_X12_findShares_119 ic_0 ?_
      refine aw_ior d_X12_findShares_120 ?_
      obtain ⟨b26, k⟩ := k
      refine aw_iast (ws_287 w23) b26 d_X12_findShares_121 ?_
      refine aw_iinc (v := (x4 + 1)) [(0, .ref 1), (1, .int x1), (3, .int x3), (4, .int (x4 + 1))] d_X12_findShares_122 3 rfl rfl (Nat.le_of_ble_eq_true rfl) rfl rfl ?_
      refine aw_goto (tgt := 83) d_X12_findShares_125 rfl ?_
      exact k
    · have k := k.2 c25
      refine aw_iconst (v := 1) d_X12_findShares_112 ic_1 ?_
      refine aw_iload d_X12_findShares_113 3 rfl ?_
      refine aw_ishl d_X12_findShares_115 ?_
      refine aw_goto (tgt := 120) d_X12_findShares_116 rfl ?_
      refine aw_ior d_X12_findShares_120 ?_
      obtain ⟨b27, k⟩ := k
      refine aw_iast (ws_287 w23) b27 d_X12_findShares_121 ?_
      refine aw_iinc (v := (x4 + 1)) [(0, .ref 1), (1, .int x1), (3, .int x3), (4, .int (x4 + 1))] d_X12_findShares_122 3 rfl rfl (Nat.le_of_ble_eq_true rfl) rfl rfl ?_
      refine aw_goto (tgt := 83) d_X12_findShares_125 rfl ?_
      exact k
end
section
theorem t_J6_bitCount_0f7a4 (d : Nat) (h : Hp_) (x0 : Int32) (K : Int32 → Hp_ → Prop) (k : K ((((((((x0 - (((x0.toUInt32 >>> ((1 : Int32).toUInt32 &&& Int32.toUInt32 31)).toInt32) &&& 1431655765)) &&& 858993459) + ((((x0 - (((x0.toUInt32 >>> ((1 : Int32).toUInt32 &&& Int32.toUInt32 31)).toInt32) &&& 1431655765)).toUInt32 >>> ((2 : Int32).toUInt32 &&& Int32.toUInt32 31)).toInt32) &&& 858993459)) + (((((x0 - (((x0.toUInt32 >>> ((1 : Int32).toUInt32 &&& Int32.toUInt32 31)).toInt32) &&& 1431655765)) &&& 858993459) + ((((x0 - (((x0.toUInt32 >>> ((1 : Int32).toUInt32 &&& Int32.toUInt32 31)).toInt32) &&& 1431655765)).toUInt32 >>> ((2 : Int32).toUInt32 &&& Int32.toUInt32 31)).toInt32) &&& 858993459)).toUInt32 >>> ((4 : Int32).toUInt32 &&& Int32.toUInt32 31)).toInt32)) &&& 252645135) + (((((((x0 - (((x0.toUInt32 >>> ((1 : Int32).toUInt32 &&& Int32.toUInt32 31)).toInt32) &&& 1431655765)) &&& 858993459) + ((((x0 - (((x0.toUInt32 >>> ((1 : Int32).toUInt32 &&& Int32.toUInt32 31)).toInt32) &&& 1431655765)).toUInt32 >>> ((2 : Int32).toUInt32 &&& Int32.toUInt32 31)).toInt32) &&& 858993459)) + (((((x0 - (((x0.toUInt32 >>> ((1 : Int32).toUInt32 &&& Int32.toUInt32 31)).toInt32) &&& 1431655765)) &&& 858993459) + ((((x0 - (((x0.toUInt32 >>> ((1 : Int32).toUInt32 &&& Int32.toUInt32 31)).toInt32) &&& 1431655765)).toUInt32 >>> ((2 : Int32).toUInt32 &&& Int32.toUInt32 31)).toInt32) &&& 858993459)).toUInt32 >>> ((4 : Int32).toUInt32 &&& Int32.toUInt32 31)).toInt32)) &&& 252645135).toUInt32 >>> ((8 : Int32).toUInt32 &&& Int32.toUInt32 31)).toInt32)) + ((((((((x0 - (((x0.toUInt32 >>> ((1 : Int32).toUInt32 &&& Int32.toUInt32 31)).toInt32) &&& 1431655765)) &&& 858993459) + ((((x0 - (((x0.toUInt32 >>> ((1 : Int32).toUInt32 &&& Int32.toUInt32 31)).toInt32) &&& 1431655765)).toUInt32 >>> ((2 : Int32).toUInt32 &&& Int32.toUInt32 31)).toInt32) &&& 858993459)) + (((((x0 - (((x0.toUInt32 >>> ((1 : Int32).toUInt32 &&& Int32.toUInt32 31)).toInt32) &&& 1431655765)) &&& 858993459) + ((((x0 - (((x0.toUInt32 >>> ((1 : Int32).toUInt32 &&& Int32.toUInt32 31)).toInt32) &&& 1431655765)).toUInt32 >>> ((2 : Int32).toUInt32 &&& Int32.toUInt32 31)).toInt32) &&& 858993459)).toUInt32 >>> ((4 : Int32).toUInt32 &&& Int32.toUInt32 31)).toInt32)) &&& 252645135) + (((((((x0 - (((x0.toUInt32 >>> ((1 : Int32).toUInt32 &&& Int32.toUInt32 31)).toInt32) &&& 1431655765)) &&& 858993459) + ((((x0 - (((x0.toUInt32 >>> ((1 : Int32).toUInt32 &&& Int32.toUInt32 31)).toInt32) &&& 1431655765)).toUInt32 >>> ((2 : Int32).toUInt32 &&& Int32.toUInt32 31)).toInt32) &&& 858993459)) + (((((x0 - (((x0.toUInt32 >>> ((1 : Int32).toUInt32 &&& Int32.toUInt32 31)).toInt32) &&& 1431655765)) &&& 858993459) + ((((x0 - (((x0.toUInt32 >>> ((1 : Int32).toUInt32 &&& Int32.toUInt32 31)).toInt32) &&& 1431655765)).toUInt32 >>> ((2 : Int32).toUInt32 &&& Int32.toUInt32 31)).toInt32) &&& 858993459)).toUInt32 >>> ((4 : Int32).toUInt32 &&& Int32.toUInt32 31)).toInt32)) &&& 252645135).toUInt32 >>> ((8 : Int32).toUInt32 &&& Int32.toUInt32 31)).toInt32)).toUInt32 >>> ((16 : Int32).toUInt32 &&& Int32.toUInt32 31)).toInt32)) &&& 63) h) : Ci (m_J6_bitCount_0f7a4 (d + 0) 0 0) [.int x0] h K := by
  refine Ct.of (fun _ _ _ => trivial) rfl (Nat.le_of_ble_eq_true rfl) ?_
  show AW (m_J6_bitCount_0f7a4 (d + 0) 0 0) 0 0 0 [(0, .int x0)] [] h (kI K)
  refine aw_iload_n (i := 0) rfl d_J6_bitCount_0f7a4_0 0 rfl ?_
  refine aw_iload_n (i := 0) rfl d_J6_bitCount_0f7a4_1 0 rfl ?_
  refine aw_iconst (v := 1) d_J6_bitCount_0f7a4_2 ic_1 ?_
  refine aw_iushr d_J6_bitCount_0f7a4_3 ?_
  refine aw_ldcw (v := 1431655765) d_J6_bitCount_0f7a4_4 tw_1268 ?_
  refine aw_iand d_J6_bitCount_0f7a4_7 ?_
  refine aw_isub d_J6_bitCount_0f7a4_8 ?_
  refine aw_istore_n (i := 0) rfl [(0, .int (x0 - (((x0.toUInt32 >>> ((1 : Int32).toUInt32 &&& Int32.toUInt32 31)).toInt32) &&& 1431655765)))] d_J6_bitCount_0f7a4_9 (Nat.le_of_ble_eq_true rfl) rfl rfl ?_
  refine aw_iload_n (i := 0) rfl d_J6_bitCount_0f7a4_10 0 rfl ?_
  refine aw_ldcw (v := 858993459) d_J6_bitCount_0f7a4_11 tw_1269 ?_
  refine aw_iand d_J6_bitCount_0f7a4_14 ?_
  refine aw_iload_n (i := 0) rfl d_J6_bitCount_0f7a4_15 0 rfl ?_
  refine aw_iconst (v := 2) d_J6_bitCount_0f7a4_16 ic_2 ?_
  refine aw_iushr d_J6_bitCount_0f7a4_17 ?_
  refine aw_ldcw (v := 858993459) d_J6_bitCount_0f7a4_18 tw_1269 ?_
  refine aw_iand d_J6_bitCount_0f7a4_21 ?_
  refine aw_iadd d_J6_bitCount_0f7a4_22 ?_
  refine aw_istore_n (i := 0) rfl [(0, .int (((x0 - (((x0.toUInt32 >>> ((1 : Int32).toUInt32 &&& Int32.toUInt32 31)).toInt32) &&& 1431655765)) &&& 858993459) + ((((x0 - (((x0.toUInt32 >>> ((1 : Int32).toUInt32 &&& Int32.toUInt32 31)).toInt32) &&& 1431655765)).toUInt32 >>> ((2 : Int32).toUInt32 &&& Int32.toUInt32 31)).toInt32) &&& 858993459)))] d_J6_bitCount_0f7a4_23 (Nat.le_of_ble_eq_true rfl) rfl rfl ?_
  refine aw_iload_n (i := 0) rfl d_J6_bitCount_0f7a4_24 0 rfl ?_
  refine aw_iload_n (i := 0) rfl d_J6_bitCount_0f7a4_25 0 rfl ?_
  refine aw_iconst (v := 4) d_J6_bitCount_0f7a4_26 ic_4 ?_
  refine aw_iushr d_J6_bitCount_0f7a4_27 ?_
  refine aw_iadd d_J6_bitCount_0f7a4_28 ?_
  refine aw_ldcw (v := 252645135) d_J6_bitCount_0f7a4_29 tw_1270 ?_
  refine aw_iand d_J6_bitCount_0f7a4_32 ?_
  refine aw_istore_n (i := 0) rfl [(0, .int (((((x0 - (((x0.toUInt32 >>> ((1 : Int32).toUInt32 &&& Int32.toUInt32 31)).toInt32) &&& 1431655765)) &&& 858993459) + ((((x0 - (((x0.toUInt32 >>> ((1 : Int32).toUInt32 &&& Int32.toUInt32 31)).toInt32) &&& 1431655765)).toUInt32 >>> ((2 : Int32).toUInt32 &&& Int32.toUInt32 31)).toInt32) &&& 858993459)) + (((((x0 - (((x0.toUInt32 >>> ((1 : Int32).toUInt32 &&& Int32.toUInt32 31)).toInt32) &&& 1431655765)) &&& 858993459) + ((((x0 - (((x0.toUInt32 >>> ((1 : Int32).toUInt32 &&& Int32.toUInt32 31)).toInt32) &&& 1431655765)).toUInt32 >>> ((2 : Int32).toUInt32 &&& Int32.toUInt32 31)).toInt32) &&& 858993459)).toUInt32 >>> ((4 : Int32).toUInt32 &&& Int32.toUInt32 31)).toInt32)) &&& 252645135))] d_J6_bitCount_0f7a4_33 (Nat.le_of_ble_eq_true rfl) rfl rfl ?_
  refine aw_iload_n (i := 0) rfl d_J6_bitCount_0f7a4_34 0 rfl ?_
  refine aw_iload_n (i := 0) rfl d_J6_bitCount_0f7a4_35 0 rfl ?_
  refine aw_bipush (v := 8) d_J6_bitCount_0f7a4_36 ib_8 ?_
  refine aw_iushr d_J6_bitCount_0f7a4_38 ?_
  refine aw_iadd d_J6_bitCount_0f7a4_39 ?_
  refine aw_istore_n (i := 0) rfl [(0, .int ((((((x0 - (((x0.toUInt32 >>> ((1 : Int32).toUInt32 &&& Int32.toUInt32 31)).toInt32) &&& 1431655765)) &&& 858993459) + ((((x0 - (((x0.toUInt32 >>> ((1 : Int32).toUInt32 &&& Int32.toUInt32 31)).toInt32) &&& 1431655765)).toUInt32 >>> ((2 : Int32).toUInt32 &&& Int32.toUInt32 31)).toInt32) &&& 858993459)) + (((((x0 - (((x0.toUInt32 >>> ((1 : Int32).toUInt32 &&& Int32.toUInt32 31)).toInt32) &&& 1431655765)) &&& 858993459) + ((((x0 - (((x0.toUInt32 >>> ((1 : Int32).toUInt32 &&& Int32.toUInt32 31)).toInt32) &&& 1431655765)).toUInt32 >>> ((2 : Int32).toUInt32 &&& Int32.toUInt32 31)).toInt32) &&& 858993459)).toUInt32 >>> ((4 : Int32).toUInt32 &&& Int32.toUInt32 31)).toInt32)) &&& 252645135) + (((((((x0 - (((x0.toUInt32 >>> ((1 : Int32).toUInt32 &&& Int32.toUInt32 31)).toInt32) &&& 1431655765)) &&& 858993459) + ((((x0 - (((x0.toUInt32 >>> ((1 : Int32).toUInt32 &&& Int32.toUInt32 31)).toInt32) &&& 1431655765)).toUInt32 >>> ((2 : Int32).toUInt32 &&& Int32.toUInt32 31)).toInt32) &&& 858993459)) + (((((x0 - (((x0.toUInt32 >>> ((1 : Int32).toUInt32 &&& Int32.toUInt32 31)).toInt32) &&& 1431655765)) &&& 858993459) + ((((x0 - (((x0.toUInt32 >>> ((1 : Int32).toUInt32 &&& Int32.toUInt32 31)).toInt32) &&& 1431655765)).toUInt32 >>> ((2 : Int32).toUInt32 &&& Int32.toUInt32 31)).toInt32) &&& 858993459)).toUInt32 >>> ((4 : Int32).toUInt32 &&& Int32.toUInt32 31)).toInt32)) &&& 252645135).toUInt32 >>> ((8 : Int32).toUInt32 &&& Int32.toUInt32 31)).toInt32)))] d_J6_bitCount_0f7a4_40 (Nat.le_of_ble_eq_true rfl) rfl rfl ?_
  refine aw_iload_n (i := 0) rfl d_J6_bitCount_0f7a4_41 0 rfl ?_
  refine aw_iload_n (i := 0) rfl d_J6_bitCount_0f7a4_42 0 rfl ?_
  refine aw_bipush (v := 16) d_J6_bitCount_0f7a4_43 ib_16 ?_
  refine aw_iushr d_J6_bitCount_0f7a4_45 ?_
  refine aw_iadd d_J6_bitCount_0f7a4_46 ?_
  refine aw_istore_n (i := 0) rfl [(0, .int (((((((x0 - (((x0.toUInt32 >>> ((1 : Int32).toUInt32 &&& Int32.toUInt32 31)).toInt32) &&& 1431655765)) &&& 858993459) + ((((x0 - (((x0.toUInt32 >>> ((1 : Int32).toUInt32 &&& Int32.toUInt32 31)).toInt32) &&& 1431655765)).toUInt32 >>> ((2 : Int32).toUInt32 &&& Int32.toUInt32 31)).toInt32) &&& 858993459)) + (((((x0 - (((x0.toUInt32 >>> ((1 : Int32).toUInt32 &&& Int32.toUInt32 31)).toInt32) &&& 1431655765)) &&& 858993459) + ((((x0 - (((x0.toUInt32 >>> ((1 : Int32).toUInt32 &&& Int32.toUInt32 31)).toInt32) &&& 1431655765)).toUInt32 >>> ((2 : Int32).toUInt32 &&& Int32.toUInt32 31)).toInt32) &&& 858993459)).toUInt32 >>> ((4 : Int32).toUInt32 &&& Int32.toUInt32 31)).toInt32)) &&& 252645135) + (((((((x0 - (((x0.toUInt32 >>> ((1 : Int32).toUInt32 &&& Int32.toUInt32 31)).toInt32) &&& 1431655765)) &&& 858993459) + ((((x0 - (((x0.toUInt32 >>> ((1 : Int32).toUInt32 &&& Int32.toUInt32 31)).toInt32) &&& 1431655765)).toUInt32 >>> ((2 : Int32).toUInt32 &&& Int32.toUInt32 31)).toInt32) &&& 858993459)) + (((((x0 - (((x0.toUInt32 >>> ((1 : Int32).toUInt32 &&& Int32.toUInt32 31)).toInt32) &&& 1431655765)) &&& 858993459) + ((((x0 - (((x0.toUInt32 >>> ((1 : Int32).toUInt32 &&& Int32.toUInt32 31)).toInt32) &&& 1431655765)).toUInt32 >>> ((2 : Int32).toUInt32 &&& Int32.toUInt32 31)).toInt32) &&& 858993459)).toUInt32 >>> ((4 : Int32).toUInt32 &&& Int32.toUInt32 31)).toInt32)) &&& 252645135).toUInt32 >>> ((8 : Int32).toUInt32 &&& Int32.toUInt32 31)).toInt32)) + ((((((((x0 - (((x0.toUInt32 >>> ((1 : Int32).toUInt32 &&& Int32.toUInt32 31)).toInt32) &&& 1431655765)) &&& 858993459) + ((((x0 - (((x0.toUInt32 >>> ((1 : Int32).toUInt32 &&& Int32.toUInt32 31)).toInt32) &&& 1431655765)).toUInt32 >>> ((2 : Int32).toUInt32 &&& Int32.toUInt32 31)).toInt32) &&& 858993459)) + (((((x0 - (((x0.toUInt32 >>> ((1 : Int32).toUInt32 &&& Int32.toUInt32 31)).toInt32) &&& 1431655765)) &&& 858993459) + ((((x0 - (((x0.toUInt32 >>> ((1 : Int32).toUInt32 &&& Int32.toUInt32 31)).toInt32) &&& 1431655765)).toUInt32 >>> ((2 : Int32).toUInt32 &&& Int32.toUInt32 31)).toInt32) &&& 858993459)).toUInt32 >>> ((4 : Int32).toUInt32 &&& Int32.toUInt32 31)).toInt32)) &&& 252645135) + (((((((x0 - (((x0.toUInt32 >>> ((1 : Int32).toUInt32 &&& Int32.toUInt32 31)).toInt32) &&& 1431655765)) &&& 858993459) + ((((x0 - (((x0.toUInt32 >>> ((1 : Int32).toUInt32 &&& Int32.toUInt32 31)).toInt32) &&& 1431655765)).toUInt32 >>> ((2 : Int32).toUInt32 &&& Int32.toUInt32 31)).toInt32) &&& 858993459)) + (((((x0 - (((x0.toUInt32 >>> ((1 : Int32).toUInt32 &&& Int32.toUInt32 31)).toInt32) &&& 1431655765)) &&& 858993459) + ((((x0 - (((x0.toUInt32 >>> ((1 : Int32).toUInt32 &&& Int32.toUInt32 31)).toInt32) &&& 1431655765)).toUInt32 >>> ((2 : Int32).toUInt32 &&& Int32.toUInt32 31)).toInt32) &&& 858993459)).toUInt32 >>> ((4 : Int32).toUInt32 &&& Int32.toUInt32 31)).toInt32)) &&& 252645135).toUInt32 >>> ((8 : Int32).toUInt32 &&& Int32.toUInt32 31)).toInt32)).toUInt32 >>> ((16 : Int32).toUInt32 &&& Int32.toUInt32 31)).toInt32)))] d_J6_bitCount_0f7a4_47 (Nat.le_of_ble_eq_true rfl) rfl rfl ?_
  refine aw_iload_n (i := 0) rfl d_J6_bitCount_0f7a4_48 0 rfl ?_
  refine aw_bipush (v := 63) d_J6_bitCount_0f7a4_49 ib_63 ?_
  refine aw_iand d_J6_bitCount_0f7a4_51 ?_
  exact aw_iret rfl d_J6_bitCount_0f7a4_52 ⟨Nat.le_refl _, Nat.le_refl _⟩ ⟨_, rfl, k⟩
/-! bits counted -/
noncomputable def bcv (x : Int32) : Int32 := ((((((((x - (((x.toUInt32 >>> ((1 : Int32).toUInt32 &&& Int32.toUInt32 31)).toInt32) &&& 1431655765)) &&& 858993459) + ((((x - (((x.toUInt32 >>> ((1 : Int32).toUInt32 &&& Int32.toUInt32 31)).toInt32) &&& 1431655765)).toUInt32 >>> ((2 : Int32).toUInt32 &&& Int32.toUInt32 31)).toInt32) &&& 858993459)) + (((((x - (((x.toUInt32 >>> ((1 : Int32).toUInt32 &&& Int32.toUInt32 31)).toInt32) &&& 1431655765)) &&& 858993459) + ((((x - (((x.toUInt32 >>> ((1 : Int32).toUInt32 &&& Int32.toUInt32 31)).toInt32) &&& 1431655765)).toUInt32 >>> ((2 : Int32).toUInt32 &&& Int32.toUInt32 31)).toInt32) &&& 858993459)).toUInt32 >>> ((4 : Int32).toUInt32 &&& Int32.toUInt32 31)).toInt32)) &&& 252645135) + (((((((x - (((x.toUInt32 >>> ((1 : Int32).toUInt32 &&& Int32.toUInt32 31)).toInt32) &&& 1431655765)) &&& 858993459) + ((((x - (((x.toUInt32 >>> ((1 : Int32).toUInt32 &&& Int32.toUInt32 31)).toInt32) &&& 1431655765)).toUInt32 >>> ((2 : Int32).toUInt32 &&& Int32.toUInt32 31)).toInt32) &&& 858993459)) + (((((x - (((x.toUInt32 >>> ((1 : Int32).toUInt32 &&& Int32.toUInt32 31)).toInt32) &&& 1431655765)) &&& 858993459) + ((((x - (((x.toUInt32 >>> ((1 : Int32).toUInt32 &&& Int32.toUInt32 31)).toInt32) &&& 1431655765)).toUInt32 >>> ((2 : Int32).toUInt32 &&& Int32.toUInt32 31)).toInt32) &&& 858993459)).toUInt32 >>> ((4 : Int32).toUInt32 &&& Int32.toUInt32 31)).toInt32)) &&& 252645135).toUInt32 >>> ((8 : Int32).toUInt32 &&& Int32.toUInt32 31)).toInt32)) + ((((((((x - (((x.toUInt32 >>> ((1 : Int32).toUInt32 &&& Int32.toUInt32 31)).toInt32) &&& 1431655765)) &&& 858993459) + ((((x - (((x.toUInt32 >>> ((1 : Int32).toUInt32 &&& Int32.toUInt32 31)).toInt32) &&& 1431655765)).toUInt32 >>> ((2 : Int32).toUInt32 &&& Int32.toUInt32 31)).toInt32) &&& 858993459)) + (((((x - (((x.toUInt32 >>> ((1 : Int32).toUInt32 &&& Int32.toUInt32 31)).toInt32) &&& 1431655765)) &&& 858993459) + ((((x - (((x.toUInt32 >>> ((1 : Int32).toUInt32 &&& Int32.toUInt32 31)).toInt32) &&& 1431655765)).toUInt32 >>> ((2 : Int32).toUInt32 &&& Int32.toUInt32 31)).toInt32) &&& 858993459)).toUInt32 >>> ((4 : Int32).toUInt32 &&& Int32.toUInt32 31)).toInt32)) &&& 252645135) + (((((((x - (((x.toUInt32 >>> ((1 : Int32).toUInt32 &&& Int32.toUInt32 31)).toInt32) &&& 1431655765)) &&& 858993459) + ((((x - (((x.toUInt32 >>> ((1 : Int32).toUInt32 &&& Int32.toUInt32 31)).toInt32) &&& 1431655765)).toUInt32 >>> ((2 : Int32).toUInt32 &&& Int32.toUInt32 31)).toInt32) &&& 858993459)) + (((((x - (((x.toUInt32 >>> ((1 : Int32).toUInt32 &&& Int32.toUInt32 31)).toInt32) &&& 1431655765)) &&& 858993459) + ((((x - (((x.toUInt32 >>> ((1 : Int32).toUInt32 &&& Int32.toUInt32 31)).toInt32) &&& 1431655765)).toUInt32 >>> ((2 : Int32).toUInt32 &&& Int32.toUInt32 31)).toInt32) &&& 858993459)).toUInt32 >>> ((4 : Int32).toUInt32 &&& Int32.toUInt32 31)).toInt32)) &&& 252645135).toUInt32 >>> ((8 : Int32).toUInt32 &&& Int32.toUInt32 31)).toInt32)).toUInt32 >>> ((16 : Int32).toUInt32 &&& Int32.toUInt32 31)).toInt32)) &&& 63)
theorem c_bitCount (d : Nat) (h : Hp_) (x : Int32) : Ci (m_J6_bitCount_0f7a4 (d + 0) 0 0) [.int x] h (fun r h' => r = bcv x ∧ h' = h) := t_J6_bitCount_0f7a4 d h x _ ⟨rfl, rfl⟩
/-- how many of the places below b of the number s hold a 1 -/
noncomputable def cnt (s : Nat) : Nat → Nat
  | 0 => 0
  | b + 1 => cnt s b + s / 2 ^ b % 2
theorem cnt_all : (List.range 4096).all (fun s => (Nat.ble s 0 || Nat.ble 1 (cnt s 12)) && (!(decide (1 ≤ (bcv (Int32.ofNat s)).toInt ∧ (bcv (Int32.ofNat s)).toInt ≤ 5)) || Nat.ble (cnt s 12) 5)) = true := by decide +kernel
theorem cnt_mono (s : Nat) : ∀ {b c : Nat}, b ≤ c → cnt s b ≤ cnt s c := by
  intro b c h
  induction h with
  | refl => exact Nat.le_refl _
  | step _ ih => exact Nat.le_trans ih (Nat.le_add_right _ _)
theorem cnt_top {s b : Nat} (h : s < 2 ^ b) : ∀ {c : Nat}, b ≤ c → cnt s c = cnt s b := by
  intro c hc
  induction hc with
  | refl => rfl
  | @step m hm ih =>
    show cnt s m + s / 2 ^ m % 2 = _
    have : 2 ^ b ≤ 2 ^ m := Nat.pow_le_pow_right (by omega) hm
    rw [Nat.div_eq_of_lt (by omega), ih]
    rfl
end
section
theorem ci_m1000000 : (-1000000 : Int32).toInt = -1000000 := by decide
theorem ci_m1000 : (-1000 : Int32).toInt = -1000 := by decide
theorem ci_m257 : (-257 : Int32).toInt = -257 := by decide
theorem ci_m2 : (-2 : Int32).toInt = -2 := by decide
theorem ci_m1 : (-1 : Int32).toInt = -1 := by decide
theorem ci_0 : (0 : Int32).toInt = 0 := by decide
theorem ci_1 : (1 : Int32).toInt = 1 := by decide
theorem ci_2 : (2 : Int32).toInt = 2 := by decide
theorem ci_3 : (3 : Int32).toInt = 3 := by decide
theorem ci_4 : (4 : Int32).toInt = 4 := by decide
theorem ci_5 : (5 : Int32).toInt = 5 := by decide
theorem ci_6 : (6 : Int32).toInt = 6 := by decide
theorem ci_7 : (7 : Int32).toInt = 7 := by decide
theorem ci_8 : (8 : Int32).toInt = 8 := by decide
theorem ci_9 : (9 : Int32).toInt = 9 := by decide
theorem ci_10 : (10 : Int32).toInt = 10 := by decide
theorem ci_11 : (11 : Int32).toInt = 11 := by decide
theorem ci_12 : (12 : Int32).toInt = 12 := by decide
theorem ci_13 : (13 : Int32).toInt = 13 := by decide
theorem ci_14 : (14 : Int32).toInt = 14 := by decide
theorem ci_15 : (15 : Int32).toInt = 15 := by decide
theorem ci_16 : (16 : Int32).toInt = 16 := by decide
theorem ci_17 : (17 : Int32).toInt = 17 := by decide
theorem ci_20 : (20 : Int32).toInt = 20 := by decide
theorem ci_24 : (24 : Int32).toInt = 24 := by decide
theorem ci_30 : (30 : Int32).toInt = 30 := by decide
theorem ci_31 : (31 : Int32).toInt = 31 := by decide
theorem ci_32 : (32 : Int32).toInt = 32 := by decide
theorem ci_33 : (33 : Int32).toInt = 33 := by decide
theorem ci_38 : (38 : Int32).toInt = 38 := by decide
theorem ci_40 : (40 : Int32).toInt = 40 := by decide
theorem ci_41 : (41 : Int32).toInt = 41 := by decide
theorem ci_42 : (42 : Int32).toInt = 42 := by decide
theorem ci_48 : (48 : Int32).toInt = 48 := by decide
theorem ci_57 : (57 : Int32).toInt = 57 := by decide
theorem ci_59 : (59 : Int32).toInt = 59 := by decide
theorem ci_60 : (60 : Int32).toInt = 60 := by decide
theorem ci_61 : (61 : Int32).toInt = 61 := by decide
theorem ci_62 : (62 : Int32).toInt = 62 := by decide
theorem ci_63 : (63 : Int32).toInt = 63 := by decide
theorem ci_80 : (80 : Int32).toInt = 80 := by decide
theorem ci_91 : (91 : Int32).toInt = 91 := by decide
theorem ci_93 : (93 : Int32).toInt = 93 := by decide
theorem ci_97 : (97 : Int32).toInt = 97 := by decide
theorem ci_99 : (99 : Int32).toInt = 99 := by decide
theorem ci_109 : (109 : Int32).toInt = 109 := by decide
theorem ci_116 : (116 : Int32).toInt = 116 := by decide
theorem ci_120 : (120 : Int32).toInt = 120 := by decide
theorem ci_121 : (121 : Int32).toInt = 121 := by decide
theorem ci_124 : (124 : Int32).toInt = 124 := by decide
theorem ci_150 : (150 : Int32).toInt = 150 := by decide
theorem ci_160 : (160 : Int32).toInt = 160 := by decide
theorem ci_164 : (164 : Int32).toInt = 164 := by decide
theorem ci_200 : (200 : Int32).toInt = 200 := by decide
theorem ci_240 : (240 : Int32).toInt = 240 := by decide
theorem ci_255 : (255 : Int32).toInt = 255 := by decide
theorem ci_256 : (256 : Int32).toInt = 256 := by decide
theorem ci_300 : (300 : Int32).toInt = 300 := by decide
theorem ci_400 : (400 : Int32).toInt = 400 := by decide
theorem ci_600 : (600 : Int32).toInt = 600 := by decide
theorem ci_1440 : (1440 : Int32).toInt = 1440 := by decide
theorem ci_9999 : (9999 : Int32).toInt = 9999 := by decide
theorem ci_10000 : (10000 : Int32).toInt = 10000 := by decide
theorem ci_20000 : (20000 : Int32).toInt = 20000 := by decide
theorem ci_20001 : (20001 : Int32).toInt = 20001 := by decide
theorem ci_30000 : (30000 : Int32).toInt = 30000 := by decide
theorem ci_100000 : (100000 : Int32).toInt = 100000 := by decide
theorem ci_1000000 : (1000000 : Int32).toInt = 1000000 := by decide
theorem ci_252645135 : (252645135 : Int32).toInt = 252645135 := by decide
theorem ci_858993459 : (858993459 : Int32).toInt = 858993459 := by decide
theorem ci_1000000000 : (1000000000 : Int32).toInt = 1000000000 := by decide
theorem ci_1431655765 : (1431655765 : Int32).toInt = 1431655765 := by decide
theorem cj_m8 : (Int32.ofInt (-8)).toInt = -8 := by decide
theorem cj_m1 : (Int32.ofInt (-1)).toInt = -1 := by decide
theorem cj_1 : (Int32.ofInt (1)).toInt = 1 := by decide
end
section
noncomputable def wz_J6_bitCount_0f7a4 : List Nat := []
noncomputable def q_J6_bitCount_0f7a4 : Ctr := ([.inl (((-2147483648), 2147483647), (0, 0), none)], [], (some (.inl ((0, 63), (0, 0), none))), [], wz_J6_bitCount_0f7a4)
noncomputable def k_J6_bitCount_0f7a4 : List (Nat × Fx) := [(0, x_iload 0 1), (1, x_iload 0 2), (2, x_push (1, 1) 3), (3, x_bin o_top 4), (4, x_push (1431655765, 1431655765) 7), (7, x_bin o_and 8), (8, x_bin o_sub 9), (9, x_istore 0 10), (10, x_iload 0 11), (11, x_push (858993459, 858993459) 14), (14, x_bin o_and 15), (15, x_iload 0 16), (16, x_push (2, 2) 17), (17, x_bin o_top 18), (18, x_push (858993459, 858993459) 21), (21, x_bin o_and 22), (22, x_add 23), (23, x_istore 0 24), (24, x_iload 0 25), (25, x_iload 0 26), (26, x_push (4, 4) 27), (27, x_bin o_top 28), (28, x_add 29), (29, x_push (252645135, 252645135) 32), (32, x_bin o_and 33), (33, x_istore 0 34), (34, x_iload 0 35), (35, x_iload 0 36), (36, x_push (8, 8) 38), (38, x_bin o_top 39), (39, x_add 40), (40, x_istore 0 41), (41, x_iload 0 42), (42, x_iload 0 43), (43, x_push (16, 16) 45), (45, x_bin o_top 46), (46, x_add 47), (47, x_istore 0 48), (48, x_iload 0 49), (49, x_push (63, 63) 51), (51, x_bin o_and 52), (52, x_ret rtop (.inl ((0, 63), (0, 0), none)) [])]
noncomputable def u_J6_bitCount_0f7a4 : List Cut := []
theorem s_J6_bitCount_0f7a4 (n : Nat) (h0 : Hp_) : Al wz_J6_bitCount_0f7a4 h0 (m_J6_bitCount_0f7a4 (n + 0) 0 0) (Kc wz_J6_bitCount_0f7a4 h0 (some (.inl ((0, 63), (0, 0), none))) []) k_J6_bitCount_0f7a4 := ⟨z_iload_n (M := m_J6_bitCount_0f7a4 (n + 0) 0 0) d_J6_bitCount_0f7a4_0 rfl rfl, z_iload_n (M := m_J6_bitCount_0f7a4 (n + 0) 0 0) d_J6_bitCount_0f7a4_1 rfl rfl, z_iconst (M := m_J6_bitCount_0f7a4 (n + 0) 0 0) d_J6_bitCount_0f7a4_2 ic_1 ci_1 rfl, z_iushr (M := m_J6_bitCount_0f7a4 (n + 0) 0 0) d_J6_bitCount_0f7a4_3 rfl, z_ldcw (M := m_J6_bitCount_0f7a4 (n + 0) 0 0) d_J6_bitCount_0f7a4_4 tw_1268 ci_1431655765 rfl, z_iand (M := m_J6_bitCount_0f7a4 (n + 0) 0 0) d_J6_bitCount_0f7a4_7 rfl, z_isub (M := m_J6_bitCount_0f7a4 (n + 0) 0 0) d_J6_bitCount_0f7a4_8 rfl, z_istore_n (M := m_J6_bitCount_0f7a4 (n + 0) 0 0) d_J6_bitCount_0f7a4_9 (Nat.le_of_ble_eq_true rfl) rfl rfl, z_iload_n (M := m_J6_bitCount_0f7a4 (n + 0) 0 0) d_J6_bitCount_0f7a4_10 rfl rfl, z_ldcw (M := m_J6_bitCount_0f7a4 (n + 0) 0 0) d_J6_bitCount_0f7a4_11 tw_1269 ci_858993459 rfl, z_iand (M := m_J6_bitCount_0f7a4 (n + 0) 0 0) d_J6_bitCount_0f7a4_14 rfl, z_iload_n (M := m_J6_bitCount_0f7a4 (n + 0) 0 0) d_J6_bitCount_0f7a4_15 rfl rfl, z_iconst (M := m_J6_bitCount_0f7a4 (n + 0) 0 0) d_J6_bitCount_0f7a4_16 ic_2 ci_2 rfl, z_iushr (M := m_J6_bitCount_0f7a4 (n + 0) 0 0) d_J6_bitCount_0f7a4_17 rfl, z_ldcw (M := m_J6_bitCount_0f7a4 (n + 0) 0 0) d_J6_bitCount_0f7a4_18 tw_1269 ci_858993459 rfl, z_iand (M := m_J6_bitCount_0f7a4 (n + 0) 0 0) d_J6_bitCount_0f7a4_21 rfl, z_iadd (M := m_J6_bitCount_0f7a4 (n + 0) 0 0) d_J6_bitCount_0f7a4_22 rfl, z_istore_n (M := m_J6_bitCount_0f7a4 (n + 0) 0 0) d_J6_bitCount_0f7a4_23 (Nat.le_of_ble_eq_true rfl) rfl rfl, z_iload_n (M := m_J6_bitCount_0f7a4 (n + 0) 0 0) d_J6_bitCount_0f7a4_24 rfl rfl, z_iload_n (M := m_J6_bitCount_0f7a4 (n + 0) 0 0) d_J6_bitCount_0f7a4_25 rfl rfl, z_iconst (M := m_J6_bitCount_0f7a4 (n + 0) 0 0) d_J6_bitCount_0f7a4_26 ic_4 ci_4 rfl, z_iushr (M := m_J6_bitCount_0f7a4 (n + 0) 0 0) d_J6_bitCount_0f7a4_27 rfl, z_iadd (M := m_J6_bitCount_0f7a4 (n + 0) 0 0) d_J6_bitCount_0f7a4_28 rfl, z_ldcw (M := m_J6_bitCount_0f7a4 (n + 0) 0 0) d_J6_bitCount_0f7a4_29 tw_1270 ci_252645135 rfl, z_iand (M := m_J6_bitCount_0f7a4 (n + 0) 0 0) d_J6_bitCount_0f7a4_32 rfl, z_istore_n (M := m_J6_bitCount_0f7a4 (n + 0) 0 0) d_J6_bitCount_0f7a4_33 (Nat.le_of_ble_eq_true rfl) rfl rfl, z_iload_n (M := m_J6_bitCount_0f7a4 (n + 0) 0 0) d_J6_bitCount_0f7a4_34 rfl rfl, z_iload_n (M := m_J6_bitCount_0f7a4 (n + 0) 0 0) d_J6_bitCount_0f7a4_35 rfl rfl, z_bipush (M := m_J6_bitCount_0f7a4 (n + 0) 0 0) d_J6_bitCount_0f7a4_36 ib_8 ci_8 rfl, z_iushr (M := m_J6_bitCount_0f7a4 (n + 0) 0 0) d_J6_bitCount_0f7a4_38 rfl, z_iadd (M := m_J6_bitCount_0f7a4 (n + 0) 0 0) d_J6_bitCount_0f7a4_39 rfl, z_istore_n (M := m_J6_bitCount_0f7a4 (n + 0) 0 0) d_J6_bitCount_0f7a4_40 (Nat.le_of_ble_eq_true rfl) rfl rfl, z_iload_n (M := m_J6_bitCount_0f7a4 (n + 0) 0 0) d_J6_bitCount_0f7a4_41 rfl rfl, z_iload_n (M := m_J6_bitCount_0f7a4 (n + 0) 0 0) d_J6_bitCount_0f7a4_42 rfl rfl, z_bipush (M := m_J6_bitCount_0f7a4 (n + 0) 0 0) d_J6_bitCount_0f7a4_43 ib_16 ci_16 rfl, z_iushr (M := m_J6_bitCount_0f7a4 (n + 0) 0 0) d_J6_bitCount_0f7a4_45 rfl, z_iadd (M := m_J6_bitCount_0f7a4 (n + 0) 0 0) d_J6_bitCount_0f7a4_46 rfl, z_istore_n (M := m_J6_bitCount_0f7a4 (n + 0) 0 0) d_J6_bitCount_0f7a4_47 (Nat.le_of_ble_eq_true rfl) rfl rfl, z_iload_n (M := m_J6_bitCount_0f7a4 (n + 0) 0 0) d_J6_bitCount_0f7a4_48 rfl rfl, z_bipush (M := m_J6_bitCount_0f7a4 (n + 0) 0 0) d_J6_bitCount_0f7a4_49 ib_63 ci_63 rfl, z_iand (M := m_J6_bitCount_0f7a4 (n + 0) 0 0) d_J6_bitCount_0f7a4_51 rfl, z_iret (M := m_J6_bitCount_0f7a4 (n + 0) 0 0) rfl d_J6_bitCount_0f7a4_52, trivial⟩
theorem hc_J6_bitCount_0f7a4 (n : Nat) : Hc (m_J6_bitCount_0f7a4 (n + 0) 0 0) q_J6_bitCount_0f7a4 := Hc_of (code := k_J6_bitCount_0f7a4) (cuts := u_J6_bitCount_0f7a4) (n := 3000) (fun _ _ _ => trivial) rfl (Nat.le_of_ble_eq_true rfl) (fun h0 => Al_ok (s_J6_bitCount_0f7a4 n h0)) (by decide +kernel)
noncomputable def wz_J7_fill_53178_92 : List Nat := [82999]
noncomputable def q_J7_fill_53178_92 : Ctr := ([.inl ((0, 0), (0, 0), none), .inr 92], [], none, [], wz_J7_fill_53178_92)
noncomputable def k_J7_fill_53178_92 : List (Nat × Fx) := [(0, x_push (0, 0) 1), (1, x_istore 2 2), (2, x_aload 0 3), (3, x_alen 4), (4, x_istore 3 5), (5, x_iload 2 6), (6, x_iload 3 7), (7, x_icmp c_ge c_lt 20 10), (10, x_aload 0 11), (11, x_iload 2 12), (12, x_iload 1 13), (13, x_ast wz_J7_fill_53178_92 id 0 14), (14, x_iinc 2 1 17), (17, x_goto 5), (20, x_vret [])]
noncomputable def u_J7_fill_53178_92 : List Cut := [(5, ([(0, .inr 92), (1, .inl ((0, 0), (0, 0), none)), (2, .inl ((0, 8), (0, 0), none)), (3, .inl ((8, 8), (0, 0), none))], [], ([], [], [])), [(0, 99995), (1, 2), (0, 100000)])]
theorem s_J7_fill_53178_92 (n : Nat) (h0 : Hp_) : Al wz_J7_fill_53178_92 h0 (m_J7_fill_53178 (n + 0) 0 0) (Kc wz_J7_fill_53178_92 h0 none []) k_J7_fill_53178_92 := ⟨z_iconst (M := m_J7_fill_53178 (n + 0) 0 0) d_J7_fill_53178_0 ic_0 ci_0 rfl, z_istore_n (M := m_J7_fill_53178 (n + 0) 0 0) d_J7_fill_53178_1 (Nat.le_of_ble_eq_true rfl) rfl rfl, z_aload_n (M := m_J7_fill_53178 (n + 0) 0 0) d_J7_fill_53178_2 rfl rfl, z_alen (M := m_J7_fill_53178 (n + 0) 0 0) d_J7_fill_53178_3 rfl, z_istore_n (M := m_J7_fill_53178 (n + 0) 0 0) d_J7_fill_53178_4 (Nat.le_of_ble_eq_true rfl) rfl rfl, z_iload_n (M := m_J7_fill_53178 (n + 0) 0 0) d_J7_fill_53178_5 rfl rfl, z_iload_n (M := m_J7_fill_53178 (n + 0) 0 0) d_J7_fill_53178_6 rfl rfl, z_icmp_ge (M := m_J7_fill_53178 (n + 0) 0 0) d_J7_fill_53178_7 rfl rfl, z_aload_n (M := m_J7_fill_53178 (n + 0) 0 0) d_J7_fill_53178_10 rfl rfl, z_iload_n (M := m_J7_fill_53178 (n + 0) 0 0) d_J7_fill_53178_11 rfl rfl, z_iload_n (M := m_J7_fill_53178 (n + 0) 0 0) d_J7_fill_53178_12 rfl rfl, z_iast (M := m_J7_fill_53178 (n + 0) 0 0) d_J7_fill_53178_13 rfl, z_iinc (M := m_J7_fill_53178 (n + 0) 0 0) d_J7_fill_53178_14 cj_1 (Nat.le_of_ble_eq_true rfl) rfl, z_goto (M := m_J7_fill_53178 (n + 0) 0 0) d_J7_fill_53178_17 rfl, z_vret (M := m_J7_fill_53178 (n + 0) 0 0) rfl d_J7_fill_53178_20, trivial⟩
theorem hc_J7_fill_53178_92 (n : Nat) : Hc (m_J7_fill_53178 (n + 0) 0 0) q_J7_fill_53178_92 := Hc_of (code := k_J7_fill_53178_92) (cuts := u_J7_fill_53178_92) (n := 3000) (fun _ _ _ => trivial) rfl (Nat.le_of_ble_eq_true rfl) (fun h0 => Al_ok (s_J7_fill_53178_92 n h0)) (by decide +kernel)
noncomputable def wz_J7_fill_53178_93 : List Nat := [83999]
noncomputable def q_J7_fill_53178_93 : Ctr := ([.inl ((0, 0), (0, 0), none), .inr 93], [], none, [], wz_J7_fill_53178_93)
noncomputable def k_J7_fill_53178_93 : List (Nat × Fx) := [(0, x_push (0, 0) 1), (1, x_istore 2 2), (2, x_aload 0 3), (3, x_alen 4), (4, x_istore 3 5), (5, x_iload 2 6), (6, x_iload 3 7), (7, x_icmp c_ge c_lt 20 10), (10, x_aload 0 11), (11, x_iload 2 12), (12, x_iload 1 13), (13, x_ast wz_J7_fill_53178_93 id 0 14), (14, x_iinc 2 1 17), (17, x_goto 5), (20, x_vret [])]
noncomputable def u_J7_fill_53178_93 : List Cut := [(5, ([(0, .inr 93), (1, .inl ((0, 0), (0, 0), none)), (2, .inl ((0, 8), (0, 0), none)), (3, .inl ((8, 8), (0, 0), none))], [], ([], [], [])), [(0, 99995), (1, 2), (0, 100000)])]
theorem s_J7_fill_53178_93 (n : Nat) (h0 : Hp_) : Al wz_J7_fill_53178_93 h0 (m_J7_fill_53178 (n + 0) 0 0) (Kc wz_J7_fill_53178_93 h0 none []) k_J7_fill_53178_93 := ⟨z_iconst (M := m_J7_fill_53178 (n + 0) 0 0) d_J7_fill_53178_0 ic_0 ci_0 rfl, z_istore_n (M := m_J7_fill_53178 (n + 0) 0 0) d_J7_fill_53178_1 (Nat.le_of_ble_eq_true rfl) rfl rfl, z_aload_n (M := m_J7_fill_53178 (n + 0) 0 0) d_J7_fill_53178_2 rfl rfl, z_alen (M := m_J7_fill_53178 (n + 0) 0 0) d_J7_fill_53178_3 rfl, z_istore_n (M := m_J7_fill_53178 (n + 0) 0 0) d_J7_fill_53178_4 (Nat.le_of_ble_eq_true rfl) rfl rfl, z_iload_n (M := m_J7_fill_53178 (n + 0) 0 0) d_J7_fill_53178_5 rfl rfl, z_iload_n (M := m_J7_fill_53178 (n + 0) 0 0) d_J7_fill_53178_6 rfl rfl, z_icmp_ge (M := m_J7_fill_53178 (n + 0) 0 0) d_J7_fill_53178_7 rfl rfl, z_aload_n (M := m_J7_fill_53178 (n + 0) 0 0) d_J7_fill_53178_10 rfl rfl, z_iload_n (M := m_J7_fill_53178 (n + 0) 0 0) d_J7_fill_53178_11 rfl rfl, z_iload_n (M := m_J7_fill_53178 (n + 0) 0 0) d_J7_fill_53178_12 rfl rfl, z_iast (M := m_J7_fill_53178 (n + 0) 0 0) d_J7_fill_53178_13 rfl, z_iinc (M := m_J7_fill_53178 (n + 0) 0 0) d_J7_fill_53178_14 cj_1 (Nat.le_of_ble_eq_true rfl) rfl, z_goto (M := m_J7_fill_53178 (n + 0) 0 0) d_J7_fill_53178_17 rfl, z_vret (M := m_J7_fill_53178 (n + 0) 0 0) rfl d_J7_fill_53178_20, trivial⟩
theorem hc_J7_fill_53178_93 (n : Nat) : Hc (m_J7_fill_53178 (n + 0) 0 0) q_J7_fill_53178_93 := Hc_of (code := k_J7_fill_53178_93) (cuts := u_J7_fill_53178_93) (n := 3000) (fun _ _ _ => trivial) rfl (Nat.le_of_ble_eq_true rfl) (fun h0 => Al_ok (s_J7_fill_53178_93 n h0)) (by decide +kernel)
noncomputable def wz_J7_fill_53178_98 : List Nat := [88999]
noncomputable def q_J7_fill_53178_98 : Ctr := ([.inl ((0, 0), (0, 0), none), .inr 98], [], none, [], wz_J7_fill_53178_98)
noncomputable def k_J7_fill_53178_98 : List (Nat × Fx) := [(0, x_push (0, 0) 1), (1, x_istore 2 2), (2, x_aload 0 3), (3, x_alen 4), (4, x_istore 3 5), (5, x_iload 2 6), (6, x_iload 3 7), (7, x_icmp c_ge c_lt 20 10), (10, x_aload 0 11), (11, x_iload 2 12), (12, x_iload 1 13), (13, x_ast wz_J7_fill_53178_98 id 0 14), (14, x_iinc 2 1 17), (17, x_goto 5), (20, x_vret [])]
noncomputable def u_J7_fill_53178_98 : List Cut := [(5, ([(0, .inr 98), (1, .inl ((0, 0), (0, 0), none)), (2, .inl ((0, 2304), (0, 0), none)), (3, .inl ((2304, 2304), (0, 0), none))], [], ([], [], [])), [(0, 99995), (1, 2), (0, 100000)])]
theorem s_J7_fill_53178_98 (n : Nat) (h0 : Hp_) : Al wz_J7_fill_53178_98 h0 (m_J7_fill_53178 (n + 0) 0 0) (Kc wz_J7_fill_53178_98 h0 none []) k_J7_fill_53178_98 := ⟨z_iconst (M := m_J7_fill_53178 (n + 0) 0 0) d_J7_fill_53178_0 ic_0 ci_0 rfl, z_istore_n (M := m_J7_fill_53178 (n + 0) 0 0) d_J7_fill_53178_1 (Nat.le_of_ble_eq_true rfl) rfl rfl, z_aload_n (M := m_J7_fill_53178 (n + 0) 0 0) d_J7_fill_53178_2 rfl rfl, z_alen (M := m_J7_fill_53178 (n + 0) 0 0) d_J7_fill_53178_3 rfl, z_istore_n (M := m_J7_fill_53178 (n + 0) 0 0) d_J7_fill_53178_4 (Nat.le_of_ble_eq_true rfl) rfl rfl, z_iload_n (M := m_J7_fill_53178 (n + 0) 0 0) d_J7_fill_53178_5 rfl rfl, z_iload_n (M := m_J7_fill_53178 (n + 0) 0 0) d_J7_fill_53178_6 rfl rfl, z_icmp_ge (M := m_J7_fill_53178 (n + 0) 0 0) d_J7_fill_53178_7 rfl rfl, z_aload_n (M := m_J7_fill_53178 (n + 0) 0 0) d_J7_fill_53178_10 rfl rfl, z_iload_n (M := m_J7_fill_53178 (n + 0) 0 0) d_J7_fill_53178_11 rfl rfl, z_iload_n (M := m_J7_fill_53178 (n + 0) 0 0) d_J7_fill_53178_12 rfl rfl, z_iast (M := m_J7_fill_53178 (n + 0) 0 0) d_J7_fill_53178_13 rfl, z_iinc (M := m_J7_fill_53178 (n + 0) 0 0) d_J7_fill_53178_14 cj_1 (Nat.le_of_ble_eq_true rfl) rfl, z_goto (M := m_J7_fill_53178 (n + 0) 0 0) d_J7_fill_53178_17 rfl, z_vret (M := m_J7_fill_53178 (n + 0) 0 0) rfl d_J7_fill_53178_20, trivial⟩
theorem hc_J7_fill_53178_98 (n : Nat) : Hc (m_J7_fill_53178 (n + 0) 0 0) q_J7_fill_53178_98 := Hc_of (code := k_J7_fill_53178_98) (cuts := u_J7_fill_53178_98) (n := 3000) (fun _ _ _ => trivial) rfl (Nat.le_of_ble_eq_true rfl) (fun h0 => Al_ok (s_J7_fill_53178_98 n h0)) (by decide +kernel)
noncomputable def wz_J7_fill_53178_100 : List Nat := [90999]
noncomputable def q_J7_fill_53178_100 : Ctr := ([.inl ((0, 0), (0, 0), none), .inr 100], [], none, [], wz_J7_fill_53178_100)
noncomputable def k_J7_fill_53178_100 : List (Nat × Fx) := [(0, x_push (0, 0) 1), (1, x_istore 2 2), (2, x_aload 0 3), (3, x_alen 4), (4, x_istore 3 5), (5, x_iload 2 6), (6, x_iload 3 7), (7, x_icmp c_ge c_lt 20 10), (10, x_aload 0 11), (11, x_iload 2 12), (12, x_iload 1 13), (13, x_ast wz_J7_fill_53178_100 id 0 14), (14, x_iinc 2 1 17), (17, x_goto 5), (20, x_vret [])]
noncomputable def u_J7_fill_53178_100 : List Cut := [(5, ([(0, .inr 100), (1, .inl ((0, 0), (0, 0), none)), (2, .inl ((0, 8), (0, 0), none)), (3, .inl ((8, 8), (0, 0), none))], [], ([], [], [])), [(0, 99995), (1, 2), (0, 100000)])]
theorem s_J7_fill_53178_100 (n : Nat) (h0 : Hp_) : Al wz_J7_fill_53178_100 h0 (m_J7_fill_53178 (n + 0) 0 0) (Kc wz_J7_fill_53178_100 h0 none []) k_J7_fill_53178_100 := ⟨z_iconst (M := m_J7_fill_53178 (n + 0) 0 0) d_J7_fill_53178_0 ic_0 ci_0 rfl, z_istore_n (M := m_J7_fill_53178 (n + 0) 0 0) d_J7_fill_53178_1 (Nat.le_of_ble_eq_true rfl) rfl rfl, z_aload_n (M := m_J7_fill_53178 (n + 0) 0 0) d_J7_fill_53178_2 rfl rfl, z_alen (M := m_J7_fill_53178 (n + 0) 0 0) d_J7_fill_53178_3 rfl, z_istore_n (M := m_J7_fill_53178 (n + 0) 0 0) d_J7_fill_53178_4 (Nat.le_of_ble_eq_true rfl) rfl rfl, z_iload_n (M := m_J7_fill_53178 (n + 0) 0 0) d_J7_fill_53178_5 rfl rfl, z_iload_n (M := m_J7_fill_53178 (n + 0) 0 0) d_J7_fill_53178_6 rfl rfl, z_icmp_ge (M := m_J7_fill_53178 (n + 0) 0 0) d_J7_fill_53178_7 rfl rfl, z_aload_n (M := m_J7_fill_53178 (n + 0) 0 0) d_J7_fill_53178_10 rfl rfl, z_iload_n (M := m_J7_fill_53178 (n + 0) 0 0) d_J7_fill_53178_11 rfl rfl, z_iload_n (M := m_J7_fill_53178 (n + 0) 0 0) d_J7_fill_53178_12 rfl rfl, z_iast (M := m_J7_fill_53178 (n + 0) 0 0) d_J7_fill_53178_13 rfl, z_iinc (M := m_J7_fill_53178 (n + 0) 0 0) d_J7_fill_53178_14 cj_1 (Nat.le_of_ble_eq_true rfl) rfl, z_goto (M := m_J7_fill_53178 (n + 0) 0 0) d_J7_fill_53178_17 rfl, z_vret (M := m_J7_fill_53178 (n + 0) 0 0) rfl d_J7_fill_53178_20, trivial⟩
theorem hc_J7_fill_53178_100 (n : Nat) : Hc (m_J7_fill_53178 (n + 0) 0 0) q_J7_fill_53178_100 := Hc_of (code := k_J7_fill_53178_100) (cuts := u_J7_fill_53178_100) (n := 3000) (fun _ _ _ => trivial) rfl (Nat.le_of_ble_eq_true rfl) (fun h0 => Al_ok (s_J7_fill_53178_100 n h0)) (by decide +kernel)
end
