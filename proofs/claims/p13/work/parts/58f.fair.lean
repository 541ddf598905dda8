/-! a fair's place in the code of what is wanted still -/
theorem tx_add {x y : Int32} (l : -2147483648 ≤ x.toInt + y.toInt) (u : x.toInt + y.toInt < 2147483648) : (x + y).toInt = x.toInt + y.toInt := by
  rw [Int32.toInt_add, Int.bmod_eq_of_le (by omega) (by omega)]
theorem tx_sub {x y : Int32} (l : -2147483648 ≤ x.toInt - y.toInt) (u : x.toInt - y.toInt < 2147483648) : (x - y).toInt = x.toInt - y.toInt := by
  rw [Int32.toInt_sub, Int.bmod_eq_of_le (by omega) (by omega)]
theorem tx_mul {x y : Int32} (l : -2147483648 ≤ x.toInt * y.toInt) (u : x.toInt * y.toInt < 2147483648) : (x * y).toInt = x.toInt * y.toInt := by
  rw [Int32.toInt_mul, Int.bmod_eq_of_le (by omega) (by omega)]
theorem bits_ge {s y : Int32} (hs : 0 ≤ s.toInt) (h0 : 0 ≤ y.toInt) (h1 : y.toInt ≤ 6) (b : ¬ (s >>> (y &&& 31)) &&& 3 = 0) : ((1 : Int32) <<< (y &&& 31)).toInt ≤ s.toInt ∧ 1 ≤ ((1 : Int32) <<< (y &&& 31)).toInt := by
  have e := nv_shr hs h0 (by omega)
  have s1 := nv_of hs
  have y1 := nv_of h0
  have e1 := nv_shl (x := 1) h0 (by omega)
  have o : nv 1 = 1 := by decide
  rw [o, Nat.one_mul] at e1
  have p : 2 ^ nv y ≤ 2 ^ 6 := Nat.pow_le_pow_right (by omega) (by omega)
  have p0 : 0 < 2 ^ nv y := Nat.two_pow_pos _
  rw [Nat.mod_eq_of_lt (by omega)] at e1
  have r := nv_pos (x := (1 : Int32) <<< (y &&& 31)) (by omega)
  have nz : nv (s >>> (y &&& 31)) ≠ 0 := by
    intro z
    apply b
    have w : s >>> (y &&& 31) = 0 := by
      refine Int32.toInt_inj.mp ?_
      rw [nv_pos (by omega), z]; rfl
    rw [w]; rfl
  rw [e] at nz
  have q : 2 ^ nv y ≤ nv s := by
    rcases Nat.lt_or_ge (nv s) (2 ^ nv y) with z | z
    · exact absurd (Nat.div_eq_of_lt z) nz
    · exact z
  omega
section COST
variable {ws : List Nat} {h0 : Hp_} {K : Option Value → Hp_ → Prop}
def x_cost : Fx := fun a => match lk 0 a.1, lk 1 a.1, lk 2 a.1, lk 3 a.1, lk 4 a.1, a.2.1 with
  | some (.inr 30), some (.inl (r1, _, _)), some (.inl (r2, _, _)), some (.inl (r3, _, _)), some (.inl _), [] => bif rsub r1 (0, 11) && rsub r2 (0, 3) && rsub r3 (0, 255) then some [(28, a), (55, a.1, [avi rtop, avi rtop, avi (1000000000, 1000000000)], a.2.2)] else none
  | _, _, _, _, _, _ => none
theorem z_cost (n : Nat) : Sd ws h0 (m_X6_costWith (n + 1) 0 0) K 12 x_cost := by
  intro g a out e lv st h G kx
  obtain ⟨la, sa, hf⟩ := a
  unfold x_cost at e
  split at e
  · rename_i r1 s1 g1 r2 s2 g2 r3 s3 g3 p4 q0 q1 q2 q3 q4 q5
    have q5 : sa = [] := q5
    subst q5
    cases z : rsub r1 (0, 11) && rsub r2 (0, 3) && rsub r3 (0, 255) with
    | false => rw [z] at e; cases e
    | true =>
      rw [z] at e
      have e := (Option.some.inj e).symm
      subst e
      simp only [Bool.and_eq_true] at z
      obtain ⟨⟨z1, z2⟩, z3⟩ := z
      cases st with
      | cons _ _ => exact G.2.1.elim
      | nil =>
        obtain ⟨j0, v0, hj0, e0⟩ := lm_lk G.1 q0
        have e0 : v0 = .ref 20 := e0
        obtain ⟨j1, v1, hj1, x1, e1, hx1, _⟩ := lm_lk G.1 q1
        obtain ⟨j2, v2, hj2, x2, e2, hx2, _⟩ := lm_lk G.1 q2
        obtain ⟨j3, v3, hj3, x3, e3, hx3, _⟩ := lm_lk G.1 q3
        obtain ⟨j4, v4, hj4, x4, e4, _, _⟩ := lm_lk G.1 q4
        subst e0 e1 e2 e3 e4
        have w := G.2.2.2.1.1
        have a1 := rsub_in z1 hx1
        have a2 := rsub_in z2 hx2
        have a3 := rsub_in z3 hx3
        have b1 : 0 ≤ x1.toInt := a1.1
        have b2 : x1.toInt ≤ 11 := a1.2
        have b3 : 0 ≤ x2.toInt := a2.1
        have b4 : x2.toInt ≤ 3 := a2.2
        have b5 : 0 ≤ x3.toInt := a3.1
        have b6 : x3.toInt ≤ 255 := a3.2
        have t1 : (1 : Int32).toInt = 1 := rfl
        have t2 : (2 : Int32).toInt = 2 := rfl
        have t256 : (256 : Int32).toInt = 256 := rfl
        have ey : (2 * x2).toInt = 2 * x2.toInt := tx_mul (x := 2) (by rw [t2]; omega) (by rw [t2]; omega)
        refine aw_iload_n (i := 3) rfl d_X6_costWith_12 j3 hj3 ?_
        refine aw_iconst d_X6_costWith_13 ic_2 ?_
        refine aw_iload_n (i := 2) rfl d_X6_costWith_14 j2 hj2 ?_
        refine aw_imul d_X6_costWith_15 ?_
        refine aw_ishr d_X6_costWith_16 ?_
        refine aw_iconst d_X6_costWith_17 ic_3 ?_
        refine aw_iand d_X6_costWith_18 ?_
        refine aw_if_eq (tgt := 28) d_X6_costWith_19 rfl (fun _ => ?_) (fun b => ?_)
        · exact kx _ List.mem_cons_self _ _ _ G
        · have bg := bits_ge (s := x3) (y := 2 * x2) b5 (by omega) (by omega) b
          refine aw_iload (i := 4) d_X6_costWith_22 j4 hj4 ?_
          refine aw_iconst d_X6_costWith_24 ic_m1 ?_
          refine aw_icmp_ne (tgt := 31) d_X6_costWith_25 rfl (fun _ => ?_) (fun _ => ?_)
          · refine aw_ldc d_X6_costWith_31 tw_1524 ?_
            refine aw_iload (i := 4) d_X6_costWith_33 j4 hj4 ?_
            refine aw_aload_n (i := 0) rfl d_X6_costWith_35 j0 hj0 ?_
            refine aw_getr (k0 := 18) kc_6 (ws_20 w) (Nat.le_of_ble_eq_true rfl) tw_383 d_X6_costWith_36 rfl (wr_20_18 w) ?_
            refine aw_iload_n (i := 1) rfl d_X6_costWith_39 j1 hj1 ?_
            refine aw_iconst d_X6_costWith_40 ic_1 ?_
            refine aw_iadd d_X6_costWith_41 ?_
            refine aw_sipush d_X6_costWith_42 is_256 ?_
            refine aw_imul d_X6_costWith_45 ?_
            refine aw_iload_n (i := 3) rfl d_X6_costWith_46 j3 hj3 ?_
            refine aw_iadd d_X6_costWith_47 ?_
            refine aw_iconst d_X6_costWith_48 ic_1 ?_
            refine aw_iconst d_X6_costWith_49 ic_2 ?_
            refine aw_iload_n (i := 2) rfl d_X6_costWith_50 j2 hj2 ?_
            refine aw_imul d_X6_costWith_51 ?_
            refine aw_ishl d_X6_costWith_52 ?_
            refine aw_isub d_X6_costWith_53 ?_
            have c1 : (x1 + 1).toInt = x1.toInt + 1 := tx_add (by rw [t1]; omega) (by rw [t1]; omega)
            have c2 : ((x1 + 1) * 256).toInt = (x1.toInt + 1) * 256 := by rw [tx_mul (by rw [t256]; omega) (by rw [t256]; omega), c1, t256]
            have c3 : ((x1 + 1) * 256 + x3).toInt = (x1.toInt + 1) * 256 + x3.toInt := by rw [tx_add (by omega) (by omega), c2]
            have c4 : ((x1 + 1) * 256 + x3 - (1 : Int32) <<< ((2 * x2) &&& 31)).toInt = (x1.toInt + 1) * 256 + x3.toInt - ((1 : Int32) <<< ((2 * x2) &&& 31)).toInt := by rw [tx_sub (by omega) (by omega), c3]
            refine aw_iald (ws_102 w) ?_ d_X6_costWith_54 ?_
            · have b0 := n_nat (x := (x1 + 1) * 256 + x3 - (1 : Int32) <<< ((2 * x2) &&& 31)) (by omega)
              have a0 : (0 : Int32).toInt = 0 := rfl
              rintro (y | y)
              · have y := q_lt.mp y
                omega
              · omega
            · exact kx _ (List.mem_cons_of_mem _ List.mem_cons_self) _ _ _ ⟨G.1, ⟨bm_i (rtop_in _) _, sl_0, bm_i (rtop_in _) _, sl_0, bm_i (i_in (c := 1000000000) (by decide)) _, sl_0, trivial⟩, G.2.2⟩
          · exact kx _ List.mem_cons_self _ _ _ G
  · cases e
end COST
