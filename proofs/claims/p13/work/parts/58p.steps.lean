/-! a text's length as a step of the check -/
def x_tl (n : Nat) : Fx := fun a => match a.2.1 with
  | .inr 4 :: st => bif Nat.ble ((st.map ac).sum) 8 then some [(n, a.1, avi (0, 9) :: st, a.2.2)] else none
  | _ => none
theorem z_tl {ws : List Nat} {h0 : Hp_} {M : Mc_} {K : Option Value → Hp_ → Prop} {pc : Nat} {idx d N : Nat} (hN : d + 1 = N) (hd : decode (mC M) pc = .ok (.invokevirtual idx, 3)) (hlk : Cond.methodLink (mY M).cls idx ⟨"java/lang/String", "length", "()I"⟩ ∈ lw_g) (hz : rz_ (m_J0_length_8abf5 N 0 0) M) {nx : Nat} (hnx : pc + 3 = nx) : Sd ws h0 M K pc (x_tl nx) := by
  subst hN hnx
  intro g a out e lv st h G kx
  obtain ⟨la, sa, hf⟩ := a
  unfold x_tl at e
  split at e
  · rename_i sa' q
    have q : sa = .inr 4 :: sa' := q
    subst q
    cases z : Nat.ble ((sa'.map ac).sum) 8 with
    | false => rw [z] at e; cases e
    | true =>
      rw [z] at e
      have e := (Option.some.inj e).symm
      subst e
      obtain ⟨w, t, es, ⟨i, hi, ew⟩, _, m⟩ := sm1 G.2.1
      subst es ew
      refine aw_Ti [] t hi hd rfl (cV_J0_length_8abf5 (d + 1) 0 0) hlk rfl ⟨hz.1, Nat.zero_le _, Nat.zero_le _⟩ (by rw [sm_cat m]; exact Nat.ble_eq.mp z) hz.2.2.2 (c_length d i hi h) (fun r h1 kk => ?_)
      obtain ⟨k1, k2⟩ := kk
      subst k2
      exact kx _ List.mem_cons_self _ _ _ ⟨G.1, ⟨bm_i k1 _, sl_0, m⟩, G.2.2⟩
  · cases e
/-! a man at a place of the class's row, asked twice -/
section MEN
variable {ws : List Nat} {h0 : Hp_} {K : Option Value → Hp_ → Prop}
def x_men : Fx := fun a => match lk 0 a.1, lk 3 a.1, a.2.1 with
  | some (.inr 10), some (.inl (r, _, _)), [] => bif rsub r (0, 11) then some [(37, a), (30, a.1, [avi rtop], a.2.2)] else none
  | _, _, _ => none
theorem z_men (n : Nat) : Sd ws h0 (m_X11_countMenAt (n + 0) 0 0) K 12 x_men := by
  intro g a out e lv st h G kx
  obtain ⟨la, sa, hf⟩ := a
  unfold x_men at e
  split at e
  · rename_i r s1 g1 q0 q3 q5
    have q5 : sa = [] := q5
    subst q5
    cases z : rsub r (0, 11) with
    | false => rw [z] at e; cases e
    | true =>
      rw [z] at e
      have e := (Option.some.inj e).symm
      subst e
      cases st with
      | cons _ _ => exact G.2.1.elim
      | nil =>
        obtain ⟨j0, v0, hj0, e0⟩ := lm_lk G.1 q0
        have e0 : v0 = .ref 0 := e0
        obtain ⟨j3, v3, hj3, x3, e3, hx3, _⟩ := lm_lk G.1 q3
        subst e0 e3
        have I := G.2.2.2.1
        have w := I.1
        have b := rsub_in z hx3
        have b1 : 0 ≤ x3.toInt := b.1
        have b2 : x3.toInt ≤ 11 := b.2
        have hv : vp_in x3 12 := by
          have b0 := n_nat (x := x3) b1
          have a0 : (0 : Int32).toInt = 0 := rfl
          rintro (y | y)
          · have y := q_lt.mp y
            omega
          · omega
        refine aw_aload_n (i := 0) rfl d_X11_countMenAt_12 j0 hj0 ?_
        refine aw_getr (k0 := 6) kc_11 (ws_0 w) (Nat.le_of_ble_eq_true rfl) tw_493 d_X11_countMenAt_13 rfl (wr_0_6 w) ?_
        refine aw_iload_n (i := 3) rfl d_X11_countMenAt_16 j3 hj3 ?_
        rcases I.2.2.1 x3.toNatClampNeg with y | ⟨c, y, hc⟩
        · refine aw_aaldn (ws_15 w) hv y d_X11_countMenAt_17 ?_
          refine aw_ifnullN (tgt := 37) d_X11_countMenAt_18 rfl ?_
          exact kx _ List.mem_cons_self _ _ _ G
        · refine aw_aaldr (ws_15 w) hv y d_X11_countMenAt_17 ?_
          refine aw_ifnull d_X11_countMenAt_18 ?_
          refine aw_aload_n (i := 0) rfl d_X11_countMenAt_21 j0 hj0 ?_
          refine aw_getr (k0 := 6) kc_11 (ws_0 w) (Nat.le_of_ble_eq_true rfl) tw_493 d_X11_countMenAt_22 rfl (wr_0_6 w) ?_
          refine aw_iload_n (i := 3) rfl d_X11_countMenAt_25 j3 hj3 ?_
          refine aw_aaldr (ws_15 w) hv y d_X11_countMenAt_26 ?_
          refine aw_geti (k0 := 5) kc_2 hc.2.2 (Nat.le_of_ble_eq_true rfl) tw_583 d_X11_countMenAt_27 rfl ?_
          exact kx _ (List.mem_cons_of_mem _ List.mem_cons_self) _ _ _ ⟨G.1, ⟨bm_i (rtop_in _) _, sl_0, trivial⟩, G.2.2⟩
  · cases e
end MEN
