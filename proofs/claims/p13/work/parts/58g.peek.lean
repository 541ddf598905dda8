/-! the class's peek, looked at twice -/
def pq_fresh (h : Hp_) : Prop := (h_i h 11 2).toInt < (h_i h 11 1).toInt ∧ h_i h 31 (h_i h 11 2).toNatClampNeg ≠ 32
def pq_K (h : Hp_) (v : Option Value) (h' : Hp_) : Prop := ∃ r k : Int32, v = some (.int r) ∧ h' = h_im h 11 2 k ∧ rin k.toInt (0, 160) ∧ (r = -1 ∨ (k.toInt < (h_i h 11 1).toInt ∧ r = h_i h 31 k.toNatClampNeg ∧ r ≠ 32)) ∧ (pq_fresh h → k = h_i h 11 2 ∧ r = h_i h 31 (h_i h 11 2).toNatClampNeg)
theorem im_id (h : Hp_) (a k : Nat) : h_im h a k (h_i h a k) = h := by
  have e : upd (h_i h a) k (h_i h a k) = h_i h a := by
    funext j
    show (if j = k then h_i h a k else h_i h a j) = _
    split
    · rename_i c; rw [c]
    · rfl
  have e2 : va_up h.2.1 a (h_i h a) = h.2.1 := by
    funext b
    show (if b = a then h_i h a else h.2.1 b) = _
    split
    · rename_i c; rw [c]; rfl
    · rfl
  show (h.1, va_up h.2.1 a (upd (h_i h a) k (h_i h a k)), h.2.2.1, h.2.2.2) = h
  rw [e, e2]
theorem im_im (h : Hp_) (a k : Nat) (x y : Int32) : h_im (h_im h a k x) a k y = h_im h a k y := by
  have e : va_up (va_up h.2.1 a (upd (h.2.1 a) k x)) a (upd ((va_up h.2.1 a (upd (h.2.1 a) k x)) a) k y) = va_up h.2.1 a (upd (h.2.1 a) k y) := by
    funext b
    show (if b = a then _ else _) = (if b = a then _ else _)
    split
    · funext j
      show (if j = k then y else (va_up h.2.1 a (upd (h.2.1 a) k x)) a j) = (if j = k then y else h.2.1 a j)
      split
      · rfl
      · rename_i c
        show (if a = a then upd (h.2.1 a) k x else h.2.1 a) j = _
        rw [if_pos rfl]
        show (if j = k then x else h.2.1 a j) = _
        rw [if_neg c]
    · rename_i c
      show (if b = a then _ else h.2.1 b) = _
      rw [if_neg c]
  exact congrArg (fun z => (h.1, z, h.2.2.1, h.2.2.2)) e
theorem pq_at {h : Hp_} (I : Iv h) : rin (h_i h 11 2).toInt (0, 160) := by
  have := I.2.1 11 2
  have e : tf 11 2 = (0, 160) := by decide +kernel
  rwa [e] at this
theorem pq_len {h : Hp_} (I : Iv h) : rin (h_i h 11 1).toInt (0, 160) := by
  have := I.2.1 11 1
  have e : tf 11 1 = (0, 160) := by decide +kernel
  rwa [e] at this
theorem pq_byte {h : Hp_} (I : Iv h) (k : Nat) : rin (h_i h 31 k).toInt (0, 255) := by
  have := I.2.1 31 k
  have e : tfa 31 = some (0, 255) := by decide +kernel
  rwa [tfa_tf e] at this
theorem pq_in {h : Hp_} {k : Int32} (I : Iv h) (h0 : 0 ≤ k.toInt) (h1 : k.toInt < (h_i h 11 1).toInt) : vp_in k 160 := by
  have l : (h_i h 11 1).toInt ≤ 160 := (pq_len I).2
  have b0 := n_nat h0
  have a0 : (0 : Int32).toInt = 0 := rfl
  rintro (y | y)
  · have y := q_lt.mp y
    omega
  · omega
theorem pq_iv {h : Hp_} {k : Int32} (I : Iv h) (hk : rin k.toInt (0, 160)) : Iv (h_im h 11 2 k) := by
  have e : tf 11 2 = (0, 160) := by decide +kernel
  exact I.im (by rw [e]; exact hk) (by decide +kernel)
theorem pq_loop (n : Nat) : ∀ (r : Nat) (h : Hp_), Iv h → 160 - (h_i h 11 2).toInt ≤ r → AW (m_X8_peek n 0 0) 0 0 0 [(0, .ref 11)] [] h (pq_K h) := by
  intro r
  induction r with
  | zero =>
    intro h I e
    have w := I.1
    have a1 := pq_at I
    have a2 := pq_len I
    have b1 : 0 ≤ (h_i h 11 2).toInt := a1.1
    have b2 : (h_i h 11 2).toInt ≤ 160 := a1.2
    have b3 : (h_i h 11 1).toInt ≤ 160 := a2.2
    refine aw_aload_n (i := 0) rfl d_X8_peek_0 0 rfl ?_
    refine aw_geti (k0 := 2) kc_8 (ws_11 w) (Nat.le_of_ble_eq_true rfl) tw_62 d_X8_peek_1 rfl ?_
    refine aw_aload_n (i := 0) rfl d_X8_peek_4 0 rfl ?_
    refine aw_geti (k0 := 1) kc_8 (ws_11 w) (Nat.le_of_ble_eq_true rfl) tw_60 d_X8_peek_5 rfl ?_
    refine aw_icmp_ge (tgt := 38) d_X8_peek_8 rfl (fun c => ?_) (fun c => ?_)
    · have c' := q_le.mp c
      refine aw_aload_n (i := 0) rfl d_X8_peek_38 0 rfl ?_
      refine aw_geti (k0 := 2) kc_8 (ws_11 w) (Nat.le_of_ble_eq_true rfl) tw_62 d_X8_peek_39 rfl ?_
      refine aw_aload_n (i := 0) rfl d_X8_peek_42 0 rfl ?_
      refine aw_geti (k0 := 1) kc_8 (ws_11 w) (Nat.le_of_ble_eq_true rfl) tw_60 d_X8_peek_43 rfl ?_
      refine aw_icmp_ge (tgt := 61) d_X8_peek_46 rfl (fun _ => ?_) (fun d => absurd c d)
      refine aw_iconst d_X8_peek_61 ic_m1 ?_
      exact aw_iret rfl d_X8_peek_62 ⟨Nat.zero_le _, Nat.zero_le _⟩ ⟨-1, h_i h 11 2, rfl, (im_id h 11 2).symm, a1, Or.inl rfl, fun f => by have := f.1; omega⟩
    · have := q_nle c
      omega
  | succ r ih =>
    intro h I e
    have w := I.1
    have a1 := pq_at I
    have a2 := pq_len I
    have b1 : 0 ≤ (h_i h 11 2).toInt := a1.1
    have b2 : (h_i h 11 2).toInt ≤ 160 := a1.2
    have b3 : (h_i h 11 1).toInt ≤ 160 := a2.2
    refine aw_aload_n (i := 0) rfl d_X8_peek_0 0 rfl ?_
    refine aw_geti (k0 := 2) kc_8 (ws_11 w) (Nat.le_of_ble_eq_true rfl) tw_62 d_X8_peek_1 rfl ?_
    refine aw_aload_n (i := 0) rfl d_X8_peek_4 0 rfl ?_
    refine aw_geti (k0 := 1) kc_8 (ws_11 w) (Nat.le_of_ble_eq_true rfl) tw_60 d_X8_peek_5 rfl ?_
    refine aw_icmp_ge (tgt := 38) d_X8_peek_8 rfl (fun c => ?_) (fun c => ?_)
    · have c' := q_le.mp c
      refine aw_aload_n (i := 0) rfl d_X8_peek_38 0 rfl ?_
      refine aw_geti (k0 := 2) kc_8 (ws_11 w) (Nat.le_of_ble_eq_true rfl) tw_62 d_X8_peek_39 rfl ?_
      refine aw_aload_n (i := 0) rfl d_X8_peek_42 0 rfl ?_
      refine aw_geti (k0 := 1) kc_8 (ws_11 w) (Nat.le_of_ble_eq_true rfl) tw_60 d_X8_peek_43 rfl ?_
      refine aw_icmp_ge (tgt := 61) d_X8_peek_46 rfl (fun _ => ?_) (fun d => absurd c d)
      refine aw_iconst d_X8_peek_61 ic_m1 ?_
      exact aw_iret rfl d_X8_peek_62 ⟨Nat.zero_le _, Nat.zero_le _⟩ ⟨-1, h_i h 11 2, rfl, (im_id h 11 2).symm, a1, Or.inl rfl, fun f => by have := f.1; omega⟩
    · have c' := q_nle c
      have vi := pq_in (k := h_i h 11 2) I b1 c'
      refine aw_aload_n (i := 0) rfl d_X8_peek_11 0 rfl ?_
      refine aw_getr (k0 := 0) kc_8 (ws_11 w) (Nat.le_of_ble_eq_true rfl) tw_59 d_X8_peek_12 rfl (wr_11_0 w) ?_
      refine aw_aload_n (i := 0) rfl d_X8_peek_15 0 rfl ?_
      refine aw_geti (k0 := 2) kc_8 (ws_11 w) (Nat.le_of_ble_eq_true rfl) tw_62 d_X8_peek_16 rfl ?_
      refine aw_iald (ws_31 w) vi d_X8_peek_19 ?_
      refine aw_bipush d_X8_peek_20 ib_32 ?_
      refine aw_icmp_ne (tgt := 38) d_X8_peek_22 rfl (fun b => ?_) (fun b => ?_)
      · refine aw_aload_n (i := 0) rfl d_X8_peek_38 0 rfl ?_
        refine aw_geti (k0 := 2) kc_8 (ws_11 w) (Nat.le_of_ble_eq_true rfl) tw_62 d_X8_peek_39 rfl ?_
        refine aw_aload_n (i := 0) rfl d_X8_peek_42 0 rfl ?_
        refine aw_geti (k0 := 1) kc_8 (ws_11 w) (Nat.le_of_ble_eq_true rfl) tw_60 d_X8_peek_43 rfl ?_
        refine aw_icmp_ge (tgt := 61) d_X8_peek_46 rfl (fun d => absurd d c) (fun _ => ?_)
        refine aw_aload_n (i := 0) rfl d_X8_peek_49 0 rfl ?_
        refine aw_getr (k0 := 0) kc_8 (ws_11 w) (Nat.le_of_ble_eq_true rfl) tw_59 d_X8_peek_50 rfl (wr_11_0 w) ?_
        refine aw_aload_n (i := 0) rfl d_X8_peek_53 0 rfl ?_
        refine aw_geti (k0 := 2) kc_8 (ws_11 w) (Nat.le_of_ble_eq_true rfl) tw_62 d_X8_peek_54 rfl ?_
        refine aw_iald (ws_31 w) vi d_X8_peek_57 ?_
        refine aw_goto (tgt := 62) d_X8_peek_58 rfl ?_
        exact aw_iret rfl d_X8_peek_62 ⟨Nat.zero_le _, Nat.zero_le _⟩ ⟨_, h_i h 11 2, rfl, (im_id h 11 2).symm, a1, Or.inr ⟨c', rfl, b⟩, fun _ => ⟨rfl, rfl⟩⟩
      · have t1 : (1 : Int32).toInt = 1 := rfl
        have es : (h_i h 11 2 + 1).toInt = (h_i h 11 2).toInt + 1 := tx_add (by rw [t1]; omega) (by rw [t1]; omega)
        refine aw_aload_n (i := 0) rfl d_X8_peek_25 0 rfl ?_
        refine aw_dup d_X8_peek_26 rfl ?_
        refine aw_geti (k0 := 2) kc_8 (ws_11 w) (Nat.le_of_ble_eq_true rfl) tw_62 d_X8_peek_27 rfl ?_
        refine aw_iconst d_X8_peek_30 ic_1 ?_
        refine aw_iadd d_X8_peek_31 ?_
        refine aw_puti (k0 := 2) kc_8 (ws_11 w) (Nat.le_of_ble_eq_true rfl) tw_62 d_X8_peek_32 rfl rfl nf_i ?_
        refine aw_goto (tgt := 0) d_X8_peek_35 rfl ?_
        have I1 : Iv (h_im h 11 2 (h_i h 11 2 + 1)) := pq_iv I ⟨by show (0 : Int) ≤ _; omega, by show _ ≤ (160 : Int); omega⟩
        have e2 : h_i (h_im h 11 2 (h_i h 11 2 + 1)) 11 2 = h_i h 11 2 + 1 := by rw [h_i_im, if_pos ⟨rfl, rfl⟩]
        have e1 : h_i (h_im h 11 2 (h_i h 11 2 + 1)) 11 1 = h_i h 11 1 := by rw [h_i_im, if_neg (fun z => absurd z.2 (by decide))]
        have e31 : ∀ j, h_i (h_im h 11 2 (h_i h 11 2 + 1)) 31 j = h_i h 31 j := fun j => by rw [h_i_im, if_neg (fun z => absurd z.1 (by decide))]
        refine AW.mono (ih _ I1 (by rw [e2, es]; omega)) (fun v h' q => ?_)
        obtain ⟨r', k, q1, q2, q3, q4, _⟩ := q
        rw [im_im] at q2
        rw [e1, e31] at q4
        exact ⟨r', k, q1, q2, q3, q4, fun f => absurd b f.2⟩
theorem pq_ct (n : Nat) {h : Hp_} (I : Iv h) : Ct (m_X8_peek n 0 0) [.ref 11] h (pq_K h) := by
  refine Ct.of (fun _ _ _ => trivial) rfl (Nat.le_of_ble_eq_true rfl) ?_
  exact pq_loop n (160 - (h_i h 11 2).toInt).toNat h I (by omega)
section PK
variable {ws : List Nat} {h0 : Hp_} {K : Option Value → Hp_ → Prop}
/-- a call of peek in readSum -/
theorem aw_pk {n pc : Nat} {lv : List (Nat × Value)} {h : Hp_} (I : Iv h) (hd : decode (mC (m_X8_readSum (n + 1) 0 0)) pc = .ok (.invokevirtual 63, 3)) (k : ∀ v h', pq_K h v h' → AW (m_X8_readSum (n + 1) 0 0) 0 0 (pc + 3) lv (v.toList ++ []) h' K) : AW (m_X8_readSum (n + 1) 0 0) 0 0 pc lv [.ref 11] h K :=
  aw_callV (M' := m_X8_peek n 0 0) (vs := []) (rest := []) hd (cV_X8_peek n 0 0).1 kc_8 (ws_11 I.1) (cV_X8_peek n 0 0).2.1 (cV_X8_peek n 0 0).2.2 tw_685 rfl (rz0 (Nat.le_of_ble_eq_true rfl)).1 (Nat.le_of_ble_eq_true rfl) ⟨Nat.le_refl _, Nat.le_refl _⟩ (fun _ _ _ _ _ _ => trivial) (pq_ct n I) k
def x_pk (ws : List Nat) : Fx := fun a => match lk 0 a.1, a.2.1 with
  | some (.inr 21), [] => bif inw ws 11 2 then some [(84, a.1, [], kfh (fun q => Nat.beq q.1 11 && Nat.beq q.2 2) 11 a.2.2), (46, a.1, [], (((11, 2), (0, 159)) :: (kfh (fun q => Nat.beq q.1 11 && Nat.beq q.2 2) 11 a.2.2).1, (kfh (fun q => Nat.beq q.1 11 && Nat.beq q.2 2) 11 a.2.2).2)), (50, a.1, [], (((11, 2), (0, 159)) :: (kfh (fun q => Nat.beq q.1 11 && Nat.beq q.2 2) 11 a.2.2).1, (kfh (fun q => Nat.beq q.1 11 && Nat.beq q.2 2) 11 a.2.2).2))] else none
  | _, _ => none
theorem z_pk (n : Nat) : Sd ws h0 (m_X8_readSum (n + 1) 0 0) K 19 (x_pk ws) := by
  intro g a out e lv st h G kx
  obtain ⟨la, sa, hf⟩ := a
  unfold x_pk at e
  split at e
  · rename_i q0 q1
    have q1 : sa = [] := q1
    subst q1
    cases z : inw ws 11 2 with
    | false => rw [z] at e; cases e
    | true =>
      rw [z] at e
      have e := (Option.some.inj e).symm
      subst e
      cases st with
      | cons _ _ => exact G.2.1.elim
      | nil =>
        obtain ⟨j0, v0, hj0, e0⟩ := lm_lk G.1 q0
        have e0 : v0 = .ref 11 := e0
        subst e0
        have I := G.2.2.2.1
        have t2 : tf 11 2 = (0, 160) := by decide +kernel
        have GG : ∀ k : Int32, rin k.toInt (0, 160) → Gm g ws h0 (la, [], kfh (fun q => Nat.beq q.1 11 && Nat.beq q.2 2) 11 hf) lv [] (h_im h 11 2 k) := fun k hk =>
          Gm.im (sa := []) G (by rw [t2]; exact hk) (by decide +kernel) z (fun q hq y => by rw [y.1, y.2] at hq; exact absurd hq (by decide))
        have GF : ∀ k : Int32, 0 ≤ k.toInt → k.toInt ≤ 159 → Gm g ws h0 (la, [], (((11, 2), (0, 159)) :: (kfh (fun q => Nat.beq q.1 11 && Nat.beq q.2 2) 11 hf).1, (kfh (fun q => Nat.beq q.1 11 && Nat.beq q.2 2) 11 hf).2)) lv [] (h_im h 11 2 k) := fun k k0 k1 => by
          have G' := GG k ⟨k0, by show _ ≤ (160 : Int); omega⟩
          refine ⟨G'.1, G'.2.1, ⟨fun q hq => ?_, G'.2.2.1.2⟩, G'.2.2.2⟩
          rcases List.mem_cons.mp hq with y | y
          · rw [y]; show rin (h_i (h_im h 11 2 k) 11 2).toInt (0, 159); rw [h_i_im, if_pos ⟨rfl, rfl⟩]; exact ⟨k0, k1⟩
          · exact G'.2.2.1.1 q y
        have n43 : ¬ (-1 : Int32) = 43 := by decide
        have n45 : ¬ (-1 : Int32) = 45 := by decide
        have ll : (h_i h 11 1).toInt ≤ 160 := (pq_len I).2
        -- the second and third look
        have third : ∀ k : Int32, rin k.toInt (0, 160) → k.toInt < (h_i h 11 1).toInt → h_i h 31 k.toNatClampNeg ≠ 32 → AW (m_X8_readSum (n + 1) 0 0) 0 0 37 lv [] (h_im h 11 2 k) K := by
          intro k hk k1 k2
          have k0 : 0 ≤ k.toInt := hk.1
          have I1 := pq_iv I hk
          have e2 : h_i (h_im h 11 2 k) 11 2 = k := by rw [h_i_im, if_pos ⟨rfl, rfl⟩]
          have e1 : h_i (h_im h 11 2 k) 11 1 = h_i h 11 1 := by rw [h_i_im, if_neg (fun z => absurd z.2 (by decide))]
          have e31 : ∀ j, h_i (h_im h 11 2 k) 31 j = h_i h 31 j := fun j => by rw [h_i_im, if_neg (fun z => absurd z.1 (by decide))]
          refine aw_aload_n (i := 0) rfl d_X8_readSum_37 j0 hj0 ?_
          refine aw_pk I1 d_X8_readSum_38 (fun v h' q => ?_)
          obtain ⟨r, k', q1, q2, _, _, q5⟩ := q
          have fr : pq_fresh (h_im h 11 2 k) := ⟨by rw [e2, e1]; exact k1, by rw [e2, e31]; exact k2⟩
          have q6 := (q5 fr).1
          rw [e2] at q6
          rw [q6, im_im] at q2
          subst q1 q2
          refine aw_bipush d_X8_readSum_41 ib_43 ?_
          refine aw_icmp_ne (tgt := 50) d_X8_readSum_43 rfl (fun _ => ?_) (fun _ => ?_)
          · exact kx _ (List.mem_cons_of_mem _ (List.mem_cons_of_mem _ List.mem_cons_self)) _ _ _ (GF k k0 (by omega))
          · exact kx _ (List.mem_cons_of_mem _ List.mem_cons_self) _ _ _ (GF k k0 (by omega))
        refine aw_aload_n (i := 0) rfl d_X8_readSum_19 j0 hj0 ?_
        refine aw_pk I d_X8_readSum_20 (fun v h' q => ?_)
        obtain ⟨r, k, q1, q2, q3, q4, _⟩ := q
        subst q1 q2
        refine aw_bipush d_X8_readSum_23 ib_43 ?_
        refine aw_icmp_eq (tgt := 37) d_X8_readSum_25 rfl (fun c => ?_) (fun c => ?_)
        · rcases q4 with q4 | q4
          · rw [q4] at c; exact absurd c n43
          · exact third k q3 q4.1 (by rw [← q4.2.1]; exact q4.2.2)
        · have I1 := pq_iv I q3
          have e1 : h_i (h_im h 11 2 k) 11 1 = h_i h 11 1 := by rw [h_i_im, if_neg (fun z => absurd z.2 (by decide))]
          have e31 : ∀ j, h_i (h_im h 11 2 k) 31 j = h_i h 31 j := fun j => by rw [h_i_im, if_neg (fun z => absurd z.1 (by decide))]
          refine aw_aload_n (i := 0) rfl d_X8_readSum_28 j0 hj0 ?_
          refine aw_pk I1 d_X8_readSum_29 (fun v h' q => ?_)
          obtain ⟨r', k', p1, p2, p3, p4, _⟩ := q
          rw [im_im] at p2
          rw [e1, e31] at p4
          subst p1 p2
          refine aw_bipush d_X8_readSum_32 ib_45 ?_
          refine aw_icmp_ne (tgt := 84) d_X8_readSum_34 rfl (fun _ => ?_) (fun d => ?_)
          · exact kx _ List.mem_cons_self _ _ _ (GG k' p3)
          · rcases p4 with p4 | p4
            · rw [p4] at d; exact absurd d n45
            · exact third k' p3 p4.1 (by rw [← p4.2.1]; exact p4.2.2)
  · cases e
end PK
