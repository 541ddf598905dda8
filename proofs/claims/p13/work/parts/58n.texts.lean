/-! indexOf as a step of the check; charAt of the reference's letters -/
def x_ix (n : Nat) : Fx := fun a => match a.2.1 with
  | .inl _ :: .inr 4 :: st => bif Nat.ble ((st.map ac).sum) 8 then some [(n, a.1, avi (-1, 8) :: st, a.2.2)] else none
  | _ => none
theorem z_ix {ws : List Nat} {h0 : Hp_} {M : Mc_} {K : Option Value → Hp_ → Prop} {pc : Nat} {idx d N : Nat} (hN : d + 3 = N) (hd : decode (mC M) pc = .ok (.invokevirtual idx, 3)) (hlk : Cond.methodLink (mY M).cls idx ⟨"java/lang/String", "indexOf", "(I)I"⟩ ∈ lw_g) (hz : rz_ (m_J0_indexOf_0f7a4 N 0 0) M) {nx : Nat} (hnx : pc + 3 = nx) : Sd ws h0 M K pc (x_ix nx) := by
  subst hN hnx
  intro g a out e lv st h G kx
  obtain ⟨la, sa, hf⟩ := a
  unfold x_ix at e
  split at e
  · rename_i p0 sa' q
    have q : sa = .inl p0 :: .inr 4 :: sa' := q
    subst q
    cases z : Nat.ble ((sa'.map ac).sum) 8 with
    | false => rw [z] at e; cases e
    | true =>
      rw [z] at e
      have e := (Option.some.inj e).symm
      subst e
      obtain ⟨v, w, t, es, ⟨x, ex, _⟩, _, ⟨i, hi, ew⟩, _, m⟩ := sm2 G.2.1
      subst es ex ew
      refine aw_Ti [.int x] t hi hd rfl (cV_J0_indexOf_0f7a4 (d + 3) 0 0) hlk rfl ⟨hz.1, Nat.zero_le _, Nat.zero_le _⟩ (by rw [sm_cat m]; exact Nat.ble_eq.mp z) hz.2.2.2 (c_ix1 d i hi h x) (fun r h1 kk => ?_)
      obtain ⟨k1, k2⟩ := kk
      subst k2
      exact kx _ List.mem_cons_self _ _ _ ⟨G.1, ⟨bm_i k1 _, sl_0, m⟩, G.2.2⟩
  · cases e
theorem c_preIndex (d : Nat) (h : Hp_) (x n : Int32) (w : Value) (hw : w = .null ∨ w = .ref 2100) (h0 : ¬ x < 0) (h1 : x < n) : Ci (m_J3_checkIndex_8e157 (d + 0) 0 0) [.int x, .int n, w] h (fun _ h' => h' = h) := by
  refine Ct.of (fun _ _ _ => trivial) rfl (by rcases hw with z | z <;> subst z <;> exact Nat.le_of_ble_eq_true rfl) ?_
  show AW (m_J3_checkIndex_8e157 (d + 0) 0 0) 0 0 0 [(0, .int x), (1, .int n), (2, w)] [] h (kI _)
  refine aw_iload_n (i := 0) rfl d_J3_checkIndex_8e157_0 0 rfl ?_
  refine aw_if_lt (tgt := 9) d_J3_checkIndex_8e157_1 rfl (fun z => absurd z h0) (fun _ => ?_)
  refine aw_iload_n (i := 0) rfl d_J3_checkIndex_8e157_4 0 rfl ?_
  refine aw_iload_n (i := 1) rfl d_J3_checkIndex_8e157_5 1 rfl ?_
  refine aw_icmp_lt (tgt := 16) d_J3_checkIndex_8e157_6 rfl (fun _ => ?_) (fun z => absurd h1 z)
  refine aw_iload_n (i := 0) rfl d_J3_checkIndex_8e157_16 0 rfl ?_
  exact aw_iret rfl d_J3_checkIndex_8e157_17 ⟨Nat.le_refl _, Nat.le_refl _⟩ ⟨_, rfl, rfl⟩
theorem c_strIndex (d : Nat) (h : Hp_) (x n : Int32) (h0 : ¬ x < 0) (h1 : x < n) : Cv (m_J0_checkIndex_df160 (d + 1) 0 0) [.int x, .int n] h (fun h' => h' = h) := by
  refine Ct.of (fun _ _ _ => trivial) rfl (Nat.le_of_ble_eq_true rfl) ?_
  show AW (m_J0_checkIndex_df160 (d + 1) 0 0) 0 0 0 [(0, .int x), (1, .int n)] [] h (kV _)
  have go : ∀ w : Value, (w = .null ∨ w = .ref 2100) → AW (m_J0_checkIndex_df160 (d + 1) 0 0) 0 0 5 [(0, .int x), (1, .int n)] [w, .int n, .int x] h (kV (fun h' => h' = h)) := by
    intro w hw
    refine aw_Si [.int x, .int n, w] [] d_J0_checkIndex_df160_5 (cS_J3_checkIndex_8e157 (d + 0) 0 0) tw_2414 rfl (rr0 (Nat.le_of_ble_eq_true rfl) (Nat.le_of_ble_eq_true rfl)) (Nat.le_of_ble_eq_true rfl) xs0 (c_preIndex d h x n w hw h0 h1) (fun r h1 kk => ?_)
    rw [kk]
    refine aw_pop d_J0_checkIndex_df160_8 rfl ?_
    exact aw_vret rfl d_J0_checkIndex_df160_9 ⟨Nat.le_refl _, Nat.le_refl _⟩ ⟨rfl, rfl⟩
  refine aw_iload_n (i := 0) rfl d_J0_checkIndex_df160_0 0 rfl ?_
  refine aw_iload_n (i := 1) rfl d_J0_checkIndex_df160_1 1 rfl ?_
  exact aw_tfmt tw_813 d_J0_checkIndex_df160_2 (go _ (Or.inl rfl)) (go _ (Or.inr rfl))
theorem ch_all : (List.range 9).all (fun j => decide (((((tby 1).getD (Int32.ofNat j).toNatClampNeg 0 &&& 255).toUInt32 % 65536).toInt32 = (tby 1).getD j 0) ∧ ¬ Int32.ofNat j < 0 ∧ Int32.ofNat j < Int32.ofNat (tln 1) ∧ 0 ≤ (Int32.ofNat j).toInt ∧ (Int32.ofNat j).toInt < (tln 1 : Int) ∧ 0 ≤ ((tby 1).getD j 0).toInt ∧ ((tby 1).getD j 0).toInt ≤ 127)) = true := by decide +kernel
theorem ch_at {j : Nat} (hj : j < 9) : (((tby 1).getD (Int32.ofNat j).toNatClampNeg 0 &&& 255).toUInt32 % 65536).toInt32 = (tby 1).getD j 0 ∧ ¬ Int32.ofNat j < 0 ∧ Int32.ofNat j < Int32.ofNat (tln 1) ∧ 0 ≤ (Int32.ofNat j).toInt ∧ (Int32.ofNat j).toInt < (tln 1 : Int) ∧ 0 ≤ ((tby 1).getD j 0).toInt ∧ ((tby 1).getD j 0).toInt ≤ 127 :=
  of_decide_eq_true (List.all_eq_true.mp ch_all j (List.mem_range.mpr hj))
theorem ch_nar {j : Nat} (hj : j < 9) : narrow .char (.int ((tby 1).getD j 0)) = .int ((tby 1).getD j 0) := by
  match j, hj with
  | 0, _ => rfl
  | 1, _ => rfl
  | 2, _ => rfl
  | 3, _ => rfl
  | 4, _ => rfl
  | 5, _ => rfl
  | 6, _ => rfl
  | 7, _ => rfl
  | 8, _ => rfl
  | j + 9, h => exact absurd h (by omega)
theorem c_latAt (d j : Nat) (hj : j < 9) (h : Hp_) : Ci (m_J1_charAt_3b067 (d + 2) 0 0) [.ref 2001, .int (Int32.ofNat j)] h (fun r h' => r = (tby 1).getD j 0 ∧ h' = h) := by
  obtain ⟨z1, z2, z3, z4, z5, _⟩ := ch_at hj
  refine Ct.of (fun _ _ _ => trivial) rfl (Nat.le_of_ble_eq_true rfl) ?_
  show AW (m_J1_charAt_3b067 (d + 2) 0 0) 0 0 0 [(0, .ref 2001), (1, .int (Int32.ofNat j))] [] h (kI _)
  refine aw_iload_n (i := 1) rfl d_J1_charAt_3b067_0 1 rfl ?_
  refine aw_aload_n (i := 0) rfl d_J1_charAt_3b067_1 0 rfl ?_
  refine aw_tlen (i := 1) (by decide) d_J1_charAt_3b067_2 ?_
  refine aw_Sv [.int (Int32.ofNat j), .int (Int32.ofNat (tln 1))] [] d_J1_charAt_3b067_3 (cS_J0_checkIndex_df160 (d + 1) 0 0) tw_2411 rfl (rr0 (Nat.le_of_ble_eq_true rfl) (Nat.le_of_ble_eq_true rfl)) (Nat.le_of_ble_eq_true rfl) xs0 (c_strIndex d h _ _ z2 z3) (fun h1 kk => ?_)
  rw [kk]
  refine aw_aload_n (i := 0) rfl d_J1_charAt_3b067_6 0 rfl ?_
  refine aw_iload_n (i := 1) rfl d_J1_charAt_3b067_7 1 rfl ?_
  refine aw_tb (i := 1) (by decide) (vp_tln z4 z5) d_J1_charAt_3b067_8 ?_
  refine aw_sipush (v := 255) d_J1_charAt_3b067_9 (by decide) ?_
  refine aw_iand d_J1_charAt_3b067_12 ?_
  refine aw_i2c d_J1_charAt_3b067_13 ?_
  rw [z1]
  exact aw_zret rfl (ch_nar hj) d_J1_charAt_3b067_14 ⟨Nat.le_refl _, Nat.le_refl _⟩ ⟨_, rfl, rfl, rfl⟩
theorem c_charAt (d j : Nat) (hj : j < 9) (h : Hp_) : Ci (m_J0_charAt_5068e (d + 3) 0 0) [.ref 1001, .int (Int32.ofNat j)] h (fun r h' => r = (tby 1).getD j 0 ∧ h' = h) := by
  refine Ct.of (fun _ _ _ => trivial) rfl (Nat.le_of_ble_eq_true rfl) ?_
  show AW (m_J0_charAt_5068e (d + 3) 0 0) 0 0 0 [(0, .ref 1001), (1, .int (Int32.ofNat j))] [] h (kI _)
  refine aw_aload_n (i := 0) rfl d_J0_charAt_5068e_0 0 rfl ?_
  refine aw_Ti (i := 1) [] [] (by decide) d_J0_charAt_5068e_1 rfl (cV_J0_isLatin1_aae02 (d + 2) 0 0) tw_768 rfl (rr0 (Nat.le_of_ble_eq_true rfl) (Nat.le_of_ble_eq_true rfl)) (Nat.le_of_ble_eq_true rfl) xs0 (c_isLatin1 (d + 2) 1 (by decide) h) (fun r h1 kk => ?_)
  obtain ⟨e1, e2⟩ := kk
  rw [e2, e1]
  refine aw_if_eq (tgt := 16) d_J0_charAt_5068e_4 rfl (fun c => absurd c (by decide)) (fun _ => ?_)
  refine aw_aload_n (i := 0) rfl d_J0_charAt_5068e_7 0 rfl ?_
  refine aw_tval (i := 1) (by decide) tw_2711 d_J0_charAt_5068e_8 ?_
  refine aw_iload_n (i := 1) rfl d_J0_charAt_5068e_11 1 rfl ?_
  refine aw_Si [.ref 2001, .int (Int32.ofNat j)] [] d_J0_charAt_5068e_12 (cS_J1_charAt_3b067 (d + 2) 0 0) tw_2408 rfl (rr0 (Nat.le_of_ble_eq_true rfl) (Nat.le_of_ble_eq_true rfl)) (Nat.le_of_ble_eq_true rfl) xs0 (c_latAt d j hj h) (fun r h1 kk => ?_)
  obtain ⟨e3, e4⟩ := kk
  rw [e3]
  exact aw_zret rfl (ch_nar hj) d_J0_charAt_5068e_15 ⟨Nat.le_refl _, Nat.le_refl _⟩ ⟨_, rfl, rfl, e4⟩
section TXW
variable {M : Mc_} {kc ks pc : Nat} {lv : List (Nat × Value)} {st : List Value} {h : Hp_} {K : Option Value → Hp_ → Prop}
theorem aw_ldcwT {row n i q : Nat} {tx : String} (hd : decode (mC M) pc = .ok (.ldc_w i, 3)) (hr : h_strs[row]? = some ((mY M).cls, i, tx, n)) (hq : 1000 + n = q) (k : AW M kc ks (pc + 3) lv (.ref q :: st) h K) : AW M kc ks pc lv st h K := by
  intro l p e s m args below meth c dC dI cy A ad0 adV ad dom0 dom H locs ls hf hX hT hE hW hS hl ho hs
  subst hq
  have hZ := hT.2 _ (List.mem_of_getElem? hr)
  intro T hT0 X
  obtain ⟨t, a1, b1⟩ := k l p e s m args below meth c dC dI cy A ad0 adV ad dom0 dom H locs ls hf hX hT hE hW hS hl ho (ok_c (fun z w => by cases w; exact Or.inr (Nat.le_add_right _ _)) hs) T hT0 X
  exact ⟨t, X.ldcStringW hf.1 hf.2.2.2.2.2.1 (text := tx) (a := ad (1000 + n)) hZ.1 hZ.2 (g := F0 m pc ls (st.map (h_cv ad))) rfl (by rw [hf.2.1]; exact hd) t a1, b1⟩
theorem z_ldcwT {ws : List Nat} {h0 : Hp_} {row n i : Nat} {tx : String} (hd : decode (mC M) pc = .ok (.ldc_w i, 3)) (hr : h_strs[row]? = some ((mY M).cls, i, tx, n)) (hn : n < 4) {nx : Nat} (hnx : pc + 3 = nx) : Sd ws h0 M K pc (x_pushR 4 nx) := by
  subst hnx
  exact sd_pushR (.ref (1000 + n)) (fun _ => ⟨n, hn, rfl⟩) (fun _ _ _ k => aw_ldcwT hd hr rfl k)
end TXW
theorem c_letterFor (d j : Nat) (hj : j < 9) (h : Hp_) : Ci (m_X12_letterFor (d + 4) 0 0) [.int (Int32.ofNat j)] h (fun r h' => r = (tby 1).getD j 0 ∧ h' = h) := by
  refine Ct.of (fun _ _ _ => trivial) rfl (Nat.le_of_ble_eq_true rfl) ?_
  show AW (m_X12_letterFor (d + 4) 0 0) 0 0 0 [(0, .int (Int32.ofNat j))] [] h (kI _)
  refine aw_ldcwT (row := 5) d_X12_letterFor_0 rfl rfl ?_
  refine aw_iload_n (i := 0) rfl d_X12_letterFor_3 0 rfl ?_
  refine aw_Ti (i := 1) [.int (Int32.ofNat j)] [] (by decide) d_X12_letterFor_4 rfl (cV_J0_charAt_5068e (d + 3) 0 0) tw_2404 rfl (rr0 (Nat.le_of_ble_eq_true rfl) (Nat.le_of_ble_eq_true rfl)) (Nat.le_of_ble_eq_true rfl) xs0 (c_charAt d j hj h) (fun r h1 kk => ?_)
  exact aw_iret rfl d_X12_letterFor_7 ⟨Nat.le_refl _, Nat.le_refl _⟩ ⟨_, rfl, kk⟩
def wz_X12_letterFor : List Nat := []
def q_X12_letterFor : Ctr := ([.inl ((0, 8), (0, 0), none)], [], (some (.inl ((0, 127), (0, 0), none))), [], wz_X12_letterFor)
theorem of_nat32 {x : Int32} (h0 : 0 ≤ x.toInt) : Int32.ofNat x.toNatClampNeg = x := by
  refine Int32.toInt_inj.mp ?_
  have b := Int32.toInt_le x
  have b : x.toInt ≤ 2147483647 := b
  have e : (x.toNatClampNeg : Int) = x.toInt := by show ((x.toInt.toNat : Nat) : Int) = _; omega
  rw [Int32.toInt_ofNat_of_lt (by omega)]
  exact e
theorem hc_X12_letterFor (n : Nat) : Hc (m_X12_letterFor (n + 4) 0 0) q_X12_letterFor := by
  intro vs h ma I hp
  match vs, ma with
  | [v0], ma =>
    obtain ⟨⟨x, e0, b, _⟩, _⟩ := ma
    subst e0
    have b0 : 0 ≤ x.toInt := b.1
    have b1 : x.toInt ≤ 8 := b.2
    have e : (x.toNatClampNeg : Int) = x.toInt := by show ((x.toInt.toNat : Nat) : Int) = _; omega
    have hj : x.toNatClampNeg < 9 := by omega
    have c := c_letterFor n x.toNatClampNeg hj h
    rw [of_nat32 b0] at c
    refine Ct.mono c (fun v h' q => ?_)
    obtain ⟨r, ev, er, eh⟩ := q
    subst ev eh
    refine ⟨I, Fr.rf _ _, fun _ z => (nomatch z), _, rfl, r, rfl, ?_, fun _ z => (nomatch z)⟩
    rw [er]
    exact (ch_at hj).2.2.2.2.2
