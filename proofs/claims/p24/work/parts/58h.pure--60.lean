section
/-! words for the walks -/
noncomputable abbrev kI (K : Int32 → Hp_ → Prop) : Option Value → Hp_ → Prop := fun v h' => ∃ r, v = some (.int r) ∧ K r h'
noncomputable abbrev kV (K : Hp_ → Prop) : Option Value → Hp_ → Prop := fun v h' => v = none ∧ K h'
noncomputable abbrev kR (K : Option Nat → Hp_ → Prop) : Option Value → Hp_ → Prop := fun v h' => ∃ o, v = some (va_rf o) ∧ K o h'
theorem aw_lvp {M : Mc_} {kc ks pc : Nat} {lv : List (Nat × Value)} {st : List Value} {h : Hp_} {K : Option Value → Hp_ → Prop} (ps : List Nat) (lv' : List (Nat × Value)) (hp : ps.filterMap (fun i => lv[i]?) = lv') (k : AW M kc ks pc lv' st h K) : AW M kc ks pc lv st h K := aw_lv lv' (fun q hq => by
  rw [← hp] at hq
  obtain ⟨i, -, hi⟩ := List.mem_filterMap.mp hq
  exact List.mem_of_getElem? hi) k
theorem hi_s (h : Hp_) (a k : Nat) (x : Int32) : h_i (h_im h a k x) a k = x := by rw [h_i_im, if_pos ⟨rfl, rfl⟩]
theorem hi_n (h : Hp_) (a k : Nat) (x : Int32) (b j : Nat) (hb : b ≠ a) : h_i (h_im h a k x) b j = h_i h b j := by rw [h_i_im, if_neg (fun z => hb z.1)]
theorem hi_o (h : Hp_) (a k : Nat) (x : Int32) (j : Nat) (hj : j ≠ k) : h_i (h_im h a k x) a j = h_i h a j := by rw [h_i_im, if_neg (fun z => hj z.2)]
theorem aw_vi {M : Mc_} {kc ks pc : Nat} {lv : List (Nat × Value)} {st : List Value} {h : Hp_} {K : Option Value → Hp_ → Prop} {v1 v2 : Int32} (e : v1 = v2) (k : AW M kc ks pc lv (.int v2 :: st) h K) : AW M kc ks pc lv (.int v1 :: st) h K := e ▸ k
theorem aw_vl {M : Mc_} {kc ks pc : Nat} {lv : List (Nat × Value)} {st : List Value} {h : Hp_} {K : Option Value → Hp_ → Prop} {v1 v2 : Int64} (e : v1 = v2) (k : AW M kc ks pc lv (.long v2 :: st) h K) : AW M kc ks pc lv (.long v1 :: st) h K := e ▸ k
theorem nf_z {x : Int32} (h : x = 0 ∨ x = 1) : narrow .boolean (.int x) = .int x ∧ fits .boolean (.int x) = true := by rcases h with h | h <;> subst h <;> exact ⟨rfl, rfl⟩
theorem sw_ne {x w : Int32} (v : Int) (hw : w.toInt = v) (h : ¬ x = w) : x.toInt ≠ v := fun z => h (Int32.toInt_inj.mp (z.trans hw.symm))
theorem aw_tableD {M : Mc_} {kc ks pc : Nat} {lv : List (Nat × Value)} {st : List Value} {h : Hp_} {K : Option Value → Hp_ → Prop} {dflt lo hi : Int} {offs : Array Int} {len : Nat} {x : Int32} {tgt : Nat} (hd : decode (mC M) pc = .ok (.tableswitch dflt lo hi offs, len)) (h1 : x.toInt < lo ∨ hi < x.toInt ∨ offs[(x.toInt - lo).toNat]? = some dflt) (ht : (pc : Int) + dflt = (tgt : Int)) (k : AW M kc ks tgt lv st h K) : AW M kc ks pc lv (.int x :: st) h K := by
  by_cases h2 : x.toInt < lo
  · exact aw_tableOut hd (Or.inl h2) ht k
  · by_cases h3 : hi < x.toInt
    · exact aw_tableOut hd (Or.inr h3) ht k
    · rcases h1 with h1 | h1 | h1
      · exact absurd h1 h2
      · exact absurd h1 h3
      · exact aw_tableIn hd h2 h3 h1 ht k
theorem rr0 {y' y : MethodName} {cc' cc : ByteArray} {nL' nL : Nat} {ret' ret : Option FieldType} {d h' H : Nat} (h1 : h' + 1 ≤ H) (h2 : nL' ≤ 81) : rr_ (fun _ _ _ => True, y', cc', nL', ret', { frames := d + h', cells := 0, slots := 0, locals := 100 * (d + h') }) (fun _ _ _ => True, y, cc, nL, ret, { frames := d + H, cells := 0, slots := 0, locals := 100 * (d + H) }) 0 0 :=
  ⟨⟨(show d + h' + 1 ≤ d + H by omega), (show 8 + (nL' + 11) + 100 * (d + h') ≤ 100 * (d + H) by omega)⟩, Nat.le_refl _, Nat.le_refl _⟩
theorem xs0 {y : MethodName} {cc : ByteArray} {nL : Nat} {ret : Option FieldType} {R : Room} : xs_ (fun _ _ _ => True, y, cc, nL, ret, R) := fun _ _ _ _ _ _ => trivial

theorem t_X12_in (d : Nat) (h : Hp_) (x0 : Int32) (x1 : Int32) (x2 : Int32) (K : Int32 → Hp_ → Prop) (k : (x0 < x1 → K 0 h) ∧ (¬ x0 < x1 → (x2 < x0 → K 0 h) ∧ (¬ x2 < x0 → K 1 h))) : Ci (m_X12_in (d + 0) 0 0) [.int x0, .int x1, .int x2] h K := by
  refine Ct.of (fun _ _ _ => trivial) pn_X12 (Nat.le_of_ble_eq_true rfl) ?_
  show AW (m_X12_in (d + 0) 0 0) 0 0 0 [(0, .int x0), (1, .int x1), (2, .int x2)] [] h (kI K)
  refine aw_iload_n (i := 0) rfl d_X12_in_0 0 rfl ?_
  refine aw_iload_n (i := 1) rfl d_X12_in_1 1 rfl ?_
  refine aw_icmp_lt (tgt := 14) d_X12_in_2 rfl (fun c1 => ?_) (fun c1 => ?_)
  · have k := k.1 c1
    refine aw_iconst (v := 0) d_X12_in_14 ic_0 ?_
    exact aw_zret rfl rfl d_X12_in_15 ⟨Nat.le_refl _, Nat.le_refl _⟩ ⟨_, rfl, k⟩
  · have k := k.2 c1
    refine aw_iload_n (i := 0) rfl d_X12_in_5 0 rfl ?_
    refine aw_iload_n (i := 2) rfl d_X12_in_6 2 rfl ?_
    refine aw_icmp_gt (tgt := 14) d_X12_in_7 rfl (fun c2 => ?_) (fun c2 => ?_)
    · have k := k.1 c2
      refine aw_iconst (v := 0) d_X12_in_14 ic_0 ?_
      exact aw_zret rfl rfl d_X12_in_15 ⟨Nat.le_refl _, Nat.le_refl _⟩ ⟨_, rfl, k⟩
    · have k := k.2 c2
      refine aw_iconst (v := 1) d_X12_in_10 ic_1 ?_
      refine aw_goto (tgt := 15) d_X12_in_11 rfl ?_
      exact aw_zret rfl rfl d_X12_in_15 ⟨Nat.le_refl _, Nat.le_refl _⟩ ⟨_, rfl, k⟩
theorem s_X12_in (d : Nat) (h : Hp_) (x lo hi : Int32) : Ci (m_X12_in (d + 0) 0 0) [.int x, .int lo, .int hi] h (fun r h1 => r = bI (lo ≤ x ∧ x ≤ hi) ∧ h1 = h) := by
  refine t_X12_in d h x lo hi _ ⟨fun c => ⟨?_, rfl⟩, fun c => ⟨fun e => ⟨?_, rfl⟩, fun e => ⟨?_, rfl⟩⟩⟩
  · exact (bI_0.mpr (fun z => absurd c (Int32.not_lt.mpr z.1))).symm
  · exact (bI_0.mpr (fun z => absurd e (Int32.not_lt.mpr z.2))).symm
  · exact (bI_1.mpr ⟨Int32.not_lt.mp c, Int32.not_lt.mp e⟩).symm
theorem t_X11_within (d : Nat) (h : Hp_) (x0 : Int32) (x1 : Int32) (x2 : Int32) (K : Int32 → Hp_ → Prop) (k : (x0 < x1 → K 0 h) ∧ (¬ x0 < x1 → (x2 < x0 → K 0 h) ∧ (¬ x2 < x0 → K 1 h))) : Ci (m_X11_within (d + 0) 0 0) [.int x0, .int x1, .int x2] h K := by
  refine Ct.of (fun _ _ _ => trivial) pn_X11 (Nat.le_of_ble_eq_true rfl) ?_
  show AW (m_X11_within (d + 0) 0 0) 0 0 0 [(0, .int x0), (1, .int x1), (2, .int x2)] [] h (kI K)
  refine aw_iload_n (i := 0) rfl d_X11_within_0 0 rfl ?_
  refine aw_iload_n (i := 1) rfl d_X11_within_1 1 rfl ?_
  refine aw_icmp_lt (tgt := 14) d_X11_within_2 rfl (fun c1 => ?_) (fun c1 => ?_)
  · have k := k.1 c1
    refine aw_iconst (v := 0) d_X11_within_14 ic_0 ?_
    exact aw_zret rfl rfl d_X11_within_15 ⟨Nat.le_refl _, Nat.le_refl _⟩ ⟨_, rfl, k⟩
  · have k := k.2 c1
    refine aw_iload_n (i := 0) rfl d_X11_within_5 0 rfl ?_
    refine aw_iload_n (i := 2) rfl d_X11_within_6 2 rfl ?_
    refine aw_icmp_gt (tgt := 14) d_X11_within_7 rfl (fun c2 => ?_) (fun c2 => ?_)
    · have k := k.1 c2
      refine aw_iconst (v := 0) d_X11_within_14 ic_0 ?_
      exact aw_zret rfl rfl d_X11_within_15 ⟨Nat.le_refl _, Nat.le_refl _⟩ ⟨_, rfl, k⟩
    · have k := k.2 c2
      refine aw_iconst (v := 1) d_X11_within_10 ic_1 ?_
      refine aw_goto (tgt := 15) d_X11_within_11 rfl ?_
      exact aw_zret rfl rfl d_X11_within_15 ⟨Nat.le_refl _, Nat.le_refl _⟩ ⟨_, rfl, k⟩
theorem s_X11_within (d : Nat) (h : Hp_) (x lo hi : Int32) : Ci (m_X11_within (d + 0) 0 0) [.int x, .int lo, .int hi] h (fun r h1 => r = bI (lo ≤ x ∧ x ≤ hi) ∧ h1 = h) := by
  refine t_X11_within d h x lo hi _ ⟨fun c => ⟨?_, rfl⟩, fun c => ⟨fun e => ⟨?_, rfl⟩, fun e => ⟨?_, rfl⟩⟩⟩
  · exact (bI_0.mpr (fun z => absurd c (Int32.not_lt.mpr z.1))).symm
  · exact (bI_0.mpr (fun z => absurd e (Int32.not_lt.mpr z.2))).symm
  · exact (bI_1.mpr ⟨Int32.not_lt.mp c, Int32.not_lt.mp e⟩).symm
theorem t_X12_isPlace (d : Nat) (h : Hp_) (x0 : Int32) (K : Int32 → Hp_ → Prop) (k : K (bI (0 ≤ x0 ∧ x0 ≤ 15)) h) : Ci (m_X12_isPlace (d + 1) 0 0) [.int x0] h K := by
  refine Ct.of (fun _ _ _ => trivial) pn_X12 (Nat.le_of_ble_eq_true rfl) ?_
  show AW (m_X12_isPlace (d + 1) 0 0) 0 0 0 [(0, .int x0)] [] h (kI K)
  refine aw_iload_n (i := 0) rfl d_X12_isPlace_0 0 rfl ?_
  refine aw_iconst (v := 0) d_X12_isPlace_1 ic_0 ?_
  refine aw_bipush (v := 15) d_X12_isPlace_2 ib_15 ?_
  refine aw_Si [.int x0, .int 0, .int 15] [] d_X12_isPlace_4 (cS_X12_in (d + 0) 0 0) tw_2143 rfl (rr0 (Nat.le_of_ble_eq_true rfl) (Nat.le_of_ble_eq_true rfl)) (Nat.le_of_ble_eq_true rfl) xs0 (s_X12_in _ _ x0 0 15) (fun _ _ kk => ?_)
  obtain ⟨e1, e2⟩ := kk
  rw [e1, e2]
  exact aw_zret rfl (bI_nar _) d_X12_isPlace_7 ⟨Nat.le_refl _, Nat.le_refl _⟩ ⟨_, rfl, k⟩
theorem s_X12_isPlace (d : Nat) (h : Hp_) (x : Int32) : Ci (m_X12_isPlace (d + 1) 0 0) [.int x] h (fun r h1 => r = bI (0 ≤ x ∧ x ≤ 15) ∧ h1 = h) := by
  exact t_X12_isPlace d h x _ ⟨rfl, rfl⟩
theorem t_X12_isMan (d : Nat) (h : Hp_) (w : Wf h) (x1 : Int32) (K : Int32 → Hp_ → Prop) (k : K (bI (0 ≤ x1 ∧ x1 ≤ ((h_i h 1 7) - 1))) h) : Ci (m_X12_isMan (d + 1) 0 0) [.ref 1, .int x1] h K := by
  refine Ct.of (fun _ _ _ => trivial) pn_X12 (Nat.le_of_ble_eq_true rfl) ?_
  show AW (m_X12_isMan (d + 1) 0 0) 0 0 0 [(0, .ref 1), (1, .int x1)] [] h (kI K)
  refine aw_iload_n (i := 1) rfl d_X12_isMan_0 1 rfl ?_
  refine aw_iconst (v := 0) d_X12_isMan_1 ic_0 ?_
  refine aw_aload_n (i := 0) rfl d_X12_isMan_2 0 rfl ?_
  refine aw_geti (k0 := 7) kc_12 (ws_1 w) (Nat.le_of_ble_eq_true rfl) tw_1749 d_X12_isMan_3 rfl ?_
  refine aw_iconst (v := 1) d_X12_isMan_6 ic_1 ?_
  refine aw_isub d_X12_isMan_7 ?_
  refine aw_Si [.int x1, .int 0, .int ((h_i h 1 7) - 1)] [] d_X12_isMan_8 (cS_X12_in (d + 0) 0 0) tw_2143 rfl (rr0 (Nat.le_of_ble_eq_true rfl) (Nat.le_of_ble_eq_true rfl)) (Nat.le_of_ble_eq_true rfl) xs0 (s_X12_in _ _ x1 0 ((h_i h 1 7) - 1)) (fun _ _ kk => ?_)
  obtain ⟨e1, e2⟩ := kk
  rw [e1, e2]
  exact aw_zret rfl (bI_nar _) d_X12_isMan_11 ⟨Nat.le_refl _, Nat.le_refl _⟩ ⟨_, rfl, k⟩
theorem s_X12_isMan (d : Nat) (h : Hp_) (w : Wf h) (x : Int32) : Ci (m_X12_isMan (d + 1) 0 0) [.ref 1, .int x] h (fun r h1 => r = bI (0 ≤ x ∧ x ≤ (h_i h 1 7) - 1) ∧ h1 = h) := by
  exact t_X12_isMan d h w x _ ⟨rfl, rfl⟩
theorem t_X12_isKnowing (d : Nat) (h : Hp_) (w : Wf h) (x1 : Int32) (K : Int32 → Hp_ → Prop) (k : K (bI (0 ≤ x1 ∧ x1 ≤ (h_i h 1 0))) h) : Ci (m_X12_isKnowing (d + 1) 0 0) [.ref 1, .int x1] h K := by
  refine Ct.of (fun _ _ _ => trivial) pn_X12 (Nat.le_of_ble_eq_true rfl) ?_
  show AW (m_X12_isKnowing (d + 1) 0 0) 0 0 0 [(0, .ref 1), (1, .int x1)] [] h (kI K)
  refine aw_iload_n (i := 1) rfl d_X12_isKnowing_0 1 rfl ?_
  refine aw_iconst (v := 0) d_X12_isKnowing_1 ic_0 ?_
  refine aw_aload_n (i := 0) rfl d_X12_isKnowing_2 0 rfl ?_
  refine aw_geti (k0 := 0) kc_12 (ws_1 w) (Nat.le_of_ble_eq_true rfl) tw_1742 d_X12_isKnowing_3 rfl ?_
  refine aw_Si [.int x1, .int 0, .int (h_i h 1 0)] [] d_X12_isKnowing_6 (cS_X12_in (d + 0) 0 0) tw_2143 rfl (rr0 (Nat.le_of_ble_eq_true rfl) (Nat.le_of_ble_eq_true rfl)) (Nat.le_of_ble_eq_true rfl) xs0 (s_X12_in _ _ x1 0 (h_i h 1 0)) (fun _ _ kk => ?_)
  obtain ⟨e1, e2⟩ := kk
  rw [e1, e2]
  exact aw_zret rfl (bI_nar _) d_X12_isKnowing_9 ⟨Nat.le_refl _, Nat.le_refl _⟩ ⟨_, rfl, k⟩
theorem s_X12_isKnowing (d : Nat) (h : Hp_) (w : Wf h) (x : Int32) : Ci (m_X12_isKnowing (d + 1) 0 0) [.ref 1, .int x] h (fun r h1 => r = bI (0 ≤ x ∧ x ≤ (h_i h 1 0)) ∧ h1 = h) := by
  exact t_X12_isKnowing d h w x _ ⟨rfl, rfl⟩
theorem t_X11_isPlace (d : Nat) (h : Hp_) (x0 : Int32) (K : Int32 → Hp_ → Prop) (k : (x0 < 0 → K 0 h) ∧ (¬ x0 < 0 → (16 ≤ x0 → K 0 h) ∧ (¬ 16 ≤ x0 → K 1 h))) : Ci (m_X11_isPlace (d + 0) 0 0) [.int x0] h K := by
  refine Ct.of (fun _ _ _ => trivial) pn_X11 (Nat.le_of_ble_eq_true rfl) ?_
  show AW (m_X11_isPlace (d + 0) 0 0) 0 0 0 [(0, .int x0)] [] h (kI K)
  refine aw_iload_n (i := 0) rfl d_X11_isPlace_0 0 rfl ?_
  refine aw_if_lt (tgt := 14) d_X11_isPlace_1 rfl (fun c1 => ?_) (fun c1 => ?_)
  · have k := k.1 c1
    refine aw_iconst (v := 0) d_X11_isPlace_14 ic_0 ?_
    exact aw_zret rfl rfl d_X11_isPlace_15 ⟨Nat.le_refl _, Nat.le_refl _⟩ ⟨_, rfl, k⟩
  · have k := k.2 c1
    refine aw_iload_n (i := 0) rfl d_X11_isPlace_4 0 rfl ?_
    refine aw_bipush (v := 16) d_X11_isPlace_5 ib_16 ?_
    refine aw_icmp_ge (tgt := 14) d_X11_isPlace_7 rfl (fun c2 => ?_) (fun c2 => ?_)
    · have k := k.1 c2
      refine aw_iconst (v := 0) d_X11_isPlace_14 ic_0 ?_
      exact aw_zret rfl rfl d_X11_isPlace_15 ⟨Nat.le_refl _, Nat.le_refl _⟩ ⟨_, rfl, k⟩
    · have k := k.2 c2
      refine aw_iconst (v := 1) d_X11_isPlace_10 ic_1 ?_
      refine aw_goto (tgt := 15) d_X11_isPlace_11 rfl ?_
      exact aw_zret rfl rfl d_X11_isPlace_15 ⟨Nat.le_refl _, Nat.le_refl _⟩ ⟨_, rfl, k⟩
theorem s_X11_isPlace (d : Nat) (h : Hp_) (x : Int32) : Ci (m_X11_isPlace (d + 0) 0 0) [.int x] h (fun r h1 => r = bI (0 ≤ x ∧ x < 16) ∧ h1 = h) := by
  refine t_X11_isPlace d h x _ ⟨fun c => ⟨?_, rfl⟩, fun c => ⟨fun e => ⟨?_, rfl⟩, fun e => ⟨?_, rfl⟩⟩⟩
  · exact (bI_0.mpr (fun z => absurd c (Int32.not_lt.mpr z.1))).symm
  · exact (bI_0.mpr (fun z => absurd z.2 (Int32.not_lt.mpr e))).symm
  · exact (bI_1.mpr ⟨Int32.not_lt.mp c, Int32.not_le.mp e⟩).symm
end
section
theorem t_X12_walkOf (d : Nat) (h : Hp_) (x1 : Int32) (x2 : Int32) (K : Int32 → Hp_ → Prop) (k : AW (m_X12_walkOf (d + 0) 0 0) 0 0 2 [(0, .ref 1), (1, .int x1), (2, .int x2), (3, .int 0)] [] h (kI K)) : Ci (m_X12_walkOf (d + 0) 0 0) [.ref 1, .int x1, .int x2] h K := by
  refine Ct.of (fun _ _ _ => trivial) pn_X12 (Nat.le_of_ble_eq_true rfl) ?_
  show AW (m_X12_walkOf (d + 0) 0 0) 0 0 0 [(0, .ref 1), (1, .int x1), (2, .int x2)] [] h (kI K)
  refine aw_iconst (v := 0) d_X12_walkOf_0 ic_0 ?_
  refine aw_istore_n (i := 3) rfl [(0, .ref 1), (1, .int x1), (2, .int x2), (3, .int 0)] d_X12_walkOf_1 (Nat.le_of_ble_eq_true rfl) rfl rfl ?_
  exact k
theorem t_X12_walkOf_2 (d : Nat) (h : Hp_) (w : Wf h) (x1 : Int32) (x2 : Int32) (x3 : Int32) (K : Int32 → Hp_ → Prop) (k : (16 ≤ x3 → AW (m_X12_walkOf (d + 0) 0 0) 0 0 34 [(0, .ref 1), (2, .int x2), (3, .int 1)] [] h (kI K)) ∧ (¬ 16 ≤ x3 → (¬ x3 = x1 → vp_in x3 16 ∧ (AW (m_X12_walkOf (d + 0) 0 0) 0 0 2 [(0, .ref 1), (1, .int x1), (2, .int x2), (3, .int (x3 + 1))] [] (h_im h 203 x3.toNatClampNeg 100000) (kI K))) ∧ (x3 = x1 → vp_in x3 16 ∧ (AW (m_X12_walkOf (d + 0) 0 0) 0 0 2 [(0, .ref 1), (1, .int x1), (2, .int x2), (3, .int (x3 + 1))] [] (h_im h 203 x3.toNatClampNeg 0) (kI K))))) : AW (m_X12_walkOf (d + 0) 0 0) 0 0 2 [(0, .ref 1), (1, .int x1), (2, .int x2), (3, .int x3)] [] h (kI K) := by
  refine aw_iload_n (i := 3) rfl d_X12_walkOf_2 3 rfl ?_
  refine aw_bipush (v := 16) d_X12_walkOf_3 ib_16 ?_
  refine aw_icmp_ge (tgt := 32) d_X12_walkOf_5 rfl (fun c1 => ?_) (fun c1 => ?_)
  · have k := k.1 c1
    refine aw_iconst (v := 1) d_X12_walkOf_32 ic_1 ?_
    refine aw_istore_n (i := 3) rfl [(0, .ref 1), (1, .int x1), (2, .int x2), (3, .int 1)] d_X12_walkOf_33 (Nat.le_of_ble_eq_true rfl) rfl rfl ?_
    exact aw_lvp [0, 2, 3] [(0, .ref 1), (2, .int x2), (3, .int 1)] rfl k
  · have k := k.2 c1
    refine aw_aload_n (i := 0) rfl d_X12_walkOf_8 0 rfl ?_
    refine aw_getr (k0 := 5) kc_12 (ws_1 w) (Nat.le_of_ble_eq_true rfl) tw_1747 d_X12_walkOf_9 rfl (wr_1_5 w) ?_
    refine aw_iload_n (i := 3) rfl d_X12_walkOf_12 3 rfl ?_
    refine aw_iload_n (i := 3) rfl d_X12_walkOf_13 3 rfl ?_
    refine aw_iload_n (i := 1) rfl d_X12_walkOf_14 1 rfl ?_
    refine aw_icmp_ne (tgt := 22) d_X12_walkOf_15 rfl (fun c2 => ?_) (fun c2 => ?_)
    · have k := k.1 c2
      refine aw_ldcw (v := 100000) d_X12_walkOf_22 tw_2154 ?_
      obtain ⟨b3, k⟩ := k
      refine aw_iast (ws_203 w) b3 d_X12_walkOf_25 ?_
      refine aw_iinc (v := (x3 + 1)) [(0, .ref 1), (1, .int x1), (2, .int x2), (3, .int (x3 + 1))] d_X12_walkOf_26 3 rfl rfl (Nat.le_of_ble_eq_true rfl) rfl rfl ?_
      refine aw_goto (tgt := 2) d_X12_walkOf_29 rfl ?_
      exact k
    · have k := k.2 c2
      refine aw_iconst (v := 0) d_X12_walkOf_18 ic_0 ?_
      refine aw_goto (tgt := 25) d_X12_walkOf_19 rfl ?_
      obtain ⟨b4, k⟩ := k
      refine aw_iast (ws_203 w) b4 d_X12_walkOf_25 ?_
      refine aw_iinc (v := (x3 + 1)) [(0, .ref 1), (1, .int x1), (2, .int x2), (3, .int (x3 + 1))] d_X12_walkOf_26 3 rfl rfl (Nat.le_of_ble_eq_true rfl) rfl rfl ?_
      refine aw_goto (tgt := 2) d_X12_walkOf_29 rfl ?_
      exact k
theorem t_X12_walkOf_34 (d : Nat) (h : Hp_) (w : Wf h) (x2 : Int32) (x3 : Int32) (K : Int32 → Hp_ → Prop) (k : (x3 = 0 → vp_in x2 16 ∧ (((h_i h 203 x2.toNatClampNeg) < 100000 → vp_in x2 16 ∧ (K (h_i h 203 x2.toNatClampNeg) h)) ∧ (¬ (h_i h 203 x2.toNatClampNeg) < 100000 → K (-1) h))) ∧ (¬ x3 = 0 → AW (m_X12_walkOf (d + 0) 0 0) 0 0 43 [(0, .ref 1), (2, .int x2), (3, .int 0), (4, .int 0)] [] h (kI K))) : AW (m_X12_walkOf (d + 0) 0 0) 0 0 34 [(0, .ref 1), (2, .int x2), (3, .int x3)] [] h (kI K) := by
  refine aw_iload_n (i := 3) rfl d_X12_walkOf_34 2 rfl ?_
  refine aw_if_eq (tgt := 177) d_X12_walkOf_35 rfl (fun c5 => ?_) (fun c5 => ?_)
  · have k := k.1 c5
    refine aw_aload_n (i := 0) rfl d_X12_walkOf_177 0 rfl ?_
    refine aw_getr (k0 := 5) kc_12 (ws_1 w) (Nat.le_of_ble_eq_true rfl) tw_1747 d_X12_walkOf_178 rfl (wr_1_5 w) ?_
    refine aw_iload_n (i := 2) rfl d_X12_walkOf_181 1 rfl ?_
    obtain ⟨b6, k⟩ := k
    refine aw_iald (ws_203 w) b6 d_X12_walkOf_182 ?_
    refine aw_ldcw (v := 100000) d_X12_walkOf_183 tw_2154 ?_
    refine aw_icmp_lt (tgt := 193) d_X12_walkOf_186 rfl (fun c7 => ?_) (fun c7 => ?_)
    · have k := k.1 c7
      refine aw_aload_n (i := 0) rfl d_X12_walkOf_193 0 rfl ?_
      refine aw_getr (k0 := 5) kc_12 (ws_1 w) (Nat.le_of_ble_eq_true rfl) tw_1747 d_X12_walkOf_194 rfl (wr_1_5 w) ?_
      refine aw_iload_n (i := 2) rfl d_X12_walkOf_197 1 rfl ?_
      obtain ⟨b8, k⟩ := k
      refine aw_iald (ws_203 w) b8 d_X12_walkOf_198 ?_
      exact aw_iret rfl d_X12_walkOf_199 ⟨Nat.le_refl _, Nat.le_refl _⟩ ⟨_, rfl, k⟩
    · have k := k.2 c7
      refine aw_iconst (v := (-1)) d_X12_walkOf_189 ic_m1 ?_
      refine aw_goto (tgt := 199) d_X12_walkOf_190 rfl ?_
      exact aw_iret rfl d_X12_walkOf_199 ⟨Nat.le_refl _, Nat.le_refl _⟩ ⟨_, rfl, k⟩
  · have k := k.2 c5
    refine aw_iconst (v := 0) d_X12_walkOf_38 ic_0 ?_
    refine aw_istore_n (i := 3) rfl [(0, .ref 1), (2, .int x2), (3, .int 0)] d_X12_walkOf_39 (Nat.le_of_ble_eq_true rfl) rfl rfl ?_
    refine aw_iconst (v := 0) d_X12_walkOf_40 ic_0 ?_
    refine aw_istore [(0, .ref 1), (2, .int x2), (3, .int 0), (4, .int 0)] d_X12_walkOf_41 (Nat.le_of_ble_eq_true rfl) rfl rfl ?_
    exact k
theorem t_X12_walkOf_43 (d : Nat) (h : Hp_) (w : Wf h) (x2 : Int32) (x3 : Int32) (x4 : Int32) (K : Int32 → Hp_ → Prop) (k : ((h_i h 1 6) ≤ x4 → AW (m_X12_walkOf (d + 0) 0 0) 0 0 34 [(0, .ref 1), (2, .int x2), (3, .int x3)] [] h (kI K)) ∧ (¬ (h_i h 1 6) ≤ x4 → vp_in x4 40 ∧ (vp_in x4 40 ∧ (vp_in (h_i h 200 x4.toNatClampNeg) 16 ∧ (vp_in x4 40 ∧ (vp_in (h_i h 201 x4.toNatClampNeg) 16 ∧ (((h_i h 203 ((h_i h 201 x4.toNatClampNeg) : Int32).toNatClampNeg) ≤ ((h_i h 203 ((h_i h 200 x4.toNatClampNeg) : Int32).toNatClampNeg) + (h_i h 202 x4.toNatClampNeg)) → vp_in (h_i h 201 x4.toNatClampNeg) 16 ∧ (vp_in x4 40 ∧ (vp_in (h_i h 200 x4.toNatClampNeg) 16 ∧ (((h_i h 203 ((h_i h 200 x4.toNatClampNeg) : Int32).toNatClampNeg) ≤ ((h_i h 203 ((h_i h 201 x4.toNatClampNeg) : Int32).toNatClampNeg) + (h_i h 202 x4.toNatClampNeg)) → AW (m_X12_walkOf (d + 0) 0 0) 0 0 43 [(0, .ref 1), (2, .int x2), (3, .int x3), (4, .int (x4 + 1))] [] h (kI K)) ∧ (¬ (h_i h 203 ((h_i h 200 x4.toNatClampNeg) : Int32).toNatClampNeg) ≤ ((h_i h 203 ((h_i h 201 x4.toNatClampNeg) : Int32).toNatClampNeg) + (h_i h 202 x4.toNatClampNeg)) → vp_in (h_i h 201 x4.toNatClampNeg) 16 ∧ (vp_in x4 40 ∧ (vp_in (h_i h 200 x4.toNatClampNeg) 16 ∧ (AW (m_X12_walkOf (d + 0) 0 0) 0 0 43 [(0, .ref 1), (2, .int x2), (3, .int 1), (4, .int (x4 + 1))] [] (h_im h 203 ((h_i h 200 x4.toNatClampNeg) : Int32).toNatClampNeg ((h_i h 203 ((h_i h 201 x4.toNatClampNeg) : Int32).toNatClampNeg) + (h_i h 202 x4.toNatClampNeg))) (kI K))))))))) ∧ (¬ (h_i h 203 ((h_i h 201 x4.toNatClampNeg) : Int32).toNatClampNeg) ≤ ((h_i h 203 ((h_i h 200 x4.toNatClampNeg) : Int32).toNatClampNeg) + (h_i h 202 x4.toNatClampNeg)) → vp_in (h_i h 200 x4.toNatClampNeg) 16 ∧ (vp_in x4 40 ∧ (vp_in (h_i h 201 x4.toNatClampNeg) 16 ∧ (vp_in (h_i h 201 x4.toNatClampNeg) 16 ∧ (vp_in x4 40 ∧ (vp_in (h_i h 200 x4.toNatClampNeg) 16 ∧ (((h_i (h_im h 203 ((h_i h 201 x4.toNatClampNeg) : Int32).toNatClampNeg ((h_i h 203 ((h_i h 200 x4.toNatClampNeg) : Int32).toNatClampNeg) + (h_i h 202 x4.toNatClampNeg))) 203 ((h_i h 200 x4.toNatClampNeg) : Int32).toNatClampNeg) ≤ (((h_i h 203 ((h_i h 200 x4.toNatClampNeg) : Int32).toNatClampNeg) + (h_i h 202 x4.toNatClampNeg)) + (h_i h 202 x4.toNatClampNeg)) → AW (m_X12_walkOf (d + 0) 0 0) 0 0 43 [(0, .ref 1), (2, .int x2), (3, .int 1), (4, .int (x4 + 1))] [] (h_im h 203 ((h_i h 201 x4.toNatClampNeg) : Int32).toNatClampNeg ((h_i h 203 ((h_i h 200 x4.toNatClampNeg) : Int32).toNatClampNeg) + (h_i h 202 x4.toNatClampNeg))) (kI K)) ∧ (¬ (h_i (h_im h 203 ((h_i h 201 x4.toNatClampNeg) : Int32).toNatClampNeg ((h_i h 203 ((h_i h 200 x4.toNatClampNeg) : Int32).toNatClampNeg) + (h_i h 202 x4.toNatClampNeg))) 203 ((h_i h 200 x4.toNatClampNeg) : Int32).toNatClampNeg) ≤ (((h_i h 203 ((h_i h 200 x4.toNatClampNeg) : Int32).toNatClampNeg) + (h_i h 202 x4.toNatClampNeg)) + (h_i h 202 x4.toNatClampNeg)) → vp_in (h_i h 201 x4.toNatClampNeg) 16 ∧ (vp_in x4 40 ∧ (vp_in (h_i h 200 x4.toNatClampNeg) 16 ∧ (AW (m_X12_walkOf (d + 0) 0 0) 0 0 43 [(0, .ref 1), (2, .int x2), (3, .int 1), (4, .int (x4 + 1))] [] (h_im (h_im h 203 ((h_i h 201 x4.toNatClampNeg) : Int32).toNatClampNeg ((h_i h 203 ((h_i h 200 x4.toNatClampNeg) : Int32).toNatClampNeg) + (h_i h 202 x4.toNatClampNeg))) 203 ((h_i h 200 x4.toNatClampNeg) : Int32).toNatClampNeg (((h_i h 203 ((h_i h 200 x4.toNatClampNeg) : Int32).toNatClampNeg) + (h_i h 202 x4.toNatClampNeg)) + (h_i h 202 x4.toNatClampNeg))) (kI K))))))))))))))))))) : AW (m_X12_walkOf (d + 0) 0 0) 0 0 43 [(0, .ref 1), (2, .int x2), (3, .int x3), (4, .int x4)] [] h (kI K) := by
  refine aw_iload d_X12_walkOf_43 3 rfl ?_
  refine aw_aload_n (i := 0) rfl d_X12_walkOf_45 0 rfl ?_
  refine aw_geti (k0 := 6) kc_12 (ws_1 w) (Nat.le_of_ble_eq_true rfl) tw_1748 d_X12_walkOf_46 rfl ?_
  refine aw_icmp_ge (tgt := 174) d_X12_walkOf_49 rfl (fun c9 => ?_) (fun c9 => ?_)
  · have k := k.1 c9
    refine aw_goto (tgt := 34) d_X12_walkOf_174 rfl ?_
    exact aw_lvp [0, 1, 2] [(0, .ref 1), (2, .int x2), (3, .int x3)] rfl k
  · have k := k.2 c9
    refine aw_aload_n (i := 0) rfl d_X12_walkOf_52 0 rfl ?_
    refine aw_getr (k0 := 2) kc_12 (ws_1 w) (Nat.le_of_ble_eq_true rfl) tw_1744 d_X12_walkOf_53 rfl (wr_1_2 w) ?_
    refine aw_iload d_X12_walkOf_56 3 rfl ?_
    obtain ⟨b10, k⟩ := k
    refine aw_iald (ws_200 w) b10 d_X12_walkOf_58 ?_
    refine aw_istore [(0, .ref 1), (2, .int x2), (3, .int x3), (4, .int x4), (5, .int (h_i h 200 x4.toNatClampNeg))] d_X12_walkOf_59 (Nat.le_of_ble_eq_true rfl) rfl rfl ?_
    refine aw_aload_n (i := 0) rfl d_X12_walkOf_61 0 rfl ?_
    refine aw_getr (k0 := 3) kc_12 (ws_1 w) (Nat.le_of_ble_eq_true rfl) tw_1745 d_X12_walkOf_62 rfl (wr_1_3 w) ?_
    refine aw_iload d_X12_walkOf_65 3 rfl ?_
    obtain ⟨b11, k⟩ := k
    refine aw_iald (ws_201 w) b11 d_X12_walkOf_67 ?_
    refine aw_istore [(0, .ref 1), (2, .int x2), (3, .int x3), (4, .int x4), (5, .int (h_i h 200 x4.toNatClampNeg)), (6, .int (h_i h 201 x4.toNatClampNeg))] d_X12_walkOf_68 (Nat.le_of_ble_eq_true rfl) rfl rfl ?_
    refine aw_aload_n (i := 0) rfl d_X12_walkOf_70 0 rfl ?_
    refine aw_getr (k0 := 5) kc_12 (ws_1 w) (Nat.le_of_ble_eq_true rfl) tw_1747 d_X12_walkOf_71 rfl (wr_1_5 w) ?_
    refine aw_iload d_X12_walkOf_74 4 rfl ?_
    obtain ⟨b12, k⟩ := k
    refine aw_iald (ws_203 w) b12 d_X12_walkOf_76 ?_
    refine aw_aload_n (i := 0) rfl d_X12_walkOf_77 0 rfl ?_
    refine aw_getr (k0 := 4) kc_12 (ws_1 w) (Nat.le_of_ble_eq_true rfl) tw_1746 d_X12_walkOf_78 rfl (wr_1_4 w) ?_
    refine aw_iload d_X12_walkOf_81 3 rfl ?_
    obtain ⟨b13, k⟩ := k
    refine aw_iald (ws_202 w) b13 d_X12_walkOf_83 ?_
    refine aw_iadd d_X12_walkOf_84 ?_
    refine aw_aload_n (i := 0) rfl d_X12_walkOf_85 0 rfl ?_
    refine aw_getr (k0 := 5) kc_12 (ws_1 w) (Nat.le_of_ble_eq_true rfl) tw_1747 d_X12_walkOf_86 rfl (wr_1_5 w) ?_
    refine aw_iload d_X12_walkOf_89 5 rfl ?_
    obtain ⟨b14, k⟩ := k
    refine aw_iald (ws_203 w) b14 d_X12_walkOf_91 ?_
    refine aw_icmp_ge (tgt := 119) d_X12_walkOf_92 rfl (fun c15 => ?_) (fun c15 => ?_)
    · have k := k.1 c15
      refine aw_aload_n (i := 0) rfl d_X12_walkOf_119 0 rfl ?_
      refine aw_getr (k0 := 5) kc_12 (ws_1 w) (Nat.le_of_ble_eq_true rfl) tw_1747 d_X12_walkOf_120 rfl (wr_1_5 w) ?_
      refine aw_iload d_X12_walkOf_123 5 rfl ?_
      obtain ⟨b16, k⟩ := k
      refine aw_iald (ws_203 w) b16 d_X12_walkOf_125 ?_
      refine aw_aload_n (i := 0) rfl d_X12_walkOf_126 0 rfl ?_
      refine aw_getr (k0 := 4) kc_12 (ws_1 w) (Nat.le_of_ble_eq_true rfl) tw_1746 d_X12_walkOf_127 rfl (wr_1_4 w) ?_
      refine aw_iload d_X12_walkOf_130 3 rfl ?_
      obtain ⟨b17, k⟩ := k
      refine aw_iald (ws_202 w) b17 d_X12_walkOf_132 ?_
      refine aw_iadd d_X12_walkOf_133 ?_
      refine aw_aload_n (i := 0) rfl d_X12_walkOf_134 0 rfl ?_
      refine aw_getr (k0 := 5) kc_12 (ws_1 w) (Nat.le_of_ble_eq_true rfl) tw_1747 d_X12_walkOf_135 rfl (wr_1_5 w) ?_
      refine aw_iload d_X12_walkOf_138 4 rfl ?_
      obtain ⟨b18, k⟩ := k
      refine aw_iald (ws_203 w) b18 d_X12_walkOf_140 ?_
      refine aw_icmp_ge (tgt := 168) d_X12_walkOf_141 rfl (fun c19 => ?_) (fun c19 => ?_)
      · have k := k.1 c19
        refine aw_iinc (v := (x4 + 1)) [(0, .ref 1), (2, .int x2), (3, .int x3), (4, .int (x4 + 1)), (5, .int (h_i h 200 x4.toNatClampNeg)), (6, .int (h_i h 201 x4.toNatClampNeg))] d_X12_walkOf_168 3 rfl rfl (Nat.le_of_ble_eq_true rfl) rfl rfl ?_
        refine aw_goto (tgt := 43) d_X12_walkOf_171 rfl ?_
        exact aw_lvp [0, 1, 2, 3] [(0, .ref 1), (2, .int x2), (3, .int x3), (4, .int (x4 + 1))] rfl k
      · have k := k.2 c19
        refine aw_aload_n (i := 0) rfl d_X12_walkOf_144 0 rfl ?_
        refine aw_getr (k0 := 5) kc_12 (ws_1 w) (Nat.le_of_ble_eq_true rfl) tw_1747 d_X12_walkOf_145 rfl (wr_1_5 w) ?_
        refine aw_iload d_X12_walkOf_148 4 rfl ?_
        refine aw_aload_n (i := 0) rfl d_X12_walkOf_150 0 rfl ?_
        refine aw_getr (k0 := 5) kc_12 (ws_1 w) (Nat.le_of_ble_eq_true rfl) tw_1747 d_X12_walkOf_151 rfl (wr_1_5 w) ?_
        refine aw_iload d_X12_walkOf_154 5 rfl ?_
        obtain ⟨b20, k⟩ := k
        refine aw_iald (ws_203 w) b20 d_X12_walkOf_156 ?_
        refine aw_aload_n (i := 0) rfl d_X12_walkOf_157 0 rfl ?_
        refine aw_getr (k0 := 4) kc_12 (ws_1 w) (Nat.le_of_ble_eq_true rfl) tw_1746 d_X12_walkOf_158 rfl (wr_1_4 w) ?_
        refine aw_iload d_X12_walkOf_161 3 rfl ?_
        obtain ⟨b21, k⟩ := k
        refine aw_iald (ws_202 w) b21 d_X12_walkOf_163 ?_
        refine aw_iadd d_X12_walkOf_164 ?_
        obtain ⟨b22, k⟩ := k
        refine aw_iast (ws_203 w) b22 d_X12_walkOf_165 ?_
        refine aw_iconst (v := 1) d_X12_walkOf_166 ic_1 ?_
        refine aw_istore_n (i := 3) rfl [(0, .ref 1), (2, .int x2), (3, .int 1), (4, .int x4), (5, .int (h_i h 200 x4.toNatClampNeg)), (6, .int (h_i h 201 x4.toNatClampNeg))] d_X12_walkOf_167 (Nat.le_of_ble_eq_true rfl) rfl rfl ?_
        refine aw_iinc (v := (x4 + 1)) [(0, .ref 1), (2, .int x2), (3, .int 1), (4, .int (x4 + 1)), (5, .int (h_i h 200 x4.toNatClampNeg)), (6, .int (h_i h 201 x4.toNatClampNeg))] d_X12_walkOf_168 3 rfl rfl (Nat.le_of_ble_eq_true rfl) rfl rfl ?_
        refine aw_goto (tgt := 43) d_X12_walkOf_171 rfl ?_
        exact aw_lvp [0, 1, 2, 3] [(0, .ref 1), (2, .int x2), (3, .int 1), (4, .int (x4 + 1))] rfl k
    · have k := k.2 c15
      refine aw_aload_n (i := 0) rfl d_X12_walkOf_95 0 rfl ?_
      refine aw_getr (k0 := 5) kc_12 (ws_1 w) (Nat.le_of_ble_eq_true rfl) tw_1747 d_X12_walkOf_96 rfl (wr_1_5 w) ?_
      refine aw_iload d_X12_walkOf_99 5 rfl ?_
      refine aw_aload_n (i := 0) rfl d_X12_walkOf_101 0 rfl ?_
      refine aw_getr (k0 := 5) kc_12 (ws_1 w) (Nat.le_of_ble_eq_true rfl) tw_1747 d_X12_walkOf_102 rfl (wr_1_5 w) ?_
      refine aw_iload d_X12_walkOf_105 4 rfl ?_
      obtain ⟨b23, k⟩ := k
      refine aw_iald (ws_203 w) b23 d_X12_walkOf_107 ?_
      refine aw_aload_n (i := 0) rfl d_X12_walkOf_108 0 rfl ?_
      refine aw_getr (k0 := 4) kc_12 (ws_1 w) (Nat.le_of_ble_eq_true rfl) tw_1746 d_X12_walkOf_109 rfl (wr_1_4 w) ?_
      refine aw_iload d_X12_walkOf_112 3 rfl ?_
      obtain ⟨b24, k⟩ := k
      refine aw_iald (ws_202 w) b24 d_X12_walkOf_114 ?_
      refine aw_iadd d_X12_walkOf_115 ?_
      obtain ⟨b25, k⟩ := k
      refine aw_iast (ws_203 w) b25 d_X12_walkOf_116 ?_
      refine aw_iconst (v := 1) d_X12_walkOf_117 ic_1 ?_
      refine aw_istore_n (i := 3) rfl [(0, .ref 1), (2, .int x2), (3, .int 1), (4, .int x4), (5, .int (h_i h 200 x4.toNatClampNeg)), (6, .int (h_i h 201 x4.toNatClampNeg))] d_X12_walkOf_118 (Nat.le_of_ble_eq_true rfl) rfl rfl ?_
      refine aw_aload_n (i := 0) rfl d_X12_walkOf_119 0 rfl ?_
      refine aw_getr (k0 := 5) kc_12 (ws_1 w) (Nat.le_of_ble_eq_true rfl) tw_1747 d_X12_walkOf_120 rfl (wr_1_5 w) ?_
      refine aw_iload d_X12_walkOf_123 5 rfl ?_
      obtain ⟨b26, k⟩ := k
      refine aw_iald (ws_203 w) b26 d_X12_walkOf_125 ?_
      refine aw_vi (v2 := ((h_i h 203 ((h_i h 200 x4.toNatClampNeg) : Int32).toNatClampNeg) + (h_i h 202 x4.toNatClampNeg))) (hi_s h 203 ((h_i h 201 x4.toNatClampNeg) : Int32).toNatClampNeg ((h_i h 203 ((h_i h 200 x4.toNatClampNeg) : Int32).toNatClampNeg) + (h_i h 202 x4.toNatClampNeg))) ?_
      refine aw_aload_n (i := 0) rfl d_X12_walkOf_126 0 rfl ?_
      refine aw_getr (k0 := 4) kc_12 (ws_1 w) (Nat.le_of_ble_eq_true rfl) tw_1746 d_X12_walkOf_127 rfl (wr_1_4 w) ?_
      refine aw_iload d_X12_walkOf_130 3 rfl ?_
      obtain ⟨b27, k⟩ := k
      refine aw_iald (ws_202 w) b27 d_X12_walkOf_132 ?_
      refine aw_vi (v2 := (h_i h 202 x4.toNatClampNeg)) (rfl) ?_
      refine aw_iadd d_X12_walkOf_133 ?_
      refine aw_aload_n (i := 0) rfl d_X12_walkOf_134 0 rfl ?_
      refine aw_getr (k0 := 5) kc_12 (ws_1 w) (Nat.le_of_ble_eq_true rfl) tw_1747 d_X12_walkOf_135 rfl (wr_1_5 w) ?_
      refine aw_iload d_X12_walkOf_138 4 rfl ?_
      obtain ⟨b28, k⟩ := k
      refine aw_iald (ws_203 w) b28 d_X12_walkOf_140 ?_
      refine aw_icmp_ge (tgt := 168) d_X12_walkOf_141 rfl (fun c29 => ?_) (fun c29 => ?_)
      · have k := k.1 c29
        refine aw_iinc (v := (x4 + 1)) [(0, .ref 1), (2, .int x2), (3, .int 1), (4, .int (x4 + 1)), (5, .int (h_i h 200 x4.toNatClampNeg)), (6, .int (h_i h 201 x4.toNatClampNeg))] d_X12_walkOf_168 3 rfl rfl (Nat.le_of_ble_eq_true rfl) rfl rfl ?_
        refine aw_goto (tgt := 43) d_X12_walkOf_171 rfl ?_
        exact aw_lvp [0, 1, 2, 3] [(0, .ref 1), (2, .int x2), (3, .int 1), (4, .int (x4 + 1))] rfl k
      · have k := k.2 c29
        refine aw_aload_n (i := 0) rfl d_X12_walkOf_144 0 rfl ?_
        refine aw_getr (k0 := 5) kc_12 (ws_1 w) (Nat.le_of_ble_eq_true rfl) tw_1747 d_X12_walkOf_145 rfl (wr_1_5 w) ?_
        refine aw_iload d_X12_walkOf_148 4 rfl ?_
        refine aw_aload_n (i := 0) rfl d_X12_walkOf_150 0 rfl ?_
        refine aw_getr (k0 := 5) kc_12 (ws_1 w) (Nat.le_of_ble_eq_true rfl) tw_1747 d_X12_walkOf_151 rfl (wr_1_5 w) ?_
        refine aw_iload d_X12_walkOf_154 5 rfl ?_
        obtain ⟨b30, k⟩ := k
        refine aw_iald (ws_203 w) b30 d_X12_walkOf_156 ?_
        refine aw_vi (v2 := ((h_i h 203 ((h_i h 200 x4.toNatClampNeg) : Int32).toNatClampNeg) + (h_i h 202 x4.toNatClampNeg))) (hi_s h 203 ((h_i h 201 x4.toNatClampNeg) : Int32).toNatClampNeg ((h_i h 203 ((h_i h 200 x4.toNatClampNeg) : Int32).toNatClampNeg) + (h_i h 202 x4.toNatClampNeg))) ?_
        refine aw_aload_n (i := 0) rfl d_X12_walkOf_157 0 rfl ?_
        refine aw_getr (k0 := 4) kc_12 (ws_1 w) (Nat.le_of_ble_eq_true rfl) tw_1746 d_X12_walkOf_158 rfl (wr_1_4 w) ?_
        refine aw_iload d_X12_walkOf_161 3 rfl ?_
        obtain ⟨b31, k⟩ := k
        refine aw_iald (ws_202 w) b31 d_X12_walkOf_163 ?_
        refine aw_vi (v2 := (h_i h 202 x4.toNatClampNeg)) (rfl) ?_
        refine aw_iadd d_X12_walkOf_164 ?_
        obtain ⟨b32, k⟩ := k
        refine aw_iast (ws_203 w) b32 d_X12_walkOf_165 ?_
        refine aw_iconst (v := 1) d_X12_walkOf_166 ic_1 ?_
        refine aw_istore_n (i := 3) rfl [(0, .ref 1), (2, .int x2), (3, .int 1), (4, .int x4), (5, .int (h_i h 200 x4.toNatClampNeg)), (6, .int (h_i h 201 x4.toNatClampNeg))] d_X12_walkOf_167 (Nat.le_of_ble_eq_true rfl) rfl rfl ?_
        refine aw_iinc (v := (x4 + 1)) [(0, .ref 1), (2, .int x2), (3, .int 1), (4, .int (x4 + 1)), (5, .int (h_i h 200 x4.toNatClampNeg)), (6, .int (h_i h 201 x4.toNatClampNeg))] d_X12_walkOf_168 3 rfl rfl (Nat.le_of_ble_eq_true rfl) rfl rfl ?_
        refine aw_goto (tgt := 43) d_X12_walkOf_171 rfl ?_
        exact aw_lvp [0, 1, 2, 3] [(0, .ref 1), (2, .int x2), (3, .int 1), (4, .int (x4 + 1))] rfl k
theorem t_X12_byteOf (d : Nat) (h : Hp_) (x0 : Int32) (x1 : Int32) (x2 : Int32) (x3 : Int32) (x4 : Int32) (x5 : Int32) (K : Int32 → Hp_ → Prop) (k : (4 ≤ x5 → (8 ≤ x5 → (12 ≤ x5 → (16 ≤ x5 → K ((x4 >>> ((24 - (8 * (x5 - x5 / 4 * 4))) &&& 31)) &&& 255) h) ∧ (¬ 16 ≤ x5 → K ((x3 >>> ((24 - (8 * (x5 - x5 / 4 * 4))) &&& 31)) &&& 255) h)) ∧ (¬ 12 ≤ x5 → K ((x2 >>> ((24 - (8 * (x5 - x5 / 4 * 4))) &&& 31)) &&& 255) h)) ∧ (¬ 8 ≤ x5 → K ((x1 >>> ((24 - (8 * (x5 - x5 / 4 * 4))) &&& 31)) &&& 255) h)) ∧ (¬ 4 ≤ x5 → K ((x0 >>> ((24 - (8 * (x5 - x5 / 4 * 4))) &&& 31)) &&& 255) h)) : Ci (m_X12_byteOf (d + 0) 0 0) [.int x0, .int x1, .int x2, .int x3, .int x4, .int x5] h K := by
  refine Ct.of (fun _ _ _ => trivial) pn_X12 (Nat.le_of_ble_eq_true rfl) ?_
  show AW (m_X12_byteOf (d + 0) 0 0) 0 0 0 [(0, .int x0), (1, .int x1), (2, .int x2), (3, .int x3), (4, .int x4), (5, .int x5)] [] h (kI K)
  refine aw_iload d_X12_byteOf_0 5 rfl ?_
  refine aw_iconst (v := 4) d_X12_byteOf_2 ic_4 ?_
  refine aw_icmp_ge (tgt := 10) d_X12_byteOf_3 rfl (fun c1 => ?_) (fun c1 => ?_)
  · have k := k.1 c1
    refine aw_iload d_X12_byteOf_10 5 rfl ?_
    refine aw_bipush (v := 8) d_X12_byteOf_12 ib_8 ?_
    refine aw_icmp_ge (tgt := 21) d_X12_byteOf_14 rfl (fun c2 => ?_) (fun c2 => ?_)
    · have k := k.1 c2
      refine aw_iload d_X12_byteOf_21 5 rfl ?_
      refine aw_bipush (v := 12) d_X12_byteOf_23 ib_12 ?_
      refine aw_icmp_ge (tgt := 32) d_X12_byteOf_25 rfl (fun c3 => ?_) (fun c3 => ?_)
      · have k := k.1 c3
        refine aw_iload d_X12_byteOf_32 5 rfl ?_
        refine aw_bipush (v := 16) d_X12_byteOf_34 ib_16 ?_
        refine aw_icmp_ge (tgt := 43) d_X12_byteOf_36 rfl (fun c4 => ?_) (fun c4 => ?_)
        · have k := k.1 c4
          refine aw_iload d_X12_byteOf_43 4 rfl ?_
          refine aw_istore [(0, .int x0), (1, .int x1), (2, .int x2), (3, .int x3), (4, .int x4), (5, .int x5), (6, .int x4)] d_X12_byteOf_45 (Nat.le_of_ble_eq_true rfl) rfl rfl ?_
          refine aw_iload d_X12_byteOf_47 6 rfl ?_
          refine aw_bipush (v := 24) d_X12_byteOf_49 ib_24 ?_
          refine aw_bipush (v := 8) d_X12_byteOf_51 ib_8 ?_
          refine aw_iload d_X12_byteOf_53 5 rfl ?_
          refine aw_iconst (v := 4) d_X12_byteOf_55 ic_4 ?_
          refine aw_irem d_X12_byteOf_56 (by decide) ?_
          refine aw_imul d_X12_byteOf_57 ?_
          refine aw_isub d_X12_byteOf_58 ?_
          refine aw_ishr d_X12_byteOf_59 ?_
          refine aw_sipush (v := 255) d_X12_byteOf_60 is_255 ?_
          refine aw_iand d_X12_byteOf_63 ?_
          exact aw_iret rfl d_X12_byteOf_64 ⟨Nat.le_refl _, Nat.le_refl _⟩ ⟨_, rfl, k⟩
        · have k := k.2 c4
          refine aw_iload_n (i := 3) rfl d_X12_byteOf_39 3 rfl ?_
          refine aw_goto (tgt := 45) d_X12_byteOf_40 rfl ?_
          refine aw_istore [(0, .int x0), (1, .int x1), (2, .int x2), (3, .int x3), (4, .int x4), (5, .int x5), (6, .int x3)] d_X12_byteOf_45 (Nat.le_of_ble_eq_true rfl) rfl rfl ?_
          refine aw_iload d_X12_byteOf_47 6 rfl ?_
          refine aw_bipush (v := 24) d_X12_byteOf_49 ib_24 ?_
          refine aw_bipush (v := 8) d_X12_byteOf_51 ib_8 ?_
          refine aw_iload d_X12_byteOf_53 5 rfl ?_
          refine aw_iconst (v := 4) d_X12_byteOf_55 ic_4 ?_
          refine aw_irem d_X12_byteOf_56 (by decide) ?_
          refine aw_imul d_X12_byteOf_57 ?_
          refine aw_isub d_X12_byteOf_58 ?_
          refine aw_ishr d_X12_byteOf_59 ?_
          refine aw_sipush (v := 255) d_X12_byteOf_60 is_255 ?_
          refine aw_iand d_X12_byteOf_63 ?_
          exact aw_iret rfl d_X12_byteOf_64 ⟨Nat.le_refl _, Nat.le_refl _⟩ ⟨_, rfl, k⟩
      · have k := k.2 c3
        refine aw_iload_n (i := 2) rfl d_X12_byteOf_28 2 rfl ?_
        refine aw_goto (tgt := 45) d_X12_byteOf_29 rfl ?_
        refine aw_istore [(0, .int x0), (1, .int x1), (2, .int x2), (3, .int x3), (4, .int x4), (5, .int x5), (6, .int x2)] d_X12_byteOf_45 (Nat.le_of_ble_eq_true rfl) rfl rfl ?_
        refine aw_iload d_X12_byteOf_47 6 rfl ?_
        refine aw_bipush (v := 24) d_X12_byteOf_49 ib_24 ?_
        refine aw_bipush (v := 8) d_X12_byteOf_51 ib_8 ?_
        refine aw_iload d_X12_byteOf_53 5 rfl ?_
        refine aw_iconst (v := 4) d_X12_byteOf_55 ic_4 ?_
        refine aw_irem d_X12_byteOf_56 (by decide) ?_
        refine aw_imul d_X12_byteOf_57 ?_
        refine aw_isub d_X12_byteOf_58 ?_
        refine aw_ishr d_X12_byteOf_59 ?_
        refine aw_sipush (v := 255) d_X12_byteOf_60 is_255 ?_
        refine aw_iand d_X12_byteOf_63 ?_
        exact aw_iret rfl d_X12_byteOf_64 ⟨Nat.le_refl _, Nat.le_refl _⟩ ⟨_, rfl, k⟩
    · have k := k.2 c2
      refine aw_iload_n (i := 1) rfl d_X12_byteOf_17 1 rfl ?_
      refine aw_goto (tgt := 45) d_X12_byteOf_18 rfl ?_
      refine aw_istore [(0, .int x0), (1, .int x1), (2, .int x2), (3, .int x3), (4, .int x4), (5, .int x5), (6, .int x1)] d_X12_byteOf_45 (Nat.le_of_ble_eq_true rfl) rfl rfl ?_
      refine aw_iload d_X12_byteOf_47 6 rfl ?_
      refine aw_bipush (v := 24) d_X12_byteOf_49 ib_24 ?_
      refine aw_bipush (v := 8) d_X12_byteOf_51 ib_8 ?_
      refine aw_iload d_X12_byteOf_53 5 rfl ?_
      refine aw_iconst (v := 4) d_X12_byteOf_55 ic_4 ?_
      refine aw_irem d_X12_byteOf_56 (by decide) ?_
      refine aw_imul d_X12_byteOf_57 ?_
      refine aw_isub d_X12_byteOf_58 ?_
      refine aw_ishr d_X12_byteOf_59 ?_
      refine aw_sipush (v := 255) d_X12_byteOf_60 is_255 ?_
      refine aw_iand d_X12_byteOf_63 ?_
      exact aw_iret rfl d_X12_byteOf_64 ⟨Nat.le_refl _, Nat.le_refl _⟩ ⟨_, rfl, k⟩
  · have k := k.2 c1
    refine aw_iload_n (i := 0) rfl d_X12_byteOf_6 0 rfl ?_
    refine aw_goto (tgt := 45) d_X12_byteOf_7 rfl ?_
    refine aw_istore [(0, .int x0), (1, .int x1), (2, .int x2), (3, .int x3), (4, .int x4), (5, .int x5), (6, .int x0)] d_X12_byteOf_45 (Nat.le_of_ble_eq_true rfl) rfl rfl ?_
    refine aw_iload d_X12_byteOf_47 6 rfl ?_
    refine aw_bipush (v := 24) d_X12_byteOf_49 ib_24 ?_
    refine aw_bipush (v := 8) d_X12_byteOf_51 ib_8 ?_
    refine aw_iload d_X12_byteOf_53 5 rfl ?_
    refine aw_iconst (v := 4) d_X12_byteOf_55 ic_4 ?_
    refine aw_irem d_X12_byteOf_56 (by decide) ?_
    refine aw_imul d_X12_byteOf_57 ?_
    refine aw_isub d_X12_byteOf_58 ?_
    refine aw_ishr d_X12_byteOf_59 ?_
    refine aw_sipush (v := 255) d_X12_byteOf_60 is_255 ?_
    refine aw_iand d_X12_byteOf_63 ?_
    exact aw_iret rfl d_X12_byteOf_64 ⟨Nat.le_refl _, Nat.le_refl _⟩ ⟨_, rfl, k⟩
theorem t_X12_feed (d : Nat) (h : Hp_) (x1 : Int32) (x2 : Int32) (x3 : Int32) (x4 : Int32) (x5 : Int32) (K : Int32 → Hp_ → Prop) (k : AW (m_X12_feed (d + 1) 0 0) 0 0 6 [(0, .ref 1), (1, .int x1), (2, .int x2), (3, .int x3), (4, .int x4), (5, .int x5), (6, .int 0), (7, .int 0)] [] h (kI K)) : Ci (m_X12_feed (d + 1) 0 0) [.ref 1, .int x1, .int x2, .int x3, .int x4, .int x5] h K := by
  refine Ct.of (fun _ _ _ => trivial) pn_X12 (Nat.le_of_ble_eq_true rfl) ?_
  show AW (m_X12_feed (d + 1) 0 0) 0 0 0 [(0, .ref 1), (1, .int x1), (2, .int x2), (3, .int x3), (4, .int x4), (5, .int x5)] [] h (kI K)
  refine aw_iconst (v := 0) d_X12_feed_0 ic_0 ?_
  refine aw_istore [(0, .ref 1), (1, .int x1), (2, .int x2), (3, .int x3), (4, .int x4), (5, .int x5), (6, .int 0)] d_X12_feed_1 (Nat.le_of_ble_eq_true rfl) rfl rfl ?_
  refine aw_iconst (v := 0) d_X12_feed_3 ic_0 ?_
  refine aw_istore [(0, .ref 1), (1, .int x1), (2, .int x2), (3, .int x3), (4, .int x4), (5, .int x5), (6, .int 0), (7, .int 0)] d_X12_feed_4 (Nat.le_of_ble_eq_true rfl) rfl rfl ?_
  exact k
theorem t_X12_feed_6 (d : Nat) (h : Hp_) (w : Wf h) (x1 : Int32) (x2 : Int32) (x3 : Int32) (x4 : Int32) (x5 : Int32) (x6 : Int32) (x7 : Int32) (K : Int32 → Hp_ → Prop) (k : (20 ≤ x7 → (((h_i h 1 32) + x6) ≤ 160 → AW (m_X12_feed (d + 1) 0 0) 0 0 62 [(0, .ref 1), (1, .int x1), (2, .int x2), (3, .int x3), (4, .int x4), (5, .int x5), (7, .int 0)] [] h (kI K)) ∧ (¬ ((h_i h 1 32) + x6) ≤ 160 → K (-1) h)) ∧ (¬ 20 ≤ x7 → Ci (m_X12_byteOf (d + 0) 0 0) [.int x1, .int x2, .int x3, .int x4, .int x5, .int x7] h (fun r5 h3 => Wf h3 ∧ ((r5 = 0 → AW (m_X12_feed (d + 1) 0 0) 0 0 6 [(0, .ref 1), (1, .int x1), (2, .int x2), (3, .int x3), (4, .int x4), (5, .int x5), (6, .int (x6 + 0)), (7, .int (x7 + 1))] [] h3 (kI K)) ∧ (¬ r5 = 0 → AW (m_X12_feed (d + 1) 0 0) 0 0 6 [(0, .ref 1), (1, .int x1), (2, .int x2), (3, .int x3), (4, .int x4), (5, .int x5), (6, .int (x6 + 1)), (7, .int (x7 + 1))] [] h3 (kI K)))))) : AW (m_X12_feed (d + 1) 0 0) 0 0 6 [(0, .ref 1), (1, .int x1), (2, .int x2), (3, .int x3), (4, .int x4), (5, .int x5), (6, .int x6), (7, .int x7)] [] h (kI K) := by
  refine aw_iload d_X12_feed_6 7 rfl ?_
  refine aw_bipush (v := 20) d_X12_feed_8 ib_20 ?_
  refine aw_icmp_ge (tgt := 44) d_X12_feed_10 rfl (fun c1 => ?_) (fun c1 => ?_)
  · have k := k.1 c1
    refine aw_aload_n (i := 0) rfl d_X12_feed_44 0 rfl ?_
    refine aw_geti (k0 := 32) kc_12 (ws_1 w) (Nat.le_of_ble_eq_true rfl) tw_1774 d_X12_feed_45 rfl ?_
    refine aw_iload d_X12_feed_48 6 rfl ?_
    refine aw_iadd d_X12_feed_50 ?_
    refine aw_sipush (v := 160) d_X12_feed_51 is_160 ?_
    refine aw_icmp_le (tgt := 59) d_X12_feed_54 rfl (fun c2 => ?_) (fun c2 => ?_)
    · have k := k.1 c2
      refine aw_iconst (v := 0) d_X12_feed_59 ic_0 ?_
      refine aw_istore [(0, .ref 1), (1, .int x1), (2, .int x2), (3, .int x3), (4, .int x4), (5, .int x5), (6, .int x6), (7, .int 0)] d_X12_feed_60 (Nat.le_of_ble_eq_true rfl) rfl rfl ?_
      exact aw_lvp [0, 1, 2, 3, 4, 5, 7] [(0, .ref 1), (1, .int x1), (2, .int x2), (3, .int x3), (4, .int x4), (5, .int x5), (7, .int 0)] rfl k
    · have k := k.2 c2
      refine aw_iconst (v := (-1)) d_X12_feed_57 ic_m1 ?_
      exact aw_iret rfl d_X12_feed_58 ⟨Nat.le_refl _, Nat.le_refl _⟩ ⟨_, rfl, k⟩
  · have k := k.2 c1
    refine aw_iload d_X12_feed_13 6 rfl ?_
    refine aw_iload_n (i := 1) rfl d_X12_feed_15 1 rfl ?_
    refine aw_iload_n (i := 2) rfl d_X12_feed_16 2 rfl ?_
    refine aw_iload_n (i := 3) rfl d_X12_feed_17 3 rfl ?_
    refine aw_iload d_X12_feed_18 4 rfl ?_
    refine aw_iload d_X12_feed_20 5 rfl ?_
    refine aw_iload d_X12_feed_22 7 rfl ?_
    refine aw_Si [.int x1, .int x2, .int x3, .int x4, .int x5, .int x7] [.int x6] d_X12_feed_24 (cS_X12_byteOf (d + 0) 0 0) tw_2183 rfl (rr0 (Nat.le_of_ble_eq_true rfl) (Nat.le_of_ble_eq_true rfl)) (Nat.le_of_ble_eq_true rfl) xs0 k (fun r5 h3 kk => ?_)
    obtain ⟨w4, k⟩ := kk
    refine aw_if_eq (tgt := 34) d_X12_feed_27 rfl (fun c6 => ?_) (fun c6 => ?_)
    · have k := k.1 c6
      refine aw_iconst (v := 0) d_X12_feed_34 ic_0 ?_
      refine aw_iadd d_X12_feed_35 ?_
      refine aw_istore [(0, .ref 1), (1, .int x1), (2, .int x2), (3, .int x3), (4, .int x4), (5, .int x5), (6, .int (x6 + 0)), (7, .int x7)] d_X12_feed_36 (Nat.le_of_ble_eq_true rfl) rfl rfl ?_
      refine aw_iinc (v := (x7 + 1)) [(0, .ref 1), (1, .int x1), (2, .int x2), (3, .int x3), (4, .int x4), (5, .int x5), (6, .int (x6 + 0)), (7, .int (x7 + 1))] d_X12_feed_38 7 rfl rfl (Nat.le_of_ble_eq_true rfl) rfl rfl ?_
      refine aw_goto (tgt := 6) d_X12_feed_41 rfl ?_
      exact k
    · have k := k.2 c6
      refine aw_iconst (v := 1) d_X12_feed_30 ic_1 ?_
      refine aw_goto (tgt := 35) d_X12_feed_31 rfl ?_
      refine aw_iadd d_X12_feed_35 ?_
      refine aw_istore [(0, .ref 1), (1, .int x1), (2, .int x2), (3, .int x3), (4, .int x4), (5, .int x5), (6, .int (x6 + 1)), (7, .int x7)] d_X12_feed_36 (Nat.le_of_ble_eq_true rfl) rfl rfl ?_
      refine aw_iinc (v := (x7 + 1)) [(0, .ref 1), (1, .int x1), (2, .int x2), (3, .int x3), (4, .int x4), (5, .int x5), (6, .int (x6 + 1)), (7, .int (x7 + 1))] d_X12_feed_38 7 rfl rfl (Nat.le_of_ble_eq_true rfl) rfl rfl ?_
      refine aw_goto (tgt := 6) d_X12_feed_41 rfl ?_
      exact k
theorem t_X12_feed_62 (d : Nat) (h : Hp_) (w : Wf h) (x1 : Int32) (x2 : Int32) (x3 : Int32) (x4 : Int32) (x5 : Int32) (x7 : Int32) (K : Int32 → Hp_ → Prop) (k : (20 ≤ x7 → K (h_i h 1 32) h) ∧ (¬ 20 ≤ x7 → Ci (m_X12_byteOf (d + 0) 0 0) [.int x1, .int x2, .int x3, .int x4, .int x5, .int x7] h (fun r10 h8 => Wf h8 ∧ ((r10 = 0 → AW (m_X12_feed (d + 1) 0 0) 0 0 62 [(0, .ref 1), (1, .int x1), (2, .int x2), (3, .int x3), (4, .int x4), (5, .int x5), (7, .int (x7 + 1))] [] h8 (kI K)) ∧ (¬ r10 = 0 → vp_in (h_i h8 1 32) 160 ∧ (AW (m_X12_feed (d + 1) 0 0) 0 0 62 [(0, .ref 1), (1, .int x1), (2, .int x2), (3, .int x3), (4, .int x4), (5, .int x5), (7, .int (x7 + 1))] [] (h_im (h_im h8 225 ((h_i h8 1 32) : Int32).toNatClampNeg r10) 1 32 ((h_i h8 1 32) + 1)) (kI K))))))) : AW (m_X12_feed (d + 1) 0 0) 0 0 62 [(0, .ref 1), (1, .int x1), (2, .int x2), (3, .int x3), (4, .int x4), (5, .int x5), (7, .int x7)] [] h (kI K) := by
  refine aw_iload d_X12_feed_62 6 rfl ?_
  refine aw_bipush (v := 20) d_X12_feed_64 ib_20 ?_
  refine aw_icmp_ge (tgt := 115) d_X12_feed_66 rfl (fun c7 => ?_) (fun c7 => ?_)
  · have k := k.1 c7
    refine aw_aload_n (i := 0) rfl d_X12_feed_115 0 rfl ?_
    refine aw_geti (k0 := 32) kc_12 (ws_1 w) (Nat.le_of_ble_eq_true rfl) tw_1774 d_X12_feed_116 rfl ?_
    exact aw_iret rfl d_X12_feed_119 ⟨Nat.le_refl _, Nat.le_refl _⟩ ⟨_, rfl, k⟩
  · have k := k.2 c7
    refine aw_iload_n (i := 1) rfl d_X12_feed_69 1 rfl ?_
    refine aw_iload_n (i := 2) rfl d_X12_feed_70 2 rfl ?_
    refine aw_iload_n (i := 3) rfl d_X12_feed_71 3 rfl ?_
    refine aw_iload d_X12_feed_72 4 rfl ?_
    refine aw_iload d_X12_feed_74 5 rfl ?_
    refine aw_iload d_X12_feed_76 6 rfl ?_
    refine aw_Si [.int x1, .int x2, .int x3, .int x4, .int x5, .int x7] [] d_X12_feed_78 (cS_X12_byteOf (d + 0) 0 0) tw_2183 rfl (rr0 (Nat.le_of_ble_eq_true rfl) (Nat.le_of_ble_eq_true rfl)) (Nat.le_of_ble_eq_true rfl) xs0 k (fun r10 h8 kk => ?_)
    obtain ⟨w9, k⟩ := kk
    refine aw_istore [(0, .ref 1), (1, .int x1), (2, .int x2), (3, .int x3), (4, .int x4), (5, .int x5), (7, .int x7), (8, .int r10)] d_X12_feed_81 (Nat.le_of_ble_eq_true rfl) rfl rfl ?_
    refine aw_iload d_X12_feed_83 7 rfl ?_
    refine aw_if_eq (tgt := 109) d_X12_feed_85 rfl (fun c11 => ?_) (fun c11 => ?_)
    · have k := k.1 c11
      refine aw_iinc (v := (x7 + 1)) [(0, .ref 1), (1, .int x1), (2, .int x2), (3, .int x3), (4, .int x4), (5, .int x5), (7, .int (x7 + 1)), (8, .int r10)] d_X12_feed_109 6 rfl rfl (Nat.le_of_ble_eq_true rfl) rfl rfl ?_
      refine aw_goto (tgt := 62) d_X12_feed_112 rfl ?_
      exact aw_lvp [0, 1, 2, 3, 4, 5, 6] [(0, .ref 1), (1, .int x1), (2, .int x2), (3, .int x3), (4, .int x4), (5, .int x5), (7, .int (x7 + 1))] rfl k
    · have k := k.2 c11
      refine aw_aload_n (i := 0) rfl d_X12_feed_88 0 rfl ?_
      refine aw_getr (k0 := 30) kc_12 (ws_1 w9) (Nat.le_of_ble_eq_true rfl) tw_1772 d_X12_feed_89 rfl (wr_1_30 w9) ?_
      refine aw_aload_n (i := 0) rfl d_X12_feed_92 0 rfl ?_
      refine aw_geti (k0 := 32) kc_12 (ws_1 w9) (Nat.le_of_ble_eq_true rfl) tw_1774 d_X12_feed_93 rfl ?_
      refine aw_iload d_X12_feed_96 7 rfl ?_
      obtain ⟨b12, k⟩ := k
      refine aw_iast (ws_225 w9) b12 d_X12_feed_98 ?_
      refine aw_aload_n (i := 0) rfl d_X12_feed_99 0 rfl ?_
      refine aw_dup d_X12_feed_100 rfl ?_
      refine aw_geti (k0 := 32) kc_12 (ws_1 w9) (Nat.le_of_ble_eq_true rfl) tw_1774 d_X12_feed_101 rfl ?_
      refine aw_vi (v2 := (h_i h8 1 32)) (rfl) ?_
      refine aw_iconst (v := 1) d_X12_feed_104 ic_1 ?_
      refine aw_iadd d_X12_feed_105 ?_
      refine aw_puti (k0 := 32) kc_12 (ws_1 w9) (Nat.le_of_ble_eq_true rfl) tw_1774 d_X12_feed_106 rfl rfl nf_i ?_
      refine aw_iinc (v := (x7 + 1)) [(0, .ref 1), (1, .int x1), (2, .int x2), (3, .int x3), (4, .int x4), (5, .int x5), (7, .int (x7 + 1)), (8, .int r10)] d_X12_feed_109 6 rfl rfl (Nat.le_of_ble_eq_true rfl) rfl rfl ?_
      refine aw_goto (tgt := 62) d_X12_feed_112 rfl ?_
      exact aw_lvp [0, 1, 2, 3, 4, 5, 6] [(0, .ref 1), (1, .int x1), (2, .int x2), (3, .int x3), (4, .int x4), (5, .int x5), (7, .int (x7 + 1))] rfl k
end
section
/-! ints as whole numbers: for index bounds -/
theorem ti_le {x y : Int32} : x ≤ y ↔ x.toInt ≤ y.toInt := Int32.le_iff_toInt_le
theorem ti_lt {x y : Int32} : x < y ↔ x.toInt < y.toInt := Int32.lt_iff_toInt_lt
theorem ti_add {x y : Int32} (l : -2147483648 ≤ x.toInt + y.toInt) (u : x.toInt + y.toInt < 2147483648) : (x + y).toInt = x.toInt + y.toInt := by
  rw [Int32.toInt_add, Int.bmod_eq_of_le (by omega) (by omega)]
theorem ti_n {i : Int32} : (i.toNatClampNeg : Int) = if 0 ≤ i.toInt then i.toInt else 0 := by
  show ((i.toInt.toNat : Nat) : Int) = _
  split <;> omega
theorem vin_ti {i : Int32} {n : Nat} (l : 0 ≤ i.toInt) (u : i.toInt < n) : vp_in i n := by
  have a : (0 : Int32).toInt = 0 := rfl
  have b : (i.toNatClampNeg : Int) = i.toInt := by rw [ti_n, if_pos l]
  rintro (z | z)
  · have z := ti_lt.mp z
    omega
  · omega
/-- a bound on a field -/
noncomputable def bd (h : Hp_) (a k : Nat) (lo hi : Int) : Prop := lo ≤ (h_i h a k).toInt ∧ (h_i h a k).toInt ≤ hi
theorem bd_s {h : Hp_} {a k : Nat} {x : Int32} {lo hi : Int} (l : lo ≤ x.toInt) (u : x.toInt ≤ hi) : bd (h_im h a k x) a k lo hi := by
  unfold bd
  rw [h_i_im, if_pos ⟨rfl, rfl⟩]
  exact ⟨l, u⟩
theorem bd_o {h : Hp_} {a k b j : Nat} {x : Int32} {lo hi : Int} (n : ¬ (b = a ∧ j = k)) (c : bd h b j lo hi) : bd (h_im h a k x) b j lo hi := by
  unfold bd
  rw [h_i_im, if_neg n]
  exact c
noncomputable def only (L : List Nat) (h h' : Hp_) : Prop := Wf h' ∧ (∀ b, b ∉ L → h_i h' b = h_i h b) ∧ h_l h' = h_l h ∧ h_r h' = h_r h ∧ h_sh h' = h_sh h
theorem only.rf {L : List Nat} {h : Hp_} (w : Wf h) : only L h h := ⟨w, fun _ _ => rfl, rfl, rfl, rfl⟩
theorem only.im {L : List Nat} {h h' : Hp_} {a k : Nat} {x : Int32} (o : only L h h') (ha : a ∈ L) : only L h (h_im h' a k x) := by
  refine ⟨o.1.im a k x, fun b hb => ?_, ?_, ?_, ?_⟩
  · funext j
    have n : ¬ (b = a ∧ j = k) := fun z => hb (by rw [z.1]; exact ha)
    rw [h_i_im, if_neg n, o.2.1 b hb]
  · rw [h_l_im]; exact o.2.2.1
  · rw [h_r_im]; exact o.2.2.2.1
  · rw [h_sh_im]; exact o.2.2.2.2
theorem only.tr {L : List Nat} {h h' h2 : Hp_} (o : only L h h') (q : only L h' h2) : only L h h2 :=
  ⟨q.1, fun b hb => (q.2.1 b hb).trans (o.2.1 b hb), q.2.2.1.trans o.2.2.1, q.2.2.2.1.trans o.2.2.2.1, q.2.2.2.2.trans o.2.2.2.2⟩
theorem only.more {L M : List Nat} {h h' : Hp_} (o : only L h h') (hs : ∀ b ∈ L, b ∈ M) : only M h h' := ⟨o.1, fun b hb => o.2.1 b (fun z => hb (hs b z)), o.2.2⟩
theorem ti_suc {x : Int32} (u : x.toInt < 2147483647) : (x + 1).toInt = x.toInt + 1 := ti_add (y := 1) (show _ ≤ x.toInt + 1 by have := Int32.le_toInt x; omega) (show x.toInt + 1 < _ by omega)
/-! the reference's walkOf: safe, and it ends -/
noncomputable def fsn (h : Hp_) : Nat → Nat
  | 0 => 0
  | n + 1 => fsn h n + (h_i h 203 n).toInt.toNat
theorem fsn_le {h : Hp_} {p : Nat} {x : Int32} (l : x.toInt ≤ (h_i h 203 p).toInt) (z : 0 ≤ x.toInt) : ∀ n, fsn (h_im h 203 p x) n ≤ fsn h n ∧ (p < n → fsn (h_im h 203 p x) n + ((h_i h 203 p).toInt - x.toInt).toNat ≤ fsn h n)
  | 0 => ⟨Nat.le_refl _, fun h => absurd h (Nat.not_lt_zero p)⟩
  | n + 1 => by
    obtain ⟨a, b⟩ := fsn_le l z n
    have e : fsn (h_im h 203 p x) (n + 1) = fsn (h_im h 203 p x) n + (h_i (h_im h 203 p x) 203 n).toInt.toNat := rfl
    have e2 : fsn h (n + 1) = fsn h n + (h_i h 203 n).toInt.toNat := rfl
    rw [e, e2, h_i_im]
    by_cases c : n = p
    · subst c
      rw [if_pos ⟨rfl, rfl⟩]
      omega
    · rw [if_neg (fun z => c z.2)]
      refine ⟨by omega, fun hp => ?_⟩
      have := b (by omega)
      omega
/-- paths of the reference in their bounds; far in its -/
noncomputable def RdI (h : Hp_) : Prop := bd h 1 6 0 40 ∧ (∀ k, k < 40 → bd h 200 k 0 15 ∧ bd h 201 k 0 15 ∧ bd h 202 k 0 60)
noncomputable def FaI (h : Hp_) : Prop := ∀ p, p < 16 → bd h 203 p 0 100000
theorem RdI.on {h h' : Hp_} (i : RdI h) (o : only [203] h h') : RdI h' := by
  have e1 := o.2.1 1 (by decide)
  have e2 := o.2.1 200 (by decide)
  have e3 := o.2.1 201 (by decide)
  have e4 := o.2.1 202 (by decide)
  unfold RdI bd at *
  rw [e1, e2, e3, e4]
  exact i
theorem FaI.im {h : Hp_} (i : FaI h) {p : Nat} {x : Int32} (l : 0 ≤ x.toInt) (u : x.toInt ≤ 100000) : FaI (h_im h 203 p x) := fun q hq => by
  by_cases c : q = p
  · subst c
    exact bd_s l u
  · exact bd_o (fun z => c z.2) (i q hq)
theorem vin_bd {h : Hp_} {a k : Nat} {hi : Int} {n : Nat} (b : bd h a k 0 hi) (u : hi < n) : vp_in (h_i h a k) n := vin_ti b.1 (by have := b.2; omega)
theorem tn_bd {h : Hp_} {a k : Nat} {hi : Int} {n : Nat} (b : bd h a k 0 hi) (u : hi < n) : (h_i h a k).toNatClampNeg < n := by
  have e := @ti_n (h_i h a k)
  rw [if_pos b.1] at e
  have := b.2
  omega
theorem tn_ti {x : Int32} {n : Nat} (l : 0 ≤ x.toInt) (u : x.toInt < n) : x.toNatClampNeg < n := by
  have e := @ti_n x
  rw [if_pos l] at e
  omega
theorem fa_put {h0 h : Hp_} {N : Nat} (o : only [203] h0 h) (i : RdI h) (f : FaI h) (hN : fsn h 16 ≤ N) {p : Nat} {x : Int32} (hp : p < 16) (l : 0 ≤ x.toInt) (u : x.toInt < (h_i h 203 p).toInt) :
    only [203] h0 (h_im h 203 p x) ∧ RdI (h_im h 203 p x) ∧ FaI (h_im h 203 p x) ∧ fsn (h_im h 203 p x) 16 < N := by
  have b := f p hp
  have b2 := b.2
  have s := (fsn_le (h := h) (p := p) (x := x) (by omega) l 16).2 hp
  exact ⟨o.im (by decide), i.on ((only.rf o.1).im (by decide)), f.im l (by omega), by omega⟩
theorem sf_wo_43 (d : Nat) (h0 : Hp_) (x2 : Int32) (K : Int32 → Hp_ → Prop) (N : Nat)
    (k : ∀ (h : Hp_) (x3 : Int32), only [203] h0 h → RdI h → FaI h → ((x3 = 0 ∧ fsn h 16 ≤ N) ∨ (x3 = 1 ∧ fsn h 16 < N)) → AW (m_X12_walkOf (d + 0) 0 0) 0 0 34 [(0, .ref 1), (2, .int x2), (3, .int x3)] [] h (kI K)) :
    ∀ (r : Nat) (x3 x4 : Int32), 0 ≤ x4.toInt → x4.toInt + r = 40 → ∀ h, only [203] h0 h → RdI h → FaI h → ((x3 = 0 ∧ fsn h 16 ≤ N) ∨ (x3 = 1 ∧ fsn h 16 < N)) → AW (m_X12_walkOf (d + 0) 0 0) 0 0 43 [(0, .ref 1), (2, .int x2), (3, .int x3), (4, .int x4)] [] h (kI K) := by
  intro r
  induction r with
  | zero =>
    intro x3 x4 l e h o i f c
    have b := i.1.2
    exact t_X12_walkOf_43 d h o.1 x2 x3 x4 K ⟨fun _ => k h x3 o i f c, fun z => absurd (ti_le.mpr (by omega)) z⟩
  | succ r ih =>
    intro x3 x4 l e h o i f c
    have hN : fsn h 16 ≤ N := by rcases c with c | c <;> omega
    have s4 := ti_suc (x := x4) (by omega)
    have v4 : vp_in x4 40 := vin_ti l (by omega)
    have n4 : x4.toNatClampNeg < 40 := tn_ti l (by omega)
    have q := i.2 _ n4
    have va := vin_bd (n := 16) q.1 (by decide)
    have vb := vin_bd (n := 16) q.2.1 (by decide)
    have na := tn_bd (n := 16) q.1 (by decide)
    have nb := tn_bd (n := 16) q.2.1 (by decide)
    have ql := q.2.2.1
    have qu := q.2.2.2
    have fa := f _ na
    have fb := f _ nb
    have fa1 := fa.1
    have fa2 := fa.2
    have fb1 := fb.1
    have fb2 := fb.2
    have nx : ∀ (h' : Hp_) (y : Int32), only [203] h0 h' → RdI h' → FaI h' → ((y = 0 ∧ fsn h' 16 ≤ N) ∨ (y = 1 ∧ fsn h' 16 < N)) → AW (m_X12_walkOf (d + 0) 0 0) 0 0 43 [(0, .ref 1), (2, .int x2), (3, .int y), (4, .int (x4 + 1))] [] h' (kI K) := fun h' y o' i' f' c' => ih y (x4 + 1) (by omega) (by omega) h' o' i' f' c'
    refine t_X12_walkOf_43 d h o.1 x2 x3 x4 K ⟨fun _ => k h x3 o i f c, fun _ => ⟨v4, v4, va, v4, vb, fun e1 => ⟨vb, v4, va, fun e2 => nx h x3 o i f c, fun e2 => ⟨vb, v4, va, ?_⟩⟩, fun e1 => ⟨va, v4, vb, vb, v4, va, ?_⟩⟩⟩
    · have s := ti_add (x := h_i h 203 (h_i h 201 x4.toNatClampNeg).toNatClampNeg) (y := h_i h 202 x4.toNatClampNeg) (by omega) (by omega)
      have u := ti_lt.mp (Int32.not_le.mp e2)
      obtain ⟨z1, z2, z3, z4⟩ := fa_put o i f hN na (x := h_i h 203 (h_i h 201 x4.toNatClampNeg).toNatClampNeg + h_i h 202 x4.toNatClampNeg) (by omega) u
      exact nx _ 1 z1 z2 z3 (Or.inr ⟨rfl, z4⟩)
    · have s := ti_add (x := h_i h 203 (h_i h 200 x4.toNatClampNeg).toNatClampNeg) (y := h_i h 202 x4.toNatClampNeg) (by omega) (by omega)
      have u := ti_lt.mp (Int32.not_le.mp e1)
      obtain ⟨z1, z2, z3, z4⟩ := fa_put o i f hN nb (x := h_i h 203 (h_i h 200 x4.toNatClampNeg).toNatClampNeg + h_i h 202 x4.toNatClampNeg) (by omega) u
      have s2 := ti_add (x := h_i h 203 (h_i h 200 x4.toNatClampNeg).toNatClampNeg + h_i h 202 x4.toNatClampNeg) (y := h_i h 202 x4.toNatClampNeg) (by omega) (by omega)
      refine ⟨fun e2 => nx _ 1 z1 z2 z3 (Or.inr ⟨rfl, z4⟩), fun e2 => ⟨vb, v4, va, ?_⟩⟩
      have u2 := ti_lt.mp (Int32.not_le.mp e2)
      obtain ⟨y1, y2, y3, y4⟩ := fa_put z1 z2 z3 (Nat.le_of_lt z4) na (x := h_i h 203 (h_i h 200 x4.toNatClampNeg).toNatClampNeg + h_i h 202 x4.toNatClampNeg + h_i h 202 x4.toNatClampNeg) (by omega) u2
      exact nx _ 1 y1 y2 y3 (Or.inr ⟨rfl, y4⟩)
theorem sf_wo_34 (d : Nat) (h0 : Hp_) (x2 : Int32) (p2 : 0 ≤ x2.toInt ∧ x2.toInt < 16) (K : Int32 → Hp_ → Prop) (k : ∀ h v, only [203] h0 h → v = -1 ∨ (0 ≤ v.toInt ∧ v.toInt < 100000) → K v h) :
    ∀ N : Nat, ∀ (h : Hp_) (x3 : Int32), fsn h 16 < N → x3 = 0 ∨ x3 = 1 → only [203] h0 h → RdI h → FaI h → AW (m_X12_walkOf (d + 0) 0 0) 0 0 34 [(0, .ref 1), (2, .int x2), (3, .int x3)] [] h (kI K) := by
  have fin : ∀ h : Hp_, only [203] h0 h → FaI h → ∀ z : AW (m_X12_walkOf (d + 0) 0 0) 0 0 43 [(0, .ref 1), (2, .int x2), (3, .int 0), (4, .int 0)] [] h (kI K) ∨ True, AW (m_X12_walkOf (d + 0) 0 0) 0 0 34 [(0, .ref 1), (2, .int x2), (3, .int 0)] [] h (kI K) := fun h o f _ => by
    have t : (100000 : Int32).toInt = 100000 := rfl
    have v := vin_ti (n := 16) p2.1 (by omega)
    have b := f _ (tn_ti (n := 16) p2.1 (by omega))
    have b1 := b.1
    exact t_X12_walkOf_34 d h o.1 x2 0 K ⟨fun _ => ⟨v, fun c => ⟨v, k h _ o (Or.inr ⟨b1, by have := ti_lt.mp c; omega⟩)⟩, fun _ => k h _ o (Or.inl rfl)⟩, fun c => absurd rfl c⟩
  intro N
  induction N with
  | zero => intro h x3 c; omega
  | succ N ih =>
    intro h x3 c cx o i f
    rcases cx with rfl | rfl
    · exact fin h o f (Or.inr trivial)
    · refine t_X12_walkOf_34 d h o.1 x2 1 K ⟨fun z => absurd z (by decide), fun _ => ?_⟩
      refine sf_wo_43 d h0 x2 K (fsn h 16) (fun h' y o' i' f' c' => ?_) 40 0 0 (by decide) (by decide) h o i f (Or.inl ⟨rfl, Nat.le_refl _⟩)
      rcases c' with ⟨rfl, c'⟩ | ⟨rfl, c'⟩
      · exact fin h' o' f' (Or.inr trivial)
      · exact ih h' 1 (by omega) (Or.inr rfl) o' i' f'
theorem sf_wo_2 (d : Nat) (h0 : Hp_) (x1 x2 : Int32) (p2 : 0 ≤ x2.toInt ∧ x2.toInt < 16) (K : Int32 → Hp_ → Prop) (k : ∀ h v, only [203] h0 h → v = -1 ∨ (0 ≤ v.toInt ∧ v.toInt < 100000) → K v h) :
    ∀ (r : Nat) (x3 : Int32), 0 ≤ x3.toInt → x3.toInt + r = 16 → ∀ h, only [203] h0 h → RdI h → (∀ p : Nat, (p : Int) < x3.toInt → bd h 203 p 0 100000) → AW (m_X12_walkOf (d + 0) 0 0) 0 0 2 [(0, .ref 1), (1, .int x1), (2, .int x2), (3, .int x3)] [] h (kI K) := by
  have t16 : (16 : Int32).toInt = 16 := rfl
  intro r
  induction r with
  | zero =>
    intro x3 l e h o i f
    exact t_X12_walkOf_2 d h o.1 x1 x2 x3 K ⟨fun _ => sf_wo_34 d h0 x2 p2 K k (fsn h 16 + 1) h 1 (Nat.lt_succ_self _) (Or.inr rfl) o i (fun p hp => f p (by omega)), fun c => absurd (ti_le.mpr (by omega)) c⟩
  | succ r ih =>
    intro x3 l e h o i f
    have s3 := ti_suc (x := x3) (by omega)
    have v : vp_in x3 16 := vin_ti l (by omega)
    have tn : (x3.toNatClampNeg : Int) = x3.toInt := by rw [ti_n, if_pos l]
    have go : ∀ y : Int32, 0 ≤ y.toInt → y.toInt ≤ 100000 → AW (m_X12_walkOf (d + 0) 0 0) 0 0 2 [(0, .ref 1), (1, .int x1), (2, .int x2), (3, .int (x3 + 1))] [] (h_im h 203 x3.toNatClampNeg y) (kI K) := fun y yl yu => by
      refine ih (x3 + 1) (by omega) (by omega) _ (o.im (by decide)) (i.on ((only.rf o.1).im (by decide))) (fun p hp => ?_)
      by_cases c : p = x3.toNatClampNeg
      · subst c
        exact bd_s yl yu
      · exact bd_o (fun z => c z.2) (f p (by omega))
    exact t_X12_walkOf_2 d h o.1 x1 x2 x3 K ⟨fun c => absurd (ti_le.mp c) (by omega), fun _ => ⟨fun _ => ⟨v, go 100000 (by decide) (by decide)⟩, fun _ => ⟨v, go 0 (by decide) (by decide)⟩⟩⟩
/-- the reference's walkOf, to a place: it ends; only far is written -/
theorem sf_X12_walkOf (d : Nat) (h : Hp_) (w : Wf h) (i : RdI h) (x1 x2 : Int32) (p2 : 0 ≤ x2.toInt ∧ x2.toInt < 16) : Ci (m_X12_walkOf (d + 0) 0 0) [.ref 1, .int x1, .int x2] h (fun v h' => only [203] h h' ∧ (v = -1 ∨ (0 ≤ v.toInt ∧ v.toInt < 100000))) :=
  t_X12_walkOf d h x1 x2 _ (sf_wo_2 d h x1 x2 p2 _ (fun _ _ o c => ⟨o, c⟩) 16 0 (by decide) (by decide) h (only.rf w) i (fun p hp => absurd hp (by have : (0 : Int32).toInt = 0 := rfl; omega)))
end
section
/-! the reference's feed is safe -/
noncomputable def by_ (x0 x1 x2 x3 x4 x5 : Int32) : Int32 := ((if 4 ≤ x5 then (if 8 ≤ x5 then (if 12 ≤ x5 then (if 16 ≤ x5 then x4 else x3) else x2) else x1) else x0) >>> ((24 - (8 * (x5 - x5 / 4 * 4))) &&& 31)) &&& 255
theorem sf_X12_byteOf (d : Nat) (h : Hp_) (x0 x1 x2 x3 x4 x5 : Int32) : Ci (m_X12_byteOf (d + 0) 0 0) [.int x0, .int x1, .int x2, .int x3, .int x4, .int x5] h (fun r h' => r = by_ x0 x1 x2 x3 x4 x5 ∧ h' = h) :=
  t_X12_byteOf d h x0 x1 x2 x3 x4 x5 _ ⟨fun a => ⟨fun b => ⟨fun c => ⟨fun e => ⟨by unfold by_; rw [if_pos a, if_pos b, if_pos c, if_pos e], rfl⟩, fun e => ⟨by unfold by_; rw [if_pos a, if_pos b, if_pos c, if_neg e], rfl⟩⟩, fun c => ⟨by unfold by_; rw [if_pos a, if_pos b, if_neg c], rfl⟩⟩, fun b => ⟨by unfold by_; rw [if_pos a, if_neg b], rfl⟩⟩, fun a => ⟨by unfold by_; rw [if_neg a], rfl⟩⟩
end
section
/-! walkOf and feed of the reference as contracts -/
theorem Iv_only {h h' : Hp_} {L : List Nat} (I : Iv h) (o : only L h h') (h0 : 0 ∉ L) (hj : ∀ a ∈ L, jr a = false) (hr : ∀ a ∈ L, ∀ k, rin (h_i h' a k).toInt (tf a k)) : Iv h' := by
  obtain ⟨w, e, el, er, es⟩ := o
  have cn' : ∀ c, Cn h c → Cn h' c := fun c z => ⟨z.1, z.2.1, by rw [es]; exact z.2.2⟩
  refine ⟨w, fun a k => ?_, fun k => ?_, ?_, ?_, Jv_same (fun a k ha => ?_) es (by rw [er]) I.2.2.2.2.2⟩
  · by_cases c : a ∈ L
    · exact hr a c k
    · rw [e a c]; exact I.2.1 a k
  · rw [er]
    rcases I.2.2.1 k with z | ⟨c, z, y⟩
    · exact Or.inl z
    · exact Or.inr ⟨c, z, cn' c y⟩
  · rw [er]; exact I.2.2.2.1
  · obtain ⟨c, N, c1, c2, c3, c4⟩ := I.2.2.2.2.1
    exact ⟨c, N, by rw [er]; exact c1, by rw [es]; exact c2, c3, by rw [e 0 h0]; exact c4⟩
  · rw [e a (fun z => by rw [jw_jr (fun y => h0 (y ▸ z)) (hj a z)] at ha; cases ha)]
theorem tf_bd {h : Hp_} (I : Iv h) (a k : Nat) {lo hi : Int} (e : tf a k = (lo, hi)) : bd h a k lo hi := by
  have := I.2.1 a k
  rw [e] at this
  exact this
theorem Iv_RdI {h : Hp_} (I : Iv h) : RdI h := by
  have e0 : tfa 200 = some (0, 15) := by decide +kernel
  have e1 : tfa 201 = some (0, 15) := by decide +kernel
  have e2 : tfa 202 = some (0, 60) := by decide +kernel
  exact ⟨tf_bd I 1 6 (by decide +kernel), fun k _ => ⟨tf_bd I 200 k (tfa_tf e0 k), tf_bd I 201 k (tfa_tf e1 k), tf_bd I 202 k (tfa_tf e2 k)⟩⟩
noncomputable def wz_X12_walkOf : List Nat := [203999]
noncomputable def q_X12_walkOf : Ctr := ([.inl ((0, 15), (0, 0), none), .inl (((-2147483648), 2147483647), (0, 0), none), .inr 11], [], (some (.inl (((-1), 100000), (0, 0), none))), [], wz_X12_walkOf)
theorem hc_X12_walkOf (n : Nat) : Hc (m_X12_walkOf (n + 0) 0 0) q_X12_walkOf := by
  intro vs h ma I hp
  match vs, ma with
  | [v2, v1, v0], ma =>
    obtain ⟨⟨x2, e2, b2, _⟩, ⟨x1, e1, _, _⟩, e0, _⟩ := ma
    have e0 : v0 = .ref 1 := e0
    subst e0 e1 e2
    have b20 : 0 ≤ x2.toInt := b2.1
    have b21 : x2.toInt ≤ 15 := b2.2
    refine Ct.mono (sf_X12_walkOf n h I.1 (Iv_RdI I) x1 x2 ⟨b20, by omega⟩) (fun v h' q => ?_)
    obtain ⟨r, ev, o, c⟩ := q
    subst ev
    have t203 : tfa 203 = some rtop := by decide +kernel
    refine ⟨Iv_only I o (by decide) (by decide) (fun a ha k => ?_), ⟨o.2.2.2.2, fun b k hb => ?_⟩, fun _ z => (nomatch z), _, rfl, r, rfl, ?_, fun _ z => (nomatch z)⟩
    · have ha := mem1 ha
      rw [ha, tfa_tf t203]; exact rtop_in _
    · have nb : b ≠ 203 := fun z => by
        rw [z] at hb
        have t : inw wz_X12_walkOf 203 k = true := inw_row (by decide +kernel) k
        have hb : inw wz_X12_walkOf 203 k = false := hb
        rw [hb] at t; cases t
      exact ⟨by rw [o.2.1 b (fun z => nb (mem1 z))], by rw [o.2.2.1], by rw [o.2.2.2.1]⟩
    · have tm : (-1 : Int32).toInt = -1 := rfl
      rcases c with c | c
      · rw [c]; exact ⟨by decide, by decide⟩
      · exact ⟨by show (-1 : Int) ≤ _; omega, by show _ ≤ (100000 : Int); omega⟩
theorem Cn_fr {ws : List Nat} {h h' : Hp_} {c : Nat} (f : Fr ws h h') (w : Cn h c) : Cn h' c := ⟨w.1, w.2.1, by rw [f.1]; exact w.2.2⟩
/-- a call on an object, its arguments known -/
theorem aw_Vc {M M' : Mc_} {K : Option Value → Hp_ → Prop} {pc n idx ci N a : Nat} {lv : List (Nat × Value)} {rest : List Value} {h : Hp_} {c : Ctr} {T : u_T} (vs : List Value) (hC : Hc M' c) (ma : am h (vs.reverse ++ [.ref a]) c.1) (I : Iv h) (hp : hm h c.2.1) (hd : decode (mC M) pc = .ok (.invokevirtual idx, 3)) (hm : cV_ M' n) (hkc : kc_ ci (mY M').cls T N) (hs : h_sh h a = some (ci + 10, N)) (hlk : Cond.methodLink (mY M).cls idx (mY M') ∈ lw_g) (hn : vs.length = n) (hc : (rest.map (fun v => v.category)).sum ≤ 8) (hz : rz_ M' M)
    (k : ∀ v h', Kc c.2.2.2.2 h c.2.2.1 c.2.2.2.1 v h' → AW M 0 0 (pc + 3) lv (v.toList ++ rest) h' K) : AW M 0 0 pc lv (vs.reverse ++ .ref a :: rest) h K := by
  have C := hC _ h ma I hp
  rw [List.reverse_append, List.reverse_reverse, List.reverse_singleton, List.singleton_append] at C
  exact aw_callV hd hm.1 hkc hs hm.2.1 hm.2.2 hlk hn hz.1 hc ⟨by rw [hz.2.1]; exact Nat.zero_le _, by rw [hz.2.2.1]; exact Nat.zero_le _⟩ hz.2.2.2 C (fun v h' kv => by rw [hz.2.1, hz.2.2.1]; exact k v h' kv)
end
section
/-! texts: what the JDK's own methods do with them -/
section TXT
variable {M M' : Mc_} {kc ks pc : Nat} {lv : List (Nat × Value)} {st rest : List Value} {h : Hp_} {K : Option Value → Hp_ → Prop}
noncomputable abbrev tln (i : Nat) : Nat := [0, 9, 6, 4].getD i 0
noncomputable abbrev tby (i : Nat) : List Int32 := [[], [107, 119, 112, 104, 100, 99, 110, 101, 116], [99, 121, 109, 120, 116, 97], [120, 110, 114, 116]].getD i []
theorem aw_tval {i idx : Nat} (hi : i < 4) (hlk : Cond.fieldLink (mY M).cls idx "java/lang/String" "value" "[B" ∈ lw_g) (hd : decode (mC M) pc = .ok (.getfield idx, 3)) (k : AW M kc ks (pc + 3) lv (.ref (2000 + i) :: st) h K) : AW M kc ks pc lv (.ref (1000 + i) :: st) h K := by
  intro l p e s m args below meth c dC dI cy A ad0 adV ad dom0 dom H locs ls hf hX hT hE hW hS hl ho hs
  have z := (hT.1.1.1 i hi).2.2.1
  rw [← hT.1.2.1 i] at z
  exact vk_getf hf.1 hf.2.1 z hS hf.2.2.2.2.2.1 (hf.2.2.2.2.2.2.2.1 _ hlk) (fun _ w => w) hd (k l p e s m args below meth c dC dI cy A ad0 adV ad dom0 dom H locs ls hf hX hT hE hW hS hl ho (ok_c (fun z w => by cases w; exact Or.inr (show 1000 ≤ 2000 + i by omega)) (ok_t hs)))
theorem aw_tcod {i idx : Nat} (hi : i < 4) (hlk : Cond.fieldLink (mY M).cls idx "java/lang/String" "coder" "B" ∈ lw_g) (hd : decode (mC M) pc = .ok (.getfield idx, 3)) (k : AW M kc ks (pc + 3) lv (.int 0 :: st) h K) : AW M kc ks pc lv (.ref (1000 + i) :: st) h K := by
  intro l p e s m args below meth c dC dI cy A ad0 adV ad dom0 dom H locs ls hf hX hT hE hW hS hl ho hs
  exact vk_getf hf.1 hf.2.1 (hT.1.1.1 i hi).2.1 hS hf.2.2.2.2.2.1 (hf.2.2.2.2.2.2.2.1 _ hlk) (fun _ w => w) hd (k l p e s m args below meth c dC dI cy A ad0 adV ad dom0 dom H locs ls hf hX hT hE hW hS hl ho (ok_c ok_i (ok_t hs)))
theorem aw_tcmp {idx : Nat} (hlk : Cond.fieldLink (mY M).cls idx "java/lang/String" "COMPACT_STRINGS" "Z" ∈ lw_g) (hd : decode (mC M) pc = .ok (.getstatic idx, 3)) (k : AW M kc ks (pc + 3) lv (.int 1 :: st) h K) : AW M kc ks pc lv st h K := by
  intro l p e s m args below meth c dC dI cy A ad0 adV ad dom0 dom H locs ls hf hX hT hE hW hS hl ho hs
  exact va_gets hf.1 hf.2.1 hT.1.2.2.1 hS hf.2.2.2.2.2.1 (hf.2.2.2.2.2.2.2.1 _ hlk) (fun _ w => w) hd (k l p e s m args below meth c dC dI cy A ad0 adV ad dom0 dom H locs ls hf hX hT hE hW hS hl ho (ok_c ok_i hs))
theorem aw_tfmt {idx : Nat} (hlk : Cond.fieldLink (mY M).cls idx "jdk/internal/util/Preconditions" "SIOOBE_FORMATTER" "Ljava/util/function/BiFunction;" ∈ lw_g) (hd : decode (mC M) pc = .ok (.getstatic idx, 3)) (k1 : AW M kc ks (pc + 3) lv (.null :: st) h K) (k2 : AW M kc ks (pc + 3) lv (.ref 2100 :: st) h K) : AW M kc ks pc lv st h K := by
  intro l p e s m args below meth c dC dI cy A ad0 adV ad dom0 dom H locs ls hf hX hT hE hW hS hl ho hs
  rcases hT.1.2.2.2 with z | z
  · exact va_gets hf.1 hf.2.1 z hS hf.2.2.2.2.2.1 (hf.2.2.2.2.2.2.2.1 _ hlk) (fun _ w => w) hd (k1 l p e s m args below meth c dC dI cy A ad0 adV ad dom0 dom H locs ls hf hX hT hE hW hS hl ho (ok_c ok_n hs))
  · exact va_gets hf.1 hf.2.1 z hS hf.2.2.2.2.2.1 (hf.2.2.2.2.2.2.2.1 _ hlk) (fun _ w => w) hd (k2 l p e s m args below meth c dC dI cy A ad0 adV ad dom0 dom H locs ls hf hX hT hE hW hS hl ho (ok_c (fun z w => by cases w; exact Or.inr (show 1000 ≤ 2100 by decide)) hs))
theorem aw_tlen {i : Nat} (hi : i < 4) (hd : decode (mC M) pc = .ok (.arraylength, 1)) (k : AW M kc ks (pc + 1) lv (.int (Int32.ofNat (tln i)) :: st) h K) : AW M kc ks pc lv (.ref (2000 + i) :: st) h K := by
  intro l p e s m args below meth c dC dI cy A ad0 adV ad dom0 dom H locs ls hf hX hT hE hW hS hl ho hs
  have z := (hT.1.1.1 i hi).2.2.2
  rw [← hT.1.2.1 i] at z
  exact va_tlen hf.1 hf.2.1 z hS rfl hd (k l p e s m args below meth c dC dI cy A ad0 adV ad dom0 dom H locs ls hf hX hT hE hW hS hl ho (ok_c ok_i (ok_t hs)))
theorem aw_tb {i : Nat} {x : Int32} (hi : i < 4) (hin : vp_in x (tln i)) (hd : decode (mC M) pc = .ok (.baload, 1)) (k : AW M kc ks (pc + 1) lv (.int ((tby i).getD x.toNatClampNeg 0) :: st) h K) : AW M kc ks pc lv (.int x :: .ref (2000 + i) :: st) h K := by
  intro l p e s m args below meth c dC dI cy A ad0 adV ad dom0 dom H locs ls hf hX hT hE hW hS hl ho hs
  have z := (hT.1.1.1 i hi).2.2.2
  rw [← hT.1.2.1 i] at z
  exact va_tb hf.1 hf.2.1 z hS hin rfl hd (k l p e s m args below meth c dC dI cy A ad0 adV ad dom0 dom H locs ls hf hX hT hE hW hS hl ho (ok_c ok_i (ok_t (ok_t hs))))
theorem aw_callT {n idx i : Nat} {vs : List Value} {K' : Option Value → Hp_ → Prop} (hi : i < 4) (hd : decode (mC M) pc = .ok (.invokevirtual idx, 3)) (hcl : (mY M').cls = "java/lang/String") (hm : cV_ M' n) (hlk : Cond.methodLink (mY M).cls idx (mY M') ∈ lw_g) (hn : vs.length = n) (hR : rr_ M' M kc ks) (hc : (rest.map (fun v => v.category)).sum ≤ 8) (hXs : xs_ M)
    (hC : Ct M' (.ref (1000 + i) :: vs) h K') (k : ∀ v h', K' v h' → AW M (kc + (mR M').cells) (ks + (mR M').slots) (pc + 3) lv (v.toList ++ rest) h' K) : AW M kc ks pc lv (vs.reverse ++ .ref (1000 + i) :: rest) h K := by
  intro l p e s m args below meth c dC dI cy A ad0 adV ad dom0 dom H locs ls hf hX hT hE hW hS hl ho hs
  have hov : ∀ v ∈ Value.ref (1000 + i) :: vs, h_ok dom v := fun v hv => hs v (by
    rcases List.mem_cons.mp hv with z | z
    · exact List.mem_append_right _ (by rw [z]; exact List.mem_cons_self)
    · exact List.mem_append_left _ (List.mem_reverse.mpr z))
  have hrv := vk_recv hT.1.1 hi hS
  rw [← hcl] at hrv
  refine aw_back (a := (Value.ref (ad (1000 + i)) :: vs.map (h_cv ad)).toArray) hXs hf hX hT hE hW hS hl ho (fun v hv => hs v (List.mem_append_right _ (List.mem_cons_of_mem _ hv))) ?_ k
  exact va_runV (As := vs.map (h_cv ad)) ⟨hf.1, hf.2.1, hf.2.2.1, hf.2.2.2.2.2.1, hf.2.2.2.2.2.2.2.1⟩ (hC l dC dI cy ad adV dom H.size hW.1 hov) ⟨cb_ hf.2.2.2.2.2.2.2.1 hm.1 hlk hR.1, hf.2.2.2.2.2.2.2.1 _ hm.2.1, hf.2.2.2.2.2.2.2.1 _ hm.2.2⟩ ⟨cp_blind, hrv, fun U hU hWm => ⟨rfl, cp_pre hf hT hW hS hU hWm⟩⟩ rfl (by rw [List.length_map]; exact hn) hl.1 (by rw [List.map_append, List.map_reverse]; rfl) (lv_room (by rw [cat_cv]; exact hc)) hd hR.2
theorem aw_Ti {n idx i : Nat} (vs rest : List Value) (hi : i < 4) (hd : decode (mC M) pc = .ok (.invokevirtual idx, 3)) (hcl : (mY M').cls = "java/lang/String") (hm : cV_ M' n) (hlk : Cond.methodLink (mY M).cls idx (mY M') ∈ lw_g) (hn : vs.length = n) (hR : rr_ M' M kc ks) (hc : (rest.map (fun v => v.category)).sum ≤ 8) (hXs : xs_ M) {K' : Int32 → Hp_ → Prop}
    (hC : Ci M' (.ref (1000 + i) :: vs) h K') (k : ∀ r h', K' r h' → AW M (kc + (mR M').cells) (ks + (mR M').slots) (pc + 3) lv (.int r :: rest) h' K) : AW M kc ks pc lv (vs.reverse ++ .ref (1000 + i) :: rest) h K :=
  aw_callT hi hd hcl hm hlk hn hR hc hXs hC (fun _ _ ⟨r, e, w⟩ => e ▸ k r _ w)
end TXT
theorem c_isLatin1 (d i : Nat) (hi : i < 4) (h : Hp_) : Ci (m_J0_isLatin1_aae02 (d + 0) 0 0) [.ref (1000 + i)] h (fun r h' => r = 1 ∧ h' = h) := by
  refine Ct.of (fun _ _ _ => trivial) rfl (Nat.le_of_ble_eq_true rfl) ?_
  show AW (m_J0_isLatin1_aae02 (d + 0) 0 0) 0 0 0 [(0, .ref (1000 + i))] [] h (kI _)
  refine aw_tcmp tw_772 d_J0_isLatin1_aae02_0 ?_
  refine aw_if_eq (tgt := 17) d_J0_isLatin1_aae02_3 rfl (fun c => absurd c (by decide)) (fun _ => ?_)
  refine aw_aload_n (i := 0) rfl d_J0_isLatin1_aae02_6 0 rfl ?_
  refine aw_tcod hi tw_2710 d_J0_isLatin1_aae02_7 ?_
  refine aw_if_ne (tgt := 17) d_J0_isLatin1_aae02_10 rfl (fun c => absurd rfl c) (fun _ => ?_)
  refine aw_iconst (v := 1) d_J0_isLatin1_aae02_13 ic_1 ?_
  refine aw_goto (tgt := 18) d_J0_isLatin1_aae02_14 rfl ?_
  exact aw_zret rfl rfl d_J0_isLatin1_aae02_18 ⟨Nat.le_refl _, Nat.le_refl _⟩ ⟨_, rfl, rfl, rfl⟩
theorem c_coder (d i : Nat) (hi : i < 4) (h : Hp_) : Ci (m_J0_coder_7d493 (d + 0) 0 0) [.ref (1000 + i)] h (fun r h' => r = 0 ∧ h' = h) := by
  refine Ct.of (fun _ _ _ => trivial) rfl (Nat.le_of_ble_eq_true rfl) ?_
  show AW (m_J0_coder_7d493 (d + 0) 0 0) 0 0 0 [(0, .ref (1000 + i))] [] h (kI _)
  refine aw_tcmp tw_772 d_J0_coder_7d493_0 ?_
  refine aw_if_eq (tgt := 13) d_J0_coder_7d493_3 rfl (fun c => absurd c (by decide)) (fun _ => ?_)
  refine aw_aload_n (i := 0) rfl d_J0_coder_7d493_6 0 rfl ?_
  refine aw_tcod hi tw_2710 d_J0_coder_7d493_7 ?_
  refine aw_goto (tgt := 14) d_J0_coder_7d493_10 rfl ?_
  exact aw_zret rfl rfl d_J0_coder_7d493_14 ⟨Nat.le_refl _, Nat.le_refl _⟩ ⟨_, rfl, rfl, rfl⟩
theorem ln_sh {i : Nat} (hi : i < 4) : rin (Int32.ofNat (tln i) >>> ((0 : Int32) &&& 31)).toInt (0, 9) := by
  match i, hi with
  | 0, _ => exact ⟨by decide, by decide⟩
  | 1, _ => exact ⟨by decide, by decide⟩
  | 2, _ => exact ⟨by decide, by decide⟩
  | 3, _ => exact ⟨by decide, by decide⟩
  | i + 4, h => exact absurd h (by omega)
theorem c_length (d i : Nat) (hi : i < 4) (h : Hp_) : Ci (m_J0_length_8abf5 (d + 1) 0 0) [.ref (1000 + i)] h (fun r h' => rin r.toInt (0, 9) ∧ h' = h) := by
  refine Ct.of (fun _ _ _ => trivial) rfl (Nat.le_of_ble_eq_true rfl) ?_
  show AW (m_J0_length_8abf5 (d + 1) 0 0) 0 0 0 [(0, .ref (1000 + i))] [] h (kI _)
  refine aw_aload_n (i := 0) rfl d_J0_length_8abf5_0 0 rfl ?_
  refine aw_tval hi tw_2711 d_J0_length_8abf5_1 ?_
  refine aw_tlen hi d_J0_length_8abf5_4 ?_
  refine aw_aload_n (i := 0) rfl d_J0_length_8abf5_5 0 rfl ?_
  refine aw_Ti [] [.int (Int32.ofNat (tln i))] hi d_J0_length_8abf5_6 rfl (cV_J0_coder_7d493 (d + 0) 0 0) tw_778 rfl (rr0 (Nat.le_of_ble_eq_true rfl) (Nat.le_of_ble_eq_true rfl)) (Nat.le_of_ble_eq_true rfl) xs0 (c_coder d i hi h) (fun r h1 kk => ?_)
  obtain ⟨e0, e⟩ := kk
  rw [e, e0]
  refine aw_ishr d_J0_length_8abf5_9 ?_
  exact aw_iret rfl d_J0_length_8abf5_10 ⟨Nat.le_refl _, Nat.le_refl _⟩ ⟨_, rfl, ln_sh hi, rfl⟩
theorem c_canEncode (d : Nat) (x : Int32) (h : Hp_) : Ci (m_J1_canEncode_9a6ad (d + 0) 0 0) [.int x] h (fun _ h' => h' = h) := by
  refine Ct.of (fun _ _ _ => trivial) rfl (Nat.le_of_ble_eq_true rfl) ?_
  show AW (m_J1_canEncode_9a6ad (d + 0) 0 0) 0 0 0 [(0, .int x)] [] h (kI _)
  have z : AW (m_J1_canEncode_9a6ad (d + 0) 0 0) 0 0 15 [(0, .int x)] [] h (kI (fun _ h' => h' = h)) := by
    refine aw_iconst (v := 0) d_J1_canEncode_9a6ad_15 ic_0 ?_
    exact aw_zret rfl rfl d_J1_canEncode_9a6ad_16 ⟨Nat.le_refl _, Nat.le_refl _⟩ ⟨_, rfl, rfl⟩
  refine aw_iload_n (i := 0) rfl d_J1_canEncode_9a6ad_0 0 rfl ?_
  refine aw_if_lt (tgt := 15) d_J1_canEncode_9a6ad_1 rfl (fun _ => z) (fun _ => ?_)
  refine aw_iload_n (i := 0) rfl d_J1_canEncode_9a6ad_4 0 rfl ?_
  refine aw_sipush (v := 255) d_J1_canEncode_9a6ad_5 (by decide) ?_
  refine aw_icmp_gt (tgt := 15) d_J1_canEncode_9a6ad_8 rfl (fun _ => z) (fun _ => ?_)
  refine aw_iconst (v := 1) d_J1_canEncode_9a6ad_11 ic_1 ?_
  refine aw_goto (tgt := 16) d_J1_canEncode_9a6ad_12 rfl ?_
  exact aw_zret rfl rfl d_J1_canEncode_9a6ad_16 ⟨Nat.le_refl _, Nat.le_refl _⟩ ⟨_, rfl, rfl⟩
theorem tln_le {i : Nat} (hi : i < 4) : tln i ≤ 9 := by
  match i, hi with
  | 0, _ => decide
  | 1, _ => decide
  | 2, _ => decide
  | 3, _ => decide
  | i + 4, h => exact absurd h (by omega)
theorem vp_tln {i : Nat} {x : Int32} (h0 : 0 ≤ x.toInt) (h1 : x.toInt < (tln i : Int)) : vp_in x (tln i) := by
  have b : (x.toNatClampNeg : Int) = x.toInt := by
    show ((x.toInt.toNat : Nat) : Int) = _
    omega
  have a0 : (0 : Int32).toInt = 0 := rfl
  rintro (y | y)
  · have y := q_lt.mp y
    omega
  · omega
theorem l_ixc (d i : Nat) (hi : i < 4) (h : Hp_) (c f t b : Int32) (ht : t.toInt ≤ (tln i : Int)) : ∀ (N : Nat) (x : Int32), 0 ≤ x.toInt → (t.toInt - x.toInt).toNat = N →
    AW (m_J1_indexOfChar_4cfef (d + 0) 0 0) 0 0 7 [(0, .ref (2000 + i)), (1, .int c), (2, .int f), (3, .int t), (4, .int b), (5, .int x)] [] h (kI (fun r h' => rin r.toInt (-1, 8) ∧ h' = h)) := by
  intro N
  induction N with
  | zero =>
    intro x x0 e
    refine aw_iload d_J1_indexOfChar_4cfef_7 5 rfl ?_
    refine aw_iload_n (i := 3) rfl d_J1_indexOfChar_4cfef_9 3 rfl ?_
    refine aw_icmp_ge (tgt := 31) d_J1_indexOfChar_4cfef_10 rfl (fun _ => ?_) (fun z => ?_)
    · refine aw_iconst (v := -1) d_J1_indexOfChar_4cfef_31 ic_m1 ?_
      exact aw_iret rfl d_J1_indexOfChar_4cfef_32 ⟨Nat.le_refl _, Nat.le_refl _⟩ ⟨_, rfl, ⟨by decide, by decide⟩, rfl⟩
    · have z := q_nle z
      omega
  | succ N ih =>
    intro x x0 e
    have l9 := tln_le hi
    refine aw_iload d_J1_indexOfChar_4cfef_7 5 rfl ?_
    refine aw_iload_n (i := 3) rfl d_J1_indexOfChar_4cfef_9 3 rfl ?_
    refine aw_icmp_ge (tgt := 31) d_J1_indexOfChar_4cfef_10 rfl (fun _ => ?_) (fun z => ?_)
    · refine aw_iconst (v := -1) d_J1_indexOfChar_4cfef_31 ic_m1 ?_
      exact aw_iret rfl d_J1_indexOfChar_4cfef_32 ⟨Nat.le_refl _, Nat.le_refl _⟩ ⟨_, rfl, ⟨by decide, by decide⟩, rfl⟩
    · have z := q_nle z
      refine aw_aload_n (i := 0) rfl d_J1_indexOfChar_4cfef_13 0 rfl ?_
      refine aw_iload d_J1_indexOfChar_4cfef_14 5 rfl ?_
      refine aw_tb hi (vp_tln x0 (by omega)) d_J1_indexOfChar_4cfef_16 ?_
      refine aw_iload d_J1_indexOfChar_4cfef_17 4 rfl ?_
      refine aw_icmp_ne (tgt := 25) d_J1_indexOfChar_4cfef_19 rfl (fun _ => ?_) (fun _ => ?_)
      · refine aw_iinc (v := (x + 1)) [(0, .ref (2000 + i)), (1, .int c), (2, .int f), (3, .int t), (4, .int b), (5, .int (x + 1))] d_J1_indexOfChar_4cfef_25 5 rfl rfl (Nat.le_of_ble_eq_true rfl) rfl rfl ?_
        refine aw_goto (tgt := 7) d_J1_indexOfChar_4cfef_28 rfl ?_
        have e1 : (x + 1).toInt = x.toInt + 1 := by
          rw [Int32.toInt_add]
          have o1 : (1 : Int32).toInt = 1 := rfl
          rw [o1, Int.bmod_eq_of_le (by omega) (by omega)]
        exact ih (x + 1) (by omega) (by omega)
      · refine aw_iload d_J1_indexOfChar_4cfef_22 5 rfl ?_
        exact aw_iret rfl d_J1_indexOfChar_4cfef_24 ⟨Nat.le_refl _, Nat.le_refl _⟩ ⟨_, rfl, ⟨by show (-1 : Int) ≤ _; omega, by show _ ≤ (8 : Int); omega⟩, rfl⟩
theorem c_ixChar (d i : Nat) (hi : i < 4) (h : Hp_) (c f t : Int32) (hf : 0 ≤ f.toInt) (ht : t.toInt ≤ (tln i : Int)) : Ci (m_J1_indexOfChar_4cfef (d + 0) 0 0) [.ref (2000 + i), .int c, .int f, .int t] h (fun r h' => rin r.toInt (-1, 8) ∧ h' = h) := by
  refine Ct.of (fun _ _ _ => trivial) rfl (Nat.le_of_ble_eq_true rfl) ?_
  show AW (m_J1_indexOfChar_4cfef (d + 0) 0 0) 0 0 0 [(0, .ref (2000 + i)), (1, .int c), (2, .int f), (3, .int t)] [] h (kI _)
  refine aw_iload_n (i := 1) rfl d_J1_indexOfChar_4cfef_0 1 rfl ?_
  refine aw_i2b d_J1_indexOfChar_4cfef_1 ?_
  refine aw_istore (i := 4) [(0, .ref (2000 + i)), (1, .int c), (2, .int f), (3, .int t), (4, .int (c.toInt8.toInt32))] d_J1_indexOfChar_4cfef_2 (Nat.le_of_ble_eq_true rfl) rfl rfl ?_
  refine aw_iload_n (i := 2) rfl d_J1_indexOfChar_4cfef_4 2 rfl ?_
  refine aw_istore (i := 5) [(0, .ref (2000 + i)), (1, .int c), (2, .int f), (3, .int t), (4, .int (c.toInt8.toInt32)), (5, .int f)] d_J1_indexOfChar_4cfef_5 (Nat.le_of_ble_eq_true rfl) rfl rfl ?_
  exact l_ixc d i hi h c f t _ ht _ f hf rfl
theorem c_ixLatin (d i : Nat) (hi : i < 4) (h : Hp_) (c f t : Int32) : Ci (m_J1_indexOf_4cfef (d + 1) 0 0) [.ref (2000 + i), .int c, .int f, .int t] h (fun r h' => rin r.toInt (-1, 8) ∧ h' = h) := by
  refine Ct.of (fun _ _ _ => trivial) rfl (Nat.le_of_ble_eq_true rfl) ?_
  show AW (m_J1_indexOf_4cfef (d + 1) 0 0) 0 0 0 [(0, .ref (2000 + i)), (1, .int c), (2, .int f), (3, .int t)] [] h (kI _)
  have l9 := tln_le hi
  refine aw_iload_n (i := 1) rfl d_J1_indexOf_4cfef_0 1 rfl ?_
  refine aw_Si [.int c] [] d_J1_indexOf_4cfef_1 (cS_J1_canEncode_9a6ad (d + 0) 0 0) tw_785 rfl (rr0 (Nat.le_of_ble_eq_true rfl) (Nat.le_of_ble_eq_true rfl)) (Nat.le_of_ble_eq_true rfl) xs0 (c_canEncode d c h) (fun r h1 kk => ?_)
  rw [kk]
  refine aw_if_ne (tgt := 9) d_J1_indexOf_4cfef_4 rfl (fun _ => ?_) (fun _ => ?_)
  · refine aw_iload_n (i := 2) rfl d_J1_indexOf_4cfef_9 2 rfl ?_
    refine aw_iconst (v := 0) d_J1_indexOf_4cfef_10 ic_0 ?_
    refine aw_mmax d_J1_indexOf_4cfef_11 tw_788 (show 1 ≤ (d + 1) by omega) (Nat.le_trans (Nat.le_of_ble_eq_true rfl) (show 100 ≤ 100 * (d + 1) by omega)) ⟨Nat.le_refl _, Nat.le_refl _⟩ ?_
    generalize hg : (if f < 0 then (0 : Int32) else f) = g
    have g0 : 0 ≤ g.toInt := by
      rw [← hg]
      split
      · decide
      · rename_i z
        have := q_nlt z
        have o : (0 : Int32).toInt = 0 := rfl
        omega
    refine aw_istore_n (i := 2) rfl [(0, .ref (2000 + i)), (1, .int c), (2, .int g), (3, .int t)] d_J1_indexOf_4cfef_14 (Nat.le_of_ble_eq_true rfl) rfl rfl ?_
    refine aw_iload_n (i := 3) rfl d_J1_indexOf_4cfef_15 3 rfl ?_
    refine aw_aload_n (i := 0) rfl d_J1_indexOf_4cfef_16 0 rfl ?_
    refine aw_tlen hi d_J1_indexOf_4cfef_17 ?_
    refine aw_mmin d_J1_indexOf_4cfef_18 tw_791 (show 1 ≤ (d + 1) by omega) (Nat.le_trans (Nat.le_of_ble_eq_true rfl) (show 100 ≤ 100 * (d + 1) by omega)) ⟨Nat.le_refl _, Nat.le_refl _⟩ ?_
    generalize hg2 : (if Int32.ofNat (tln i) < t then Int32.ofNat (tln i) else t) = u
    have en : (Int32.ofNat (tln i)).toInt = (tln i : Int) := Int32.toInt_ofNat_of_lt (by omega)
    have u0 : u.toInt ≤ (tln i : Int) := by
      rw [← hg2]
      split
      · omega
      · rename_i z
        have := q_nlt z
        omega
    refine aw_istore_n (i := 3) rfl [(0, .ref (2000 + i)), (1, .int c), (2, .int g), (3, .int u)] d_J1_indexOf_4cfef_21 (Nat.le_of_ble_eq_true rfl) rfl rfl ?_
    refine aw_iload_n (i := 2) rfl d_J1_indexOf_4cfef_22 2 rfl ?_
    refine aw_iload_n (i := 3) rfl d_J1_indexOf_4cfef_23 3 rfl ?_
    refine aw_icmp_lt (tgt := 29) d_J1_indexOf_4cfef_24 rfl (fun _ => ?_) (fun _ => ?_)
    · refine aw_aload_n (i := 0) rfl d_J1_indexOf_4cfef_29 0 rfl ?_
      refine aw_iload_n (i := 1) rfl d_J1_indexOf_4cfef_30 1 rfl ?_
      refine aw_iload_n (i := 2) rfl d_J1_indexOf_4cfef_31 2 rfl ?_
      refine aw_iload_n (i := 3) rfl d_J1_indexOf_4cfef_32 3 rfl ?_
      refine aw_Si [.ref (2000 + i), .int c, .int g, .int u] [] d_J1_indexOf_4cfef_33 (cS_J1_indexOfChar_4cfef (d + 0) 0 0) tw_792 rfl (rr0 (Nat.le_of_ble_eq_true rfl) (Nat.le_of_ble_eq_true rfl)) (Nat.le_of_ble_eq_true rfl) xs0 (c_ixChar d i hi h c g u g0 u0) (fun r h1 kk => ?_)
      exact aw_iret rfl d_J1_indexOf_4cfef_36 ⟨Nat.le_refl _, Nat.le_refl _⟩ ⟨_, rfl, kk⟩
    · refine aw_iconst (v := -1) d_J1_indexOf_4cfef_27 ic_m1 ?_
      exact aw_iret rfl d_J1_indexOf_4cfef_28 ⟨Nat.le_refl _, Nat.le_refl _⟩ ⟨_, rfl, ⟨by decide, by decide⟩, rfl⟩
  · refine aw_iconst (v := -1) d_J1_indexOf_4cfef_7 ic_m1 ?_
    exact aw_iret rfl d_J1_indexOf_4cfef_8 ⟨Nat.le_refl _, Nat.le_refl _⟩ ⟨_, rfl, ⟨by decide, by decide⟩, rfl⟩
theorem c_ix2 (d i : Nat) (hi : i < 4) (h : Hp_) (c f : Int32) : Ci (m_J0_indexOf_7cf53 (d + 2) 0 0) [.ref (1000 + i), .int c, .int f] h (fun r h' => rin r.toInt (-1, 8) ∧ h' = h) := by
  refine Ct.of (fun _ _ _ => trivial) rfl (Nat.le_of_ble_eq_true rfl) ?_
  show AW (m_J0_indexOf_7cf53 (d + 2) 0 0) 0 0 0 [(0, .ref (1000 + i)), (1, .int c), (2, .int f)] [] h (kI _)
  refine aw_aload_n (i := 0) rfl d_J0_indexOf_7cf53_0 0 rfl ?_
  refine aw_Ti [] [] hi d_J0_indexOf_7cf53_1 rfl (cV_J0_isLatin1_aae02 (d + 0) 0 0) tw_768 rfl (rr0 (Nat.le_of_ble_eq_true rfl) (Nat.le_of_ble_eq_true rfl)) (Nat.le_of_ble_eq_true rfl) xs0 (c_isLatin1 d i hi h) (fun r h1 kk => ?_)
  obtain ⟨e1, e2⟩ := kk
  rw [e2, e1]
  refine aw_if_eq (tgt := 23) d_J0_indexOf_7cf53_4 rfl (fun c => absurd c (by decide)) (fun _ => ?_)
  refine aw_aload_n (i := 0) rfl d_J0_indexOf_7cf53_7 0 rfl ?_
  refine aw_tval hi tw_2711 d_J0_indexOf_7cf53_8 ?_
  refine aw_iload_n (i := 1) rfl d_J0_indexOf_7cf53_11 1 rfl ?_
  refine aw_iload_n (i := 2) rfl d_J0_indexOf_7cf53_12 2 rfl ?_
  refine aw_aload_n (i := 0) rfl d_J0_indexOf_7cf53_13 0 rfl ?_
  refine aw_Ti [] [.int f, .int c, .ref (2000 + i)] hi d_J0_indexOf_7cf53_14 rfl (cV_J0_length_8abf5 (d + 1) 0 0) tw_774 rfl (rr0 (Nat.le_of_ble_eq_true rfl) (Nat.le_of_ble_eq_true rfl)) (Nat.le_of_ble_eq_true rfl) xs0 (c_length d i hi h) (fun t h1 kk => ?_)
  rw [kk.2]
  refine aw_Si [.ref (2000 + i), .int c, .int f, .int t] [] d_J0_indexOf_7cf53_17 (cS_J1_indexOf_4cfef (d + 1) 0 0) tw_782 rfl (rr0 (Nat.le_of_ble_eq_true rfl) (Nat.le_of_ble_eq_true rfl)) (Nat.le_of_ble_eq_true rfl) xs0 (c_ixLatin d i hi h c f t) (fun r h1 kk => ?_)
  refine aw_goto (tgt := 36) d_J0_indexOf_7cf53_20 rfl ?_
  exact aw_iret rfl d_J0_indexOf_7cf53_36 ⟨Nat.le_refl _, Nat.le_refl _⟩ ⟨_, rfl, kk⟩
theorem c_ix1 (d i : Nat) (hi : i < 4) (h : Hp_) (c : Int32) : Ci (m_J0_indexOf_0f7a4 (d + 3) 0 0) [.ref (1000 + i), .int c] h (fun r h' => rin r.toInt (-1, 8) ∧ h' = h) := by
  refine Ct.of (fun _ _ _ => trivial) rfl (Nat.le_of_ble_eq_true rfl) ?_
  show AW (m_J0_indexOf_0f7a4 (d + 3) 0 0) 0 0 0 [(0, .ref (1000 + i)), (1, .int c)] [] h (kI _)
  refine aw_aload_n (i := 0) rfl d_J0_indexOf_0f7a4_0 0 rfl ?_
  refine aw_iload_n (i := 1) rfl d_J0_indexOf_0f7a4_1 1 rfl ?_
  refine aw_iconst (v := 0) d_J0_indexOf_0f7a4_2 ic_0 ?_
  refine aw_Ti [.int c, .int 0] [] hi d_J0_indexOf_0f7a4_3 rfl (cV_J0_indexOf_7cf53 (d + 2) 0 0) tw_764 rfl (rr0 (Nat.le_of_ble_eq_true rfl) (Nat.le_of_ble_eq_true rfl)) (Nat.le_of_ble_eq_true rfl) xs0 (c_ix2 d i hi h c 0) (fun r h1 kk => ?_)
  exact aw_iret rfl d_J0_indexOf_0f7a4_6 ⟨Nat.le_refl _, Nat.le_refl _⟩ ⟨_, rfl, kk⟩
end
section
/-! indexOf as a step of the check; charAt of the reference's letters -/
noncomputable def x_ix (n : Nat) : Fx := fun a => match a.2.1 with
  | .inl _ :: .inr 4 :: st => bif Nat.ble ((st.map ac).sum) 8 then some [(n, a.1, avi (-1, 8) :: st, a.2.2)] else none
  | _ => none
theorem z_ix {ws : List Nat} {h0 : Hp_} {M : Mc_} {K : Option Value → Hp_ → Prop} {pc : Nat} {idx d N : Nat} (hN : d + 3 = N) (hd : decode (mC M) pc = .ok (.invokevirtual idx, 3)) (hlk : Cond.methodLink (mY M).cls idx ⟨"java/lang/String", "indexOf", "(I)I"⟩ ∈ lw_g) (hz : rz_ (m_J0_indexOf_0f7a4 N 0 0) M) {nx : Nat} (hnx : pc + 3 = nx) : Sd ws h0 M K pc (x_ix nx) := by
  subst hN hnx
  intro g a out e lv st h G kx
  obtain ⟨la, sa, hf⟩ := a
  unfold x_ix at e
  split at e
  · rename_i p0 sa' q
    have q : sa = .inl p0 :: .inr 4 :: sa' := q
    subst q
    cases z : Nat.ble ((sa'.map ac).sum) 8 with
    | false => rw [z] at e; cases e
    | true =>
      rw [z] at e
      have e := (Option.some.inj e).symm
      subst e
      obtain ⟨v, w, t, es, ⟨x, ex, _⟩, _, ⟨i, hi, ew⟩, _, m⟩ := sm2 G.2.1
      subst es ex ew
      refine aw_Ti [.int x] t hi hd rfl (cV_J0_indexOf_0f7a4 (d + 3) 0 0) hlk rfl ⟨hz.1, Nat.zero_le _, Nat.zero_le _⟩ (by rw [sm_cat m]; exact Nat.ble_eq.mp z) hz.2.2.2 (c_ix1 d i hi h x) (fun r h1 kk => ?_)
      obtain ⟨k1, k2⟩ := kk
      subst k2
      exact kx _ List.mem_cons_self _ _ _ ⟨G.1, ⟨bm_i k1 _, sl_0, m⟩, G.2.2⟩
  · cases e
theorem c_preIndex (d : Nat) (h : Hp_) (x n : Int32) (w : Value) (hw : w = .null ∨ w = .ref 2100) (h0 : ¬ x < 0) (h1 : x < n) : Ci (m_J3_checkIndex_8e157 (d + 0) 0 0) [.int x, .int n, w] h (fun _ h' => h' = h) := by
  refine Ct.of (fun _ _ _ => trivial) rfl (by rcases hw with z | z <;> subst z <;> exact Nat.le_of_ble_eq_true rfl) ?_
  show AW (m_J3_checkIndex_8e157 (d + 0) 0 0) 0 0 0 [(0, .int x), (1, .int n), (2, w)] [] h (kI _)
  refine aw_iload_n (i := 0) rfl d_J3_checkIndex_8e157_0 0 rfl ?_
  refine aw_if_lt (tgt := 9) d_J3_checkIndex_8e157_1 rfl (fun z => absurd z h0) (fun _ => ?_)
  refine aw_iload_n (i := 0) rfl d_J3_checkIndex_8e157_4 0 rfl ?_
  refine aw_iload_n (i := 1) rfl d_J3_checkIndex_8e157_5 1 rfl ?_
  refine aw_icmp_lt (tgt := 16) d_J3_checkIndex_8e157_6 rfl (fun _ => ?_) (fun z => absurd h1 z)
  refine aw_iload_n (i := 0) rfl d_J3_checkIndex_8e157_16 0 rfl ?_
  exact aw_iret rfl d_J3_checkIndex_8e157_17 ⟨Nat.le_refl _, Nat.le_refl _⟩ ⟨_, rfl, rfl⟩
theorem c_strIndex (d : Nat) (h : Hp_) (x n : Int32) (h0 : ¬ x < 0) (h1 : x < n) : Cv (m_J0_checkIndex_df160 (d + 1) 0 0) [.int x, .int n] h (fun h' => h' = h) := by
  refine Ct.of (fun _ _ _ => trivial) rfl (Nat.le_of_ble_eq_true rfl) ?_
  show AW (m_J0_checkIndex_df160 (d + 1) 0 0) 0 0 0 [(0, .int x), (1, .int n)] [] h (kV _)
  have go : ∀ w : Value, (w = .null ∨ w = .ref 2100) → AW (m_J0_checkIndex_df160 (d + 1) 0 0) 0 0 5 [(0, .int x), (1, .int n)] [w, .int n, .int x] h (kV (fun h' => h' = h)) := by
    intro w hw
    refine aw_Si [.int x, .int n, w] [] d_J0_checkIndex_df160_5 (cS_J3_checkIndex_8e157 (d + 0) 0 0) tw_2414 rfl (rr0 (Nat.le_of_ble_eq_true rfl) (Nat.le_of_ble_eq_true rfl)) (Nat.le_of_ble_eq_true rfl) xs0 (c_preIndex d h x n w hw h0 h1) (fun r h1 kk => ?_)
    rw [kk]
    refine aw_pop d_J0_checkIndex_df160_8 rfl ?_
    exact aw_vret rfl d_J0_checkIndex_df160_9 ⟨Nat.le_refl _, Nat.le_refl _⟩ ⟨rfl, rfl⟩
  refine aw_iload_n (i := 0) rfl d_J0_checkIndex_df160_0 0 rfl ?_
  refine aw_iload_n (i := 1) rfl d_J0_checkIndex_df160_1 1 rfl ?_
  exact aw_tfmt tw_813 d_J0_checkIndex_df160_2 (go _ (Or.inl rfl)) (go _ (Or.inr rfl))
theorem ch_all : (List.range 9).all (fun j => decide (((((tby 1).getD (Int32.ofNat j).toNatClampNeg 0 &&& 255).toUInt32 % 65536).toInt32 = (tby 1).getD j 0) ∧ ¬ Int32.ofNat j < 0 ∧ Int32.ofNat j < Int32.ofNat (tln 1) ∧ 0 ≤ (Int32.ofNat j).toInt ∧ (Int32.ofNat j).toInt < (tln 1 : Int) ∧ 0 ≤ ((tby 1).getD j 0).toInt ∧ ((tby 1).getD j 0).toInt ≤ 127)) = true := by decide +kernel
theorem ch_at {j : Nat} (hj : j < 9) : (((tby 1).getD (Int32.ofNat j).toNatClampNeg 0 &&& 255).toUInt32 % 65536).toInt32 = (tby 1).getD j 0 ∧ ¬ Int32.ofNat j < 0 ∧ Int32.ofNat j < Int32.ofNat (tln 1) ∧ 0 ≤ (Int32.ofNat j).toInt ∧ (Int32.ofNat j).toInt < (tln 1 : Int) ∧ 0 ≤ ((tby 1).getD j 0).toInt ∧ ((tby 1).getD j 0).toInt ≤ 127 :=
  of_decide_eq_true (List.all_eq_true.mp ch_all j (List.mem_range.mpr hj))
theorem ch_nar {j : Nat} (hj : j < 9) : narrow .char (.int ((tby 1).getD j 0)) = .int ((tby 1).getD j 0) := by
  match j, hj with
  | 0, _ => rfl
  | 1, _ => rfl
  | 2, _ => rfl
  | 3, _ => rfl
  | 4, _ => rfl
  | 5, _ => rfl
  | 6, _ => rfl
  | 7, _ => rfl
  | 8, _ => rfl
  | j + 9, h => exact absurd h (by omega)
theorem c_latAt (d j : Nat) (hj : j < 9) (h : Hp_) : Ci (m_J1_charAt_3b067 (d + 2) 0 0) [.ref 2001, .int (Int32.ofNat j)] h (fun r h' => r = (tby 1).getD j 0 ∧ h' = h) := by
  obtain ⟨z1, z2, z3, z4, z5, _⟩ := ch_at hj
  refine Ct.of (fun _ _ _ => trivial) rfl (Nat.le_of_ble_eq_true rfl) ?_
  show AW (m_J1_charAt_3b067 (d + 2) 0 0) 0 0 0 [(0, .ref 2001), (1, .int (Int32.ofNat j))] [] h (kI _)
  refine aw_iload_n (i := 1) rfl d_J1_charAt_3b067_0 1 rfl ?_
  refine aw_aload_n (i := 0) rfl d_J1_charAt_3b067_1 0 rfl ?_
  refine aw_tlen (i := 1) (by decide) d_J1_charAt_3b067_2 ?_
  refine aw_Sv [.int (Int32.ofNat j), .int (Int32.ofNat (tln 1))] [] d_J1_charAt_3b067_3 (cS_J0_checkIndex_df160 (d + 1) 0 0) tw_2411 rfl (rr0 (Nat.le_of_ble_eq_true rfl) (Nat.le_of_ble_eq_true rfl)) (Nat.le_of_ble_eq_true rfl) xs0 (c_strIndex d h _ _ z2 z3) (fun h1 kk => ?_)
  rw [kk]
  refine aw_aload_n (i := 0) rfl d_J1_charAt_3b067_6 0 rfl ?_
  refine aw_iload_n (i := 1) rfl d_J1_charAt_3b067_7 1 rfl ?_
  refine aw_tb (i := 1) (by decide) (vp_tln z4 z5) d_J1_charAt_3b067_8 ?_
  refine aw_sipush (v := 255) d_J1_charAt_3b067_9 (by decide) ?_
  refine aw_iand d_J1_charAt_3b067_12 ?_
  refine aw_i2c d_J1_charAt_3b067_13 ?_
  rw [z1]
  exact aw_zret rfl (ch_nar hj) d_J1_charAt_3b067_14 ⟨Nat.le_refl _, Nat.le_refl _⟩ ⟨_, rfl, rfl, rfl⟩
theorem c_charAt (d j : Nat) (hj : j < 9) (h : Hp_) : Ci (m_J0_charAt_5068e (d + 3) 0 0) [.ref 1001, .int (Int32.ofNat j)] h (fun r h' => r = (tby 1).getD j 0 ∧ h' = h) := by
  refine Ct.of (fun _ _ _ => trivial) rfl (Nat.le_of_ble_eq_true rfl) ?_
  show AW (m_J0_charAt_5068e (d + 3) 0 0) 0 0 0 [(0, .ref 1001), (1, .int (Int32.ofNat j))] [] h (kI _)
  refine aw_aload_n (i := 0) rfl d_J0_charAt_5068e_0 0 rfl ?_
  refine aw_Ti (i := 1) [] [] (by decide) d_J0_charAt_5068e_1 rfl (cV_J0_isLatin1_aae02 (d + 2) 0 0) tw_768 rfl (rr0 (Nat.le_of_ble_eq_true rfl) (Nat.le_of_ble_eq_true rfl)) (Nat.le_of_ble_eq_true rfl) xs0 (c_isLatin1 (d + 2) 1 (by decide) h) (fun r h1 kk => ?_)
  obtain ⟨e1, e2⟩ := kk
  rw [e2, e1]
  refine aw_if_eq (tgt := 16) d_J0_charAt_5068e_4 rfl (fun c => absurd c (by decide)) (fun _ => ?_)
  refine aw_aload_n (i := 0) rfl d_J0_charAt_5068e_7 0 rfl ?_
  refine aw_tval (i := 1) (by decide) tw_2711 d_J0_charAt_5068e_8 ?_
  refine aw_iload_n (i := 1) rfl d_J0_charAt_5068e_11 1 rfl ?_
  refine aw_Si [.ref 2001, .int (Int32.ofNat j)] [] d_J0_charAt_5068e_12 (cS_J1_charAt_3b067 (d + 2) 0 0) tw_2408 rfl (rr0 (Nat.le_of_ble_eq_true rfl) (Nat.le_of_ble_eq_true rfl)) (Nat.le_of_ble_eq_true rfl) xs0 (c_latAt d j hj h) (fun r h1 kk => ?_)
  obtain ⟨e3, e4⟩ := kk
  rw [e3]
  exact aw_zret rfl (ch_nar hj) d_J0_charAt_5068e_15 ⟨Nat.le_refl _, Nat.le_refl _⟩ ⟨_, rfl, rfl, e4⟩
section TXW
variable {M : Mc_} {kc ks pc : Nat} {lv : List (Nat × Value)} {st : List Value} {h : Hp_} {K : Option Value → Hp_ → Prop}
theorem aw_ldcwT {row n i q : Nat} {tx : String} (hd : decode (mC M) pc = .ok (.ldc_w i, 3)) (hr : h_strs[row]? = some ((mY M).cls, i, tx, n)) (hq : 1000 + n = q) (k : AW M kc ks (pc + 3) lv (.ref q :: st) h K) : AW M kc ks pc lv st h K := by
  intro l p e s m args below meth c dC dI cy A ad0 adV ad dom0 dom H locs ls hf hX hT hE hW hS hl ho hs
  subst hq
  have hZ := hT.2 _ (List.mem_of_getElem? hr)
  intro T hT0 X
  obtain ⟨t, a1, b1⟩ := k l p e s m args below meth c dC dI cy A ad0 adV ad dom0 dom H locs ls hf hX hT hE hW hS hl ho (ok_c (fun z w => by cases w; exact Or.inr (Nat.le_add_right _ _)) hs) T hT0 X
  exact ⟨t, X.ldcStringW hf.1 hf.2.2.2.2.2.1 (text := tx) (a := ad (1000 + n)) hZ.1 hZ.2 (g := F0 m pc ls (st.map (h_cv ad))) rfl (by rw [hf.2.1]; exact hd) t a1, b1⟩
end TXW
theorem c_letterFor (d j : Nat) (hj : j < 9) (h : Hp_) : Ci (m_X12_letterFor (d + 4) 0 0) [.int (Int32.ofNat j)] h (fun r h' => r = (tby 1).getD j 0 ∧ h' = h) := by
  refine Ct.of (fun _ _ _ => trivial) pn_X12 (Nat.le_of_ble_eq_true rfl) ?_
  show AW (m_X12_letterFor (d + 4) 0 0) 0 0 0 [(0, .int (Int32.ofNat j))] [] h (kI _)
  refine aw_ldcwT (row := 5) d_X12_letterFor_0 rfl rfl ?_
  refine aw_iload_n (i := 0) rfl d_X12_letterFor_3 0 rfl ?_
  refine aw_Ti (i := 1) [.int (Int32.ofNat j)] [] (by decide) d_X12_letterFor_4 rfl (cV_J0_charAt_5068e (d + 3) 0 0) tw_2404 rfl (rr0 (Nat.le_of_ble_eq_true rfl) (Nat.le_of_ble_eq_true rfl)) (Nat.le_of_ble_eq_true rfl) xs0 (c_charAt d j hj h) (fun r h1 kk => ?_)
  exact aw_iret rfl d_X12_letterFor_7 ⟨Nat.le_refl _, Nat.le_refl _⟩ ⟨_, rfl, kk⟩
noncomputable def wz_X12_letterFor : List Nat := []
noncomputable def q_X12_letterFor : Ctr := ([.inl ((0, 8), (0, 0), none)], [], (some (.inl ((0, 127), (0, 0), none))), [], wz_X12_letterFor)
theorem of_nat32 {x : Int32} (h0 : 0 ≤ x.toInt) : Int32.ofNat x.toNatClampNeg = x := by
  refine Int32.toInt_inj.mp ?_
  have b := Int32.toInt_le x
  have b : x.toInt ≤ 2147483647 := b
  have e : (x.toNatClampNeg : Int) = x.toInt := by show ((x.toInt.toNat : Nat) : Int) = _; omega
  rw [Int32.toInt_ofNat_of_lt (by omega)]
  exact e
theorem hc_X12_letterFor (n : Nat) : Hc (m_X12_letterFor (n + 4) 0 0) q_X12_letterFor := by
  intro vs h ma I hp
  match vs, ma with
  | [v0], ma =>
    obtain ⟨⟨x, e0, b, _⟩, _⟩ := ma
    subst e0
    have b0 : 0 ≤ x.toInt := b.1
    have b1 : x.toInt ≤ 8 := b.2
    have e : (x.toNatClampNeg : Int) = x.toInt := by show ((x.toInt.toNat : Nat) : Int) = _; omega
    have hj : x.toNatClampNeg < 9 := by omega
    have c := c_letterFor n x.toNatClampNeg hj h
    rw [of_nat32 b0] at c
    refine Ct.mono c (fun v h' q => ?_)
    obtain ⟨r, ev, er, eh⟩ := q
    subst ev eh
    refine ⟨I, Fr.rf _ _, fun _ z => (nomatch z), _, rfl, r, rfl, ?_, fun _ z => (nomatch z)⟩
    rw [er]
    exact (ch_at hj).2.2.2.2.2
end
section
/-! trees of methods that are done by hand -/
theorem t_X6_costWith (d : Nat) (h : Hp_) (w : Wf h) (x1 : Int32) (x2 : Int32) (x3 : Int32) (K : Int32 → Hp_ → Prop) (k : vp_in ((x1 * 4) + x2) 48 ∧ ((((x3 >>> ((2 * x2) &&& 31)) &&& 3) = 0 → K 1000000000 h) ∧ (¬ ((x3 >>> ((2 * x2) &&& 31)) &&& 3) = 0 → (¬ (h_i h 101 (((x1 * 4) + x2) : Int32).toNatClampNeg) = (-1) → vp_in ((((x1 + 1) * 256) + x3) - ((1 : Int32) <<< ((2 * x2) &&& 31))) 3328 ∧ (K (if ((h_i h 101 (((x1 * 4) + x2) : Int32).toNatClampNeg) + (h_i h 102 (((((x1 + 1) * 256) + x3) - ((1 : Int32) <<< ((2 * x2) &&& 31))) : Int32).toNatClampNeg)) < 1000000000 then ((h_i h 101 (((x1 * 4) + x2) : Int32).toNatClampNeg) + (h_i h 102 (((((x1 + 1) * 256) + x3) - ((1 : Int32) <<< ((2 * x2) &&& 31))) : Int32).toNatClampNeg)) else 1000000000) h)) ∧ ((h_i h 101 (((x1 * 4) + x2) : Int32).toNatClampNeg) = (-1) → K 1000000000 h)))) : Ci (m_X6_costWith (d + 1) 0 0) [.ref 20, .int x1, .int x2, .int x3] h K := by
  refine Ct.of (fun _ _ _ => trivial) pn_X6 (Nat.le_of_ble_eq_true rfl) ?_
  show AW (m_X6_costWith (d + 1) 0 0) 0 0 0 [(0, .ref 20), (1, .int x1), (2, .int x2), (3, .int x3)] [] h (kI K)
  refine aw_aload_n (i := 0) rfl d_X6_costWith_0 0 rfl ?_
  refine aw_getr (k0 := 17) kc_6 (ws_20 w) (Nat.le_of_ble_eq_true rfl) tw_382 d_X6_costWith_1 rfl (wr_20_17 w) ?_
  refine aw_iload_n (i := 1) rfl d_X6_costWith_4 1 rfl ?_
  refine aw_iconst (v := 4) d_X6_costWith_5 ic_4 ?_
  refine aw_imul d_X6_costWith_6 ?_
  refine aw_iload_n (i := 2) rfl d_X6_costWith_7 2 rfl ?_
  refine aw_iadd d_X6_costWith_8 ?_
  obtain ⟨b1, k⟩ := k
  refine aw_iald (ws_101 w) b1 d_X6_costWith_9 ?_
  refine aw_istore [(0, .ref 20), (1, .int x1), (2, .int x2), (3, .int x3), (4, .int (h_i h 101 (((x1 * 4) + x2) : Int32).toNatClampNeg))] d_X6_costWith_10 (Nat.le_of_ble_eq_true rfl) rfl rfl ?_
  refine aw_iload_n (i := 3) rfl d_X6_costWith_12 3 rfl ?_
  refine aw_iconst (v := 2) d_X6_costWith_13 ic_2 ?_
  refine aw_iload_n (i := 2) rfl d_X6_costWith_14 2 rfl ?_
  refine aw_imul d_X6_costWith_15 ?_
  refine aw_ishr d_X6_costWith_16 ?_
  refine aw_iconst (v := 3) d_X6_costWith_17 ic_3 ?_
  refine aw_iand d_X6_costWith_18 ?_
  refine aw_if_eq (tgt := 28) d_X6_costWith_19 rfl (fun c2 => ?_) (fun c2 => ?_)
  · have k := k.1 c2
    refine aw_ldc (v := 1000000000) d_X6_costWith_28 tw_1524 ?_
    exact aw_iret rfl d_X6_costWith_30 ⟨Nat.le_refl _, Nat.le_refl _⟩ ⟨_, rfl, k⟩
  · have k := k.2 c2
    refine aw_iload d_X6_costWith_22 4 rfl ?_
    refine aw_iconst (v := (-1)) d_X6_costWith_24 ic_m1 ?_
    refine aw_icmp_ne (tgt := 31) d_X6_costWith_25 rfl (fun c3 => ?_) (fun c3 => ?_)
    · have k := k.1 c3
      refine aw_ldc (v := 1000000000) d_X6_costWith_31 tw_1524 ?_
      refine aw_iload d_X6_costWith_33 4 rfl ?_
      refine aw_aload_n (i := 0) rfl d_X6_costWith_35 0 rfl ?_
      refine aw_getr (k0 := 18) kc_6 (ws_20 w) (Nat.le_of_ble_eq_true rfl) tw_383 d_X6_costWith_36 rfl (wr_20_18 w) ?_
      refine aw_iload_n (i := 1) rfl d_X6_costWith_39 1 rfl ?_
      refine aw_iconst (v := 1) d_X6_costWith_40 ic_1 ?_
      refine aw_iadd d_X6_costWith_41 ?_
      refine aw_sipush (v := 256) d_X6_costWith_42 is_256 ?_
      refine aw_imul d_X6_costWith_45 ?_
      refine aw_iload_n (i := 3) rfl d_X6_costWith_46 3 rfl ?_
      refine aw_iadd d_X6_costWith_47 ?_
      refine aw_iconst (v := 1) d_X6_costWith_48 ic_1 ?_
      refine aw_iconst (v := 2) d_X6_costWith_49 ic_2 ?_
      refine aw_iload_n (i := 2) rfl d_X6_costWith_50 2 rfl ?_
      refine aw_imul d_X6_costWith_51 ?_
      refine aw_ishl d_X6_costWith_52 ?_
      refine aw_isub d_X6_costWith_53 ?_
      obtain ⟨b4, k⟩ := k
      refine aw_iald (ws_102 w) b4 d_X6_costWith_54 ?_
      refine aw_iadd d_X6_costWith_55 ?_
      refine aw_mmin d_X6_costWith_56 tw_1468 (show 1 ≤ (d + 1) by omega) (Nat.le_trans (Nat.le_of_ble_eq_true rfl) (show 100 ≤ 100 * (d + 1) by omega)) ⟨Nat.le_refl _, Nat.le_refl _⟩ ?_
      exact aw_iret rfl d_X6_costWith_59 ⟨Nat.le_refl _, Nat.le_refl _⟩ ⟨_, rfl, k⟩
    · have k := k.2 c3
      refine aw_ldc (v := 1000000000) d_X6_costWith_28 tw_1524 ?_
      exact aw_iret rfl d_X6_costWith_30 ⟨Nat.le_refl _, Nat.le_refl _⟩ ⟨_, rfl, k⟩
theorem t_X6_traceLending (d : Nat) (h : Hp_) (x1 : Int32) (x2 : Int32) (K : Hp_ → Prop) (k : AW (m_X6_traceLending (d + 2) 0 0) 0 0 5 [(0, .ref 20), (1, .int x1), (3, .int x2), (4, .int 0)] [] h (kV K)) : Cv (m_X6_traceLending (d + 2) 0 0) [.ref 20, .int x1, .int x2] h K := by
  refine Ct.of (fun _ _ _ => trivial) pn_X6 (Nat.le_of_ble_eq_true rfl) ?_
  show AW (m_X6_traceLending (d + 2) 0 0) 0 0 0 [(0, .ref 20), (1, .int x1), (2, .int x2)] [] h (kV K)
  refine aw_iload_n (i := 2) rfl d_X6_traceLending_0 2 rfl ?_
  refine aw_istore_n (i := 3) rfl [(0, .ref 20), (1, .int x1), (2, .int x2), (3, .int x2)] d_X6_traceLending_1 (Nat.le_of_ble_eq_true rfl) rfl rfl ?_
  refine aw_iconst (v := 0) d_X6_traceLending_2 ic_0 ?_
  refine aw_istore [(0, .ref 20), (1, .int x1), (2, .int x2), (3, .int x2), (4, .int 0)] d_X6_traceLending_3 (Nat.le_of_ble_eq_true rfl) rfl rfl ?_
  exact aw_lvp [0, 1, 3, 4] [(0, .ref 20), (1, .int x1), (3, .int x2), (4, .int 0)] rfl k
theorem t_X6_traceLending_5 (d : Nat) (h : Hp_) (w : Wf h) (x1 : Int32) (x3 : Int32) (x4 : Int32) (K : Hp_ → Prop) (k : (x1 ≤ x4 → K h) ∧ (¬ x1 ≤ x4 → vp_in x4 12 ∧ (AW (m_X6_traceLending (d + 2) 0 0) 0 0 22 [(0, .ref 20), (1, .int x1), (3, .int x3), (4, .int x4), (5, .int 0)] [] (h_im h 103 x4.toNatClampNeg (-1)) (kV K)))) : AW (m_X6_traceLending (d + 2) 0 0) 0 0 5 [(0, .ref 20), (1, .int x1), (3, .int x3), (4, .int x4)] [] h (kV K) := by
  refine aw_iload d_X6_traceLending_5 3 rfl ?_
  refine aw_iload_n (i := 1) rfl d_X6_traceLending_7 1 rfl ?_
  refine aw_icmp_ge (tgt := 124) d_X6_traceLending_8 rfl (fun c1 => ?_) (fun c1 => ?_)
  · have k := k.1 c1
    exact aw_vret rfl d_X6_traceLending_124 ⟨Nat.le_refl _, Nat.le_refl _⟩ ⟨rfl, k⟩
  · have k := k.2 c1
    refine aw_aload_n (i := 0) rfl d_X6_traceLending_11 0 rfl ?_
    refine aw_getr (k0 := 19) kc_6 (ws_20 w) (Nat.le_of_ble_eq_true rfl) tw_384 d_X6_traceLending_12 rfl (wr_20_19 w) ?_
    refine aw_iload d_X6_traceLending_15 3 rfl ?_
    refine aw_iconst (v := (-1)) d_X6_traceLending_17 ic_m1 ?_
    obtain ⟨b2, k⟩ := k
    refine aw_iast (ws_103 w) b2 d_X6_traceLending_18 ?_
    refine aw_iconst (v := 0) d_X6_traceLending_19 ic_0 ?_
    refine aw_istore [(0, .ref 20), (1, .int x1), (3, .int x3), (4, .int x4), (5, .int 0)] d_X6_traceLending_20 (Nat.le_of_ble_eq_true rfl) rfl rfl ?_
    exact k
theorem t_X6_traceLending_22 (d : Nat) (h : Hp_) (w : Wf h) (x1 : Int32) (x3 : Int32) (x4 : Int32) (x5 : Int32) (K : Hp_ → Prop) (k : ((h_i h 20 16) ≤ x5 → vp_in x4 12 ∧ (((h_i h 103 x4.toNatClampNeg) = (-1) → AW (m_X6_traceLending (d + 2) 0 0) 0 0 5 [(0, .ref 20), (1, .int x1), (3, .int x3), (4, .int (x4 + 1))] [] h (kV K)) ∧ (¬ (h_i h 103 x4.toNatClampNeg) = (-1) → vp_in x4 12 ∧ (AW (m_X6_traceLending (d + 2) 0 0) 0 0 5 [(0, .ref 20), (1, .int x1), (3, .int (x3 - ((1 : Int32) <<< ((2 * (h_i h 103 x4.toNatClampNeg)) &&& 31)))), (4, .int (x4 + 1))] [] h (kV K))))) ∧ (¬ (h_i h 20 16) ≤ x5 → vp_in x4 12 ∧ ((¬ (h_i h 103 x4.toNatClampNeg) = (-1) → vp_in x4 12 ∧ (((h_i h 103 x4.toNatClampNeg) = (-1) → AW (m_X6_traceLending (d + 2) 0 0) 0 0 5 [(0, .ref 20), (1, .int x1), (3, .int x3), (4, .int (x4 + 1))] [] h (kV K)) ∧ (¬ (h_i h 103 x4.toNatClampNeg) = (-1) → vp_in x4 12 ∧ (AW (m_X6_traceLending (d + 2) 0 0) 0 0 5 [(0, .ref 20), (1, .int x1), (3, .int (x3 - ((1 : Int32) <<< ((2 * (h_i h 103 x4.toNatClampNeg)) &&& 31)))), (4, .int (x4 + 1))] [] h (kV K))))) ∧ ((h_i h 103 x4.toNatClampNeg) = (-1) → Ci (m_X6_costWith (d + 1) 0 0) [.ref 20, .int x4, .int x5, .int x3] h (fun r14 h12 => Wf h12 ∧ ((1000000000 ≤ r14 → AW (m_X6_traceLending (d + 2) 0 0) 0 0 22 [(0, .ref 20), (1, .int x1), (3, .int x3), (4, .int x4), (5, .int (x5 + 1))] [] h12 (kV K)) ∧ (¬ 1000000000 ≤ r14 → vp_in ((x4 * 256) + x3) 3328 ∧ ((¬ r14 = (h_i h12 102 (((x4 * 256) + x3) : Int32).toNatClampNeg) → AW (m_X6_traceLending (d + 2) 0 0) 0 0 22 [(0, .ref 20), (1, .int x1), (3, .int x3), (4, .int x4), (5, .int (x5 + 1))] [] h12 (kV K)) ∧ (r14 = (h_i h12 102 (((x4 * 256) + x3) : Int32).toNatClampNeg) → vp_in x4 12 ∧ (AW (m_X6_traceLending (d + 2) 0 0) 0 0 22 [(0, .ref 20), (1, .int x1), (3, .int x3), (4, .int x4), (5, .int (x5 + 1))] [] (h_im h12 103 x4.toNatClampNeg x5) (kV K))))))))))) : AW (m_X6_traceLending (d + 2) 0 0) 0 0 22 [(0, .ref 20), (1, .int x1), (3, .int x3), (4, .int x4), (5, .int x5)] [] h (kV K) := by
  refine aw_iload d_X6_traceLending_22 4 rfl ?_
  refine aw_aload_n (i := 0) rfl d_X6_traceLending_24 0 rfl ?_
  refine aw_geti (k0 := 16) kc_6 (ws_20 w) (Nat.le_of_ble_eq_true rfl) tw_380 d_X6_traceLending_25 rfl ?_
  refine aw_icmp_ge (tgt := 93) d_X6_traceLending_28 rfl (fun c3 => ?_) (fun c3 => ?_)
  · have k := k.1 c3
    refine aw_aload_n (i := 0) rfl d_X6_traceLending_93 0 rfl ?_
    refine aw_getr (k0 := 19) kc_6 (ws_20 w) (Nat.le_of_ble_eq_true rfl) tw_384 d_X6_traceLending_94 rfl (wr_20_19 w) ?_
    refine aw_iload d_X6_traceLending_97 3 rfl ?_
    obtain ⟨b4, k⟩ := k
    refine aw_iald (ws_103 w) b4 d_X6_traceLending_99 ?_
    refine aw_iconst (v := (-1)) d_X6_traceLending_100 ic_m1 ?_
    refine aw_icmp_eq (tgt := 118) d_X6_traceLending_101 rfl (fun c5 => ?_) (fun c5 => ?_)
    · have k := k.1 c5
      refine aw_iinc (v := (x4 + 1)) [(0, .ref 20), (1, .int x1), (3, .int x3), (4, .int (x4 + 1)), (5, .int x5)] d_X6_traceLending_118 3 rfl rfl (Nat.le_of_ble_eq_true rfl) rfl rfl ?_
      refine aw_goto (tgt := 5) d_X6_traceLending_121 rfl ?_
      exact aw_lvp [0, 1, 2, 3] [(0, .ref 20), (1, .int x1), (3, .int x3), (4, .int (x4 + 1))] rfl k
    · have k := k.2 c5
      refine aw_iload_n (i := 3) rfl d_X6_traceLending_104 2 rfl ?_
      refine aw_iconst (v := 1) d_X6_traceLending_105 ic_1 ?_
      refine aw_iconst (v := 2) d_X6_traceLending_106 ic_2 ?_
      refine aw_aload_n (i := 0) rfl d_X6_traceLending_107 0 rfl ?_
      refine aw_getr (k0 := 19) kc_6 (ws_20 w) (Nat.le_of_ble_eq_true rfl) tw_384 d_X6_traceLending_108 rfl (wr_20_19 w) ?_
      refine aw_iload d_X6_traceLending_111 3 rfl ?_
      obtain ⟨b6, k⟩ := k
      refine aw_iald (ws_103 w) b6 d_X6_traceLending_113 ?_
      refine aw_imul d_X6_traceLending_114 ?_
      refine aw_ishl d_X6_traceLending_115 ?_
      refine aw_isub d_X6_traceLending_116 ?_
      refine aw_istore_n (i := 3) rfl [(0, .ref 20), (1, .int x1), (3, .int (x3 - ((1 : Int32) <<< ((2 * (h_i h 103 x4.toNatClampNeg)) &&& 31)))), (4, .int x4), (5, .int x5)] d_X6_traceLending_117 (Nat.le_of_ble_eq_true rfl) rfl rfl ?_
      refine aw_iinc (v := (x4 + 1)) [(0, .ref 20), (1, .int x1), (3, .int (x3 - ((1 : Int32) <<< ((2 * (h_i h 103 x4.toNatClampNeg)) &&& 31)))), (4, .int (x4 + 1)), (5, .int x5)] d_X6_traceLending_118 3 rfl rfl (Nat.le_of_ble_eq_true rfl) rfl rfl ?_
      refine aw_goto (tgt := 5) d_X6_traceLending_121 rfl ?_
      exact aw_lvp [0, 1, 2, 3] [(0, .ref 20), (1, .int x1), (3, .int (x3 - ((1 : Int32) <<< ((2 * (h_i h 103 x4.toNatClampNeg)) &&& 31)))), (4, .int (x4 + 1))] rfl k
  · have k := k.2 c3
    refine aw_aload_n (i := 0) rfl d_X6_traceLending_31 0 rfl ?_
    refine aw_getr (k0 := 19) kc_6 (ws_20 w) (Nat.le_of_ble_eq_true rfl) tw_384 d_X6_traceLending_32 rfl (wr_20_19 w) ?_
    refine aw_iload d_X6_traceLending_35 3 rfl ?_
    obtain ⟨b7, k⟩ := k
    refine aw_iald (ws_103 w) b7 d_X6_traceLending_37 ?_
    refine aw_iconst (v := (-1)) d_X6_traceLending_38 ic_m1 ?_
    refine aw_icmp_ne (tgt := 93) d_X6_traceLending_39 rfl (fun c8 => ?_) (fun c8 => ?_)
    · have k := k.1 c8
      refine aw_aload_n (i := 0) rfl d_X6_traceLending_93 0 rfl ?_
      refine aw_getr (k0 := 19) kc_6 (ws_20 w) (Nat.le_of_ble_eq_true rfl) tw_384 d_X6_traceLending_94 rfl (wr_20_19 w) ?_
      refine aw_iload d_X6_traceLending_97 3 rfl ?_
      obtain ⟨b9, k⟩ := k
      refine aw_iald (ws_103 w) b9 d_X6_traceLending_99 ?_
      refine aw_iconst (v := (-1)) d_X6_traceLending_100 ic_m1 ?_
      refine aw_icmp_eq (tgt := 118) d_X6_traceLending_101 rfl (fun c10 => ?_) (fun c10 => ?_)
      · have k := k.1 c10
        refine aw_iinc (v := (x4 + 1)) [(0, .ref 20), (1, .int x1), (3, .int x3), (4, .int (x4 + 1)), (5, .int x5)] d_X6_traceLending_118 3 rfl rfl (Nat.le_of_ble_eq_true rfl) rfl rfl ?_
        refine aw_goto (tgt := 5) d_X6_traceLending_121 rfl ?_
        exact aw_lvp [0, 1, 2, 3] [(0, .ref 20), (1, .int x1), (3, .int x3), (4, .int (x4 + 1))] rfl k
      · have k := k.2 c10
        refine aw_iload_n (i := 3) rfl d_X6_traceLending_104 2 rfl ?_
        refine aw_iconst (v := 1) d_X6_traceLending_105 ic_1 ?_
        refine aw_iconst (v := 2) d_X6_traceLending_106 ic_2 ?_
        refine aw_aload_n (i := 0) rfl d_X6_traceLending_107 0 rfl ?_
        refine aw_getr (k0 := 19) kc_6 (ws_20 w) (Nat.le_of_ble_eq_true rfl) tw_384 d_X6_traceLending_108 rfl (wr_20_19 w) ?_
        refine aw_iload d_X6_traceLending_111 3 rfl ?_
        obtain ⟨b11, k⟩ := k
        refine aw_iald (ws_103 w) b11 d_X6_traceLending_113 ?_
        refine aw_imul d_X6_traceLending_114 ?_
        refine aw_ishl d_X6_traceLending_115 ?_
        refine aw_isub d_X6_traceLending_116 ?_
        refine aw_istore_n (i := 3) rfl [(0, .ref 20), (1, .int x1), (3, .int (x3 - ((1 : Int32) <<< ((2 * (h_i h 103 x4.toNatClampNeg)) &&& 31)))), (4, .int x4), (5, .int x5)] d_X6_traceLending_117 (Nat.le_of_ble_eq_true rfl) rfl rfl ?_
        refine aw_iinc (v := (x4 + 1)) [(0, .ref 20), (1, .int x1), (3, .int (x3 - ((1 : Int32) <<< ((2 * (h_i h 103 x4.toNatClampNeg)) &&& 31)))), (4, .int (x4 + 1)), (5, .int x5)] d_X6_traceLending_118 3 rfl rfl (Nat.le_of_ble_eq_true rfl) rfl rfl ?_
        refine aw_goto (tgt := 5) d_X6_traceLending_121 rfl ?_
        exact aw_lvp [0, 1, 2, 3] [(0, .ref 20), (1, .int x1), (3, .int (x3 - ((1 : Int32) <<< ((2 * (h_i h 103 x4.toNatClampNeg)) &&& 31)))), (4, .int (x4 + 1))] rfl k
    · have k := k.2 c8
      refine aw_aload_n (i := 0) rfl d_X6_traceLending_42 0 rfl ?_
      refine aw_iload d_X6_traceLending_43 3 rfl ?_
      refine aw_iload d_X6_traceLending_45 4 rfl ?_
      refine aw_iload_n (i := 3) rfl d_X6_traceLending_47 2 rfl ?_
      refine aw_Vi 20 [.int x4, .int x5, .int x3] [] d_X6_traceLending_48 (cV_X6_costWith (d + 1) 0 0) kc_6 (ws_20 w) tw_1529 rfl (rr0 (Nat.le_of_ble_eq_true rfl) (Nat.le_of_ble_eq_true rfl)) (Nat.le_of_ble_eq_true rfl) xs0 k (fun r14 h12 kk => ?_)
      obtain ⟨w13, k⟩ := kk
      refine aw_istore [(0, .ref 20), (1, .int x1), (3, .int x3), (4, .int x4), (5, .int x5), (6, .int r14)] d_X6_traceLending_51 (Nat.le_of_ble_eq_true rfl) rfl rfl ?_
      refine aw_iload d_X6_traceLending_53 5 rfl ?_
      refine aw_ldc (v := 1000000000) d_X6_traceLending_55 tw_1524 ?_
      refine aw_icmp_ge (tgt := 87) d_X6_traceLending_57 rfl (fun c15 => ?_) (fun c15 => ?_)
      · have k := k.1 c15
        refine aw_iinc (v := (x5 + 1)) [(0, .ref 20), (1, .int x1), (3, .int x3), (4, .int x4), (5, .int (x5 + 1)), (6, .int r14)] d_X6_traceLending_87 4 rfl rfl (Nat.le_of_ble_eq_true rfl) rfl rfl ?_
        refine aw_goto (tgt := 22) d_X6_traceLending_90 rfl ?_
        exact aw_lvp [0, 1, 2, 3, 4] [(0, .ref 20), (1, .int x1), (3, .int x3), (4, .int x4), (5, .int (x5 + 1))] rfl k
      · have k := k.2 c15
        refine aw_iload d_X6_traceLending_60 5 rfl ?_
        refine aw_aload_n (i := 0) rfl d_X6_traceLending_62 0 rfl ?_
        refine aw_getr (k0 := 18) kc_6 (ws_20 w13) (Nat.le_of_ble_eq_true rfl) tw_383 d_X6_traceLending_63 rfl (wr_20_18 w13) ?_
        refine aw_iload d_X6_traceLending_66 3 rfl ?_
        refine aw_sipush (v := 256) d_X6_traceLending_68 is_256 ?_
        refine aw_imul d_X6_traceLending_71 ?_
        refine aw_iload_n (i := 3) rfl d_X6_traceLending_72 2 rfl ?_
        refine aw_iadd d_X6_traceLending_73 ?_
        obtain ⟨b16, k⟩ := k
        refine aw_iald (ws_102 w13) b16 d_X6_traceLending_74 ?_
        refine aw_icmp_ne (tgt := 87) d_X6_traceLending_75 rfl (fun c17 => ?_) (fun c17 => ?_)
        · have k := k.1 c17
          refine aw_iinc (v := (x5 + 1)) [(0, .ref 20), (1, .int x1), (3, .int x3), (4, .int x4), (5, .int (x5 + 1)), (6, .int r14)] d_X6_traceLending_87 4 rfl rfl (Nat.le_of_ble_eq_true rfl) rfl rfl ?_
          refine aw_goto (tgt := 22) d_X6_traceLending_90 rfl ?_
          exact aw_lvp [0, 1, 2, 3, 4] [(0, .ref 20), (1, .int x1), (3, .int x3), (4, .int x4), (5, .int (x5 + 1))] rfl k
        · have k := k.2 c17
          refine aw_aload_n (i := 0) rfl d_X6_traceLending_78 0 rfl ?_
          refine aw_getr (k0 := 19) kc_6 (ws_20 w13) (Nat.le_of_ble_eq_true rfl) tw_384 d_X6_traceLending_79 rfl (wr_20_19 w13) ?_
          refine aw_iload d_X6_traceLending_82 3 rfl ?_
          refine aw_iload d_X6_traceLending_84 4 rfl ?_
          obtain ⟨b18, k⟩ := k
          refine aw_iast (ws_103 w13) b18 d_X6_traceLending_86 ?_
          refine aw_iinc (v := (x5 + 1)) [(0, .ref 20), (1, .int x1), (3, .int x3), (4, .int x4), (5, .int (x5 + 1)), (6, .int r14)] d_X6_traceLending_87 4 rfl rfl (Nat.le_of_ble_eq_true rfl) rfl rfl ?_
          refine aw_goto (tgt := 22) d_X6_traceLending_90 rfl ?_
          exact aw_lvp [0, 1, 2, 3, 4] [(0, .ref 20), (1, .int x1), (3, .int x3), (4, .int x4), (5, .int (x5 + 1))] rfl k
theorem dp_in {x : Int32} {n : Nat} {lo hi : Int} (h : rin x.toInt (lo, hi)) (l : 0 ≤ lo) (u : hi < n) : vp_in x n := by
  have h1 : lo ≤ x.toInt := h.1
  have h2 : x.toInt ≤ hi := h.2
  have b0 := n_nat (x := x) (by omega)
  have a0 : (0 : Int32).toInt = 0 := rfl
  rintro (y | y)
  · have y := q_lt.mp y
    omega
  · omega
theorem dp_rg {h : Hp_} (I : Iv h) (a k : Nat) {r : Rg} (e : tfa a = some r) : rin (h_i h a k).toInt r := by
  have := I.2.1 a k
  rwa [tfa_tf e] at this
theorem tl_fr {ws : List Nat} {h0 h : Hp_} {a k : Nat} {x : Int32} (F : Fr ws h0 h) (e : inw ws a 999 = true) : Fr ws h0 (h_im h a k x) := F.im (inw_row e _)
end
section
/-! a text's length as a step of the check -/
/-! a man at a place of the class's row, asked twice -/
section MEN
variable {ws : List Nat} {h0 : Hp_} {K : Option Value → Hp_ → Prop}
end MEN
end
section
theorem t_X12_both (d : Nat) (h : Hp_) (x0 : Int32) (x1 : Int32) (x2 : Int32) (K : Int32 → Hp_ → Prop) (k : (x0 = 38 → (x1 = 0 → K 0 h) ∧ (¬ x1 = 0 → (x2 = 0 → K 0 h) ∧ (¬ x2 = 0 → K 1 h))) ∧ ((x0 = 42 → Ci (m_X12_bounded (d + 1) 0 0) [.long (((x1 : Int32).toInt64) * ((x2 : Int32).toInt64))] h (fun r7 h5 => Wf h5 ∧ (K r7 h5))) ∧ ((x0 = 43 → Ci (m_X12_bounded (d + 1) 0 0) [.long (((x1 : Int32).toInt64) + ((x2 : Int32).toInt64))] h (fun r11 h9 => Wf h9 ∧ (K r11 h9))) ∧ ((x0 = 45 → Ci (m_X12_bounded (d + 1) 0 0) [.long (((x1 : Int32).toInt64) - ((x2 : Int32).toInt64))] h (fun r15 h13 => Wf h13 ∧ (K r15 h13))) ∧ ((x0 = 60 → (x2 ≤ x1 → K 0 h) ∧ (¬ x2 ≤ x1 → K 1 h)) ∧ ((x0 = 61 → (¬ x1 = x2 → K 0 h) ∧ (x1 = x2 → K 1 h)) ∧ ((x0 = 62 → (x1 ≤ x2 → K 0 h) ∧ (¬ x1 ≤ x2 → K 1 h)) ∧ ((¬ x0 = 38 ∧ ¬ x0 = 42 ∧ ¬ x0 = 43 ∧ ¬ x0 = 45 ∧ ¬ x0 = 60 ∧ ¬ x0 = 61 ∧ ¬ x0 = 62 → (¬ x1 = 0 → K 1 h) ∧ (x1 = 0 → (x2 = 0 → K 0 h) ∧ (¬ x2 = 0 → K 1 h))))))))))) : Ci (m_X12_both (d + 2) 0 0) [.int x0, .int x1, .int x2] h K := by
  refine Ct.of (fun _ _ _ => trivial) pn_X12 (Nat.le_of_ble_eq_true rfl) ?_
  show AW (m_X12_both (d + 2) 0 0) 0 0 0 [(0, .int x0), (1, .int x1), (2, .int x2)] [] h (kI K)
  refine aw_iload_n (i := 0) rfl d_X12_both_0 0 rfl ?_
  by_cases e1 : x0 = 38
  · refine aw_tableIn (off := 175) (tgt := 176) d_X12_both_1 (by rw [e1]; decide) (by rw [e1]; decide) (by rw [e1]; decide) rfl ?_
    have k := k.1 e1
    refine aw_iload_n (i := 1) rfl d_X12_both_176 1 rfl ?_
    refine aw_if_eq (tgt := 188) d_X12_both_177 rfl (fun c2 => ?_) (fun c2 => ?_)
    · have k := k.1 c2
      refine aw_iconst (v := 0) d_X12_both_188 ic_0 ?_
      exact aw_iret rfl d_X12_both_189 ⟨Nat.le_refl _, Nat.le_refl _⟩ ⟨_, rfl, k⟩
    · have k := k.2 c2
      refine aw_iload_n (i := 2) rfl d_X12_both_180 2 rfl ?_
      refine aw_if_eq (tgt := 188) d_X12_both_181 rfl (fun c3 => ?_) (fun c3 => ?_)
      · have k := k.1 c3
        refine aw_iconst (v := 0) d_X12_both_188 ic_0 ?_
        exact aw_iret rfl d_X12_both_189 ⟨Nat.le_refl _, Nat.le_refl _⟩ ⟨_, rfl, k⟩
      · have k := k.2 c3
        refine aw_iconst (v := 1) d_X12_both_184 ic_1 ?_
        refine aw_goto (tgt := 189) d_X12_both_185 rfl ?_
        exact aw_iret rfl d_X12_both_189 ⟨Nat.le_refl _, Nat.le_refl _⟩ ⟨_, rfl, k⟩
  · have k := k.2
    by_cases e4 : x0 = 42
    · refine aw_tableIn (off := 133) (tgt := 134) d_X12_both_1 (by rw [e4]; decide) (by rw [e4]; decide) (by rw [e4]; decide) rfl ?_
      have k := k.1 e4
      refine aw_iload_n (i := 1) rfl d_X12_both_134 1 rfl ?_
      refine aw_i2l d_X12_both_135 ?_
      refine aw_iload_n (i := 2) rfl d_X12_both_136 2 rfl ?_
      refine aw_i2l d_X12_both_137 ?_
      refine aw_lmul d_X12_both_138 ?_
      refine aw_Si [.long (((x1 : Int32).toInt64) * ((x2 : Int32).toInt64))] [] d_X12_both_139 (cS_X12_bounded (d + 1) 0 0) tw_2435 rfl (rr0 (Nat.le_of_ble_eq_true rfl) (Nat.le_of_ble_eq_true rfl)) (Nat.le_of_ble_eq_true rfl) xs0 k (fun r7 h5 kk => ?_)
      obtain ⟨w6, k⟩ := kk
      exact aw_iret rfl d_X12_both_142 ⟨Nat.le_refl _, Nat.le_refl _⟩ ⟨_, rfl, k⟩
    · have k := k.2
      by_cases e8 : x0 = 43
      · refine aw_tableIn (off := 115) (tgt := 116) d_X12_both_1 (by rw [e8]; decide) (by rw [e8]; decide) (by rw [e8]; decide) rfl ?_
        have k := k.1 e8
        refine aw_iload_n (i := 1) rfl d_X12_both_116 1 rfl ?_
        refine aw_i2l d_X12_both_117 ?_
        refine aw_iload_n (i := 2) rfl d_X12_both_118 2 rfl ?_
        refine aw_i2l d_X12_both_119 ?_
        refine aw_ladd d_X12_both_120 ?_
        refine aw_Si [.long (((x1 : Int32).toInt64) + ((x2 : Int32).toInt64))] [] d_X12_both_121 (cS_X12_bounded (d + 1) 0 0) tw_2435 rfl (rr0 (Nat.le_of_ble_eq_true rfl) (Nat.le_of_ble_eq_true rfl)) (Nat.le_of_ble_eq_true rfl) xs0 k (fun r11 h9 kk => ?_)
        obtain ⟨w10, k⟩ := kk
        exact aw_iret rfl d_X12_both_124 ⟨Nat.le_refl _, Nat.le_refl _⟩ ⟨_, rfl, k⟩
      · have k := k.2
        by_cases e12 : x0 = 45
        · refine aw_tableIn (off := 124) (tgt := 125) d_X12_both_1 (by rw [e12]; decide) (by rw [e12]; decide) (by rw [e12]; decide) rfl ?_
          have k := k.1 e12
          refine aw_iload_n (i := 1) rfl d_X12_both_125 1 rfl ?_
          refine aw_i2l d_X12_both_126 ?_
          refine aw_iload_n (i := 2) rfl d_X12_both_127 2 rfl ?_
          refine aw_i2l d_X12_both_128 ?_
          refine aw_lsub d_X12_both_129 ?_
          refine aw_Si [.long (((x1 : Int32).toInt64) - ((x2 : Int32).toInt64))] [] d_X12_both_130 (cS_X12_bounded (d + 1) 0 0) tw_2435 rfl (rr0 (Nat.le_of_ble_eq_true rfl) (Nat.le_of_ble_eq_true rfl)) (Nat.le_of_ble_eq_true rfl) xs0 k (fun r15 h13 kk => ?_)
          obtain ⟨w14, k⟩ := kk
          exact aw_iret rfl d_X12_both_133 ⟨Nat.le_refl _, Nat.le_refl _⟩ ⟨_, rfl, k⟩
        · have k := k.2
          by_cases e16 : x0 = 60
          · refine aw_tableIn (off := 153) (tgt := 154) d_X12_both_1 (by rw [e16]; decide) (by rw [e16]; decide) (by rw [e16]; decide) rfl ?_
            have k := k.1 e16
            refine aw_iload_n (i := 1) rfl d_X12_both_154 1 rfl ?_
            refine aw_iload_n (i := 2) rfl d_X12_both_155 2 rfl ?_
            refine aw_icmp_ge (tgt := 163) d_X12_both_156 rfl (fun c17 => ?_) (fun c17 => ?_)
            · have k := k.1 c17
              refine aw_iconst (v := 0) d_X12_both_163 ic_0 ?_
              exact aw_iret rfl d_X12_both_164 ⟨Nat.le_refl _, Nat.le_refl _⟩ ⟨_, rfl, k⟩
            · have k := k.2 c17
              refine aw_iconst (v := 1) d_X12_both_159 ic_1 ?_
              refine aw_goto (tgt := 164) d_X12_both_160 rfl ?_
              exact aw_iret rfl d_X12_both_164 ⟨Nat.le_refl _, Nat.le_refl _⟩ ⟨_, rfl, k⟩
          · have k := k.2
            by_cases e18 : x0 = 61
            · refine aw_tableIn (off := 142) (tgt := 143) d_X12_both_1 (by rw [e18]; decide) (by rw [e18]; decide) (by rw [e18]; decide) rfl ?_
              have k := k.1 e18
              refine aw_iload_n (i := 1) rfl d_X12_both_143 1 rfl ?_
              refine aw_iload_n (i := 2) rfl d_X12_both_144 2 rfl ?_
              refine aw_icmp_ne (tgt := 152) d_X12_both_145 rfl (fun c19 => ?_) (fun c19 => ?_)
              · have k := k.1 c19
                refine aw_iconst (v := 0) d_X12_both_152 ic_0 ?_
                exact aw_iret rfl d_X12_both_153 ⟨Nat.le_refl _, Nat.le_refl _⟩ ⟨_, rfl, k⟩
              · have k := k.2 c19
                refine aw_iconst (v := 1) d_X12_both_148 ic_1 ?_
                refine aw_goto (tgt := 153) d_X12_both_149 rfl ?_
                exact aw_iret rfl d_X12_both_153 ⟨Nat.le_refl _, Nat.le_refl _⟩ ⟨_, rfl, k⟩
            · have k := k.2
              by_cases e20 : x0 = 62
              · refine aw_tableIn (off := 164) (tgt := 165) d_X12_both_1 (by rw [e20]; decide) (by rw [e20]; decide) (by rw [e20]; decide) rfl ?_
                have k := k.1 e20
                refine aw_iload_n (i := 1) rfl d_X12_both_165 1 rfl ?_
                refine aw_iload_n (i := 2) rfl d_X12_both_166 2 rfl ?_
                refine aw_icmp_le (tgt := 174) d_X12_both_167 rfl (fun c21 => ?_) (fun c21 => ?_)
                · have k := k.1 c21
                  refine aw_iconst (v := 0) d_X12_both_174 ic_0 ?_
                  exact aw_iret rfl d_X12_both_175 ⟨Nat.le_refl _, Nat.le_refl _⟩ ⟨_, rfl, k⟩
                · have k := k.2 c21
                  refine aw_iconst (v := 1) d_X12_both_170 ic_1 ?_
                  refine aw_goto (tgt := 175) d_X12_both_171 rfl ?_
                  exact aw_iret rfl d_X12_both_175 ⟨Nat.le_refl _, Nat.le_refl _⟩ ⟨_, rfl, k⟩
              · have k := k.2
                have k := k ⟨e1, e4, e8, e12, e16, e18, e20⟩
                have n24 := sw_ne (38) (by decide) e1
                have n25 := sw_ne (42) (by decide) e4
                have n26 := sw_ne (43) (by decide) e8
                have n27 := sw_ne (45) (by decide) e12
                have n28 := sw_ne (60) (by decide) e16
                have n29 := sw_ne (61) (by decide) e18
                have n30 := sw_ne (62) (by decide) e20
                refine aw_tableD (tgt := 190) d_X12_both_1 (by
                  rcases (show (x0 : Int32).toInt < 38 ∨ 62 < (x0 : Int32).toInt ∨ (x0 : Int32).toInt = 39 ∨ (x0 : Int32).toInt = 40 ∨ (x0 : Int32).toInt = 41 ∨ (x0 : Int32).toInt = 44 ∨ (x0 : Int32).toInt = 46 ∨ (x0 : Int32).toInt = 47 ∨ (x0 : Int32).toInt = 48 ∨ (x0 : Int32).toInt = 49 ∨ (x0 : Int32).toInt = 50 ∨ (x0 : Int32).toInt = 51 ∨ (x0 : Int32).toInt = 52 ∨ (x0 : Int32).toInt = 53 ∨ (x0 : Int32).toInt = 54 ∨ (x0 : Int32).toInt = 55 ∨ (x0 : Int32).toInt = 56 ∨ (x0 : Int32).toInt = 57 ∨ (x0 : Int32).toInt = 58 ∨ (x0 : Int32).toInt = 59 by omega) with e | e | e | e | e | e | e | e | e | e | e | e | e | e | e | e | e | e | e | e
                  · exact Or.inl e
                  · exact Or.inr (Or.inl e)
                  · exact Or.inr (Or.inr (by rw [e]; decide))
                  · exact Or.inr (Or.inr (by rw [e]; decide))
                  · exact Or.inr (Or.inr (by rw [e]; decide))
                  · exact Or.inr (Or.inr (by rw [e]; decide))
                  · exact Or.inr (Or.inr (by rw [e]; decide))
                  · exact Or.inr (Or.inr (by rw [e]; decide))
                  · exact Or.inr (Or.inr (by rw [e]; decide))
                  · exact Or.inr (Or.inr (by rw [e]; decide))
                  · exact Or.inr (Or.inr (by rw [e]; decide))
                  · exact Or.inr (Or.inr (by rw [e]; decide))
                  · exact Or.inr (Or.inr (by rw [e]; decide))
                  · exact Or.inr (Or.inr (by rw [e]; decide))
                  · exact Or.inr (Or.inr (by rw [e]; decide))
                  · exact Or.inr (Or.inr (by rw [e]; decide))
                  · exact Or.inr (Or.inr (by rw [e]; decide))
                  · exact Or.inr (Or.inr (by rw [e]; decide))
                  · exact Or.inr (Or.inr (by rw [e]; decide))
                  · exact Or.inr (Or.inr (by rw [e]; decide))) rfl ?_
                refine aw_iload_n (i := 1) rfl d_X12_both_190 1 rfl ?_
                refine aw_if_ne (tgt := 198) d_X12_both_191 rfl (fun c22 => ?_) (fun c22 => ?_)
                · have k := k.1 c22
                  refine aw_iconst (v := 1) d_X12_both_198 ic_1 ?_
                  refine aw_goto (tgt := 203) d_X12_both_199 rfl ?_
                  exact aw_iret rfl d_X12_both_203 ⟨Nat.le_refl _, Nat.le_refl _⟩ ⟨_, rfl, k⟩
                · have k := k.2 c22
                  refine aw_iload_n (i := 2) rfl d_X12_both_194 2 rfl ?_
                  refine aw_if_eq (tgt := 202) d_X12_both_195 rfl (fun c23 => ?_) (fun c23 => ?_)
                  · have k := k.1 c23
                    refine aw_iconst (v := 0) d_X12_both_202 ic_0 ?_
                    exact aw_iret rfl d_X12_both_203 ⟨Nat.le_refl _, Nat.le_refl _⟩ ⟨_, rfl, k⟩
                  · have k := k.2 c23
                    refine aw_iconst (v := 1) d_X12_both_198 ic_1 ?_
                    refine aw_goto (tgt := 203) d_X12_both_199 rfl ?_
                    exact aw_iret rfl d_X12_both_203 ⟨Nat.le_refl _, Nat.le_refl _⟩ ⟨_, rfl, k⟩
theorem t_X12_work (d : Nat) (h : Hp_)  (K : Int32 → Hp_ → Prop) (k : AW (m_X12_work (d + 3) 0 0) 0 0 2 [(0, .ref 1), (1, .int 0)] [] h (kI K)) : Ci (m_X12_work (d + 3) 0 0) [.ref 1] h K := by
  refine Ct.of (fun _ _ _ => trivial) pn_X12 (Nat.le_of_ble_eq_true rfl) ?_
  show AW (m_X12_work (d + 3) 0 0) 0 0 0 [(0, .ref 1)] [] h (kI K)
  refine aw_iconst (v := 0) d_X12_work_0 ic_0 ?_
  refine aw_istore_n (i := 1) rfl [(0, .ref 1), (1, .int 0)] d_X12_work_1 (Nat.le_of_ble_eq_true rfl) rfl rfl ?_
  exact k
theorem t_X12_work_2 (d : Nat) (h : Hp_) (w : Wf h) (x1 : Int32) (K : Int32 → Hp_ → Prop) (k : vp_in (h_i h 1 52) 22400 ∧ (((h_i h 231 ((h_i h 1 52) : Int32).toNatClampNeg) = 2 → vp_in 0 200 ∧ (K (h_i h 237 (0 : Int32).toNatClampNeg) (h_im h 1 52 ((h_i h 1 52) + 1)))) ∧ (¬ (h_i h 231 ((h_i h 1 52) : Int32).toNatClampNeg) = 2 → vp_in (h_i h 1 52) 22400 ∧ (((h_i h 231 ((h_i h 1 52) : Int32).toNatClampNeg) = 3 → vp_in 0 200 ∧ (K (h_i h 237 (0 : Int32).toNatClampNeg) (h_im h 1 52 ((h_i h 1 52) + 1)))) ∧ (¬ (h_i h 231 ((h_i h 1 52) : Int32).toNatClampNeg) = 3 → vp_in (h_i h 1 52) 22400 ∧ (((h_i h 231 ((h_i h 1 52) : Int32).toNatClampNeg) = 0 → (¬ (h_i h 231 ((h_i h 1 52) : Int32).toNatClampNeg) = 0 → vp_in ((h_i h 1 52) + 1) 22400 ∧ (vp_in (h_i h 231 (((h_i h 1 52) + 1) : Int32).toNatClampNeg) 128 ∧ (vp_in x1 200 ∧ (AW (m_X12_work (d + 3) 0 0) 0 0 2 [(0, .ref 1), (1, .int (x1 + 1))] [] (h_im (h_im (h_im h 1 52 ((h_i h 1 52) + 1)) 237 x1.toNatClampNeg (h_i h 236 ((h_i h 231 (((h_i h 1 52) + 1) : Int32).toNatClampNeg) : Int32).toNatClampNeg)) 1 52 (((h_i h 1 52) + 1) + 1)) (kI K))))) ∧ ((h_i h 231 ((h_i h 1 52) : Int32).toNatClampNeg) = 0 → vp_in ((h_i h 1 52) + 1) 22400 ∧ (vp_in x1 200 ∧ (AW (m_X12_work (d + 3) 0 0) 0 0 2 [(0, .ref 1), (1, .int (x1 + 1))] [] (h_im (h_im (h_im h 1 52 ((h_i h 1 52) + 1)) 237 x1.toNatClampNeg (h_i h 231 (((h_i h 1 52) + 1) : Int32).toNatClampNeg)) 1 52 (((h_i h 1 52) + 1) + 1)) (kI K))))) ∧ (¬ (h_i h 231 ((h_i h 1 52) : Int32).toNatClampNeg) = 0 → (¬ (h_i h 231 ((h_i h 1 52) : Int32).toNatClampNeg) = 1 → (¬ (h_i h 231 ((h_i h 1 52) : Int32).toNatClampNeg) = 33 → vp_in ((x1 + (-1)) - 1) 200 ∧ (vp_in (x1 + (-1)) 200 ∧ (Ci (m_X12_both (d + 2) 0 0) [.int (h_i h 231 ((h_i h 1 52) : Int32).toNatClampNeg), .int (h_i h 237 (((x1 + (-1)) - 1) : Int32).toNatClampNeg), .int (h_i h 237 ((x1 + (-1)) : Int32).toNatClampNeg)] (h_im h 1 52 ((h_i h 1 52) + 1)) (fun r21 h19 => Wf h19 ∧ (vp_in ((x1 + (-1)) - 1) 200 ∧ (AW (m_X12_work (d + 3) 0 0) 0 0 2 [(0, .ref 1), (1, .int (x1 + (-1)))] [] (h_im h19 237 (((x1 + (-1)) - 1) : Int32).toNatClampNeg r21) (kI K))))))) ∧ ((h_i h 231 ((h_i h 1 52) : Int32).toNatClampNeg) = 33 → vp_in (x1 - 1) 200 ∧ ((¬ (h_i h 237 ((x1 - 1) : Int32).toNatClampNeg) = 0 → vp_in (x1 - 1) 200 ∧ (AW (m_X12_work (d + 3) 0 0) 0 0 2 [(0, .ref 1), (1, .int x1)] [] (h_im (h_im h 1 52 ((h_i h 1 52) + 1)) 237 ((x1 - 1) : Int32).toNatClampNeg 0) (kI K))) ∧ ((h_i h 237 ((x1 - 1) : Int32).toNatClampNeg) = 0 → vp_in (x1 - 1) 200 ∧ (AW (m_X12_work (d + 3) 0 0) 0 0 2 [(0, .ref 1), (1, .int x1)] [] (h_im (h_im h 1 52 ((h_i h 1 52) + 1)) 237 ((x1 - 1) : Int32).toNatClampNeg 1) (kI K)))))) ∧ ((h_i h 231 ((h_i h 1 52) : Int32).toNatClampNeg) = 1 → (¬ (h_i h 231 ((h_i h 1 52) : Int32).toNatClampNeg) = 0 → vp_in ((h_i h 1 52) + 1) 22400 ∧ (vp_in (h_i h 231 (((h_i h 1 52) + 1) : Int32).toNatClampNeg) 128 ∧ (vp_in x1 200 ∧ (AW (m_X12_work (d + 3) 0 0) 0 0 2 [(0, .ref 1), (1, .int (x1 + 1))] [] (h_im (h_im (h_im h 1 52 ((h_i h 1 52) + 1)) 237 x1.toNatClampNeg (h_i h 236 ((h_i h 231 (((h_i h 1 52) + 1) : Int32).toNatClampNeg) : Int32).toNatClampNeg)) 1 52 (((h_i h 1 52) + 1) + 1)) (kI K))))) ∧ ((h_i h 231 ((h_i h 1 52) : Int32).toNatClampNeg) = 0 → vp_in ((h_i h 1 52) + 1) 22400 ∧ (vp_in x1 200 ∧ (AW (m_X12_work (d + 3) 0 0) 0 0 2 [(0, .ref 1), (1, .int (x1 + 1))] [] (h_im (h_im (h_im h 1 52 ((h_i h 1 52) + 1)) 237 x1.toNatClampNeg (h_i h 231 (((h_i h 1 52) + 1) : Int32).toNatClampNeg)) 1 52 (((h_i h 1 52) + 1) + 1)) (kI K)))))))))))) : AW (m_X12_work (d + 3) 0 0) 0 0 2 [(0, .ref 1), (1, .int x1)] [] h (kI K) := by
  refine aw_aload_n (i := 0) rfl d_X12_work_2 0 rfl ?_
  refine aw_getr (k0 := 45) kc_12 (ws_1 w) (Nat.le_of_ble_eq_true rfl) tw_1787 d_X12_work_3 rfl (wr_1_45 w) ?_
  refine aw_aload_n (i := 0) rfl d_X12_work_6 0 rfl ?_
  refine aw_geti (k0 := 52) kc_12 (ws_1 w) (Nat.le_of_ble_eq_true rfl) tw_1794 d_X12_work_7 rfl ?_
  obtain ⟨b1, k⟩ := k
  refine aw_iald (ws_231 w) b1 d_X12_work_10 ?_
  refine aw_iconst (v := 2) d_X12_work_11 ic_2 ?_
  refine aw_icmp_eq (tgt := 174) d_X12_work_12 rfl (fun c2 => ?_) (fun c2 => ?_)
  · have k := k.1 c2
    refine aw_aload_n (i := 0) rfl d_X12_work_174 0 rfl ?_
    refine aw_dup d_X12_work_175 rfl ?_
    refine aw_geti (k0 := 52) kc_12 (ws_1 w) (Nat.le_of_ble_eq_true rfl) tw_1794 d_X12_work_176 rfl ?_
    refine aw_iconst (v := 1) d_X12_work_179 ic_1 ?_
    refine aw_iadd d_X12_work_180 ?_
    refine aw_puti (k0 := 52) kc_12 (ws_1 w) (Nat.le_of_ble_eq_true rfl) tw_1794 d_X12_work_181 rfl rfl nf_i ?_
    refine aw_aload_n (i := 0) rfl d_X12_work_184 0 rfl ?_
    refine aw_getr (k0 := 51) kc_12 (ws_1 w) (Nat.le_of_ble_eq_true rfl) tw_1793 d_X12_work_185 rfl (wr_1_51 w) ?_
    refine aw_iconst (v := 0) d_X12_work_188 ic_0 ?_
    obtain ⟨b3, k⟩ := k
    refine aw_iald (ws_237 w) b3 d_X12_work_189 ?_
    refine aw_vi (v2 := (h_i h 237 (0 : Int32).toNatClampNeg)) (rfl) ?_
    exact aw_iret rfl d_X12_work_190 ⟨Nat.le_refl _, Nat.le_refl _⟩ ⟨_, rfl, k⟩
  · have k := k.2 c2
    refine aw_aload_n (i := 0) rfl d_X12_work_15 0 rfl ?_
    refine aw_getr (k0 := 45) kc_12 (ws_1 w) (Nat.le_of_ble_eq_true rfl) tw_1787 d_X12_work_16 rfl (wr_1_45 w) ?_
    refine aw_aload_n (i := 0) rfl d_X12_work_19 0 rfl ?_
    refine aw_geti (k0 := 52) kc_12 (ws_1 w) (Nat.le_of_ble_eq_true rfl) tw_1794 d_X12_work_20 rfl ?_
    obtain ⟨b4, k⟩ := k
    refine aw_iald (ws_231 w) b4 d_X12_work_23 ?_
    refine aw_iconst (v := 3) d_X12_work_24 ic_3 ?_
    refine aw_icmp_eq (tgt := 174) d_X12_work_25 rfl (fun c5 => ?_) (fun c5 => ?_)
    · have k := k.1 c5
      refine aw_aload_n (i := 0) rfl d_X12_work_174 0 rfl ?_
      refine aw_dup d_X12_work_175 rfl ?_
      refine aw_geti (k0 := 52) kc_12 (ws_1 w) (Nat.le_of_ble_eq_true rfl) tw_1794 d_X12_work_176 rfl ?_
      refine aw_iconst (v := 1) d_X12_work_179 ic_1 ?_
      refine aw_iadd d_X12_work_180 ?_
      refine aw_puti (k0 := 52) kc_12 (ws_1 w) (Nat.le_of_ble_eq_true rfl) tw_1794 d_X12_work_181 rfl rfl nf_i ?_
      refine aw_aload_n (i := 0) rfl d_X12_work_184 0 rfl ?_
      refine aw_getr (k0 := 51) kc_12 (ws_1 w) (Nat.le_of_ble_eq_true rfl) tw_1793 d_X12_work_185 rfl (wr_1_51 w) ?_
      refine aw_iconst (v := 0) d_X12_work_188 ic_0 ?_
      obtain ⟨b6, k⟩ := k
      refine aw_iald (ws_237 w) b6 d_X12_work_189 ?_
      refine aw_vi (v2 := (h_i h 237 (0 : Int32).toNatClampNeg)) (rfl) ?_
      exact aw_iret rfl d_X12_work_190 ⟨Nat.le_refl _, Nat.le_refl _⟩ ⟨_, rfl, k⟩
    · have k := k.2 c5
      refine aw_aload_n (i := 0) rfl d_X12_work_28 0 rfl ?_
      refine aw_getr (k0 := 45) kc_12 (ws_1 w) (Nat.le_of_ble_eq_true rfl) tw_1787 d_X12_work_29 rfl (wr_1_45 w) ?_
      refine aw_aload_n (i := 0) rfl d_X12_work_32 0 rfl ?_
      refine aw_geti (k0 := 52) kc_12 (ws_1 w) (Nat.le_of_ble_eq_true rfl) tw_1794 d_X12_work_33 rfl ?_
      obtain ⟨b7, k⟩ := k
      refine aw_iald (ws_231 w) b7 d_X12_work_36 ?_
      refine aw_istore_n (i := 2) rfl [(0, .ref 1), (1, .int x1), (2, .int (h_i h 231 ((h_i h 1 52) : Int32).toNatClampNeg))] d_X12_work_37 (Nat.le_of_ble_eq_true rfl) rfl rfl ?_
      refine aw_aload_n (i := 0) rfl d_X12_work_38 0 rfl ?_
      refine aw_dup d_X12_work_39 rfl ?_
      refine aw_geti (k0 := 52) kc_12 (ws_1 w) (Nat.le_of_ble_eq_true rfl) tw_1794 d_X12_work_40 rfl ?_
      refine aw_iconst (v := 1) d_X12_work_43 ic_1 ?_
      refine aw_iadd d_X12_work_44 ?_
      refine aw_puti (k0 := 52) kc_12 (ws_1 w) (Nat.le_of_ble_eq_true rfl) tw_1794 d_X12_work_45 rfl rfl nf_i ?_
      refine aw_iload_n (i := 2) rfl d_X12_work_48 2 rfl ?_
      refine aw_if_eq (tgt := 57) d_X12_work_49 rfl (fun c8 => ?_) (fun c8 => ?_)
      · have k := k.1 c8
        refine aw_aload_n (i := 0) rfl d_X12_work_57 0 rfl ?_
        refine aw_getr (k0 := 51) kc_12 (ws_1 w) (Nat.le_of_ble_eq_true rfl) tw_1793 d_X12_work_58 rfl (wr_1_51 w) ?_
        refine aw_iload_n (i := 1) rfl d_X12_work_61 1 rfl ?_
        refine aw_iload_n (i := 2) rfl d_X12_work_62 2 rfl ?_
        refine aw_if_ne (tgt := 78) d_X12_work_63 rfl (fun c9 => ?_) (fun c9 => ?_)
        · have k := k.1 c9
          refine aw_aload_n (i := 0) rfl d_X12_work_78 0 rfl ?_
          refine aw_getr (k0 := 50) kc_12 (ws_1 w) (Nat.le_of_ble_eq_true rfl) tw_1792 d_X12_work_79 rfl (wr_1_50 w) ?_
          refine aw_aload_n (i := 0) rfl d_X12_work_82 0 rfl ?_
          refine aw_getr (k0 := 45) kc_12 (ws_1 w) (Nat.le_of_ble_eq_true rfl) tw_1787 d_X12_work_83 rfl (wr_1_45 w) ?_
          refine aw_aload_n (i := 0) rfl d_X12_work_86 0 rfl ?_
          refine aw_geti (k0 := 52) kc_12 (ws_1 w) (Nat.le_of_ble_eq_true rfl) tw_1794 d_X12_work_87 rfl ?_
          refine aw_vi (v2 := ((h_i h 1 52) + 1)) (rfl) ?_
          obtain ⟨b10, k⟩ := k
          refine aw_iald (ws_231 w) b10 d_X12_work_90 ?_
          refine aw_vi (v2 := (h_i h 231 (((h_i h 1 52) + 1) : Int32).toNatClampNeg)) (rfl) ?_
          obtain ⟨b11, k⟩ := k
          refine aw_iald (ws_236 w) b11 d_X12_work_91 ?_
          refine aw_vi (v2 := (h_i h 236 ((h_i h 231 (((h_i h 1 52) + 1) : Int32).toNatClampNeg) : Int32).toNatClampNeg)) (rfl) ?_
          obtain ⟨b12, k⟩ := k
          refine aw_iast (ws_237 w) b12 d_X12_work_92 ?_
          refine aw_aload_n (i := 0) rfl d_X12_work_93 0 rfl ?_
          refine aw_dup d_X12_work_94 rfl ?_
          refine aw_geti (k0 := 52) kc_12 (ws_1 w) (Nat.le_of_ble_eq_true rfl) tw_1794 d_X12_work_95 rfl ?_
          refine aw_vi (v2 := ((h_i h 1 52) + 1)) (rfl) ?_
          refine aw_iconst (v := 1) d_X12_work_98 ic_1 ?_
          refine aw_iadd d_X12_work_99 ?_
          refine aw_puti (k0 := 52) kc_12 (ws_1 w) (Nat.le_of_ble_eq_true rfl) tw_1794 d_X12_work_100 rfl rfl nf_i ?_
          refine aw_iinc (v := (x1 + 1)) [(0, .ref 1), (1, .int (x1 + 1)), (2, .int (h_i h 231 ((h_i h 1 52) : Int32).toNatClampNeg))] d_X12_work_103 1 rfl rfl (Nat.le_of_ble_eq_true rfl) rfl rfl ?_
          refine aw_goto (tgt := 171) d_X12_work_106 rfl ?_
          refine aw_goto (tgt := 2) d_X12_work_171 rfl ?_
          exact aw_lvp [0, 1] [(0, .ref 1), (1, .int (x1 + 1))] rfl k
        · have k := k.2 c9
          refine aw_aload_n (i := 0) rfl d_X12_work_66 0 rfl ?_
          refine aw_getr (k0 := 45) kc_12 (ws_1 w) (Nat.le_of_ble_eq_true rfl) tw_1787 d_X12_work_67 rfl (wr_1_45 w) ?_
          refine aw_aload_n (i := 0) rfl d_X12_work_70 0 rfl ?_
          refine aw_geti (k0 := 52) kc_12 (ws_1 w) (Nat.le_of_ble_eq_true rfl) tw_1794 d_X12_work_71 rfl ?_
          refine aw_vi (v2 := ((h_i h 1 52) + 1)) (rfl) ?_
          obtain ⟨b13, k⟩ := k
          refine aw_iald (ws_231 w) b13 d_X12_work_74 ?_
          refine aw_vi (v2 := (h_i h 231 (((h_i h 1 52) + 1) : Int32).toNatClampNeg)) (rfl) ?_
          refine aw_goto (tgt := 92) d_X12_work_75 rfl ?_
          obtain ⟨b14, k⟩ := k
          refine aw_iast (ws_237 w) b14 d_X12_work_92 ?_
          refine aw_aload_n (i := 0) rfl d_X12_work_93 0 rfl ?_
          refine aw_dup d_X12_work_94 rfl ?_
          refine aw_geti (k0 := 52) kc_12 (ws_1 w) (Nat.le_of_ble_eq_true rfl) tw_1794 d_X12_work_95 rfl ?_
          refine aw_vi (v2 := ((h_i h 1 52) + 1)) (rfl) ?_
          refine aw_iconst (v := 1) d_X12_work_98 ic_1 ?_
          refine aw_iadd d_X12_work_99 ?_
          refine aw_puti (k0 := 52) kc_12 (ws_1 w) (Nat.le_of_ble_eq_true rfl) tw_1794 d_X12_work_100 rfl rfl nf_i ?_
          refine aw_iinc (v := (x1 + 1)) [(0, .ref 1), (1, .int (x1 + 1)), (2, .int (h_i h 231 ((h_i h 1 52) : Int32).toNatClampNeg))] d_X12_work_103 1 rfl rfl (Nat.le_of_ble_eq_true rfl) rfl rfl ?_
          refine aw_goto (tgt := 171) d_X12_work_106 rfl ?_
          refine aw_goto (tgt := 2) d_X12_work_171 rfl ?_
          exact aw_lvp [0, 1] [(0, .ref 1), (1, .int (x1 + 1))] rfl k
      · have k := k.2 c8
        refine aw_iload_n (i := 2) rfl d_X12_work_52 2 rfl ?_
        refine aw_iconst (v := 1) d_X12_work_53 ic_1 ?_
        refine aw_icmp_ne (tgt := 109) d_X12_work_54 rfl (fun c15 => ?_) (fun c15 => ?_)
        · have k := k.1 c15
          refine aw_iload_n (i := 2) rfl d_X12_work_109 2 rfl ?_
          refine aw_bipush (v := 33) d_X12_work_110 ib_33 ?_
          refine aw_icmp_ne (tgt := 142) d_X12_work_112 rfl (fun c16 => ?_) (fun c16 => ?_)
          · have k := k.1 c16
            refine aw_iinc (v := (x1 + (-1))) [(0, .ref 1), (1, .int (x1 + (-1))), (2, .int (h_i h 231 ((h_i h 1 52) : Int32).toNatClampNeg))] d_X12_work_142 1 rfl rfl (Nat.le_of_ble_eq_true rfl) rfl rfl ?_
            refine aw_aload_n (i := 0) rfl d_X12_work_145 0 rfl ?_
            refine aw_getr (k0 := 51) kc_12 (ws_1 w) (Nat.le_of_ble_eq_true rfl) tw_1793 d_X12_work_146 rfl (wr_1_51 w) ?_
            refine aw_iload_n (i := 1) rfl d_X12_work_149 1 rfl ?_
            refine aw_iconst (v := 1) d_X12_work_150 ic_1 ?_
            refine aw_isub d_X12_work_151 ?_
            refine aw_iload_n (i := 2) rfl d_X12_work_152 2 rfl ?_
            refine aw_aload_n (i := 0) rfl d_X12_work_153 0 rfl ?_
            refine aw_getr (k0 := 51) kc_12 (ws_1 w) (Nat.le_of_ble_eq_true rfl) tw_1793 d_X12_work_154 rfl (wr_1_51 w) ?_
            refine aw_iload_n (i := 1) rfl d_X12_work_157 1 rfl ?_
            refine aw_iconst (v := 1) d_X12_work_158 ic_1 ?_
            refine aw_isub d_X12_work_159 ?_
            obtain ⟨b17, k⟩ := k
            refine aw_iald (ws_237 w) b17 d_X12_work_160 ?_
            refine aw_vi (v2 := (h_i h 237 (((x1 + (-1)) - 1) : Int32).toNatClampNeg)) (rfl) ?_
            refine aw_aload_n (i := 0) rfl d_X12_work_161 0 rfl ?_
            refine aw_getr (k0 := 51) kc_12 (ws_1 w) (Nat.le_of_ble_eq_true rfl) tw_1793 d_X12_work_162 rfl (wr_1_51 w) ?_
            refine aw_iload_n (i := 1) rfl d_X12_work_165 1 rfl ?_
            obtain ⟨b18, k⟩ := k
            refine aw_iald (ws_237 w) b18 d_X12_work_166 ?_
            refine aw_vi (v2 := (h_i h 237 ((x1 + (-1)) : Int32).toNatClampNeg)) (rfl) ?_
            refine aw_Si [.int (h_i h 231 ((h_i h 1 52) : Int32).toNatClampNeg), .int (h_i h 237 (((x1 + (-1)) - 1) : Int32).toNatClampNeg), .int (h_i h 237 ((x1 + (-1)) : Int32).toNatClampNeg)] [.int ((x1 + (-1)) - 1), .ref 237] d_X12_work_167 (cS_X12_both (d + 2) 0 0) tw_2432 rfl (rr0 (Nat.le_of_ble_eq_true rfl) (Nat.le_of_ble_eq_true rfl)) (Nat.le_of_ble_eq_true rfl) xs0 k (fun r21 h19 kk => ?_)
            obtain ⟨w20, k⟩ := kk
            obtain ⟨b22, k⟩ := k
            refine aw_iast (ws_237 w20) b22 d_X12_work_170 ?_
            refine aw_goto (tgt := 2) d_X12_work_171 rfl ?_
            exact aw_lvp [0, 1] [(0, .ref 1), (1, .int (x1 + (-1)))] rfl k
          · have k := k.2 c16
            refine aw_aload_n (i := 0) rfl d_X12_work_115 0 rfl ?_
            refine aw_getr (k0 := 51) kc_12 (ws_1 w) (Nat.le_of_ble_eq_true rfl) tw_1793 d_X12_work_116 rfl (wr_1_51 w) ?_
            refine aw_iload_n (i := 1) rfl d_X12_work_119 1 rfl ?_
            refine aw_iconst (v := 1) d_X12_work_120 ic_1 ?_
            refine aw_isub d_X12_work_121 ?_
            refine aw_aload_n (i := 0) rfl d_X12_work_122 0 rfl ?_
            refine aw_getr (k0 := 51) kc_12 (ws_1 w) (Nat.le_of_ble_eq_true rfl) tw_1793 d_X12_work_123 rfl (wr_1_51 w) ?_
            refine aw_iload_n (i := 1) rfl d_X12_work_126 1 rfl ?_
            refine aw_iconst (v := 1) d_X12_work_127 ic_1 ?_
            refine aw_isub d_X12_work_128 ?_
            obtain ⟨b23, k⟩ := k
            refine aw_iald (ws_237 w) b23 d_X12_work_129 ?_
            refine aw_vi (v2 := (h_i h 237 ((x1 - 1) : Int32).toNatClampNeg)) (rfl) ?_
            refine aw_if_ne (tgt := 137) d_X12_work_130 rfl (fun c24 => ?_) (fun c24 => ?_)
            · have k := k.1 c24
              refine aw_iconst (v := 0) d_X12_work_137 ic_0 ?_
              obtain ⟨b25, k⟩ := k
              refine aw_iast (ws_237 w) b25 d_X12_work_138 ?_
              refine aw_goto (tgt := 171) d_X12_work_139 rfl ?_
              refine aw_goto (tgt := 2) d_X12_work_171 rfl ?_
              exact aw_lvp [0, 1] [(0, .ref 1), (1, .int x1)] rfl k
            · have k := k.2 c24
              refine aw_iconst (v := 1) d_X12_work_133 ic_1 ?_
              refine aw_goto (tgt := 138) d_X12_work_134 rfl ?_
              obtain ⟨b26, k⟩ := k
              refine aw_iast (ws_237 w) b26 d_X12_work_138 ?_
              refine aw_goto (tgt := 171) d_X12_work_139 rfl ?_
              refine aw_goto (tgt := 2) d_X12_work_171 rfl ?_
              exact aw_lvp [0, 1] [(0, .ref 1), (1, .int x1)] rfl k
        · have k := k.2 c15
          refine aw_aload_n (i := 0) rfl d_X12_work_57 0 rfl ?_
          refine aw_getr (k0 := 51) kc_12 (ws_1 w) (Nat.le_of_ble_eq_true rfl) tw_1793 d_X12_work_58 rfl (wr_1_51 w) ?_
          refine aw_iload_n (i := 1) rfl d_X12_work_61 1 rfl ?_
          refine aw_iload_n (i := 2) rfl d_X12_work_62 2 rfl ?_
          refine aw_if_ne (tgt := 78) d_X12_work_63 rfl (fun c27 => ?_) (fun c27 => ?_)
          · have k := k.1 c27
            refine aw_aload_n (i := 0) rfl d_X12_work_78 0 rfl ?_
            refine aw_getr (k0 := 50) kc_12 (ws_1 w) (Nat.le_of_ble_eq_true rfl) tw_1792 d_X12_work_79 rfl (wr_1_50 w) ?_
            refine aw_aload_n (i := 0) rfl d_X12_work_82 0 rfl ?_
            refine aw_getr (k0 := 45) kc_12 (ws_1 w) (Nat.le_of_ble_eq_true rfl) tw_1787 d_X12_work_83 rfl (wr_1_45 w) ?_
            refine aw_aload_n (i := 0) rfl d_X12_work_86 0 rfl ?_
            refine aw_geti (k0 := 52) kc_12 (ws_1 w) (Nat.le_of_ble_eq_true rfl) tw_1794 d_X12_work_87 rfl ?_
            refine aw_vi (v2 := ((h_i h 1 52) + 1)) (rfl) ?_
            obtain ⟨b28, k⟩ := k
            refine aw_iald (ws_231 w) b28 d_X12_work_90 ?_
            refine aw_vi (v2 := (h_i h 231 (((h_i h 1 52) + 1) : Int32).toNatClampNeg)) (rfl) ?_
            obtain ⟨b29, k⟩ := k
            refine aw_iald (ws_236 w) b29 d_X12_work_91 ?_
            refine aw_vi (v2 := (h_i h 236 ((h_i h 231 (((h_i h 1 52) + 1) : Int32).toNatClampNeg) : Int32).toNatClampNeg)) (rfl) ?_
            obtain ⟨b30, k⟩ := k
            refine aw_iast (ws_237 w) b30 d_X12_work_92 ?_
            refine aw_aload_n (i := 0) rfl d_X12_work_93 0 rfl ?_
            refine aw_dup d_X12_work_94 rfl ?_
            refine aw_geti (k0 := 52) kc_12 (ws_1 w) (Nat.le_of_ble_eq_true rfl) tw_1794 d_X12_work_95 rfl ?_
            refine aw_vi (v2 := ((h_i h 1 52) + 1)) (rfl) ?_
            refine aw_iconst (v := 1) d_X12_work_98 ic_1 ?_
            refine aw_iadd d_X12_work_99 ?_
            refine aw_puti (k0 := 52) kc_12 (ws_1 w) (Nat.le_of_ble_eq_true rfl) tw_1794 d_X12_work_100 rfl rfl nf_i ?_
            refine aw_iinc (v := (x1 + 1)) [(0, .ref 1), (1, .int (x1 + 1)), (2, .int (h_i h 231 ((h_i h 1 52) : Int32).toNatClampNeg))] d_X12_work_103 1 rfl rfl (Nat.le_of_ble_eq_true rfl) rfl rfl ?_
            refine aw_goto (tgt := 171) d_X12_work_106 rfl ?_
            refine aw_goto (tgt := 2) d_X12_work_171 rfl ?_
            exact aw_lvp [0, 1] [(0, .ref 1), (1, .int (x1 + 1))] rfl k
          · have k := k.2 c27
            refine aw_aload_n (i := 0) rfl d_X12_work_66 0 rfl ?_
            refine aw_getr (k0 := 45) kc_12 (ws_1 w) (Nat.le_of_ble_eq_true rfl) tw_1787 d_X12_work_67 rfl (wr_1_45 w) ?_
            refine aw_aload_n (i := 0) rfl d_X12_work_70 0 rfl ?_
            refine aw_geti (k0 := 52) kc_12 (ws_1 w) (Nat.le_of_ble_eq_true rfl) tw_1794 d_X12_work_71 rfl ?_
            refine aw_vi (v2 := ((h_i h 1 52) + 1)) (rfl) ?_
            obtain ⟨b31, k⟩ := k
            refine aw_iald (ws_231 w) b31 d_X12_work_74 ?_
            refine aw_vi (v2 := (h_i h 231 (((h_i h 1 52) + 1) : Int32).toNatClampNeg)) (rfl) ?_
            refine aw_goto (tgt := 92) d_X12_work_75 rfl ?_
            obtain ⟨b32, k⟩ := k
            refine aw_iast (ws_237 w) b32 d_X12_work_92 ?_
            refine aw_aload_n (i := 0) rfl d_X12_work_93 0 rfl ?_
            refine aw_dup d_X12_work_94 rfl ?_
            refine aw_geti (k0 := 52) kc_12 (ws_1 w) (Nat.le_of_ble_eq_true rfl) tw_1794 d_X12_work_95 rfl ?_
            refine aw_vi (v2 := ((h_i h 1 52) + 1)) (rfl) ?_
            refine aw_iconst (v := 1) d_X12_work_98 ic_1 ?_
            refine aw_iadd d_X12_work_99 ?_
            refine aw_puti (k0 := 52) kc_12 (ws_1 w) (Nat.le_of_ble_eq_true rfl) tw_1794 d_X12_work_100 rfl rfl nf_i ?_
            refine aw_iinc (v := (x1 + 1)) [(0, .ref 1), (1, .int (x1 + 1)), (2, .int (h_i h 231 ((h_i h 1 52) : Int32).toNatClampNeg))] d_X12_work_103 1 rfl rfl (Nat.le_of_ble_eq_true rfl) rfl rfl ?_
            refine aw_goto (tgt := 171) d_X12_work_106 rfl ?_
            refine aw_goto (tgt := 2) d_X12_work_171 rfl ?_
            exact aw_lvp [0, 1] [(0, .ref 1), (1, .int (x1 + 1))] rfl k
theorem t_X12_tell (d : Nat) (h : Hp_) (w : Wf h) (x1 : Int32) (x2 : Int32) (K : Int32 → Hp_ → Prop) (k : (¬ x2 = (-1) → AW (m_X12_tell (d + 4) 0 0) 0 0 23 [(0, .ref 1), (3, .int ((20 * x1) + x2))] [] (h_im h 1 52 (560 * ((20 * x1) + x2))) (kI K)) ∧ (x2 = (-1) → K 0 h)) : Ci (m_X12_tell (d + 4) 0 0) [.ref 1, .int x1, .int x2] h K := by
  refine Ct.of (fun _ _ _ => trivial) pn_X12 (Nat.le_of_ble_eq_true rfl) ?_
  show AW (m_X12_tell (d + 4) 0 0) 0 0 0 [(0, .ref 1), (1, .int x1), (2, .int x2)] [] h (kI K)
  refine aw_iload_n (i := 2) rfl d_X12_tell_0 2 rfl ?_
  refine aw_iconst (v := (-1)) d_X12_tell_1 ic_m1 ?_
  refine aw_icmp_ne (tgt := 7) d_X12_tell_2 rfl (fun c1 => ?_) (fun c1 => ?_)
  · have k := k.1 c1
    refine aw_bipush (v := 20) d_X12_tell_7 ib_20 ?_
    refine aw_iload_n (i := 1) rfl d_X12_tell_9 1 rfl ?_
    refine aw_imul d_X12_tell_10 ?_
    refine aw_iload_n (i := 2) rfl d_X12_tell_11 2 rfl ?_
    refine aw_iadd d_X12_tell_12 ?_
    refine aw_istore_n (i := 3) rfl [(0, .ref 1), (1, .int x1), (2, .int x2), (3, .int ((20 * x1) + x2))] d_X12_tell_13 (Nat.le_of_ble_eq_true rfl) rfl rfl ?_
    refine aw_aload_n (i := 0) rfl d_X12_tell_14 0 rfl ?_
    refine aw_sipush (v := 560) d_X12_tell_15 is_560 ?_
    refine aw_iload_n (i := 3) rfl d_X12_tell_18 3 rfl ?_
    refine aw_imul d_X12_tell_19 ?_
    refine aw_puti (k0 := 52) kc_12 (ws_1 w) (Nat.le_of_ble_eq_true rfl) tw_1794 d_X12_tell_20 rfl rfl nf_i ?_
    exact aw_lvp [0, 3] [(0, .ref 1), (3, .int ((20 * x1) + x2))] rfl k
  · have k := k.2 c1
    refine aw_iconst (v := 0) d_X12_tell_5 ic_0 ?_
    exact aw_iret rfl d_X12_tell_6 ⟨Nat.le_refl _, Nat.le_refl _⟩ ⟨_, rfl, k⟩
theorem t_X12_tell_23 (d : Nat) (h : Hp_) (w : Wf h) (x3 : Int32) (K : Int32 → Hp_ → Prop) (k : vp_in x3 40 ∧ ((((560 * x3) + (h_i h 232 x3.toNatClampNeg)) ≤ (h_i h 1 52) → K 0 h) ∧ (¬ ((560 * x3) + (h_i h 232 x3.toNatClampNeg)) ≤ (h_i h 1 52) → Ci (m_X12_work (d + 3) 0 0) [.ref 1] h (fun r6 h4 => Wf h4 ∧ ((r6 = 0 → Ci (m_X12_work (d + 3) 0 0) [.ref 1] h4 (fun r10 h8 => Wf h8 ∧ (AW (m_X12_tell (d + 4) 0 0) 0 0 23 [(0, .ref 1), (3, .int x3)] [] h8 (kI K)))) ∧ (¬ r6 = 0 → Ci (m_X12_work (d + 3) 0 0) [.ref 1] h4 (fun r14 h12 => Wf h12 ∧ (K r14 h12)))))))) : AW (m_X12_tell (d + 4) 0 0) 0 0 23 [(0, .ref 1), (3, .int x3)] [] h (kI K) := by
  refine aw_aload_n (i := 0) rfl d_X12_tell_23 0 rfl ?_
  refine aw_geti (k0 := 52) kc_12 (ws_1 w) (Nat.le_of_ble_eq_true rfl) tw_1794 d_X12_tell_24 rfl ?_
  refine aw_sipush (v := 560) d_X12_tell_27 is_560 ?_
  refine aw_iload_n (i := 3) rfl d_X12_tell_30 1 rfl ?_
  refine aw_imul d_X12_tell_31 ?_
  refine aw_aload_n (i := 0) rfl d_X12_tell_32 0 rfl ?_
  refine aw_getr (k0 := 46) kc_12 (ws_1 w) (Nat.le_of_ble_eq_true rfl) tw_1788 d_X12_tell_33 rfl (wr_1_46 w) ?_
  refine aw_iload_n (i := 3) rfl d_X12_tell_36 1 rfl ?_
  obtain ⟨b2, k⟩ := k
  refine aw_iald (ws_232 w) b2 d_X12_tell_37 ?_
  refine aw_iadd d_X12_tell_38 ?_
  refine aw_icmp_ge (tgt := 73) d_X12_tell_39 rfl (fun c3 => ?_) (fun c3 => ?_)
  · have k := k.1 c3
    refine aw_iconst (v := 0) d_X12_tell_73 ic_0 ?_
    exact aw_iret rfl d_X12_tell_74 ⟨Nat.le_refl _, Nat.le_refl _⟩ ⟨_, rfl, k⟩
  · have k := k.2 c3
    refine aw_aload_n (i := 0) rfl d_X12_tell_42 0 rfl ?_
    refine aw_Vi 1 [] [] d_X12_tell_43 (cV_X12_work (d + 3) 0 0) kc_12 (ws_1 w) tw_2428 rfl (rr0 (Nat.le_of_ble_eq_true rfl) (Nat.le_of_ble_eq_true rfl)) (Nat.le_of_ble_eq_true rfl) xs0 k (fun r6 h4 kk => ?_)
    obtain ⟨w5, k⟩ := kk
    refine aw_if_eq (tgt := 53) d_X12_tell_46 rfl (fun c7 => ?_) (fun c7 => ?_)
    · have k := k.1 c7
      refine aw_iconst (v := 0) d_X12_tell_53 ic_0 ?_
      refine aw_istore [(0, .ref 1), (3, .int x3), (4, .int 0)] d_X12_tell_54 (Nat.le_of_ble_eq_true rfl) rfl rfl ?_
      refine aw_aload_n (i := 0) rfl d_X12_tell_56 0 rfl ?_
      refine aw_Vi 1 [] [] d_X12_tell_57 (cV_X12_work (d + 3) 0 0) kc_12 (ws_1 w5) tw_2428 rfl (rr0 (Nat.le_of_ble_eq_true rfl) (Nat.le_of_ble_eq_true rfl)) (Nat.le_of_ble_eq_true rfl) xs0 k (fun r10 h8 kk => ?_)
      obtain ⟨w9, k⟩ := kk
      refine aw_istore [(0, .ref 1), (3, .int x3), (4, .int 0), (5, .int r10)] d_X12_tell_60 (Nat.le_of_ble_eq_true rfl) rfl rfl ?_
      refine aw_iload d_X12_tell_62 2 rfl ?_
      refine aw_if_eq (tgt := 70) d_X12_tell_64 rfl (fun _ => ?_) (fun c => absurd c (by decide))
      refine aw_goto (tgt := 23) d_X12_tell_70 rfl ?_
      exact aw_lvp [0, 1] [(0, .ref 1), (3, .int x3)] rfl k
    · have k := k.2 c7
      refine aw_iconst (v := 1) d_X12_tell_49 ic_1 ?_
      refine aw_goto (tgt := 54) d_X12_tell_50 rfl ?_
      refine aw_istore [(0, .ref 1), (3, .int x3), (4, .int 1)] d_X12_tell_54 (Nat.le_of_ble_eq_true rfl) rfl rfl ?_
      refine aw_aload_n (i := 0) rfl d_X12_tell_56 0 rfl ?_
      refine aw_Vi 1 [] [] d_X12_tell_57 (cV_X12_work (d + 3) 0 0) kc_12 (ws_1 w5) tw_2428 rfl (rr0 (Nat.le_of_ble_eq_true rfl) (Nat.le_of_ble_eq_true rfl)) (Nat.le_of_ble_eq_true rfl) xs0 k (fun r14 h12 kk => ?_)
      obtain ⟨w13, k⟩ := kk
      refine aw_istore [(0, .ref 1), (3, .int x3), (4, .int 1), (5, .int r14)] d_X12_tell_60 (Nat.le_of_ble_eq_true rfl) rfl rfl ?_
      refine aw_iload d_X12_tell_62 2 rfl ?_
      refine aw_if_eq (tgt := 70) d_X12_tell_64 rfl (fun c => absurd c (by decide)) (fun _ => ?_)
      refine aw_iload d_X12_tell_67 3 rfl ?_
      exact aw_iret rfl d_X12_tell_69 ⟨Nat.le_refl _, Nat.le_refl _⟩ ⟨_, rfl, k⟩
end
section
/-! the reference's texts at work: long min and max, both, work, tell -/
theorem mw_minL : Cond.code Lib.MathLoose.min_long.x Lib.MathLoose.min_long.code 4 (some .long) ∈ lw_g := tw_2442
theorem mw_maxL : Cond.code Lib.MathLoose.max_long.x Lib.MathLoose.max_long.code 4 (some .long) ∈ lw_g := tw_2445
theorem aw_lmin {M : Mc_} {kc ks pc : Nat} {lv : List (Nat × Value)} {rest : List Value} {h : Hp_} {K : Option Value → Hp_ → Prop} {idx : Nat} {x y : Int64} (hd : decode (mC M) pc = .ok (.invokestatic idx, 3)) (hlk : Cond.methodLink (mY M).cls idx Lib.MathLoose.min_long.x ∈ lw_g) (hfr : 1 ≤ (mR M).frames) (hlo : (rest.map (fun v => v.category)).sum + 15 ≤ (mR M).locals) (hk : kc ≤ (mR M).cells ∧ ks ≤ (mR M).slots) (k : AW M kc ks (pc + 3) lv (.long (if y < x then y else x) :: rest) h K) : AW M kc ks pc lv (.long y :: .long x :: rest) h K := by
  intro l p e s m args below meth c dC dI cy A ad0 adV ad dom0 dom H locs ls hf hX hT hE hW hS hl ho hs
  exact va_mmin_long hf.1 hf.2.1 (hf.2.2.1.trans hl.1.symm) hf.2.2.2.2.2.1 (hf.2.2.2.2.2.2.2.1 _ hlk) (hf.2.2.2.2.2.2.2.1 _ tw_2441) (hf.2.2.2.2.2.2.2.1 _ tw_14) (hf.2.2.2.2.2.2.2.1 _ mw_minL) hfr (by rw [cat_cv]; exact hlo) hk.1 hk.2 hd (k l p e s m args below meth c dC dI cy A ad0 adV ad dom0 dom H locs ls hf hX hT hE hW hS hl ho (ok_c ok_l (ok_t (ok_t hs))))
theorem aw_lmax {M : Mc_} {kc ks pc : Nat} {lv : List (Nat × Value)} {rest : List Value} {h : Hp_} {K : Option Value → Hp_ → Prop} {idx : Nat} {x y : Int64} (hd : decode (mC M) pc = .ok (.invokestatic idx, 3)) (hlk : Cond.methodLink (mY M).cls idx Lib.MathLoose.max_long.x ∈ lw_g) (hfr : 1 ≤ (mR M).frames) (hlo : (rest.map (fun v => v.category)).sum + 15 ≤ (mR M).locals) (hk : kc ≤ (mR M).cells ∧ ks ≤ (mR M).slots) (k : AW M kc ks (pc + 3) lv (.long (if y < x then x else y) :: rest) h K) : AW M kc ks pc lv (.long y :: .long x :: rest) h K := by
  intro l p e s m args below meth c dC dI cy A ad0 adV ad dom0 dom H locs ls hf hX hT hE hW hS hl ho hs
  exact va_mmax_long hf.1 hf.2.1 (hf.2.2.1.trans hl.1.symm) hf.2.2.2.2.2.1 (hf.2.2.2.2.2.2.2.1 _ hlk) (hf.2.2.2.2.2.2.2.1 _ tw_2444) (hf.2.2.2.2.2.2.2.1 _ tw_14) (hf.2.2.2.2.2.2.2.1 _ mw_maxL) hfr (by rw [cat_cv]; exact hlo) hk.1 hk.2 hd (k l p e s m args below meth c dC dI cy A ad0 adV ad dom0 dom H locs ls hf hX hT hE hW hS hl ho (ok_c ok_l (ok_t (ok_t hs))))
noncomputable def bndv (v : Int64) : Int32 := (if (if v < (1000000 : Int64) then v else (1000000 : Int64)) < (-1000000 : Int64) then (-1000000 : Int64) else (if v < (1000000 : Int64) then v else (1000000 : Int64))).toInt32
theorem c_bounded (d : Nat) (h : Hp_) (v : Int64) : Ci (m_X12_bounded (d + 1) 0 0) [.long v] h (fun r h' => r = bndv v ∧ h' = h) := by
  refine Ct.of (fun _ _ _ => trivial) pn_X12 (Nat.le_of_ble_eq_true rfl) ?_
  show AW (m_X12_bounded (d + 1) 0 0) 0 0 0 [(0, .long v)] [] h (kI _)
  refine aw_ldc2 (v := (-1000000)) d_X12_bounded_0 tw_2438 ?_
  refine aw_ldc2 (v := 1000000) d_X12_bounded_3 tw_2439 ?_
  refine aw_lload_n (i := 0) rfl d_X12_bounded_6 0 rfl ?_
  refine aw_lmin d_X12_bounded_7 tw_2440 (show 1 ≤ d + 1 by omega) (Nat.le_trans (Nat.le_of_ble_eq_true rfl) (show 100 ≤ 100 * (d + 1) by omega)) ⟨Nat.le_refl _, Nat.le_refl _⟩ ?_
  refine aw_lmax d_X12_bounded_10 tw_2443 (show 1 ≤ d + 1 by omega) (Nat.le_trans (Nat.le_of_ble_eq_true rfl) (show 100 ≤ 100 * (d + 1) by omega)) ⟨Nat.le_refl _, Nat.le_refl _⟩ ?_
  refine aw_l2i d_X12_bounded_13 ?_
  exact aw_iret rfl d_X12_bounded_14 ⟨Nat.le_refl _, Nat.le_refl _⟩ ⟨_, rfl, rfl, rfl⟩
/-- what a sign makes of two numbers -/
noncomputable def bothv (c a b : Int32) : Int32 :=
  if c = 38 then (if a = 0 then 0 else if b = 0 then 0 else 1)
  else if c = 42 then bndv (a.toInt64 * b.toInt64)
  else if c = 43 then bndv (a.toInt64 + b.toInt64)
  else if c = 45 then bndv (a.toInt64 - b.toInt64)
  else if c = 60 then (if b ≤ a then 0 else 1)
  else if c = 61 then (if a = b then 1 else 0)
  else if c = 62 then (if a ≤ b then 0 else 1)
  else (if a = 0 then (if b = 0 then 0 else 1) else 1)
theorem c_both (d : Nat) (h : Hp_) (w : Wf h) (c a b : Int32) : Ci (m_X12_both (d + 2) 0 0) [.int c, .int a, .int b] h (fun r h' => r = bothv c a b ∧ h' = h) := by
  have bd : ∀ v, Ci (m_X12_bounded (d + 1) 0 0) [.long v] h (fun r h' => Wf h' ∧ r = bndv v ∧ h' = h) := fun v => Ci.mono (c_bounded d h v) (fun r h' e => ⟨by rw [e.2]; exact w, e⟩)
  refine t_X12_both d h c a b _ ⟨fun e => ⟨fun y => ⟨?_, rfl⟩, fun y => ⟨fun z => ⟨?_, rfl⟩, fun z => ⟨?_, rfl⟩⟩⟩, fun e => ?_, fun e => ?_, fun e => ?_, fun e => ⟨fun y => ⟨?_, rfl⟩, fun y => ⟨?_, rfl⟩⟩, fun e => ⟨fun y => ⟨?_, rfl⟩, fun y => ⟨?_, rfl⟩⟩, fun e => ⟨fun y => ⟨?_, rfl⟩, fun y => ⟨?_, rfl⟩⟩, fun e => ⟨fun y => ⟨?_, rfl⟩, fun y => ⟨fun z => ⟨?_, rfl⟩, fun z => ⟨?_, rfl⟩⟩⟩⟩
  · unfold bothv; rw [if_pos e, if_pos y]
  · unfold bothv; rw [if_pos e, if_neg y, if_pos z]
  · unfold bothv; rw [if_pos e, if_neg y, if_neg z]
  · subst e; exact Ci.mono (bd _) (fun r h' q => ⟨q.1, by unfold bothv; rw [if_neg (by decide), if_pos rfl]; exact q.2⟩)
  · subst e; exact Ci.mono (bd _) (fun r h' q => ⟨q.1, by unfold bothv; rw [if_neg (by decide), if_neg (by decide), if_pos rfl]; exact q.2⟩)
  · subst e; exact Ci.mono (bd _) (fun r h' q => ⟨q.1, by unfold bothv; rw [if_neg (by decide), if_neg (by decide), if_neg (by decide), if_pos rfl]; exact q.2⟩)
  · subst e; unfold bothv; rw [if_neg (by decide), if_neg (by decide), if_neg (by decide), if_neg (by decide), if_pos rfl, if_pos y]
  · subst e; unfold bothv; rw [if_neg (by decide), if_neg (by decide), if_neg (by decide), if_neg (by decide), if_pos rfl, if_neg y]
  · subst e; unfold bothv; rw [if_neg (by decide), if_neg (by decide), if_neg (by decide), if_neg (by decide), if_neg (by decide), if_pos rfl, if_neg y]
  · subst e; unfold bothv; rw [if_neg (by decide), if_neg (by decide), if_neg (by decide), if_neg (by decide), if_neg (by decide), if_pos rfl, if_pos y]
  · subst e; unfold bothv; rw [if_neg (by decide), if_neg (by decide), if_neg (by decide), if_neg (by decide), if_neg (by decide), if_neg (by decide), if_pos rfl, if_pos y]
  · subst e; unfold bothv; rw [if_neg (by decide), if_neg (by decide), if_neg (by decide), if_neg (by decide), if_neg (by decide), if_neg (by decide), if_pos rfl, if_neg y]
  · unfold bothv; rw [if_neg e.1, if_neg e.2.1, if_neg e.2.2.1, if_neg e.2.2.2.1, if_neg e.2.2.2.2.1, if_neg e.2.2.2.2.2.1, if_neg e.2.2.2.2.2.2, if_neg y]
  · unfold bothv; rw [if_neg e.1, if_neg e.2.1, if_neg e.2.2.1, if_neg e.2.2.2.1, if_neg e.2.2.2.2.1, if_neg e.2.2.2.2.2.1, if_neg e.2.2.2.2.2.2, if_pos y, if_pos z]
  · unfold bothv; rw [if_neg e.1, if_neg e.2.1, if_neg e.2.2.1, if_neg e.2.2.2.1, if_neg e.2.2.2.2.1, if_neg e.2.2.2.2.2.1, if_neg e.2.2.2.2.2.2, if_pos y, if_neg z]
/-- a told sum or condition, worked out: g codes from place i on, the pile p, n high -/
noncomputable def upp (p : Nat → Int32) (n : Nat) (v : Int32) : Nat → Int32 := fun k => if k = n then v else p k
noncomputable def wev (cd lt : Nat → Int32) : Nat → Nat → Nat → (Nat → Int32) → Int32
  | 0, _, _, p => p 0
  | g + 1, i, n, p =>
    if cd i = 0 then wev cd lt g (i + 2) (n + 1) (upp p n (cd (i + 1)))
    else if cd i = 1 then wev cd lt g (i + 2) (n + 1) (upp p n (lt (cd (i + 1)).toNatClampNeg))
    else if cd i = 33 then wev cd lt g (i + 1) n (upp p (n - 1) (if p (n - 1) = 0 then 1 else 0))
    else wev cd lt g (i + 1) (n - 1) (upp p (n - 2) (bothv (cd i) (p (n - 2)) (p (n - 1))))
theorem pst_le {s : Nat} {cd : Nat → Int32} {i n i' n' : Nat} (h : pst s cd i n = some (i', n')) : i < i' ∧ i' ≤ i + 2 := by
  unfold pst at h
  split at h
  · split at h
    · cases h; omega
    · cases h
  · split at h
    · split at h
      · cases h; omega
      · cases h
    · split at h
      · split at h
        · cases h; omega
        · cases h
      · split at h
        · cases h
        · split at h
          · cases h; omega
          · cases h
theorem prun_le {s : Nat} {cd : Nat → Int32} : ∀ {g i n j m : Nat}, prun s cd g i n j m → i + g ≤ j
  | 0, _, _, _, _, h => by have := h.1; omega
  | g + 1, i, n, j, m, h => by
    obtain ⟨i', n', h1, h2⟩ := h
    have := pst_le h1
    have := prun_le h2
    omega
theorem okl_rg {s : Nat} {c : Int32} (h : okl s c = true) : rin c.toInt (0, 127) := by
  unfold okl at h
  obtain ⟨x, hx, e⟩ := List.any_eq_true.mp h
  have e := of_decide_eq_true e
  subst e
  have a1 : ([99, 116, 107, 119, 112, 104, 100, 110, 101] : List Int32).all (fun x => decide (0 ≤ x.toInt ∧ x.toInt ≤ 127)) = true := by decide
  have a2 : ([99, 116, 121, 109, 120, 97] : List Int32).all (fun x => decide (0 ≤ x.toInt ∧ x.toInt ≤ 127)) = true := by decide
  cases z : Nat.beq s 1 with
  | true =>
    rw [z] at hx
    have z2 : 0 ≤ x.toInt ∧ x.toInt ≤ 127 := of_decide_eq_true (List.all_eq_true.mp a1 x hx)
    exact z2
  | false =>
    rw [z] at hx
    have z2 : 0 ≤ x.toInt ∧ x.toInt ≤ 127 := of_decide_eq_true (List.all_eq_true.mp a2 x hx)
    exact z2
theorem on_j {n : Nat} (h : n ≤ 1000000) : (Int32.ofNat n).toInt = (n : Int) := Int32.toInt_ofNat_of_lt (by omega)
theorem on_k {n : Nat} (h : n ≤ 1000000) : (Int32.ofNat n).toNatClampNeg = n := by
  show (Int32.ofNat n).toInt.toNat = n
  rw [on_j h]; rfl
theorem on_s {n : Nat} (h : n < 1000000) : Int32.ofNat n + 1 = Int32.ofNat (n + 1) := by
  refine Int32.toInt_inj.mp ?_
  have t1 : (1 : Int32).toInt = 1 := rfl
  rw [tx_add (by rw [t1, on_j (by omega)]; omega) (by rw [t1, on_j (by omega)]; omega), on_j (by omega), on_j (by omega), t1]
  omega
theorem on_p {n : Nat} (h : n < 1000000) : Int32.ofNat (n + 1) - 1 = Int32.ofNat n := by
  refine Int32.toInt_inj.mp ?_
  have t1 : (1 : Int32).toInt = 1 := rfl
  rw [tx_sub (by rw [t1, on_j (by omega)]; omega) (by rw [t1, on_j (by omega)]; omega), on_j (by omega), on_j (by omega), t1]
  omega
theorem on_m {n : Nat} (h : n < 1000000) : Int32.ofNat (n + 1) + (-1) = Int32.ofNat n := by
  refine Int32.toInt_inj.mp ?_
  have t1 : (-1 : Int32).toInt = -1 := rfl
  rw [tx_add (by rw [t1, on_j (by omega)]; omega) (by rw [t1, on_j (by omega)]; omega), on_j (by omega), on_j (by omega), t1]
  omega
theorem on_in {n N : Nat} (h : n < N) (hN : N ≤ 1000000) : vp_in (Int32.ofNat n) N := dp_in (lo := 0) (hi := (N : Int) - 1) ⟨by rw [on_j (by omega)]; show (0 : Int) ≤ _; omega, by rw [on_j (by omega)]; show _ ≤ (N : Int) - 1; omega⟩ (by omega) (by omega)
noncomputable def wzw : List Nat := [1052, 237999]
theorem t237 : tfa 237 = some rtop := by decide +kernel
/-- what stands while a text is worked -/
noncomputable def Ws (h0 : Hp_) (cd lt : Nat → Int32) (i : Nat) (h : Hp_) : Prop := Iv h ∧ Fr wzw h0 h ∧ h_i h 231 = cd ∧ h_i h 236 = lt ∧ h_i h 1 52 = Int32.ofNat i
theorem Ws.rd {h0 h : Hp_} {cd lt : Nat → Int32} {i : Nat} (W : Ws h0 cd lt i h) (i' : Nat) : Ws h0 cd lt i' (h_im h 1 52 (Int32.ofNat i')) :=
  ⟨W.1.im (by rw [show tf 1 52 = rtop by decide +kernel]; exact rtop_in _) (by decide), W.2.1.im (by decide +kernel), by rw [← W.2.2.1]; exact funext (fun k => by rw [h_i_im, if_neg (fun z => absurd z.1 (by decide))]), by rw [← W.2.2.2.1]; exact funext (fun k => by rw [h_i_im, if_neg (fun z => absurd z.1 (by decide))]), by rw [h_i_im, if_pos ⟨rfl, rfl⟩]⟩
theorem Ws.pl {h0 h : Hp_} {cd lt : Nat → Int32} {i : Nat} (W : Ws h0 cd lt i h) (k : Nat) (v : Int32) : Ws h0 cd lt i (h_im h 237 k v) :=
  ⟨W.1.im (by rw [tfa_tf t237]; exact rtop_in _) (jw_jr (by decide) (by decide) _), W.2.1.im (inw_row (by decide +kernel) _), by rw [← W.2.2.1]; exact funext (fun j => by rw [h_i_im, if_neg (fun z => absurd z.1 (by decide))]), by rw [← W.2.2.2.1]; exact funext (fun j => by rw [h_i_im, if_neg (fun z => absurd z.1 (by decide))]), by rw [h_i_im, if_neg (fun z => absurd z.1 (by decide))]; exact W.2.2.2.2⟩
theorem pl_is (h : Hp_) (k : Nat) (v : Int32) : h_i (h_im h 237 k v) 237 = upp (h_i h 237) k v := funext (fun j => by
  rw [h_i_im]
  unfold upp
  by_cases e : j = k
  · rw [if_pos ⟨rfl, e⟩, if_pos e]
  · rw [if_neg (fun z => e z.2), if_neg e])
theorem pl_rd (h : Hp_) (v : Int32) : h_i (h_im h 1 52 v) 237 = h_i h 237 := funext (fun j => by rw [h_i_im, if_neg (fun z => absurd z.1 (by decide))])
end
section
/-! work and tell of the reference -/
theorem pst_0 {s : Nat} {cd : Nat → Int32} {i n i' n' : Nat} (h : pst s cd i n = some (i', n')) : (cd i = 0 ∧ n < 199 ∧ i' = i + 2 ∧ n' = n + 1) ∨ (cd i = 1 ∧ n < 199 ∧ okl s (cd (i + 1)) = true ∧ i' = i + 2 ∧ n' = n + 1) ∨ (cd i = 33 ∧ 1 ≤ n ∧ i' = i + 1 ∧ n' = n) ∨ ((¬ cd i = 0 ∧ ¬ cd i = 1 ∧ ¬ cd i = 33 ∧ ¬ cd i = 2 ∧ ¬ cd i = 3) ∧ 2 ≤ n ∧ i' = i + 1 ∧ n' = n - 1) := by
  unfold pst at h
  split at h
  · rename_i e
    split at h
    · cases h; exact Or.inl ⟨e, by assumption, rfl, rfl⟩
    · cases h
  · rename_i e0
    split at h
    · rename_i e
      split at h
      · rename_i y
        cases h; exact Or.inr (Or.inl ⟨e, y.1, y.2, rfl, rfl⟩)
      · cases h
    · rename_i e1
      split at h
      · rename_i e
        split at h
        · cases h; exact Or.inr (Or.inr (Or.inl ⟨e, by assumption, rfl, rfl⟩))
        · cases h
      · rename_i e33
        split at h
        · cases h
        · rename_i e23
          split at h
          · cases h; exact Or.inr (Or.inr (Or.inr ⟨⟨e0, e1, e33, fun z => e23 (Or.inl z), fun z => e23 (Or.inr z)⟩, by assumption, rfl, rfl⟩))
          · cases h
theorem wev_s (cd lt : Nat → Int32) (g i n : Nat) (p : Nat → Int32) : wev cd lt (g + 1) i n p = if cd i = 0 then wev cd lt g (i + 2) (n + 1) (upp p n (cd (i + 1)))
    else if cd i = 1 then wev cd lt g (i + 2) (n + 1) (upp p n (lt (cd (i + 1)).toNatClampNeg))
    else if cd i = 33 then wev cd lt g (i + 1) n (upp p (n - 1) (if p (n - 1) = 0 then 1 else 0))
    else wev cd lt g (i + 1) (n - 1) (upp p (n - 2) (bothv (cd i) (p (n - 2)) (p (n - 1)))) := rfl
theorem wk_loop (d s : Nat) (h0 : Hp_) (cd lt : Nat → Int32) (j : Nat) (hj : j < 22400) (hend : cd j = 2 ∨ cd j = 3) : ∀ (g i n : Nat) (h : Hp_), prun s cd g i n j 1 → n ≤ 199 → Ws h0 cd lt i h →
    AW (m_X12_work (d + 3) 0 0) 0 0 2 [(0, .ref 1), (1, .int (Int32.ofNat n))] [] h (kI (fun r h' => Ws h0 cd lt (j + 1) h' ∧ r = wev cd lt g i n (h_i h 237))) := by
  intro g
  induction g with
  | zero =>
    intro i n h hp hn W
    obtain ⟨e1, e2⟩ := hp
    subst e1 e2
    obtain ⟨I, F, ec, el, er⟩ := W
    have z0 : (0 : Int32).toNatClampNeg = 0 := by simp
    have v0 : vp_in 0 200 := dp_in (lo := 0) (hi := 0) ⟨by decide, by decide⟩ (by decide) (by decide)
    have fin : Ws h0 cd lt (i + 1) (h_im h 1 52 ((h_i h 1 52) + 1)) := by
      rw [er, on_s (by omega)]
      exact Ws.rd (i := i) ⟨I, F, ec, el, er⟩ (i + 1)
    have hv : vp_in (h_i h 1 52) 22400 := by rw [er]; exact on_in hj (by decide)
    have ex : h_i h 231 (h_i h 1 52).toNatClampNeg = cd i := by rw [er, on_k (by omega), ec]
    refine t_X12_work_2 d h I.1 _ _ ⟨hv, fun _ => ⟨v0, fin, by rw [z0]; rfl⟩, fun c2 => ⟨hv, fun _ => ⟨v0, fin, by rw [z0]; rfl⟩, fun c3 => ?_⟩⟩
    rw [ex] at c2 c3
    rcases hend with z | z
    · exact absurd z c2
    · exact absurd z c3
  | succ g ih =>
    intro i n h hp hn W
    obtain ⟨i', n', hs, hp⟩ := hp
    have le := prun_le hp
    have W' := W
    obtain ⟨I, F, ec, el, er⟩ := W
    have li := pst_le hs
    have hv : vp_in (h_i h 1 52) 22400 := by rw [er]; exact on_in (by omega) (by decide)
    have ex : h_i h 231 (h_i h 1 52).toNatClampNeg = cd i := by rw [er, on_k (by omega), ec]
    have er1 : h_i h 1 52 + 1 = Int32.ofNat (i + 1) := by rw [er, on_s (by omega)]
    have hv1 : i + 1 < 22400 → vp_in (h_i h 1 52 + 1) 22400 := fun z => by rw [er1]; exact on_in z (by decide)
    have ex1 : h_i h 231 (h_i h 1 52 + 1).toNatClampNeg = cd (i + 1) := by rw [er1, on_k (by omega), ec]
    have cn : (Int32.ofNat n).toNatClampNeg = n := on_k (by omega)
    refine t_X12_work_2 d h I.1 _ _ ⟨hv, fun c2 => ?_, fun c2 => ⟨hv, fun c3 => ?_, fun c3 => ⟨hv, fun c0 => ⟨fun y => absurd c0 y, fun _ => ?_⟩, fun c0 => ⟨fun c1 => ⟨fun c33 => ?_, fun c33 => ?_⟩, fun c1 => ⟨fun _ => ?_, fun y => absurd y c0⟩⟩⟩⟩⟩
    · rw [ex] at c2
      unfold pst at hs
      rw [if_neg (by rw [c2]; decide), if_neg (by rw [c2]; decide), if_neg (by rw [c2]; decide), if_pos (Or.inl c2)] at hs
      cases hs
    · rw [ex] at c3
      unfold pst at hs
      rw [if_neg (by rw [c3]; decide), if_neg (by rw [c3]; decide), if_neg (by rw [c3]; decide), if_pos (Or.inr c3)] at hs
      cases hs
    · rw [ex] at c0
      rcases pst_0 hs with ⟨_, q1, q2, q3⟩ | ⟨q, _⟩ | ⟨q, _⟩ | ⟨q, _⟩
      · subst q2 q3
        refine ⟨hv1 (by omega), on_in (by omega) (by decide), ?_⟩
        rw [er1, on_s (by omega), on_s (by omega), cn]
        have e1 : h_i h 231 (Int32.ofNat (i + 1)).toNatClampNeg = cd (i + 1) := by rw [← er1]; exact ex1
        rw [e1]
        refine AW.mono (ih (i + 2) (n + 1) _ hp (by omega) (((W'.rd (i + 1)).pl n (cd (i + 1))).rd (i + 2))) (fun v h' q => ?_)
        obtain ⟨r, ev, q1, q2⟩ := q
        refine ⟨r, ev, q1, ?_⟩
        rw [q2, pl_rd, pl_is, pl_rd]
        show _ = wev cd lt (g + 1) i n (h_i h 237)
        rw [wev_s, if_pos c0]
      · rw [c0] at q; exact absurd q (by decide)
      · rw [c0] at q; exact absurd q (by decide)
      · exact absurd c0 q.1
    · rw [ex] at c0 c1 c33 c2 c3
      rcases pst_0 hs with ⟨q, _⟩ | ⟨q, _⟩ | ⟨q, _⟩ | ⟨_, q1, q2, q3⟩
      · exact absurd q c0
      · exact absurd q c1
      · exact absurd q c33
      · subst q2 q3
        obtain ⟨m, em⟩ : ∃ m, n = m + 2 := ⟨n - 2, by omega⟩
        subst em
        have a1 : Int32.ofNat (m + 2) + (-1) = Int32.ofNat (m + 1) := on_m (n := m + 1) (by omega)
        have a2 : Int32.ofNat (m + 1) - 1 = Int32.ofNat m := on_p (by omega)
        rw [a1, a2, on_k (n := m) (by omega), on_k (n := m + 1) (by omega), ex, er1]
        refine ⟨on_in (by omega) (by decide), on_in (by omega) (by decide), ?_⟩
        refine Ci.mono (c_both d _ (W'.rd (i + 1)).1.1 _ _ _) (fun r h9 q => ?_)
        obtain ⟨q1, q2⟩ := q
        subst q2
        refine ⟨(W'.rd (i + 1)).1.1, on_in (by omega) (by decide), ?_⟩
        refine AW.mono (ih (i + 1) (m + 1) _ hp (by omega) ((W'.rd (i + 1)).pl m r)) (fun v h' q => ?_)
        obtain ⟨r', ev, q3, q4⟩ := q
        refine ⟨r', ev, q3, ?_⟩
        rw [q4, pl_is, pl_rd, q1]
        show _ = wev cd lt (g + 1) i (m + 2) (h_i h 237)
        rw [wev_s, if_neg c0, if_neg c1, if_neg c33]
        rfl
    · rw [ex] at c0 c1 c33 c2 c3
      rcases pst_0 hs with ⟨q, _⟩ | ⟨q, _⟩ | ⟨_, q1, q2, q3⟩ | ⟨q, _⟩
      · exact absurd q c0
      · exact absurd q c1
      · subst q2 q3
        obtain ⟨m, em⟩ : ∃ m, n' = m + 1 := ⟨n' - 1, by omega⟩
        subst em
        have a2 : Int32.ofNat (m + 1) - 1 = Int32.ofNat m := on_p (by omega)
        rw [a2, on_k (n := m) (by omega), er1]
        have fin : ∀ x : Int32, x = (if h_i h 237 m = 0 then 1 else 0) → AW (m_X12_work (d + 3) 0 0) 0 0 2 [(0, .ref 1), (1, .int (Int32.ofNat (m + 1)))] [] (h_im (h_im h 1 52 (Int32.ofNat (i + 1))) 237 m x) (kI (fun r h' => Ws h0 cd lt (j + 1) h' ∧ r = wev cd lt (g + 1) i (m + 1) (h_i h 237))) := by
          intro x hx
          refine AW.mono (ih (i + 1) (m + 1) _ hp (by omega) ((W'.rd (i + 1)).pl m x)) (fun v h' q => ?_)
          obtain ⟨r', ev, q3, q4⟩ := q
          refine ⟨r', ev, q3, ?_⟩
          rw [q4, pl_is, pl_rd, hx]
          show _ = wev cd lt (g + 1) i (m + 1) (h_i h 237)
          rw [wev_s, if_neg c0, if_neg c1, if_pos c33]
          rfl
        exact ⟨on_in (by omega) (by decide), fun y => ⟨on_in (by omega) (by decide), fin 0 (by rw [if_neg y])⟩, fun y => ⟨on_in (by omega) (by decide), fin 1 (by rw [if_pos y])⟩⟩
      · exact absurd c33 q.2.2.1
    · rw [ex] at c1
      rcases pst_0 hs with ⟨q, _⟩ | ⟨_, q1, qk, q2, q3⟩ | ⟨q, _⟩ | ⟨q, _⟩
      · rw [c1] at q; exact absurd q (by decide)
      · subst q2 q3
        have rg := okl_rg qk
        refine ⟨hv1 (by omega), by rw [ex1]; exact dp_in rg (by decide) (by decide), on_in (by omega) (by decide), ?_⟩
        rw [ex1, er1, on_s (by omega), on_s (by omega), cn]
        refine AW.mono (ih (i + 2) (n + 1) _ hp (by omega) (((W'.rd (i + 1)).pl n (h_i h 236 (cd (i + 1)).toNatClampNeg)).rd (i + 2))) (fun v h' q => ?_)
        obtain ⟨r, ev, q1, q2⟩ := q
        refine ⟨r, ev, q1, ?_⟩
        rw [q2, pl_rd, pl_is, pl_rd, el]
        show _ = wev cd lt (g + 1) i n (h_i h 237)
        rw [wev_s, if_neg (by rw [c1]; decide), if_pos c1]
      · rw [c1] at q; exact absurd q (by decide)
      · exact absurd c1 q.2.1
theorem c_work (d s : Nat) (h0 : Hp_) (cd lt : Nat → Int32) {j g i : Nat} (hj : j < 22400) (hend : cd j = 2 ∨ cd j = 3) {h : Hp_} (hp : prun s cd g i 0 j 1) (W : Ws h0 cd lt i h) : Ci (m_X12_work (d + 3) 0 0) [.ref 1] h (fun r h' => Ws h0 cd lt (j + 1) h' ∧ r = wev cd lt g i 0 (h_i h 237)) :=
  t_X12_work d h _ (wk_loop d s h0 cd lt j hj hend g i 0 h hp (by omega) W)
end
section
/-! tell of the reference -/
theorem wev_ind {s : Nat} {cd lt lt' : Nat → Int32} {j : Nat} (hl : ∀ c, okl s c = true → lt c.toNatClampNeg = lt' c.toNatClampNeg) : ∀ (g i n : Nat) (p p' : Nat → Int32), prun s cd g i n j 1 → (∀ k, k < n → p k = p' k) → wev cd lt g i n p = wev cd lt' g i n p' := by
  intro g
  induction g with
  | zero =>
    intro i n p p' h e
    have := h.2
    exact e 0 (by omega)
  | succ g ih =>
    intro i n p p' h e
    obtain ⟨i', n', hs, hp⟩ := h
    rw [wev_s, wev_s]
    rcases pst_0 hs with ⟨c, q1, q2, q3⟩ | ⟨c, q1, qk, q2, q3⟩ | ⟨c, q1, q2, q3⟩ | ⟨c, q1, q2, q3⟩
    · subst q2 q3
      rw [if_pos c, if_pos c]
      refine ih _ _ _ _ hp (fun k hk => ?_)
      unfold upp
      split
      · rfl
      · exact e k (by omega)
    · subst q2 q3
      have c0 : ¬ cd i = 0 := by rw [c]; decide
      rw [if_neg c0, if_neg c0, if_pos c, if_pos c]
      refine ih _ _ _ _ hp (fun k hk => ?_)
      unfold upp
      split
      · exact hl _ qk
      · exact e k (by omega)
    · subst q2 q3
      have c0 : ¬ cd i = 0 := by rw [c]; decide
      have c1 : ¬ cd i = 1 := by rw [c]; decide
      rw [if_neg c0, if_neg c0, if_neg c1, if_neg c1, if_pos c, if_pos c]
      refine ih _ _ _ _ hp (fun k hk => ?_)
      unfold upp
      rw [e _ (show n' - 1 < n' by omega)]
      split
      · rfl
      · exact e k (by omega)
    · subst q2 q3
      rw [if_neg c.1, if_neg c.1, if_neg c.2.1, if_neg c.2.1, if_neg c.2.2.1, if_neg c.2.2.1]
      refine ih _ _ _ _ hp (fun k hk => ?_)
      unfold upp
      rw [e _ (show n - 1 < n by omega), e _ (show n - 2 < n by omega)]
      split
      · rfl
      · exact e k (by omega)
/-- what a text tells: the answer of the first clause whose condition holds -/
noncomputable def tel (s : Nat) (cd lt : Nat → Int32) : Nat → Nat → Nat → Int32 → Prop
  | 0, _, _, v => v = 0
  | f + 1, i, e, v => ∃ j k g1 g2, prun s cd g1 i 0 j 1 ∧ cd j = 2 ∧ prun s cd g2 (j + 1) 0 k 1 ∧ cd k = 3 ∧ ((¬ wev cd lt g1 i 0 (fun _ => 0) = 0 ∧ v = wev cd lt g2 (j + 1) 0 (fun _ => 0)) ∨ (wev cd lt g1 i 0 (fun _ => 0) = 0 ∧ tel s cd lt f (k + 1) e v))
theorem pcl_le {s : Nat} {cd : Nat → Int32} : ∀ {f i e : Nat}, pcl s cd f i e → i ≤ e
  | 0, _, _, h => by have : _ = _ := h; omega
  | f + 1, i, e, h => by
    obtain ⟨j, k, ⟨g1, p1⟩, _, ⟨g2, p2⟩, _, h2⟩ := h
    have := prun_le p1
    have := prun_le p2
    have := pcl_le h2
    omega
theorem tl_loop (d s t e : Nat) (h0 : Hp_) (cd lt : Nat → Int32) (ht : t < 40) (he : e ≤ 22400) :
    ∀ (f i : Nat) (h : Hp_), pcl s cd f i e → Ws h0 cd lt i h → 560 * t + (h_i h0 232 t).toNatClampNeg = e → AW (m_X12_tell (d + 4) 0 0) 0 0 23 [(0, .ref 1), (3, .int (Int32.ofNat t))] [] h (kI (fun r h' => Iv h' ∧ Fr wzw h0 h' ∧ tel s cd lt f i e r)) := by
  have key : ∀ (i : Nat) (h : Hp_), Ws h0 cd lt i h → 560 * t + (h_i h0 232 t).toNatClampNeg = e → i ≤ 22400 → ((560 * Int32.ofNat t + h_i h 232 (Int32.ofNat t).toNatClampNeg).toInt = (e : Int) ∧ (h_i h 1 52).toInt = (i : Int)) := by
    intro i h W e1 li
    have t560 : (560 : Int32).toInt = 560 := rfl
    have sz : rin (h_i h 232 t).toInt (0, 560) := by
      have := W.1.2.1 232 t
      rwa [tfa_tf (show tfa 232 = some (0, 560) by decide +kernel)] at this
    have s0 : 0 ≤ (h_i h 232 t).toInt := sz.1
    have s1 : (h_i h 232 t).toInt ≤ 560 := sz.2
    have es : h_i h 232 t = h_i h0 232 t := (W.2.1.2 232 t (by
      cases q : inw wzw 232 t with
      | false => rfl
      | true =>
        exfalso
        have o : off wzw 232 = true := by decide +kernel
        rw [off_inw o] at q; cases q)).1
    have en : ((h_i h 232 t).toNatClampNeg : Int) = (h_i h 232 t).toInt := n_nat s0
    rw [← es] at e1
    have m1 : (560 * Int32.ofNat t).toInt = 560 * (t : Int) := by rw [tx_mul (by rw [t560, on_j (by omega)]; omega) (by rw [t560, on_j (by omega)]; omega), t560, on_j (by omega)]
    rw [on_k (by omega), tx_add (by omega) (by omega), m1, W.2.2.2.2, on_j (by omega)]
    omega
  intro f
  induction f with
  | zero =>
    intro i h hp W e1
    have hp : i = e := hp
    obtain ⟨k1, k2⟩ := key i h W e1 (by omega)
    refine t_X12_tell_23 d h W.1.1 _ _ ⟨on_in ht (by decide), fun _ => ⟨W.1, W.2.1, rfl⟩, fun z => ?_⟩
    have z := q_nle z
    omega
  | succ f ih =>
    intro i h hp W e1
    obtain ⟨j, k, ⟨g1, p1⟩, cj, ⟨g2, p2⟩, ck, hp2⟩ := hp
    have l1 := prun_le p1
    have l2 := prun_le p2
    have l3 := pcl_le hp2
    obtain ⟨k1, k2⟩ := key i h W e1 (by omega)
    have ind := fun (lt' : Nat → Int32) (p : Nat → Int32) (g i j : Nat) (q : prun s cd g i 0 j 1) => wev_ind (s := s) (cd := cd) (lt := lt) (lt' := lt) (fun _ _ => rfl) g i 0 p (fun _ => 0) q (fun k hk => absurd hk (Nat.not_lt_zero k))
    refine t_X12_tell_23 d h W.1.1 _ _ ⟨on_in ht (by decide), fun z => ?_, fun _ => ?_⟩
    · have z := q_le.mp z
      omega
    · refine Ci.mono (c_work d s h0 cd lt (by omega) (Or.inl cj) p1 W) (fun r h1 q => ?_)
      obtain ⟨W1, e2⟩ := q
      rw [ind lt _ g1 i j p1] at e2
      refine ⟨W1.1.1, fun z => ?_, fun z => ?_⟩
      · refine Ci.mono (c_work d s h0 cd lt (by omega) (Or.inr ck) p2 W1) (fun r2 h2 q2 => ?_)
        obtain ⟨W2, _⟩ := q2
        refine ⟨W2.1.1, AW.mono (ih (k + 1) h2 hp2 W2 e1) (fun v h' q3 => ?_)⟩
        obtain ⟨r3, ev, I3, F3, t3⟩ := q3
        exact ⟨r3, ev, I3, F3, j, k, g1, g2, p1, cj, p2, ck, Or.inr ⟨by rw [← e2]; exact z, t3⟩⟩
      · refine Ci.mono (c_work d s h0 cd lt (by omega) (Or.inr ck) p2 W1) (fun r2 h2 q2 => ?_)
        obtain ⟨W2, e3⟩ := q2
        rw [ind lt _ g2 (j + 1) k p2] at e3
        exact ⟨W2.1.1, W2.1, W2.2.1, j, k, g1, g2, p1, cj, p2, ck, Or.inl ⟨by rw [← e2]; exact z, e3⟩⟩
/-- the text t, told from the heap h -/
noncomputable def Tel (h : Hp_) (x1 x2 r : Int32) : Prop := (x2 = -1 ∧ r = 0) ∨ (¬ x2 = -1 ∧ ∃ f t, t < 40 ∧ 20 * x1 + x2 = Int32.ofNat t ∧ tel (t / 20 + 1) (h_i h 231) (h_i h 236) f (560 * t) (560 * t + (h_i h 232 t).toNatClampNeg) r)
theorem c_tell (d : Nat) {h : Hp_} (I : Iv h) (x1 x2 : Int32) (b1 : rin x1.toInt (0, 1)) (b2 : rin x2.toInt (-1, 19)) : Ci (m_X12_tell (d + 4) 0 0) [.ref 1, .int x1, .int x2] h (fun r h' => Iv h' ∧ Fr wzw h h' ∧ Tel h x1 x2 r) := by
  have c1 : 0 ≤ x1.toInt := b1.1
  have c2 : x1.toInt ≤ 1 := b1.2
  have c3 : -1 ≤ x2.toInt := b2.1
  have c4 : x2.toInt ≤ 19 := b2.2
  have t20 : (20 : Int32).toInt = 20 := rfl
  have t560 : (560 : Int32).toInt = 560 := rfl
  have tm : (-1 : Int32).toInt = -1 := rfl
  refine t_X12_tell d h I.1 x1 x2 _ ⟨fun z => ?_, fun z => ⟨I, Fr.rf _ _, Or.inl ⟨z, rfl⟩⟩⟩
  have c5 : 0 ≤ x2.toInt := by
    rcases Int.lt_or_le x2.toInt 0 with y | y
    · exact absurd (Int32.toInt_inj.mp (by rw [tm]; omega)) z
    · exact y
  have m1 : (20 * x1).toInt = 20 * x1.toInt := by rw [tx_mul (by rw [t20]; omega) (by rw [t20]; omega), t20]
  have m2 : (20 * x1 + x2).toInt = 20 * x1.toInt + x2.toInt := by rw [tx_add (by omega) (by omega), m1]
  obtain ⟨t, et, ht⟩ : ∃ t : Nat, 20 * x1 + x2 = Int32.ofNat t ∧ t < 40 := ⟨(20 * x1.toInt + x2.toInt).toNat, by
    refine Int32.toInt_inj.mp ?_
    rw [on_j (by omega), m2]
    omega, by omega⟩
  rw [et]
  have m3 : 560 * Int32.ofNat t = Int32.ofNat (560 * t) := by
    refine Int32.toInt_inj.mp ?_
    rw [tx_mul (by rw [t560, on_j (by omega)]; omega) (by rw [t560, on_j (by omega)]; omega), t560, on_j (by omega), on_j (by omega)]
    omega
  rw [m3]
  obtain ⟨f, hf⟩ := I.2.2.2.2.2.2.2.2 t ht
  have sz : rin (h_i h 232 t).toInt (0, 560) := by
    have := I.2.1 232 t
    rwa [tfa_tf (show tfa 232 = some (0, 560) by decide +kernel)] at this
  have s1 : (h_i h 232 t).toInt ≤ 560 := sz.2
  have en : ((h_i h 232 t).toNatClampNeg : Int) = (h_i h 232 t).toInt := n_nat sz.1
  have W0 : Ws h (h_i h 231) (h_i h 236) (560 * t) (h_im h 1 52 (Int32.ofNat (560 * t))) :=
    ⟨I.im (by rw [show tf 1 52 = rtop by decide +kernel]; exact rtop_in _) (by decide), (Fr.rf _ _).im (by decide +kernel), funext (fun k => by rw [h_i_im, if_neg (fun z => absurd z.1 (by decide))]), funext (fun k => by rw [h_i_im, if_neg (fun z => absurd z.1 (by decide))]), by rw [h_i_im, if_pos ⟨rfl, rfl⟩]⟩
  refine AW.mono (tl_loop d (t / 20 + 1) t (560 * t + (h_i h 232 t).toNatClampNeg) h (h_i h 231) (h_i h 236) ht (by omega) f (560 * t) _ hf W0 rfl) (fun v h' q => ?_)
  obtain ⟨r, ev, I', F', T⟩ := q
  exact ⟨r, ev, I', F', Or.inr ⟨z, f, t, ht, et, T⟩⟩
noncomputable def wz_X12_tell : List Nat := wzw
noncomputable def q_X12_tell : Ctr := ([.inl (((-1), 19), (0, 0), none), .inl ((0, 1), (0, 0), none), .inr 11], [], (some (.inl (((-2147483648), 2147483647), (0, 0), none))), [], wz_X12_tell)
theorem hc_X12_tell (n : Nat) : Hc (m_X12_tell (n + 4) 0 0) q_X12_tell := by
  intro vs h ma I hp
  match vs, ma with
  | [v2, v1, v0], ma =>
    obtain ⟨⟨x2, e2, b2, _⟩, ⟨x1, e1, b1, _⟩, e0, _⟩ := ma
    have e0 : v0 = .ref 1 := e0
    subst e0 e1 e2
    refine Ct.mono (c_tell n I x1 x2 b1 b2) (fun v h' q => ?_)
    obtain ⟨r, ev, I', F', _⟩ := q
    subst ev
    exact ⟨I', F', fun _ z => (nomatch z), _, rfl, r, rfl, rtop_in _, fun _ z => (nomatch z)⟩
end
section
/-! walkOf as a call by hand -/
theorem c_walkOf (d : Nat) {h : Hp_} (I : Iv h) (x1 x2 : Int32) (b : rin x2.toInt (0, 15)) : Ci (m_X12_walkOf (d + 0) 0 0) [.ref 1, .int x1, .int x2] h (fun r h' => Iv h' ∧ Fr wz_X12_walkOf h h' ∧ rin r.toInt (-1, 100000)) := by
  refine Ct.mono (hc_X12_walkOf d [.int x2, .int x1, .ref 1] h ⟨⟨x2, rfl, b, fun _ z => (nomatch z)⟩, ⟨x1, rfl, rtop_in _, fun _ z => (nomatch z)⟩, rfl, trivial⟩ I (fun _ z => (nomatch z))) (fun v h' q => ?_)
  obtain ⟨I', F', _, a, ea, r, er, br, _⟩ := q
  subst ea
  exact ⟨r, by rw [er], I', F', br⟩
theorem fr_i {ws : List Nat} {h h' : Hp_} (f : Fr ws h h') {a : Nat} (o : off ws a = true) (k : Nat) : h_i h' a k = h_i h a k := (f.2 a k (off_inw o k)).1
theorem t_X12_doesSee (d : Nat) (h : Hp_) (x1 : Int32) (x2 : Int32) (K : Int32 → Hp_ → Prop) (k : AW (m_X12_doesSee (d + 1) 0 0) 0 0 12 [(0, .ref 1), (1, .int x1), (2, .int x2), (3, .int 0), (4, .int 0), (5, .int (150 * x1))] [] h (kI K)) : Ci (m_X12_doesSee (d + 1) 0 0) [.ref 1, .int x1, .int x2] h K := by
  refine Ct.of (fun _ _ _ => trivial) pn_X12 (Nat.le_of_ble_eq_true rfl) ?_
  show AW (m_X12_doesSee (d + 1) 0 0) 0 0 0 [(0, .ref 1), (1, .int x1), (2, .int x2)] [] h (kI K)
  refine aw_iconst (v := 0) d_X12_doesSee_0 ic_0 ?_
  refine aw_istore_n (i := 3) rfl [(0, .ref 1), (1, .int x1), (2, .int x2), (3, .int 0)] d_X12_doesSee_1 (Nat.le_of_ble_eq_true rfl) rfl rfl ?_
  refine aw_iconst (v := 0) d_X12_doesSee_2 ic_0 ?_
  refine aw_istore [(0, .ref 1), (1, .int x1), (2, .int x2), (3, .int 0), (4, .int 0)] d_X12_doesSee_3 (Nat.le_of_ble_eq_true rfl) rfl rfl ?_
  refine aw_sipush (v := 150) d_X12_doesSee_5 is_150 ?_
  refine aw_iload_n (i := 1) rfl d_X12_doesSee_8 1 rfl ?_
  refine aw_imul d_X12_doesSee_9 ?_
  refine aw_istore [(0, .ref 1), (1, .int x1), (2, .int x2), (3, .int 0), (4, .int 0), (5, .int (150 * x1))] d_X12_doesSee_10 (Nat.le_of_ble_eq_true rfl) rfl rfl ?_
  exact k
theorem t_X12_doesSee_12 (d : Nat) (h : Hp_) (w : Wf h) (x1 : Int32) (x2 : Int32) (x3 : Int32) (x4 : Int32) (x5 : Int32) (K : Int32 → Hp_ → Prop) (k : vp_in x1 12 ∧ ((((150 * x1) + (h_i h 227 x1.toNatClampNeg)) ≤ x5 → K 0 h) ∧ (¬ ((150 * x1) + (h_i h 227 x1.toNatClampNeg)) ≤ x5 → (1440 < x3 → K 0 h) ∧ (¬ 1440 < x3 → vp_in x5 1800 ∧ ((¬ (h_i h 228 x5.toNatClampNeg) = 1 → (¬ (h_i h 228 x5.toNatClampNeg) = 3 → vp_in x5 1800 ∧ (Ci (m_X12_walkOf (d + 0) 0 0) [.ref 1, .int x4, .int (h_i h 229 x5.toNatClampNeg)] h (fun r10 h8 => Wf h8 ∧ ((¬ r10 = (-1) → vp_in x5 1800 ∧ ((¬ (h_i h 228 x5.toNatClampNeg) = 2 → AW (m_X12_doesSee (d + 1) 0 0) 0 0 12 [(0, .ref 1), (1, .int x1), (2, .int x2), (3, .int (x3 + r10)), (4, .int (h_i h8 229 x5.toNatClampNeg)), (5, .int (x5 + 1))] [] h8 (kI K)) ∧ ((h_i h 228 x5.toNatClampNeg) = 2 → vp_in x5 1800 ∧ (AW (m_X12_doesSee (d + 1) 0 0) 0 0 12 [(0, .ref 1), (1, .int x1), (2, .int x2), (3, .int (if (x3 + r10) < (h_i h8 230 x5.toNatClampNeg) then (h_i h8 230 x5.toNatClampNeg) else (x3 + r10))), (4, .int (h_i h8 229 x5.toNatClampNeg)), (5, .int (x5 + 1))] [] h8 (kI K))))) ∧ (r10 = (-1) → AW (m_X12_doesSee (d + 1) 0 0) 0 0 12 [(0, .ref 1), (1, .int x1), (2, .int x2), (3, .int x3), (4, .int x4), (5, .int (x5 + 1))] [] h8 (kI K)))))) ∧ ((h_i h 228 x5.toNatClampNeg) = 3 → vp_in x2 8 ∧ ((¬ x4 = (h_i h 281 x2.toNatClampNeg) → AW (m_X12_doesSee (d + 1) 0 0) 0 0 12 [(0, .ref 1), (1, .int x1), (2, .int x2), (3, .int (x3 + 1)), (4, .int x4), (5, .int (x5 + 1))] [] h (kI K)) ∧ (x4 = (h_i h 281 x2.toNatClampNeg) → vp_in x2 8 ∧ (vp_in x2 8 ∧ ((¬ ((h_i h 282 x2.toNatClampNeg) ≤ (x3 + 1) ∧ (x3 + 1) ≤ (h_i h 283 x2.toNatClampNeg)) → AW (m_X12_doesSee (d + 1) 0 0) 0 0 12 [(0, .ref 1), (1, .int x1), (2, .int x2), (3, .int (x3 + 1)), (4, .int x4), (5, .int (x5 + 1))] [] h (kI K)) ∧ (((h_i h 282 x2.toNatClampNeg) ≤ (x3 + 1) ∧ (x3 + 1) ≤ (h_i h 283 x2.toNatClampNeg)) → K 1 h))))))) ∧ ((h_i h 228 x5.toNatClampNeg) = 1 → vp_in x5 1800 ∧ (AW (m_X12_doesSee (d + 1) 0 0) 0 0 12 [(0, .ref 1), (1, .int x1), (2, .int x2), (3, .int (x3 + (h_i h 229 x5.toNatClampNeg))), (4, .int x4), (5, .int (x5 + 1))] [] h (kI K)))))))) : AW (m_X12_doesSee (d + 1) 0 0) 0 0 12 [(0, .ref 1), (1, .int x1), (2, .int x2), (3, .int x3), (4, .int x4), (5, .int x5)] [] h (kI K) := by
  refine aw_iload d_X12_doesSee_12 5 rfl ?_
  refine aw_sipush (v := 150) d_X12_doesSee_14 is_150 ?_
  refine aw_iload_n (i := 1) rfl d_X12_doesSee_17 1 rfl ?_
  refine aw_imul d_X12_doesSee_18 ?_
  refine aw_aload_n (i := 0) rfl d_X12_doesSee_19 0 rfl ?_
  refine aw_getr (k0 := 38) kc_12 (ws_1 w) (Nat.le_of_ble_eq_true rfl) tw_1780 d_X12_doesSee_20 rfl (wr_1_38 w) ?_
  refine aw_iload_n (i := 1) rfl d_X12_doesSee_23 1 rfl ?_
  obtain ⟨b1, k⟩ := k
  refine aw_iald (ws_227 w) b1 d_X12_doesSee_24 ?_
  refine aw_iadd d_X12_doesSee_25 ?_
  refine aw_icmp_ge (tgt := 167) d_X12_doesSee_26 rfl (fun c2 => ?_) (fun c2 => ?_)
  · have k := k.1 c2
    refine aw_iconst (v := 0) d_X12_doesSee_167 ic_0 ?_
    exact aw_zret rfl rfl d_X12_doesSee_168 ⟨Nat.le_refl _, Nat.le_refl _⟩ ⟨_, rfl, k⟩
  · have k := k.2 c2
    refine aw_iload_n (i := 3) rfl d_X12_doesSee_29 3 rfl ?_
    refine aw_sipush (v := 1440) d_X12_doesSee_30 is_1440 ?_
    refine aw_icmp_gt (tgt := 167) d_X12_doesSee_33 rfl (fun c3 => ?_) (fun c3 => ?_)
    · have k := k.1 c3
      refine aw_iconst (v := 0) d_X12_doesSee_167 ic_0 ?_
      exact aw_zret rfl rfl d_X12_doesSee_168 ⟨Nat.le_refl _, Nat.le_refl _⟩ ⟨_, rfl, k⟩
    · have k := k.2 c3
      refine aw_aload_n (i := 0) rfl d_X12_doesSee_36 0 rfl ?_
      refine aw_getr (k0 := 39) kc_12 (ws_1 w) (Nat.le_of_ble_eq_true rfl) tw_1781 d_X12_doesSee_37 rfl (wr_1_39 w) ?_
      refine aw_iload d_X12_doesSee_40 5 rfl ?_
      obtain ⟨b4, k⟩ := k
      refine aw_iald (ws_228 w) b4 d_X12_doesSee_42 ?_
      refine aw_istore [(0, .ref 1), (1, .int x1), (2, .int x2), (3, .int x3), (4, .int x4), (5, .int x5), (6, .int (h_i h 228 x5.toNatClampNeg))] d_X12_doesSee_43 (Nat.le_of_ble_eq_true rfl) rfl rfl ?_
      refine aw_iload d_X12_doesSee_45 6 rfl ?_
      refine aw_iconst (v := 1) d_X12_doesSee_47 ic_1 ?_
      refine aw_icmp_ne (tgt := 64) d_X12_doesSee_48 rfl (fun c5 => ?_) (fun c5 => ?_)
      · have k := k.1 c5
        refine aw_iload d_X12_doesSee_64 6 rfl ?_
        refine aw_iconst (v := 3) d_X12_doesSee_66 ic_3 ?_
        refine aw_icmp_ne (tgt := 105) d_X12_doesSee_67 rfl (fun c6 => ?_) (fun c6 => ?_)
        · have k := k.1 c6
          refine aw_aload_n (i := 0) rfl d_X12_doesSee_105 0 rfl ?_
          refine aw_iload d_X12_doesSee_106 4 rfl ?_
          refine aw_aload_n (i := 0) rfl d_X12_doesSee_108 0 rfl ?_
          refine aw_getr (k0 := 40) kc_12 (ws_1 w) (Nat.le_of_ble_eq_true rfl) tw_1782 d_X12_doesSee_109 rfl (wr_1_40 w) ?_
          refine aw_iload d_X12_doesSee_112 5 rfl ?_
          obtain ⟨b7, k⟩ := k
          refine aw_iald (ws_229 w) b7 d_X12_doesSee_114 ?_
          refine aw_Vi 1 [.int x4, .int (h_i h 229 x5.toNatClampNeg)] [] d_X12_doesSee_115 (cV_X12_walkOf (d + 0) 0 0) kc_12 (ws_1 w) tw_2150 rfl (rr0 (Nat.le_of_ble_eq_true rfl) (Nat.le_of_ble_eq_true rfl)) (Nat.le_of_ble_eq_true rfl) xs0 k (fun r10 h8 kk => ?_)
          obtain ⟨w9, k⟩ := kk
          refine aw_istore [(0, .ref 1), (1, .int x1), (2, .int x2), (3, .int x3), (4, .int x4), (5, .int x5), (6, .int (h_i h 228 x5.toNatClampNeg)), (7, .int r10)] d_X12_doesSee_118 (Nat.le_of_ble_eq_true rfl) rfl rfl ?_
          refine aw_iload d_X12_doesSee_120 7 rfl ?_
          refine aw_iconst (v := (-1)) d_X12_doesSee_122 ic_m1 ?_
          refine aw_icmp_ne (tgt := 129) d_X12_doesSee_123 rfl (fun c11 => ?_) (fun c11 => ?_)
          · have k := k.1 c11
            refine aw_iload_n (i := 3) rfl d_X12_doesSee_129 3 rfl ?_
            refine aw_iload d_X12_doesSee_130 7 rfl ?_
            refine aw_iadd d_X12_doesSee_132 ?_
            refine aw_istore_n (i := 3) rfl [(0, .ref 1), (1, .int x1), (2, .int x2), (3, .int (x3 + r10)), (4, .int x4), (5, .int x5), (6, .int (h_i h 228 x5.toNatClampNeg)), (7, .int r10)] d_X12_doesSee_133 (Nat.le_of_ble_eq_true rfl) rfl rfl ?_
            refine aw_aload_n (i := 0) rfl d_X12_doesSee_134 0 rfl ?_
            refine aw_getr (k0 := 40) kc_12 (ws_1 w9) (Nat.le_of_ble_eq_true rfl) tw_1782 d_X12_doesSee_135 rfl (wr_1_40 w9) ?_
            refine aw_iload d_X12_doesSee_138 5 rfl ?_
            obtain ⟨b12, k⟩ := k
            refine aw_iald (ws_229 w9) b12 d_X12_doesSee_140 ?_
            refine aw_istore [(0, .ref 1), (1, .int x1), (2, .int x2), (3, .int (x3 + r10)), (4, .int (h_i h8 229 x5.toNatClampNeg)), (5, .int x5), (6, .int (h_i h 228 x5.toNatClampNeg)), (7, .int r10)] d_X12_doesSee_141 (Nat.le_of_ble_eq_true rfl) rfl rfl ?_
            refine aw_iload d_X12_doesSee_143 6 rfl ?_
            refine aw_iconst (v := 2) d_X12_doesSee_145 ic_2 ?_
            refine aw_icmp_ne (tgt := 161) d_X12_doesSee_146 rfl (fun c13 => ?_) (fun c13 => ?_)
            · have k := k.1 c13
              refine aw_iinc (v := (x5 + 1)) [(0, .ref 1), (1, .int x1), (2, .int x2), (3, .int (x3 + r10)), (4, .int (h_i h8 229 x5.toNatClampNeg)), (5, .int (x5 + 1)), (6, .int (h_i h 228 x5.toNatClampNeg)), (7, .int r10)] d_X12_doesSee_161 5 rfl rfl (Nat.le_of_ble_eq_true rfl) rfl rfl ?_
              refine aw_goto (tgt := 12) d_X12_doesSee_164 rfl ?_
              exact aw_lvp [0, 1, 2, 3, 4, 5] [(0, .ref 1), (1, .int x1), (2, .int x2), (3, .int (x3 + r10)), (4, .int (h_i h8 229 x5.toNatClampNeg)), (5, .int (x5 + 1))] rfl k
            · have k := k.2 c13
              refine aw_iload_n (i := 3) rfl d_X12_doesSee_149 3 rfl ?_
              refine aw_aload_n (i := 0) rfl d_X12_doesSee_150 0 rfl ?_
              refine aw_getr (k0 := 41) kc_12 (ws_1 w9) (Nat.le_of_ble_eq_true rfl) tw_1783 d_X12_doesSee_151 rfl (wr_1_41 w9) ?_
              refine aw_iload d_X12_doesSee_154 5 rfl ?_
              obtain ⟨b14, k⟩ := k
              refine aw_iald (ws_230 w9) b14 d_X12_doesSee_156 ?_
              refine aw_mmax d_X12_doesSee_157 tw_2470 (show 1 ≤ (d + 1) by omega) (Nat.le_trans (Nat.le_of_ble_eq_true rfl) (show 100 ≤ 100 * (d + 1) by omega)) ⟨Nat.le_refl _, Nat.le_refl _⟩ ?_
              refine aw_istore_n (i := 3) rfl [(0, .ref 1), (1, .int x1), (2, .int x2), (3, .int (if (x3 + r10) < (h_i h8 230 x5.toNatClampNeg) then (h_i h8 230 x5.toNatClampNeg) else (x3 + r10))), (4, .int (h_i h8 229 x5.toNatClampNeg)), (5, .int x5), (6, .int (h_i h 228 x5.toNatClampNeg)), (7, .int r10)] d_X12_doesSee_160 (Nat.le_of_ble_eq_true rfl) rfl rfl ?_
              refine aw_iinc (v := (x5 + 1)) [(0, .ref 1), (1, .int x1), (2, .int x2), (3, .int (if (x3 + r10) < (h_i h8 230 x5.toNatClampNeg) then (h_i h8 230 x5.toNatClampNeg) else (x3 + r10))), (4, .int (h_i h8 229 x5.toNatClampNeg)), (5, .int (x5 + 1)), (6, .int (h_i h 228 x5.toNatClampNeg)), (7, .int r10)] d_X12_doesSee_161 5 rfl rfl (Nat.le_of_ble_eq_true rfl) rfl rfl ?_
              refine aw_goto (tgt := 12) d_X12_doesSee_164 rfl ?_
              exact aw_lvp [0, 1, 2, 3, 4, 5] [(0, .ref 1), (1, .int x1), (2, .int x2), (3, .int (if (x3 + r10) < (h_i h8 230 x5.toNatClampNeg) then (h_i h8 230 x5.toNatClampNeg) else (x3 + r10))), (4, .int (h_i h8 229 x5.toNatClampNeg)), (5, .int (x5 + 1))] rfl k
          · have k := k.2 c11
            refine aw_goto (tgt := 161) d_X12_doesSee_126 rfl ?_
            refine aw_iinc (v := (x5 + 1)) [(0, .ref 1), (1, .int x1), (2, .int x2), (3, .int x3), (4, .int x4), (5, .int (x5 + 1)), (6, .int (h_i h 228 x5.toNatClampNeg)), (7, .int r10)] d_X12_doesSee_161 5 rfl rfl (Nat.le_of_ble_eq_true rfl) rfl rfl ?_
            refine aw_goto (tgt := 12) d_X12_doesSee_164 rfl ?_
            exact aw_lvp [0, 1, 2, 3, 4, 5] [(0, .ref 1), (1, .int x1), (2, .int x2), (3, .int x3), (4, .int x4), (5, .int (x5 + 1))] rfl k
        · have k := k.2 c6
          refine aw_iinc (v := (x3 + 1)) [(0, .ref 1), (1, .int x1), (2, .int x2), (3, .int (x3 + 1)), (4, .int x4), (5, .int x5), (6, .int (h_i h 228 x5.toNatClampNeg))] d_X12_doesSee_70 3 rfl rfl (Nat.le_of_ble_eq_true rfl) rfl rfl ?_
          refine aw_iload d_X12_doesSee_73 4 rfl ?_
          refine aw_aload_n (i := 0) rfl d_X12_doesSee_75 0 rfl ?_
          refine aw_getr (k0 := 105) kc_12 (ws_1 w) (Nat.le_of_ble_eq_true rfl) tw_1847 d_X12_doesSee_76 rfl (wr_1_105 w) ?_
          refine aw_iload_n (i := 2) rfl d_X12_doesSee_79 2 rfl ?_
          obtain ⟨b15, k⟩ := k
          refine aw_iald (ws_281 w) b15 d_X12_doesSee_80 ?_
          refine aw_icmp_ne (tgt := 161) d_X12_doesSee_81 rfl (fun c16 => ?_) (fun c16 => ?_)
          · have k := k.1 c16
            refine aw_iinc (v := (x5 + 1)) [(0, .ref 1), (1, .int x1), (2, .int x2), (3, .int (x3 + 1)), (4, .int x4), (5, .int (x5 + 1)), (6, .int (h_i h 228 x5.toNatClampNeg))] d_X12_doesSee_161 5 rfl rfl (Nat.le_of_ble_eq_true rfl) rfl rfl ?_
            refine aw_goto (tgt := 12) d_X12_doesSee_164 rfl ?_
            exact aw_lvp [0, 1, 2, 3, 4, 5] [(0, .ref 1), (1, .int x1), (2, .int x2), (3, .int (x3 + 1)), (4, .int x4), (5, .int (x5 + 1))] rfl k
          · have k := k.2 c16
            refine aw_iload_n (i := 3) rfl d_X12_doesSee_84 3 rfl ?_
            refine aw_aload_n (i := 0) rfl d_X12_doesSee_85 0 rfl ?_
            refine aw_getr (k0 := 106) kc_12 (ws_1 w) (Nat.le_of_ble_eq_true rfl) tw_1848 d_X12_doesSee_86 rfl (wr_1_106 w) ?_
            refine aw_iload_n (i := 2) rfl d_X12_doesSee_89 2 rfl ?_
            obtain ⟨b17, k⟩ := k
            refine aw_iald (ws_282 w) b17 d_X12_doesSee_90 ?_
            refine aw_aload_n (i := 0) rfl d_X12_doesSee_91 0 rfl ?_
            refine aw_getr (k0 := 107) kc_12 (ws_1 w) (Nat.le_of_ble_eq_true rfl) tw_1849 d_X12_doesSee_92 rfl (wr_1_107 w) ?_
            refine aw_iload_n (i := 2) rfl d_X12_doesSee_95 2 rfl ?_
            obtain ⟨b18, k⟩ := k
            refine aw_iald (ws_283 w) b18 d_X12_doesSee_96 ?_
            refine aw_Si [.int (x3 + 1), .int (h_i h 282 x2.toNatClampNeg), .int (h_i h 283 x2.toNatClampNeg)] [] d_X12_doesSee_97 (cS_X12_in (d + 0) 0 0) tw_2143 rfl (rr0 (Nat.le_of_ble_eq_true rfl) (Nat.le_of_ble_eq_true rfl)) (Nat.le_of_ble_eq_true rfl) xs0 (s_X12_in _ _ (x3 + 1) (h_i h 282 x2.toNatClampNeg) (h_i h 283 x2.toNatClampNeg)) (fun _ _ kk => ?_)
            obtain ⟨e19, e20⟩ := kk
            rw [e19, e20]
            refine aw_ifb_eq (tgt := 161) d_X12_doesSee_100 rfl (fun c21 => ?_) (fun c21 => ?_)
            · have k := k.1 c21
              refine aw_iinc (v := (x5 + 1)) [(0, .ref 1), (1, .int x1), (2, .int x2), (3, .int (x3 + 1)), (4, .int x4), (5, .int (x5 + 1)), (6, .int (h_i h 228 x5.toNatClampNeg))] d_X12_doesSee_161 5 rfl rfl (Nat.le_of_ble_eq_true rfl) rfl rfl ?_
              refine aw_goto (tgt := 12) d_X12_doesSee_164 rfl ?_
              exact aw_lvp [0, 1, 2, 3, 4, 5] [(0, .ref 1), (1, .int x1), (2, .int x2), (3, .int (x3 + 1)), (4, .int x4), (5, .int (x5 + 1))] rfl k
            · have k := k.2 c21
              refine aw_iconst (v := 1) d_X12_doesSee_103 ic_1 ?_
              exact aw_zret rfl rfl d_X12_doesSee_104 ⟨Nat.le_refl _, Nat.le_refl _⟩ ⟨_, rfl, k⟩
      · have k := k.2 c5
        refine aw_iload_n (i := 3) rfl d_X12_doesSee_51 3 rfl ?_
        refine aw_aload_n (i := 0) rfl d_X12_doesSee_52 0 rfl ?_
        refine aw_getr (k0 := 40) kc_12 (ws_1 w) (Nat.le_of_ble_eq_true rfl) tw_1782 d_X12_doesSee_53 rfl (wr_1_40 w) ?_
        refine aw_iload d_X12_doesSee_56 5 rfl ?_
        obtain ⟨b22, k⟩ := k
        refine aw_iald (ws_229 w) b22 d_X12_doesSee_58 ?_
        refine aw_iadd d_X12_doesSee_59 ?_
        refine aw_istore_n (i := 3) rfl [(0, .ref 1), (1, .int x1), (2, .int x2), (3, .int (x3 + (h_i h 229 x5.toNatClampNeg))), (4, .int x4), (5, .int x5), (6, .int (h_i h 228 x5.toNatClampNeg))] d_X12_doesSee_60 (Nat.le_of_ble_eq_true rfl) rfl rfl ?_
        refine aw_goto (tgt := 161) d_X12_doesSee_61 rfl ?_
        refine aw_iinc (v := (x5 + 1)) [(0, .ref 1), (1, .int x1), (2, .int x2), (3, .int (x3 + (h_i h 229 x5.toNatClampNeg))), (4, .int x4), (5, .int (x5 + 1)), (6, .int (h_i h 228 x5.toNatClampNeg))] d_X12_doesSee_161 5 rfl rfl (Nat.le_of_ble_eq_true rfl) rfl rfl ?_
        refine aw_goto (tgt := 12) d_X12_doesSee_164 rfl ?_
        exact aw_lvp [0, 1, 2, 3, 4, 5] [(0, .ref 1), (1, .int x1), (2, .int x2), (3, .int (x3 + (h_i h 229 x5.toNatClampNeg))), (4, .int x4), (5, .int (x5 + 1))] rfl k
theorem t_X12_lent (d : Nat) (h : Hp_) (w : Wf h) (x1 : Int32) (K : Int32 → Hp_ → Prop) (k : (¬ (0 ≤ x1 ∧ x1 ≤ (h_i h 1 7) - 1) → K (-1) h) ∧ ((0 ≤ x1 ∧ x1 ≤ (h_i h 1 7) - 1) → Ci (m_X12_findLending (d + 2) 0 0) [.ref 1] h (fun r6 h4 => Wf h4 ∧ ((¬ r6 = 1000000000 → Ci (m_X12_codeAll (d + 0) 0 0) [.ref 1] h4 (fun r10 h8 => Wf h8 ∧ (AW (m_X12_lent (d + 3) 0 0) 0 0 30 [(0, .ref 1), (1, .int x1), (2, .int r10), (3, .int (-1)), (4, .int 0)] [] h8 (kI K)))) ∧ (r6 = 1000000000 → K (-1) h4))))) : Ci (m_X12_lent (d + 3) 0 0) [.ref 1, .int x1] h K := by
  refine Ct.of (fun _ _ _ => trivial) pn_X12 (Nat.le_of_ble_eq_true rfl) ?_
  show AW (m_X12_lent (d + 3) 0 0) 0 0 0 [(0, .ref 1), (1, .int x1)] [] h (kI K)
  refine aw_aload_n (i := 0) rfl d_X12_lent_0 0 rfl ?_
  refine aw_iload_n (i := 1) rfl d_X12_lent_1 1 rfl ?_
  refine aw_Vi 1 [.int x1] [] d_X12_lent_2 (cV_X12_isMan (d + 1) 0 0) kc_12 (ws_1 w) tw_2163 rfl (rr0 (Nat.le_of_ble_eq_true rfl) (Nat.le_of_ble_eq_true rfl)) (Nat.le_of_ble_eq_true rfl) xs0 (s_X12_isMan _ _ w x1) (fun _ _ kk => ?_)
  obtain ⟨e1, e2⟩ := kk
  rw [e1, e2]
  refine aw_ifb_eq (tgt := 18) d_X12_lent_5 rfl (fun c3 => ?_) (fun c3 => ?_)
  · have k := k.1 c3
    refine aw_iconst (v := (-1)) d_X12_lent_18 ic_m1 ?_
    exact aw_iret rfl d_X12_lent_19 ⟨Nat.le_refl _, Nat.le_refl _⟩ ⟨_, rfl, k⟩
  · have k := k.2 c3
    refine aw_aload_n (i := 0) rfl d_X12_lent_8 0 rfl ?_
    refine aw_Vi 1 [] [] d_X12_lent_9 (cV_X12_findLending (d + 2) 0 0) kc_12 (ws_1 w) tw_2639 rfl (rr0 (Nat.le_of_ble_eq_true rfl) (Nat.le_of_ble_eq_true rfl)) (Nat.le_of_ble_eq_true rfl) xs0 k (fun r6 h4 kk => ?_)
    obtain ⟨w5, k⟩ := kk
    refine aw_ldcw (v := 1000000000) d_X12_lent_12 tw_2647 ?_
    refine aw_icmp_ne (tgt := 20) d_X12_lent_15 rfl (fun c7 => ?_) (fun c7 => ?_)
    · have k := k.1 c7
      refine aw_aload_n (i := 0) rfl d_X12_lent_20 0 rfl ?_
      refine aw_Vi 1 [] [] d_X12_lent_21 (cV_X12_codeAll (d + 0) 0 0) kc_12 (ws_1 w5) tw_2652 rfl (rr0 (Nat.le_of_ble_eq_true rfl) (Nat.le_of_ble_eq_true rfl)) (Nat.le_of_ble_eq_true rfl) xs0 k (fun r10 h8 kk => ?_)
      obtain ⟨w9, k⟩ := kk
      refine aw_istore_n (i := 2) rfl [(0, .ref 1), (1, .int x1), (2, .int r10)] d_X12_lent_24 (Nat.le_of_ble_eq_true rfl) rfl rfl ?_
      refine aw_iconst (v := (-1)) d_X12_lent_25 ic_m1 ?_
      refine aw_istore_n (i := 3) rfl [(0, .ref 1), (1, .int x1), (2, .int r10), (3, .int (-1))] d_X12_lent_26 (Nat.le_of_ble_eq_true rfl) rfl rfl ?_
      refine aw_iconst (v := 0) d_X12_lent_27 ic_0 ?_
      refine aw_istore [(0, .ref 1), (1, .int x1), (2, .int r10), (3, .int (-1)), (4, .int 0)] d_X12_lent_28 (Nat.le_of_ble_eq_true rfl) rfl rfl ?_
      exact k
    · have k := k.2 c7
      refine aw_iconst (v := (-1)) d_X12_lent_18 ic_m1 ?_
      exact aw_iret rfl d_X12_lent_19 ⟨Nat.le_refl _, Nat.le_refl _⟩ ⟨_, rfl, k⟩
theorem t_X12_lent_30 (d : Nat) (h : Hp_) (w : Wf h) (x1 : Int32) (x2 : Int32) (x3 : Int32) (x4 : Int32) (K : Int32 → Hp_ → Prop) (k : (x1 < x4 → K x3 h) ∧ (¬ x1 < x4 → AW (m_X12_lent (d + 3) 0 0) 0 0 46 [(0, .ref 1), (1, .int x1), (2, .int x2), (3, .int (-1)), (4, .int x4), (5, .int ((h_i h 1 119) - 1))] [] h (kI K))) : AW (m_X12_lent (d + 3) 0 0) 0 0 30 [(0, .ref 1), (1, .int x1), (2, .int x2), (3, .int x3), (4, .int x4)] [] h (kI K) := by
  refine aw_iload d_X12_lent_30 4 rfl ?_
  refine aw_iload_n (i := 1) rfl d_X12_lent_32 1 rfl ?_
  refine aw_icmp_gt (tgt := 170) d_X12_lent_33 rfl (fun c11 => ?_) (fun c11 => ?_)
  · have k := k.1 c11
    refine aw_iload_n (i := 3) rfl d_X12_lent_170 3 rfl ?_
    exact aw_iret rfl d_X12_lent_171 ⟨Nat.le_refl _, Nat.le_refl _⟩ ⟨_, rfl, k⟩
  · have k := k.2 c11
    refine aw_iconst (v := (-1)) d_X12_lent_36 ic_m1 ?_
    refine aw_istore_n (i := 3) rfl [(0, .ref 1), (1, .int x1), (2, .int x2), (3, .int (-1)), (4, .int x4)] d_X12_lent_37 (Nat.le_of_ble_eq_true rfl) rfl rfl ?_
    refine aw_aload_n (i := 0) rfl d_X12_lent_38 0 rfl ?_
    refine aw_geti (k0 := 119) kc_12 (ws_1 w) (Nat.le_of_ble_eq_true rfl) tw_1861 d_X12_lent_39 rfl ?_
    refine aw_iconst (v := 1) d_X12_lent_42 ic_1 ?_
    refine aw_isub d_X12_lent_43 ?_
    refine aw_istore [(0, .ref 1), (1, .int x1), (2, .int x2), (3, .int (-1)), (4, .int x4), (5, .int ((h_i h 1 119) - 1))] d_X12_lent_44 (Nat.le_of_ble_eq_true rfl) rfl rfl ?_
    exact k
theorem t_X12_lent_46 (d : Nat) (h : Hp_) (w : Wf h) (x1 : Int32) (x2 : Int32) (x3 : Int32) (x4 : Int32) (x5 : Int32) (K : Int32 → Hp_ → Prop) (k : (x5 < 0 → (¬ x3 = (-1) → AW (m_X12_lent (d + 3) 0 0) 0 0 30 [(0, .ref 1), (1, .int x1), (2, .int (x2 - ((1 : Int32) <<< ((2 * x3) &&& 31)))), (3, .int x3), (4, .int (x4 + 1))] [] h (kI K)) ∧ (x3 = (-1) → AW (m_X12_lent (d + 3) 0 0) 0 0 30 [(0, .ref 1), (1, .int x1), (2, .int (x2 - 0)), (3, .int x3), (4, .int (x4 + 1))] [] h (kI K))) ∧ (¬ x5 < 0 → vp_in ((4 * x4) + x5) 48 ∧ (Ci (m_X12_wanted (d + 0) 0 0) [.int x2, .int x5] h (fun r17 h15 => Wf h15 ∧ ((r17 = 0 → AW (m_X12_lent (d + 3) 0 0) 0 0 46 [(0, .ref 1), (1, .int x1), (2, .int x2), (3, .int x3), (4, .int x4), (5, .int (x5 + (-1)))] [] h15 (kI K)) ∧ (¬ r17 = 0 → (¬ (h_i h 292 (((4 * x4) + x5) : Int32).toNatClampNeg) = 1000000000 → vp_in (((256 * (x4 + 1)) + x2) - ((1 : Int32) <<< ((2 * x5) &&& 31))) 3328 ∧ ((1000000000 ≤ (h_i h15 291 ((((256 * (x4 + 1)) + x2) - ((1 : Int32) <<< ((2 * x5) &&& 31))) : Int32).toNatClampNeg) → AW (m_X12_lent (d + 3) 0 0) 0 0 46 [(0, .ref 1), (1, .int x1), (2, .int x2), (3, .int x3), (4, .int x4), (5, .int (x5 + (-1)))] [] h15 (kI K)) ∧ (¬ 1000000000 ≤ (h_i h15 291 ((((256 * (x4 + 1)) + x2) - ((1 : Int32) <<< ((2 * x5) &&& 31))) : Int32).toNatClampNeg) → vp_in ((256 * x4) + x2) 3328 ∧ ((¬ ((h_i h 292 (((4 * x4) + x5) : Int32).toNatClampNeg) + (h_i h15 291 ((((256 * (x4 + 1)) + x2) - ((1 : Int32) <<< ((2 * x5) &&& 31))) : Int32).toNatClampNeg)) = (h_i h15 291 (((256 * x4) + x2) : Int32).toNatClampNeg) → AW (m_X12_lent (d + 3) 0 0) 0 0 46 [(0, .ref 1), (1, .int x1), (2, .int x2), (3, .int x3), (4, .int x4), (5, .int (x5 + (-1)))] [] h15 (kI K)) ∧ (((h_i h 292 (((4 * x4) + x5) : Int32).toNatClampNeg) + (h_i h15 291 ((((256 * (x4 + 1)) + x2) - ((1 : Int32) <<< ((2 * x5) &&& 31))) : Int32).toNatClampNeg)) = (h_i h15 291 (((256 * x4) + x2) : Int32).toNatClampNeg) → AW (m_X12_lent (d + 3) 0 0) 0 0 46 [(0, .ref 1), (1, .int x1), (2, .int x2), (3, .int x5), (4, .int x4), (5, .int (x5 + (-1)))] [] h15 (kI K)))))) ∧ ((h_i h 292 (((4 * x4) + x5) : Int32).toNatClampNeg) = 1000000000 → AW (m_X12_lent (d + 3) 0 0) 0 0 46 [(0, .ref 1), (1, .int x1), (2, .int x2), (3, .int x3), (4, .int x4), (5, .int (x5 + (-1)))] [] h15 (kI K)))))))) : AW (m_X12_lent (d + 3) 0 0) 0 0 46 [(0, .ref 1), (1, .int x1), (2, .int x2), (3, .int x3), (4, .int x4), (5, .int x5)] [] h (kI K) := by
  refine aw_iload d_X12_lent_46 5 rfl ?_
  refine aw_if_lt (tgt := 147) d_X12_lent_48 rfl (fun c12 => ?_) (fun c12 => ?_)
  · have k := k.1 c12
    refine aw_iload_n (i := 2) rfl d_X12_lent_147 2 rfl ?_
    refine aw_iload_n (i := 3) rfl d_X12_lent_148 3 rfl ?_
    refine aw_iconst (v := (-1)) d_X12_lent_149 ic_m1 ?_
    refine aw_icmp_ne (tgt := 157) d_X12_lent_150 rfl (fun c13 => ?_) (fun c13 => ?_)
    · have k := k.1 c13
      refine aw_iconst (v := 1) d_X12_lent_157 ic_1 ?_
      refine aw_iconst (v := 2) d_X12_lent_158 ic_2 ?_
      refine aw_iload_n (i := 3) rfl d_X12_lent_159 3 rfl ?_
      refine aw_imul d_X12_lent_160 ?_
      refine aw_ishl d_X12_lent_161 ?_
      refine aw_isub d_X12_lent_162 ?_
      refine aw_istore_n (i := 2) rfl [(0, .ref 1), (1, .int x1), (2, .int (x2 - ((1 : Int32) <<< ((2 * x3) &&& 31)))), (3, .int x3), (4, .int x4), (5, .int x5)] d_X12_lent_163 (Nat.le_of_ble_eq_true rfl) rfl rfl ?_
      refine aw_iinc (v := (x4 + 1)) [(0, .ref 1), (1, .int x1), (2, .int (x2 - ((1 : Int32) <<< ((2 * x3) &&& 31)))), (3, .int x3), (4, .int (x4 + 1)), (5, .int x5)] d_X12_lent_164 4 rfl rfl (Nat.le_of_ble_eq_true rfl) rfl rfl ?_
      refine aw_goto (tgt := 30) d_X12_lent_167 rfl ?_
      exact aw_lvp [0, 1, 2, 3, 4] [(0, .ref 1), (1, .int x1), (2, .int (x2 - ((1 : Int32) <<< ((2 * x3) &&& 31)))), (3, .int x3), (4, .int (x4 + 1))] rfl k
    · have k := k.2 c13
      refine aw_iconst (v := 0) d_X12_lent_153 ic_0 ?_
      refine aw_goto (tgt := 162) d_X12_lent_154 rfl ?_
      refine aw_isub d_X12_lent_162 ?_
      refine aw_istore_n (i := 2) rfl [(0, .ref 1), (1, .int x1), (2, .int (x2 - 0)), (3, .int x3), (4, .int x4), (5, .int x5)] d_X12_lent_163 (Nat.le_of_ble_eq_true rfl) rfl rfl ?_
      refine aw_iinc (v := (x4 + 1)) [(0, .ref 1), (1, .int x1), (2, .int (x2 - 0)), (3, .int x3), (4, .int (x4 + 1)), (5, .int x5)] d_X12_lent_164 4 rfl rfl (Nat.le_of_ble_eq_true rfl) rfl rfl ?_
      refine aw_goto (tgt := 30) d_X12_lent_167 rfl ?_
      exact aw_lvp [0, 1, 2, 3, 4] [(0, .ref 1), (1, .int x1), (2, .int (x2 - 0)), (3, .int x3), (4, .int (x4 + 1))] rfl k
  · have k := k.2 c12
    refine aw_aload_n (i := 0) rfl d_X12_lent_51 0 rfl ?_
    refine aw_getr (k0 := 121) kc_12 (ws_1 w) (Nat.le_of_ble_eq_true rfl) tw_1863 d_X12_lent_52 rfl (wr_1_121 w) ?_
    refine aw_iconst (v := 4) d_X12_lent_55 ic_4 ?_
    refine aw_iload d_X12_lent_56 4 rfl ?_
    refine aw_imul d_X12_lent_58 ?_
    refine aw_iload d_X12_lent_59 5 rfl ?_
    refine aw_iadd d_X12_lent_61 ?_
    obtain ⟨b14, k⟩ := k
    refine aw_iald (ws_292 w) b14 d_X12_lent_62 ?_
    refine aw_istore [(0, .ref 1), (1, .int x1), (2, .int x2), (3, .int x3), (4, .int x4), (5, .int x5), (6, .int (h_i h 292 (((4 * x4) + x5) : Int32).toNatClampNeg))] d_X12_lent_63 (Nat.le_of_ble_eq_true rfl) rfl rfl ?_
    refine aw_iload_n (i := 2) rfl d_X12_lent_65 2 rfl ?_
    refine aw_iload d_X12_lent_66 5 rfl ?_
    refine aw_Si [.int x2, .int x5] [] d_X12_lent_68 (cS_X12_wanted (d + 0) 0 0) tw_2649 rfl (rr0 (Nat.le_of_ble_eq_true rfl) (Nat.le_of_ble_eq_true rfl)) (Nat.le_of_ble_eq_true rfl) xs0 k (fun r17 h15 kk => ?_)
    obtain ⟨w16, k⟩ := kk
    refine aw_if_eq (tgt := 141) d_X12_lent_71 rfl (fun c18 => ?_) (fun c18 => ?_)
    · have k := k.1 c18
      refine aw_iinc (v := (x5 + (-1))) [(0, .ref 1), (1, .int x1), (2, .int x2), (3, .int x3), (4, .int x4), (5, .int (x5 + (-1))), (6, .int (h_i h 292 (((4 * x4) + x5) : Int32).toNatClampNeg))] d_X12_lent_141 5 rfl rfl (Nat.le_of_ble_eq_true rfl) rfl rfl ?_
      refine aw_goto (tgt := 46) d_X12_lent_144 rfl ?_
      exact aw_lvp [0, 1, 2, 3, 4, 5] [(0, .ref 1), (1, .int x1), (2, .int x2), (3, .int x3), (4, .int x4), (5, .int (x5 + (-1)))] rfl k
    · have k := k.2 c18
      refine aw_iload d_X12_lent_74 6 rfl ?_
      refine aw_ldcw (v := 1000000000) d_X12_lent_76 tw_2647 ?_
      refine aw_icmp_ne (tgt := 85) d_X12_lent_79 rfl (fun c19 => ?_) (fun c19 => ?_)
      · have k := k.1 c19
        refine aw_aload_n (i := 0) rfl d_X12_lent_85 0 rfl ?_
        refine aw_getr (k0 := 120) kc_12 (ws_1 w16) (Nat.le_of_ble_eq_true rfl) tw_1862 d_X12_lent_86 rfl (wr_1_120 w16) ?_
        refine aw_sipush (v := 256) d_X12_lent_89 is_256 ?_
        refine aw_iload d_X12_lent_92 4 rfl ?_
        refine aw_iconst (v := 1) d_X12_lent_94 ic_1 ?_
        refine aw_iadd d_X12_lent_95 ?_
        refine aw_imul d_X12_lent_96 ?_
        refine aw_iload_n (i := 2) rfl d_X12_lent_97 2 rfl ?_
        refine aw_iadd d_X12_lent_98 ?_
        refine aw_iconst (v := 1) d_X12_lent_99 ic_1 ?_
        refine aw_iconst (v := 2) d_X12_lent_100 ic_2 ?_
        refine aw_iload d_X12_lent_101 5 rfl ?_
        refine aw_imul d_X12_lent_103 ?_
        refine aw_ishl d_X12_lent_104 ?_
        refine aw_isub d_X12_lent_105 ?_
        obtain ⟨b20, k⟩ := k
        refine aw_iald (ws_291 w16) b20 d_X12_lent_106 ?_
        refine aw_istore [(0, .ref 1), (1, .int x1), (2, .int x2), (3, .int x3), (4, .int x4), (5, .int x5), (6, .int (h_i h 292 (((4 * x4) + x5) : Int32).toNatClampNeg)), (7, .int (h_i h15 291 ((((256 * (x4 + 1)) + x2) - ((1 : Int32) <<< ((2 * x5) &&& 31))) : Int32).toNatClampNeg))] d_X12_lent_107 (Nat.le_of_ble_eq_true rfl) rfl rfl ?_
        refine aw_iload d_X12_lent_109 7 rfl ?_
        refine aw_ldcw (v := 1000000000) d_X12_lent_111 tw_2647 ?_
        refine aw_icmp_ge (tgt := 141) d_X12_lent_114 rfl (fun c21 => ?_) (fun c21 => ?_)
        · have k := k.1 c21
          refine aw_iinc (v := (x5 + (-1))) [(0, .ref 1), (1, .int x1), (2, .int x2), (3, .int x3), (4, .int x4), (5, .int (x5 + (-1))), (6, .int (h_i h 292 (((4 * x4) + x5) : Int32).toNatClampNeg)), (7, .int (h_i h15 291 ((((256 * (x4 + 1)) + x2) - ((1 : Int32) <<< ((2 * x5) &&& 31))) : Int32).toNatClampNeg))] d_X12_lent_141 5 rfl rfl (Nat.le_of_ble_eq_true rfl) rfl rfl ?_
          refine aw_goto (tgt := 46) d_X12_lent_144 rfl ?_
          exact aw_lvp [0, 1, 2, 3, 4, 5] [(0, .ref 1), (1, .int x1), (2, .int x2), (3, .int x3), (4, .int x4), (5, .int (x5 + (-1)))] rfl k
        · have k := k.2 c21
          refine aw_iload d_X12_lent_117 6 rfl ?_
          refine aw_iload d_X12_lent_119 7 rfl ?_
          refine aw_iadd d_X12_lent_121 ?_
          refine aw_aload_n (i := 0) rfl d_X12_lent_122 0 rfl ?_
          refine aw_getr (k0 := 120) kc_12 (ws_1 w16) (Nat.le_of_ble_eq_true rfl) tw_1862 d_X12_lent_123 rfl (wr_1_120 w16) ?_
          refine aw_sipush (v := 256) d_X12_lent_126 is_256 ?_
          refine aw_iload d_X12_lent_129 4 rfl ?_
          refine aw_imul d_X12_lent_131 ?_
          refine aw_iload_n (i := 2) rfl d_X12_lent_132 2 rfl ?_
          refine aw_iadd d_X12_lent_133 ?_
          obtain ⟨b22, k⟩ := k
          refine aw_iald (ws_291 w16) b22 d_X12_lent_134 ?_
          refine aw_icmp_ne (tgt := 141) d_X12_lent_135 rfl (fun c23 => ?_) (fun c23 => ?_)
          · have k := k.1 c23
            refine aw_iinc (v := (x5 + (-1))) [(0, .ref 1), (1, .int x1), (2, .int x2), (3, .int x3), (4, .int x4), (5, .int (x5 + (-1))), (6, .int (h_i h 292 (((4 * x4) + x5) : Int32).toNatClampNeg)), (7, .int (h_i h15 291 ((((256 * (x4 + 1)) + x2) - ((1 : Int32) <<< ((2 * x5) &&& 31))) : Int32).toNatClampNeg))] d_X12_lent_141 5 rfl rfl (Nat.le_of_ble_eq_true rfl) rfl rfl ?_
            refine aw_goto (tgt := 46) d_X12_lent_144 rfl ?_
            exact aw_lvp [0, 1, 2, 3, 4, 5] [(0, .ref 1), (1, .int x1), (2, .int x2), (3, .int x3), (4, .int x4), (5, .int (x5 + (-1)))] rfl k
          · have k := k.2 c23
            refine aw_iload d_X12_lent_138 5 rfl ?_
            refine aw_istore_n (i := 3) rfl [(0, .ref 1), (1, .int x1), (2, .int x2), (3, .int x5), (4, .int x4), (5, .int x5), (6, .int (h_i h 292 (((4 * x4) + x5) : Int32).toNatClampNeg)), (7, .int (h_i h15 291 ((((256 * (x4 + 1)) + x2) - ((1 : Int32) <<< ((2 * x5) &&& 31))) : Int32).toNatClampNeg))] d_X12_lent_140 (Nat.le_of_ble_eq_true rfl) rfl rfl ?_
            refine aw_iinc (v := (x5 + (-1))) [(0, .ref 1), (1, .int x1), (2, .int x2), (3, .int x5), (4, .int x4), (5, .int (x5 + (-1))), (6, .int (h_i h 292 (((4 * x4) + x5) : Int32).toNatClampNeg)), (7, .int (h_i h15 291 ((((256 * (x4 + 1)) + x2) - ((1 : Int32) <<< ((2 * x5) &&& 31))) : Int32).toNatClampNeg))] d_X12_lent_141 5 rfl rfl (Nat.le_of_ble_eq_true rfl) rfl rfl ?_
            refine aw_goto (tgt := 46) d_X12_lent_144 rfl ?_
            exact aw_lvp [0, 1, 2, 3, 4, 5] [(0, .ref 1), (1, .int x1), (2, .int x2), (3, .int x5), (4, .int x4), (5, .int (x5 + (-1)))] rfl k
      · have k := k.2 c19
        refine aw_goto (tgt := 141) d_X12_lent_82 rfl ?_
        refine aw_iinc (v := (x5 + (-1))) [(0, .ref 1), (1, .int x1), (2, .int x2), (3, .int x3), (4, .int x4), (5, .int (x5 + (-1))), (6, .int (h_i h 292 (((4 * x4) + x5) : Int32).toNatClampNeg))] d_X12_lent_141 5 rfl rfl (Nat.le_of_ble_eq_true rfl) rfl rfl ?_
        refine aw_goto (tgt := 46) d_X12_lent_144 rfl ?_
        exact aw_lvp [0, 1, 2, 3, 4, 5] [(0, .ref 1), (1, .int x1), (2, .int x2), (3, .int x3), (4, .int x4), (5, .int (x5 + (-1)))] rfl k
theorem t_X12_wanted (d : Nat) (h : Hp_) (x0 : Int32) (x1 : Int32) (K : Int32 → Hp_ → Prop) (k : K ((x0 >>> ((2 * x1) &&& 31)) &&& 3) h) : Ci (m_X12_wanted (d + 0) 0 0) [.int x0, .int x1] h K := by
  refine Ct.of (fun _ _ _ => trivial) pn_X12 (Nat.le_of_ble_eq_true rfl) ?_
  show AW (m_X12_wanted (d + 0) 0 0) 0 0 0 [(0, .int x0), (1, .int x1)] [] h (kI K)
  refine aw_iload_n (i := 0) rfl d_X12_wanted_0 0 rfl ?_
  refine aw_iconst (v := 2) d_X12_wanted_1 ic_2 ?_
  refine aw_iload_n (i := 1) rfl d_X12_wanted_2 1 rfl ?_
  refine aw_imul d_X12_wanted_3 ?_
  refine aw_ishr d_X12_wanted_4 ?_
  refine aw_iconst (v := 3) d_X12_wanted_5 ic_3 ?_
  refine aw_iand d_X12_wanted_6 ?_
  exact aw_iret rfl d_X12_wanted_7 ⟨Nat.le_refl _, Nat.le_refl _⟩ ⟨_, rfl, k⟩
theorem t_X12_findShares (d : Nat) (h : Hp_) (w : Wf h) (x1 : Int32) (K : Int32 → Hp_ → Prop) (k : (¬ (1 ≤ x1 ∧ x1 ≤ (((1 : Int32) <<< ((h_i h 1 42) &&& 31)) - 1)) → (((1 : Int32) ≤ 0 ∧ (0 : Int32) ≤ 5) → AW (m_X12_findShares (d + 3) 0 0) 0 0 43 [(0, .ref 1), (1, .int x1), (3, .int 0)] [] (h_im h 1 113 0) (kI K)) ∧ (¬ ((1 : Int32) ≤ 0 ∧ (0 : Int32) ≤ 5) → K 0 h)) ∧ ((1 ≤ x1 ∧ x1 ≤ (((1 : Int32) <<< ((h_i h 1 42) &&& 31)) - 1)) → Ci (m_J6_bitCount_0f7a4 (d + 0) 0 0) [.int x1] h (fun r9 h7 => Wf h7 ∧ (((1 ≤ r9 ∧ r9 ≤ 5) → AW (m_X12_findShares (d + 3) 0 0) 0 0 43 [(0, .ref 1), (1, .int x1), (3, .int 0)] [] (h_im h7 1 113 0) (kI K)) ∧ (¬ (1 ≤ r9 ∧ r9 ≤ 5) → K 0 h7))))) : Ci (m_X12_findShares (d + 3) 0 0) [.ref 1, .int x1] h K := by
  refine Ct.of (fun _ _ _ => trivial) pn_X12 (Nat.le_of_ble_eq_true rfl) ?_
  show AW (m_X12_findShares (d + 3) 0 0) 0 0 0 [(0, .ref 1), (1, .int x1)] [] h (kI K)
  refine aw_iload_n (i := 1) rfl d_X12_findShares_0 1 rfl ?_
  refine aw_iconst (v := 1) d_X12_findShares_1 ic_1 ?_
  refine aw_iconst (v := 1) d_X12_findShares_2 ic_1 ?_
  refine aw_aload_n (i := 0) rfl d_X12_findShares_3 0 rfl ?_
  refine aw_geti (k0 := 42) kc_12 (ws_1 w) (Nat.le_of_ble_eq_true rfl) tw_1784 d_X12_findShares_4 rfl ?_
  refine aw_ishl d_X12_findShares_7 ?_
  refine aw_iconst (v := 1) d_X12_findShares_8 ic_1 ?_
  refine aw_isub d_X12_findShares_9 ?_
  refine aw_Si [.int x1, .int 1, .int (((1 : Int32) <<< ((h_i h 1 42) &&& 31)) - 1)] [] d_X12_findShares_10 (cS_X12_in (d + 0) 0 0) tw_2143 rfl (rr0 (Nat.le_of_ble_eq_true rfl) (Nat.le_of_ble_eq_true rfl)) (Nat.le_of_ble_eq_true rfl) xs0 (s_X12_in _ _ x1 1 (((1 : Int32) <<< ((h_i h 1 42) &&& 31)) - 1)) (fun _ _ kk => ?_)
  obtain ⟨e1, e2⟩ := kk
  rw [e1, e2]
  refine aw_ifb_eq (tgt := 23) d_X12_findShares_13 rfl (fun c3 => ?_) (fun c3 => ?_)
  · have k := k.1 c3
    refine aw_iconst (v := 0) d_X12_findShares_23 ic_0 ?_
    refine aw_istore_n (i := 2) rfl [(0, .ref 1), (1, .int x1), (2, .int 0)] d_X12_findShares_24 (Nat.le_of_ble_eq_true rfl) rfl rfl ?_
    refine aw_iload_n (i := 2) rfl d_X12_findShares_25 2 rfl ?_
    refine aw_iconst (v := 1) d_X12_findShares_26 ic_1 ?_
    refine aw_iconst (v := 5) d_X12_findShares_27 ic_5 ?_
    refine aw_Si [.int 0, .int 1, .int 5] [] d_X12_findShares_28 (cS_X12_in (d + 0) 0 0) tw_2143 rfl (rr0 (Nat.le_of_ble_eq_true rfl) (Nat.le_of_ble_eq_true rfl)) (Nat.le_of_ble_eq_true rfl) xs0 (s_X12_in _ _ 0 1 5) (fun _ _ kk => ?_)
    obtain ⟨e4, e5⟩ := kk
    rw [e4, e5]
    refine aw_ifb_ne (tgt := 36) d_X12_findShares_31 rfl (fun c6 => ?_) (fun c6 => ?_)
    · have k := k.1 c6
      refine aw_aload_n (i := 0) rfl d_X12_findShares_36 0 rfl ?_
      refine aw_iconst (v := 0) d_X12_findShares_37 ic_0 ?_
      refine aw_puti (k0 := 113) kc_12 (ws_1 w) (Nat.le_of_ble_eq_true rfl) tw_1855 d_X12_findShares_38 rfl rfl nf_i ?_
      refine aw_iconst (v := 0) d_X12_findShares_41 ic_0 ?_
      refine aw_istore_n (i := 3) rfl [(0, .ref 1), (1, .int x1), (2, .int 0), (3, .int 0)] d_X12_findShares_42 (Nat.le_of_ble_eq_true rfl) rfl rfl ?_
      exact aw_lvp [0, 1, 3] [(0, .ref 1), (1, .int x1), (3, .int 0)] rfl k
    · have k := k.2 c6
      refine aw_iconst (v := 0) d_X12_findShares_34 ic_0 ?_
      exact aw_zret rfl rfl d_X12_findShares_35 ⟨Nat.le_refl _, Nat.le_refl _⟩ ⟨_, rfl, k⟩
  · have k := k.2 c3
    refine aw_iload_n (i := 1) rfl d_X12_findShares_16 1 rfl ?_
    refine aw_Si [.int x1] [] d_X12_findShares_17 (cS_J6_bitCount_0f7a4 (d + 0) 0 0) tw_2539 rfl (rr0 (Nat.le_of_ble_eq_true rfl) (Nat.le_of_ble_eq_true rfl)) (Nat.le_of_ble_eq_true rfl) xs0 k (fun r9 h7 kk => ?_)
    obtain ⟨w8, k⟩ := kk
    refine aw_goto (tgt := 24) d_X12_findShares_20 rfl ?_
    refine aw_istore_n (i := 2) rfl [(0, .ref 1), (1, .int x1), (2, .int r9)] d_X12_findShares_24 (Nat.le_of_ble_eq_true rfl) rfl rfl ?_
    refine aw_iload_n (i := 2) rfl d_X12_findShares_25 2 rfl ?_
    refine aw_iconst (v := 1) d_X12_findShares_26 ic_1 ?_
    refine aw_iconst (v := 5) d_X12_findShares_27 ic_5 ?_
    refine aw_Si [.int r9, .int 1, .int 5] [] d_X12_findShares_28 (cS_X12_in (d + 0) 0 0) tw_2143 rfl (rr0 (Nat.le_of_ble_eq_true rfl) (Nat.le_of_ble_eq_true rfl)) (Nat.le_of_ble_eq_true rfl) xs0 (s_X12_in _ _ r9 1 5) (fun _ _ kk => ?_)
    obtain ⟨e10, e11⟩ := kk
    rw [e10, e11]
    refine aw_ifb_ne (tgt := 36) d_X12_findShares_31 rfl (fun c12 => ?_) (fun c12 => ?_)
    · have k := k.1 c12
      refine aw_aload_n (i := 0) rfl d_X12_findShares_36 0 rfl ?_
      refine aw_iconst (v := 0) d_X12_findShares_37 ic_0 ?_
      refine aw_puti (k0 := 113) kc_12 (ws_1 w8) (Nat.le_of_ble_eq_true rfl) tw_1855 d_X12_findShares_38 rfl rfl nf_i ?_
      refine aw_iconst (v := 0) d_X12_findShares_41 ic_0 ?_
      refine aw_istore_n (i := 3) rfl [(0, .ref 1), (1, .int x1), (2, .int r9), (3, .int 0)] d_X12_findShares_42 (Nat.le_of_ble_eq_true rfl) rfl rfl ?_
      exact aw_lvp [0, 1, 3] [(0, .ref 1), (1, .int x1), (3, .int 0)] rfl k
    · have k := k.2 c12
      refine aw_iconst (v := 0) d_X12_findShares_34 ic_0 ?_
      exact aw_zret rfl rfl d_X12_findShares_35 ⟨Nat.le_refl _, Nat.le_refl _⟩ ⟨_, rfl, k⟩
theorem t_X12_findShares_43 (d : Nat) (h : Hp_) (w : Wf h) (x1 : Int32) (x3 : Int32) (K : Int32 → Hp_ → Prop) (k : ((h_i h 1 42) ≤ x3 → Cv (m_X12_share1 (d + 2) 0 0) [.ref 1, .int 0, .int 12] (h_im (h_im h 1 114 (-1)) 1 115 (-1)) (fun h14 => Wf h14 ∧ (K 1 h14))) ∧ (¬ (h_i h 1 42) ≤ x3 → (¬ ((x1 >>> (x3 &&& 31)) &&& 1) = 1 → AW (m_X12_findShares (d + 3) 0 0) 0 0 43 [(0, .ref 1), (1, .int x1), (3, .int (x3 + 1))] [] h (kI K)) ∧ (((x1 >>> (x3 &&& 31)) &&& 1) = 1 → vp_in (h_i h 1 113) 5 ∧ (vp_in (h_i h 1 113) 5 ∧ (AW (m_X12_findShares (d + 3) 0 0) 0 0 83 [(0, .ref 1), (1, .int x1), (3, .int x3), (4, .int 0)] [] (h_im (h_im h 284 ((h_i h 1 113) : Int32).toNatClampNeg x3) 287 ((h_i h 1 113) : Int32).toNatClampNeg 0) (kI K)))))) : AW (m_X12_findShares (d + 3) 0 0) 0 0 43 [(0, .ref 1), (1, .int x1), (3, .int x3)] [] h (kI K) := by
  refine aw_iload_n (i := 3) rfl d_X12_findShares_43 2 rfl ?_
  refine aw_aload_n (i := 0) rfl d_X12_findShares_44 0 rfl ?_
  refine aw_geti (k0 := 42) kc_12 (ws_1 w) (Nat.le_of_ble_eq_true rfl) tw_1784 d_X12_findShares_45 rfl ?_
  refine aw_icmp_ge (tgt := 144) d_X12_findShares_48 rfl (fun c13 => ?_) (fun c13 => ?_)
  · have k := k.1 c13
    refine aw_aload_n (i := 0) rfl d_X12_findShares_144 0 rfl ?_
    refine aw_iconst (v := (-1)) d_X12_findShares_145 ic_m1 ?_
    refine aw_puti (k0 := 114) kc_12 (ws_1 w) (Nat.le_of_ble_eq_true rfl) tw_1856 d_X12_findShares_146 rfl rfl nf_i ?_
    refine aw_aload_n (i := 0) rfl d_X12_findShares_149 0 rfl ?_
    refine aw_iconst (v := (-1)) d_X12_findShares_150 ic_m1 ?_
    refine aw_puti (k0 := 115) kc_12 (ws_1 w) (Nat.le_of_ble_eq_true rfl) tw_1857 d_X12_findShares_151 rfl rfl nf_i ?_
    refine aw_aload_n (i := 0) rfl d_X12_findShares_154 0 rfl ?_
    refine aw_iconst (v := 0) d_X12_findShares_155 ic_0 ?_
    refine aw_bipush (v := 12) d_X12_findShares_156 ib_12 ?_
    refine aw_Vv 1 [.int 0, .int 12] [] d_X12_findShares_158 (cV_X12_share1 (d + 2) 0 0) kc_12 (ws_1 w) tw_2615 rfl (rr0 (Nat.le_of_ble_eq_true rfl) (Nat.le_of_ble_eq_true rfl)) (Nat.le_of_ble_eq_true rfl) xs0 k (fun h14 kk => ?_)
    obtain ⟨w15, k⟩ := kk
    refine aw_iconst (v := 1) d_X12_findShares_161 ic_1 ?_
    exact aw_zret rfl rfl d_X12_findShares_162 ⟨Nat.le_refl _, Nat.le_refl _⟩ ⟨_, rfl, k⟩
  · have k := k.2 c13
    refine aw_iload_n (i := 1) rfl d_X12_findShares_51 1 rfl ?_
    refine aw_iload_n (i := 3) rfl d_X12_findShares_52 2 rfl ?_
    refine aw_ishr d_X12_findShares_53 ?_
    refine aw_iconst (v := 1) d_X12_findShares_54 ic_1 ?_
    refine aw_iand d_X12_findShares_55 ?_
    refine aw_iconst (v := 1) d_X12_findShares_56 ic_1 ?_
    refine aw_icmp_ne (tgt := 138) d_X12_findShares_57 rfl (fun c17 => ?_) (fun c17 => ?_)
    · have k := k.1 c17
      refine aw_iinc (v := (x3 + 1)) [(0, .ref 1), (1, .int x1), (3, .int (x3 + 1))] d_X12_findShares_138 2 rfl rfl (Nat.le_of_ble_eq_true rfl) rfl rfl ?_
      refine aw_goto (tgt := 43) d_X12_findShares_141 rfl ?_
      exact k
    · have k := k.2 c17
      refine aw_aload_n (i := 0) rfl d_X12_findShares_60 0 rfl ?_
      refine aw_getr (k0 := 109) kc_12 (ws_1 w) (Nat.le_of_ble_eq_true rfl) tw_1851 d_X12_findShares_61 rfl (wr_1_109 w) ?_
      refine aw_aload_n (i := 0) rfl d_X12_findShares_64 0 rfl ?_
      refine aw_geti (k0 := 113) kc_12 (ws_1 w) (Nat.le_of_ble_eq_true rfl) tw_1855 d_X12_findShares_65 rfl ?_
      refine aw_iload_n (i := 3) rfl d_X12_findShares_68 2 rfl ?_
      obtain ⟨b18, k⟩ := k
      refine aw_iast (ws_284 w) b18 d_X12_findShares_69 ?_
      refine aw_aload_n (i := 0) rfl d_X12_findShares_70 0 rfl ?_
      refine aw_getr (k0 := 112) kc_12 (ws_1 w) (Nat.le_of_ble_eq_true rfl) tw_1854 d_X12_findShares_71 rfl (wr_1_112 w) ?_
      refine aw_aload_n (i := 0) rfl d_X12_findShares_74 0 rfl ?_
      refine aw_geti (k0 := 113) kc_12 (ws_1 w) (Nat.le_of_ble_eq_true rfl) tw_1855 d_X12_findShares_75 rfl ?_
      refine aw_vi (v2 := (h_i h 1 113)) (rfl) ?_
      refine aw_iconst (v := 0) d_X12_findShares_78 ic_0 ?_
      obtain ⟨b19, k⟩ := k
      refine aw_iast (ws_287 w) b19 d_X12_findShares_79 ?_
      refine aw_iconst (v := 0) d_X12_findShares_80 ic_0 ?_
      refine aw_istore [(0, .ref 1), (1, .int x1), (3, .int x3), (4, .int 0)] d_X12_findShares_81 (Nat.le_of_ble_eq_true rfl) rfl rfl ?_
      exact k
theorem t_X12_findShares_83 (d : Nat) (h : Hp_) (w : Wf h) (x1 : Int32) (x3 : Int32) (x4 : Int32) (K : Int32 → Hp_ → Prop) (k : ((h_i h 1 108) ≤ x4 → AW (m_X12_findShares (d + 3) 0 0) 0 0 43 [(0, .ref 1), (1, .int x1), (3, .int (x3 + 1))] [] (h_im h 1 113 ((h_i h 1 113) + 1)) (kI K)) ∧ (¬ (h_i h 1 108) ≤ x4 → vp_in (h_i h 1 113) 5 ∧ (Ci (m_X12_doesSee (d + 1) 0 0) [.ref 1, .int x3, .int x4] h (fun r24 h22 => Wf h22 ∧ ((r24 = 0 → vp_in (h_i h 1 113) 5 ∧ (AW (m_X12_findShares (d + 3) 0 0) 0 0 83 [(0, .ref 1), (1, .int x1), (3, .int x3), (4, .int (x4 + 1))] [] (h_im h22 287 ((h_i h 1 113) : Int32).toNatClampNeg ((h_i h 287 ((h_i h 1 113) : Int32).toNatClampNeg) ||| 0)) (kI K))) ∧ (¬ r24 = 0 → vp_in (h_i h 1 113) 5 ∧ (AW (m_X12_findShares (d + 3) 0 0) 0 0 83 [(0, .ref 1), (1, .int x1), (3, .int x3), (4, .int (x4 + 1))] [] (h_im h22 287 ((h_i h 1 113) : Int32).toNatClampNeg ((h_i h 287 ((h_i h 1 113) : Int32).toNatClampNeg) ||| ((1 : Int32) <<< (x4 &&& 31)))) (kI K)))))))) : AW (m_X12_findShares (d + 3) 0 0) 0 0 83 [(0, .ref 1), (1, .int x1), (3, .int x3), (4, .int x4)] [] h (kI K) := by
  refine aw_iload d_X12_findShares_83 3 rfl ?_
  refine aw_aload_n (i := 0) rfl d_X12_findShares_85 0 rfl ?_
  refine aw_geti (k0 := 108) kc_12 (ws_1 w) (Nat.le_of_ble_eq_true rfl) tw_1850 d_X12_findShares_86 rfl ?_
  refine aw_icmp_ge (tgt := 128) d_X12_findShares_89 rfl (fun c20 => ?_) (fun c20 => ?_)
  · have k := k.1 c20
    refine aw_aload_n (i := 0) rfl d_X12_findShares_128 0 rfl ?_
    refine aw_dup d_X12_findShares_129 rfl ?_
    refine aw_geti (k0 := 113) kc_12 (ws_1 w) (Nat.le_of_ble_eq_true rfl) tw_1855 d_X12_findShares_130 rfl ?_
    refine aw_iconst (v := 1) d_X12_findShares_133 ic_1 ?_
    refine aw_iadd d_X12_findShares_134 ?_
    refine aw_puti (k0 := 113) kc_12 (ws_1 w) (Nat.le_of_ble_eq_true rfl) tw_1855 d_X12_findShares_135 rfl rfl nf_i ?_
    refine aw_iinc (v := (x3 + 1)) [(0, .ref 1), (1, .int x1), (3, .int (x3 + 1)), (4, .int x4)] d_X12_findShares_138 2 rfl rfl (Nat.le_of_ble_eq_true rfl) rfl rfl ?_
    refine aw_goto (tgt := 43) d_X12_findShares_141 rfl ?_
    exact aw_lvp [0, 1, 2] [(0, .ref 1), (1, .int x1), (3, .int (x3 + 1))] rfl k
  · have k := k.2 c20
    refine aw_aload_n (i := 0) rfl d_X12_findShares_92 0 rfl ?_
    refine aw_getr (k0 := 112) kc_12 (ws_1 w) (Nat.le_of_ble_eq_true rfl) tw_1854 d_X12_findShares_93 rfl (wr_1_112 w) ?_
    refine aw_aload_n (i := 0) rfl d_X12_findShares_96 0 rfl ?_
    refine aw_geti (k0 := 113) kc_12 (ws_1 w) (Nat.le_of_ble_eq_true rfl) tw_1855 d_X12_findShares_97 rfl ?_
    refine aw_dup2 d_X12_findShares_100 ⟨rfl, rfl⟩ ?_
    obtain ⟨b21, k⟩ := k
    refine aw_iald (ws_287 w) b21 d_X12_findShares_101 ?_
    refine aw_aload_n (i := 0) rfl d_X12_findShares_102 0 rfl ?_
    refine aw_iload_n (i := 3) rfl d_X12_findShares_103 2 rfl ?_
    refine aw_iload d_X12_findShares_104 3 rfl ?_
    refine aw_Vi 1 [.int x3, .int x4] [.int (h_i h 287 ((h_i h 1 113) : Int32).toNatClampNeg), .int (h_i h 1 113), .ref 287] d_X12_findShares_106 (cV_X12_doesSee (d + 1) 0 0) kc_12 (ws_1 w) tw_2603 rfl (rr0 (Nat.le_of_ble_eq_true rfl) (Nat.le_of_ble_eq_true rfl)) (Nat.le_of_ble_eq_true rfl) xs0 k (fun r24 h22 kk => ?_)
    obtain ⟨w23, k⟩ := kk
    refine aw_if_eq (tgt := 119) d_X12_findShares_109 rfl (fun c25 => ?_) (fun c25 => ?_)
    · have k := k.1 c25
      refine aw_iconst (v := 0) d_X12_findShares_119 ic_0 ?_
      refine aw_ior d_X12_findShares_120 ?_
      obtain ⟨b26, k⟩ := k
      refine aw_iast (ws_287 w23) b26 d_X12_findShares_121 ?_
      refine aw_iinc (v := (x4 + 1)) [(0, .ref 1), (1, .int x1), (3, .int x3), (4, .int (x4 + 1))] d_X12_findShares_122 3 rfl rfl (Nat.le_of_ble_eq_true rfl) rfl rfl ?_
      refine aw_goto (tgt := 83) d_X12_findShares_125 rfl ?_
      exact k
    · have k := k.2 c25
      refine aw_iconst (v := 1) d_X12_findShares_112 ic_1 ?_
      refine aw_iload d_X12_findShares_113 3 rfl ?_
      refine aw_ishl d_X12_findShares_115 ?_
      refine aw_goto (tgt := 120) d_X12_findShares_116 rfl ?_
      refine aw_ior d_X12_findShares_120 ?_
      obtain ⟨b27, k⟩ := k
      refine aw_iast (ws_287 w23) b27 d_X12_findShares_121 ?_
      refine aw_iinc (v := (x4 + 1)) [(0, .ref 1), (1, .int x1), (3, .int x3), (4, .int (x4 + 1))] d_X12_findShares_122 3 rfl rfl (Nat.le_of_ble_eq_true rfl) rfl rfl ?_
      refine aw_goto (tgt := 83) d_X12_findShares_125 rfl ?_
      exact k
end
section
theorem t_J6_bitCount_0f7a4 (d : Nat) (h : Hp_) (x0 : Int32) (K : Int32 → Hp_ → Prop) (k : K ((((((((x0 - (((x0.toUInt32 >>> ((1 : Int32).toUInt32 &&& Int32.toUInt32 31)).toInt32) &&& 1431655765)) &&& 858993459) + ((((x0 - (((x0.toUInt32 >>> ((1 : Int32).toUInt32 &&& Int32.toUInt32 31)).toInt32) &&& 1431655765)).toUInt32 >>> ((2 : Int32).toUInt32 &&& Int32.toUInt32 31)).toInt32) &&& 858993459)) + (((((x0 - (((x0.toUInt32 >>> ((1 : Int32).toUInt32 &&& Int32.toUInt32 31)).toInt32) &&& 1431655765)) &&& 858993459) + ((((x0 - (((x0.toUInt32 >>> ((1 : Int32).toUInt32 &&& Int32.toUInt32 31)).toInt32) &&& 1431655765)).toUInt32 >>> ((2 : Int32).toUInt32 &&& Int32.toUInt32 31)).toInt32) &&& 858993459)).toUInt32 >>> ((4 : Int32).toUInt32 &&& Int32.toUInt32 31)).toInt32)) &&& 252645135) + (((((((x0 - (((x0.toUInt32 >>> ((1 : Int32).toUInt32 &&& Int32.toUInt32 31)).toInt32) &&& 1431655765)) &&& 858993459) + ((((x0 - (((x0.toUInt32 >>> ((1 : Int32).toUInt32 &&& Int32.toUInt32 31)).toInt32) &&& 1431655765)).toUInt32 >>> ((2 : Int32).toUInt32 &&& Int32.toUInt32 31)).toInt32) &&& 858993459)) + (((((x0 - (((x0.toUInt32 >>> ((1 : Int32).toUInt32 &&& Int32.toUInt32 31)).toInt32) &&& 1431655765)) &&& 858993459) + ((((x0 - (((x0.toUInt32 >>> ((1 : Int32).toUInt32 &&& Int32.toUInt32 31)).toInt32) &&& 1431655765)).toUInt32 >>> ((2 : Int32).toUInt32 &&& Int32.toUInt32 31)).toInt32) &&& 858993459)).toUInt32 >>> ((4 : Int32).toUInt32 &&& Int32.toUInt32 31)).toInt32)) &&& 252645135).toUInt32 >>> ((8 : Int32).toUInt32 &&& Int32.toUInt32 31)).toInt32)) + ((((((((x0 - (((x0.toUInt32 >>> ((1 : Int32).toUInt32 &&& Int32.toUInt32 31)).toInt32) &&& 1431655765)) &&& 858993459) + ((((x0 - (((x0.toUInt32 >>> ((1 : Int32).toUInt32 &&& Int32.toUInt32 31)).toInt32) &&& 1431655765)).toUInt32 >>> ((2 : Int32).toUInt32 &&& Int32.toUInt32 31)).toInt32) &&& 858993459)) + (((((x0 - (((x0.toUInt32 >>> ((1 : Int32).toUInt32 &&& Int32.toUInt32 31)).toInt32) &&& 1431655765)) &&& 858993459) + ((((x0 - (((x0.toUInt32 >>> ((1 : Int32).toUInt32 &&& Int32.toUInt32 31)).toInt32) &&& 1431655765)).toUInt32 >>> ((2 : Int32).toUInt32 &&& Int32.toUInt32 31)).toInt32) &&& 858993459)).toUInt32 >>> ((4 : Int32).toUInt32 &&& Int32.toUInt32 31)).toInt32)) &&& 252645135) + (((((((x0 - (((x0.toUInt32 >>> ((1 : Int32).toUInt32 &&& Int32.toUInt32 31)).toInt32) &&& 1431655765)) &&& 858993459) + ((((x0 - (((x0.toUInt32 >>> ((1 : Int32).toUInt32 &&& Int32.toUInt32 31)).toInt32) &&& 1431655765)).toUInt32 >>> ((2 : Int32).toUInt32 &&& Int32.toUInt32 31)).toInt32) &&& 858993459)) + (((((x0 - (((x0.toUInt32 >>> ((1 : Int32).toUInt32 &&& Int32.toUInt32 31)).toInt32) &&& 1431655765)) &&& 858993459) + ((((x0 - (((x0.toUInt32 >>> ((1 : Int32).toUInt32 &&& Int32.toUInt32 31)).toInt32) &&& 1431655765)).toUInt32 >>> ((2 : Int32).toUInt32 &&& Int32.toUInt32 31)).toInt32) &&& 858993459)).toUInt32 >>> ((4 : Int32).toUInt32 &&& Int32.toUInt32 31)).toInt32)) &&& 252645135).toUInt32 >>> ((8 : Int32).toUInt32 &&& Int32.toUInt32 31)).toInt32)).toUInt32 >>> ((16 : Int32).toUInt32 &&& Int32.toUInt32 31)).toInt32)) &&& 63) h) : Ci (m_J6_bitCount_0f7a4 (d + 0) 0 0) [.int x0] h K := by
  refine Ct.of (fun _ _ _ => trivial) rfl (Nat.le_of_ble_eq_true rfl) ?_
  show AW (m_J6_bitCount_0f7a4 (d + 0) 0 0) 0 0 0 [(0, .int x0)] [] h (kI K)
  refine aw_iload_n (i := 0) rfl d_J6_bitCount_0f7a4_0 0 rfl ?_
  refine aw_iload_n (i := 0) rfl d_J6_bitCount_0f7a4_1 0 rfl ?_
  refine aw_iconst (v := 1) d_J6_bitCount_0f7a4_2 ic_1 ?_
  refine aw_iushr d_J6_bitCount_0f7a4_3 ?_
  refine aw_ldcw (v := 1431655765) d_J6_bitCount_0f7a4_4 tw_1268 ?_
  refine aw_iand d_J6_bitCount_0f7a4_7 ?_
  refine aw_isub d_J6_bitCount_0f7a4_8 ?_
  refine aw_istore_n (i := 0) rfl [(0, .int (x0 - (((x0.toUInt32 >>> ((1 : Int32).toUInt32 &&& Int32.toUInt32 31)).toInt32) &&& 1431655765)))] d_J6_bitCount_0f7a4_9 (Nat.le_of_ble_eq_true rfl) rfl rfl ?_
  refine aw_iload_n (i := 0) rfl d_J6_bitCount_0f7a4_10 0 rfl ?_
  refine aw_ldcw (v := 858993459) d_J6_bitCount_0f7a4_11 tw_1269 ?_
  refine aw_iand d_J6_bitCount_0f7a4_14 ?_
  refine aw_iload_n (i := 0) rfl d_J6_bitCount_0f7a4_15 0 rfl ?_
  refine aw_iconst (v := 2) d_J6_bitCount_0f7a4_16 ic_2 ?_
  refine aw_iushr d_J6_bitCount_0f7a4_17 ?_
  refine aw_ldcw (v := 858993459) d_J6_bitCount_0f7a4_18 tw_1269 ?_
  refine aw_iand d_J6_bitCount_0f7a4_21 ?_
  refine aw_iadd d_J6_bitCount_0f7a4_22 ?_
  refine aw_istore_n (i := 0) rfl [(0, .int (((x0 - (((x0.toUInt32 >>> ((1 : Int32).toUInt32 &&& Int32.toUInt32 31)).toInt32) &&& 1431655765)) &&& 858993459) + ((((x0 - (((x0.toUInt32 >>> ((1 : Int32).toUInt32 &&& Int32.toUInt32 31)).toInt32) &&& 1431655765)).toUInt32 >>> ((2 : Int32).toUInt32 &&& Int32.toUInt32 31)).toInt32) &&& 858993459)))] d_J6_bitCount_0f7a4_23 (Nat.le_of_ble_eq_true rfl) rfl rfl ?_
  refine aw_iload_n (i := 0) rfl d_J6_bitCount_0f7a4_24 0 rfl ?_
  refine aw_iload_n (i := 0) rfl d_J6_bitCount_0f7a4_25 0 rfl ?_
  refine aw_iconst (v := 4) d_J6_bitCount_0f7a4_26 ic_4 ?_
  refine aw_iushr d_J6_bitCount_0f7a4_27 ?_
  refine aw_iadd d_J6_bitCount_0f7a4_28 ?_
  refine aw_ldcw (v := 252645135) d_J6_bitCount_0f7a4_29 tw_1270 ?_
  refine aw_iand d_J6_bitCount_0f7a4_32 ?_
  refine aw_istore_n (i := 0) rfl [(0, .int (((((x0 - (((x0.toUInt32 >>> ((1 : Int32).toUInt32 &&& Int32.toUInt32 31)).toInt32) &&& 1431655765)) &&& 858993459) + ((((x0 - (((x0.toUInt32 >>> ((1 : Int32).toUInt32 &&& Int32.toUInt32 31)).toInt32) &&& 1431655765)).toUInt32 >>> ((2 : Int32).toUInt32 &&& Int32.toUInt32 31)).toInt32) &&& 858993459)) + (((((x0 - (((x0.toUInt32 >>> ((1 : Int32).toUInt32 &&& Int32.toUInt32 31)).toInt32) &&& 1431655765)) &&& 858993459) + ((((x0 - (((x0.toUInt32 >>> ((1 : Int32).toUInt32 &&& Int32.toUInt32 31)).toInt32) &&& 1431655765)).toUInt32 >>> ((2 : Int32).toUInt32 &&& Int32.toUInt32 31)).toInt32) &&& 858993459)).toUInt32 >>> ((4 : Int32).toUInt32 &&& Int32.toUInt32 31)).toInt32)) &&& 252645135))] d_J6_bitCount_0f7a4_33 (Nat.le_of_ble_eq_true rfl) rfl rfl ?_
  refine aw_iload_n (i := 0) rfl d_J6_bitCount_0f7a4_34 0 rfl ?_
  refine aw_iload_n (i := 0) rfl d_J6_bitCount_0f7a4_35 0 rfl ?_
  refine aw_bipush (v := 8) d_J6_bitCount_0f7a4_36 ib_8 ?_
  refine aw_iushr d_J6_bitCount_0f7a4_38 ?_
  refine aw_iadd d_J6_bitCount_0f7a4_39 ?_
  refine aw_istore_n (i := 0) rfl [(0, .int ((((((x0 - (((x0.toUInt32 >>> ((1 : Int32).toUInt32 &&& Int32.toUInt32 31)).toInt32) &&& 1431655765)) &&& 858993459) + ((((x0 - (((x0.toUInt32 >>> ((1 : Int32).toUInt32 &&& Int32.toUInt32 31)).toInt32) &&& 1431655765)).toUInt32 >>> ((2 : Int32).toUInt32 &&& Int32.toUInt32 31)).toInt32) &&& 858993459)) + (((((x0 - (((x0.toUInt32 >>> ((1 : Int32).toUInt32 &&& Int32.toUInt32 31)).toInt32) &&& 1431655765)) &&& 858993459) + ((((x0 - (((x0.toUInt32 >>> ((1 : Int32).toUInt32 &&& Int32.toUInt32 31)).toInt32) &&& 1431655765)).toUInt32 >>> ((2 : Int32).toUInt32 &&& Int32.toUInt32 31)).toInt32) &&& 858993459)).toUInt32 >>> ((4 : Int32).toUInt32 &&& Int32.toUInt32 31)).toInt32)) &&& 252645135) + (((((((x0 - (((x0.toUInt32 >>> ((1 : Int32).toUInt32 &&& Int32.toUInt32 31)).toInt32) &&& 1431655765)) &&& 858993459) + ((((x0 - (((x0.toUInt32 >>> ((1 : Int32).toUInt32 &&& Int32.toUInt32 31)).toInt32) &&& 1431655765)).toUInt32 >>> ((2 : Int32).toUInt32 &&& Int32.toUInt32 31)).toInt32) &&& 858993459)) + (((((x0 - (((x0.toUInt32 >>> ((1 : Int32).toUInt32 &&& Int32.toUInt32 31)).toInt32) &&& 1431655765)) &&& 858993459) + ((((x0 - (((x0.toUInt32 >>> ((1 : Int32).toUInt32 &&& Int32.toUInt32 31)).toInt32) &&& 1431655765)).toUInt32 >>> ((2 : Int32).toUInt32 &&& Int32.toUInt32 31)).toInt32) &&& 858993459)).toUInt32 >>> ((4 : Int32).toUInt32 &&& Int32.toUInt32 31)).toInt32)) &&& 252645135).toUInt32 >>> ((8 : Int32).toUInt32 &&& Int32.toUInt32 31)).toInt32)))] d_J6_bitCount_0f7a4_40 (Nat.le_of_ble_eq_true rfl) rfl rfl ?_
  refine aw_iload_n (i := 0) rfl d_J6_bitCount_0f7a4_41 0 rfl ?_
  refine aw_iload_n (i := 0) rfl d_J6_bitCount_0f7a4_42 0 rfl ?_
  refine aw_bipush (v := 16) d_J6_bitCount_0f7a4_43 ib_16 ?_
  refine aw_iushr d_J6_bitCount_0f7a4_45 ?_
  refine aw_iadd d_J6_bitCount_0f7a4_46 ?_
  refine aw_istore_n (i := 0) rfl [(0, .int (((((((x0 - (((x0.toUInt32 >>> ((1 : Int32).toUInt32 &&& Int32.toUInt32 31)).toInt32) &&& 1431655765)) &&& 858993459) + ((((x0 - (((x0.toUInt32 >>> ((1 : Int32).toUInt32 &&& Int32.toUInt32 31)).toInt32) &&& 1431655765)).toUInt32 >>> ((2 : Int32).toUInt32 &&& Int32.toUInt32 31)).toInt32) &&& 858993459)) + (((((x0 - (((x0.toUInt32 >>> ((1 : Int32).toUInt32 &&& Int32.toUInt32 31)).toInt32) &&& 1431655765)) &&& 858993459) + ((((x0 - (((x0.toUInt32 >>> ((1 : Int32).toUInt32 &&& Int32.toUInt32 31)).toInt32) &&& 1431655765)).toUInt32 >>> ((2 : Int32).toUInt32 &&& Int32.toUInt32 31)).toInt32) &&& 858993459)).toUInt32 >>> ((4 : Int32).toUInt32 &&& Int32.toUInt32 31)).toInt32)) &&& 252645135) + (((((((x0 - (((x0.toUInt32 >>> ((1 : Int32).toUInt32 &&& Int32.toUInt32 31)).toInt32) &&& 1431655765)) &&& 858993459) + ((((x0 - (((x0.toUInt32 >>> ((1 : Int32).toUInt32 &&& Int32.toUInt32 31)).toInt32) &&& 1431655765)).toUInt32 >>> ((2 : Int32).toUInt32 &&& Int32.toUInt32 31)).toInt32) &&& 858993459)) + (((((x0 - (((x0.toUInt32 >>> ((1 : Int32).toUInt32 &&& Int32.toUInt32 31)).toInt32) &&& 1431655765)) &&& 858993459) + ((((x0 - (((x0.toUInt32 >>> ((1 : Int32).toUInt32 &&& Int32.toUInt32 31)).toInt32) &&& 1431655765)).toUInt32 >>> ((2 : Int32).toUInt32 &&& Int32.toUInt32 31)).toInt32) &&& 858993459)).toUInt32 >>> ((4 : Int32).toUInt32 &&& Int32.toUInt32 31)).toInt32)) &&& 252645135).toUInt32 >>> ((8 : Int32).toUInt32 &&& Int32.toUInt32 31)).toInt32)) + ((((((((x0 - (((x0.toUInt32 >>> ((1 : Int32).toUInt32 &&& Int32.toUInt32 31)).toInt32) &&& 1431655765)) &&& 858993459) + ((((x0 - (((x0.toUInt32 >>> ((1 : Int32).toUInt32 &&& Int32.toUInt32 31)).toInt32) &&& 1431655765)).toUInt32 >>> ((2 : Int32).toUInt32 &&& Int32.toUInt32 31)).toInt32) &&& 858993459)) + (((((x0 - (((x0.toUInt32 >>> ((1 : Int32).toUInt32 &&& Int32.toUInt32 31)).toInt32) &&& 1431655765)) &&& 858993459) + ((((x0 - (((x0.toUInt32 >>> ((1 : Int32).toUInt32 &&& Int32.toUInt32 31)).toInt32) &&& 1431655765)).toUInt32 >>> ((2 : Int32).toUInt32 &&& Int32.toUInt32 31)).toInt32) &&& 858993459)).toUInt32 >>> ((4 : Int32).toUInt32 &&& Int32.toUInt32 31)).toInt32)) &&& 252645135) + (((((((x0 - (((x0.toUInt32 >>> ((1 : Int32).toUInt32 &&& Int32.toUInt32 31)).toInt32) &&& 1431655765)) &&& 858993459) + ((((x0 - (((x0.toUInt32 >>> ((1 : Int32).toUInt32 &&& Int32.toUInt32 31)).toInt32) &&& 1431655765)).toUInt32 >>> ((2 : Int32).toUInt32 &&& Int32.toUInt32 31)).toInt32) &&& 858993459)) + (((((x0 - (((x0.toUInt32 >>> ((1 : Int32).toUInt32 &&& Int32.toUInt32 31)).toInt32) &&& 1431655765)) &&& 858993459) + ((((x0 - (((x0.toUInt32 >>> ((1 : Int32).toUInt32 &&& Int32.toUInt32 31)).toInt32) &&& 1431655765)).toUInt32 >>> ((2 : Int32).toUInt32 &&& Int32.toUInt32 31)).toInt32) &&& 858993459)).toUInt32 >>> ((4 : Int32).toUInt32 &&& Int32.toUInt32 31)).toInt32)) &&& 252645135).toUInt32 >>> ((8 : Int32).toUInt32 &&& Int32.toUInt32 31)).toInt32)).toUInt32 >>> ((16 : Int32).toUInt32 &&& Int32.toUInt32 31)).toInt32)))] d_J6_bitCount_0f7a4_47 (Nat.le_of_ble_eq_true rfl) rfl rfl ?_
  refine aw_iload_n (i := 0) rfl d_J6_bitCount_0f7a4_48 0 rfl ?_
  refine aw_bipush (v := 63) d_J6_bitCount_0f7a4_49 ib_63 ?_
  refine aw_iand d_J6_bitCount_0f7a4_51 ?_
  exact aw_iret rfl d_J6_bitCount_0f7a4_52 ⟨Nat.le_refl _, Nat.le_refl _⟩ ⟨_, rfl, k⟩
/-! bits counted -/
noncomputable def bcv (x : Int32) : Int32 := ((((((((x - (((x.toUInt32 >>> ((1 : Int32).toUInt32 &&& Int32.toUInt32 31)).toInt32) &&& 1431655765)) &&& 858993459) + ((((x - (((x.toUInt32 >>> ((1 : Int32).toUInt32 &&& Int32.toUInt32 31)).toInt32) &&& 1431655765)).toUInt32 >>> ((2 : Int32).toUInt32 &&& Int32.toUInt32 31)).toInt32) &&& 858993459)) + (((((x - (((x.toUInt32 >>> ((1 : Int32).toUInt32 &&& Int32.toUInt32 31)).toInt32) &&& 1431655765)) &&& 858993459) + ((((x - (((x.toUInt32 >>> ((1 : Int32).toUInt32 &&& Int32.toUInt32 31)).toInt32) &&& 1431655765)).toUInt32 >>> ((2 : Int32).toUInt32 &&& Int32.toUInt32 31)).toInt32) &&& 858993459)).toUInt32 >>> ((4 : Int32).toUInt32 &&& Int32.toUInt32 31)).toInt32)) &&& 252645135) + (((((((x - (((x.toUInt32 >>> ((1 : Int32).toUInt32 &&& Int32.toUInt32 31)).toInt32) &&& 1431655765)) &&& 858993459) + ((((x - (((x.toUInt32 >>> ((1 : Int32).toUInt32 &&& Int32.toUInt32 31)).toInt32) &&& 1431655765)).toUInt32 >>> ((2 : Int32).toUInt32 &&& Int32.toUInt32 31)).toInt32) &&& 858993459)) + (((((x - (((x.toUInt32 >>> ((1 : Int32).toUInt32 &&& Int32.toUInt32 31)).toInt32) &&& 1431655765)) &&& 858993459) + ((((x - (((x.toUInt32 >>> ((1 : Int32).toUInt32 &&& Int32.toUInt32 31)).toInt32) &&& 1431655765)).toUInt32 >>> ((2 : Int32).toUInt32 &&& Int32.toUInt32 31)).toInt32) &&& 858993459)).toUInt32 >>> ((4 : Int32).toUInt32 &&& Int32.toUInt32 31)).toInt32)) &&& 252645135).toUInt32 >>> ((8 : Int32).toUInt32 &&& Int32.toUInt32 31)).toInt32)) + ((((((((x - (((x.toUInt32 >>> ((1 : Int32).toUInt32 &&& Int32.toUInt32 31)).toInt32) &&& 1431655765)) &&& 858993459) + ((((x - (((x.toUInt32 >>> ((1 : Int32).toUInt32 &&& Int32.toUInt32 31)).toInt32) &&& 1431655765)).toUInt32 >>> ((2 : Int32).toUInt32 &&& Int32.toUInt32 31)).toInt32) &&& 858993459)) + (((((x - (((x.toUInt32 >>> ((1 : Int32).toUInt32 &&& Int32.toUInt32 31)).toInt32) &&& 1431655765)) &&& 858993459) + ((((x - (((x.toUInt32 >>> ((1 : Int32).toUInt32 &&& Int32.toUInt32 31)).toInt32) &&& 1431655765)).toUInt32 >>> ((2 : Int32).toUInt32 &&& Int32.toUInt32 31)).toInt32) &&& 858993459)).toUInt32 >>> ((4 : Int32).toUInt32 &&& Int32.toUInt32 31)).toInt32)) &&& 252645135) + (((((((x - (((x.toUInt32 >>> ((1 : Int32).toUInt32 &&& Int32.toUInt32 31)).toInt32) &&& 1431655765)) &&& 858993459) + ((((x - (((x.toUInt32 >>> ((1 : Int32).toUInt32 &&& Int32.toUInt32 31)).toInt32) &&& 1431655765)).toUInt32 >>> ((2 : Int32).toUInt32 &&& Int32.toUInt32 31)).toInt32) &&& 858993459)) + (((((x - (((x.toUInt32 >>> ((1 : Int32).toUInt32 &&& Int32.toUInt32 31)).toInt32) &&& 1431655765)) &&& 858993459) + ((((x - (((x.toUInt32 >>> ((1 : Int32).toUInt32 &&& Int32.toUInt32 31)).toInt32) &&& 1431655765)).toUInt32 >>> ((2 : Int32).toUInt32 &&& Int32.toUInt32 31)).toInt32) &&& 858993459)).toUInt32 >>> ((4 : Int32).toUInt32 &&& Int32.toUInt32 31)).toInt32)) &&& 252645135).toUInt32 >>> ((8 : Int32).toUInt32 &&& Int32.toUInt32 31)).toInt32)).toUInt32 >>> ((16 : Int32).toUInt32 &&& Int32.toUInt32 31)).toInt32)) &&& 63)
theorem c_bitCount (d : Nat) (h : Hp_) (x : Int32) : Ci (m_J6_bitCount_0f7a4 (d + 0) 0 0) [.int x] h (fun r h' => r = bcv x ∧ h' = h) := t_J6_bitCount_0f7a4 d h x _ ⟨rfl, rfl⟩
/-- how many of the places below b of the number s hold a 1 -/
noncomputable def cnt (s : Nat) : Nat → Nat
  | 0 => 0
  | b + 1 => cnt s b + s / 2 ^ b % 2
theorem cnt_mono (s : Nat) : ∀ {b c : Nat}, b ≤ c → cnt s b ≤ cnt s c := by
  intro b c h
  induction h with
  | refl => exact Nat.le_refl _
  | step _ ih => exact Nat.le_trans ih (Nat.le_add_right _ _)
theorem cnt_top {s b : Nat} (h : s < 2 ^ b) : ∀ {c : Nat}, b ≤ c → cnt s c = cnt s b := by
  intro c hc
  induction hc with
  | refl => rfl
  | @step m hm ih =>
    show cnt s m + s / 2 ^ m % 2 = _
    have : 2 ^ b ≤ 2 ^ m := Nat.pow_le_pow_right (by omega) hm
    rw [Nat.div_eq_of_lt (by omega), ih]
    rfl
theorem zb_nv_i {x y : Int32} (h : nv x = nv y) : x = y := Int32.toInt_inj.mp (by rw [nv_ti, nv_ti, h])
noncomputable def zb_us_ (x k : Int32) : Int32 := (x.toUInt32 >>> (k.toUInt32 &&& Int32.toUInt32 31)).toInt32
noncomputable def zb_bb1 (x : Int32) : Int32 := x - (zb_us_ x 1 &&& 1431655765)
noncomputable def zb_bb2 (x : Int32) : Int32 := (x &&& 858993459) + (zb_us_ x 2 &&& 858993459)
noncomputable def zb_bb3 (x : Int32) : Int32 := (x + zb_us_ x 4) &&& 252645135
noncomputable def zb_bb4 (x : Int32) : Int32 := x + zb_us_ x 8
noncomputable def zb_bb5 (x : Int32) : Int32 := x + zb_us_ x 16
theorem zb_bcv_c (x : Int32) : bcv x = zb_bb5 (zb_bb4 (zb_bb3 (zb_bb2 (zb_bb1 x)))) &&& 63 := rfl
theorem zb_nv_us {x k : Int32} {n : Nat} (hk : (k.toUInt32 &&& Int32.toUInt32 31).toNat % 32 = n) : nv (zb_us_ x k) = nv x / 2 ^ n := by
  show (x.toUInt32 >>> (k.toUInt32 &&& Int32.toUInt32 31)).toNat = nv x / 2 ^ n
  rw [UInt32.toNat_shiftRight, hk, Nat.shiftRight_eq_div_pow]
  rfl
theorem zb_nv_add {x y : Int32} (h : nv x + nv y < 4294967296) : nv (x + y) = nv x + nv y := by
  show (x + y).toBitVec.toNat = _
  rw [Int32.toBitVec_add, BitVec.toNat_add]
  exact Nat.mod_eq_of_lt h
theorem zb_nv_sub {x y : Int32} (h : nv y ≤ nv x) : nv (x - y) = nv x - nv y := by
  show (x - y).toBitVec.toNat = _
  rw [Int32.toBitVec_sub]
  exact BitVec.toNat_sub_of_le h
theorem zb_and_sp {a b A B : Nat} (hb : b < 256) (hB : B < 256) : (256 * a + b) &&& (256 * A + B) = 256 * (a &&& A) + (b &&& B) := by
  refine Nat.eq_of_testBit_eq (fun j => ?_)
  have hc : b &&& B < 2 ^ 8 := Nat.lt_of_le_of_lt Nat.and_le_left hb
  rw [Nat.testBit_and, show 256 * a + b = 2 ^ 8 * a + b from rfl, show 256 * A + B = 2 ^ 8 * A + B from rfl, show 256 * (a &&& A) + (b &&& B) = 2 ^ 8 * (a &&& A) + (b &&& B) from rfl, Nat.testBit_two_pow_mul_add _ (show b < 2 ^ 8 from hb), Nat.testBit_two_pow_mul_add _ (show B < 2 ^ 8 from hB), Nat.testBit_two_pow_mul_add _ hc]
  by_cases l : j < 8
  · rw [if_pos l, if_pos l, if_pos l, Nat.testBit_and]
  · rw [if_neg l, if_neg l, if_neg l, Nat.testBit_and]
noncomputable def zb_q1_ (b : Nat) : Nat := b - (b / 2 &&& 85)
noncomputable def zb_q2_ (b : Nat) : Nat := (b &&& 51) + (b / 4 &&& 51)
noncomputable def zb_q3_ (b : Nat) : Nat := (b + b / 16) &&& 15
theorem zb_bt1 : (List.range 256).all (fun b => (List.range 2).all (fun c => decide (((128 * c + b / 2) &&& 85) = (b / 2 &&& 85))) && decide ((b / 2 &&& 5592405) = (b / 2 &&& 85)) && decide ((b / 2 &&& 85) ≤ b) && decide (zb_q1_ b < 256)) = true := by decide +kernel
theorem zb_bt2 : (List.range 256).all (fun b => (List.range 4).all (fun c => decide (((64 * c + b / 4) &&& 51) = (b / 4 &&& 51))) && decide ((b / 4 &&& 3355443) = (b / 4 &&& 51)) && decide ((b &&& 3355443) = (b &&& 51)) && decide (zb_q2_ b < 256)) = true := by decide +kernel
theorem zb_bt3 : (List.range 256).all (fun b => (List.range 16).all (fun c => !(decide (zb_q2_ (zb_q1_ b) ≤ 68 ∧ c ≤ 4)) || decide (((zb_q2_ (zb_q1_ b) + 16 * c + zb_q2_ (zb_q1_ b) / 16) &&& 15) = zb_q3_ (zb_q2_ (zb_q1_ b)))) && decide (zb_q2_ (zb_q1_ b) ≤ 68) && decide (zb_q2_ (zb_q1_ b) % 16 ≤ 4) && decide (((zb_q2_ (zb_q1_ b) + zb_q2_ (zb_q1_ b) / 16) &&& 986895) = zb_q3_ (zb_q2_ (zb_q1_ b))) && decide (zb_q3_ (zb_q2_ (zb_q1_ b)) = cnt b 8) && decide (cnt b 8 ≤ 8)) = true := by decide +kernel
theorem zb_nv_bb1 {x : Int32} {a b : Nat} (ha : a < 256) (hb : b < 256) (e : nv x = 256 * a + b) : nv (zb_bb1 x) = 256 * zb_q1_ a + zb_q1_ b := by
  have zb := List.all_eq_true.mp zb_bt1 b (List.mem_range.mpr hb)
  have za := List.all_eq_true.mp zb_bt1 a (List.mem_range.mpr ha)
  simp only [Bool.and_eq_true, decide_eq_true_eq] at zb za
  have zc := of_decide_eq_true (List.all_eq_true.mp zb.1.1.1 (a % 2) (List.mem_range.mpr (by omega)))
  have m : nv (zb_us_ x 1 &&& 1431655765) = 256 * (a / 2 &&& 85) + (b / 2 &&& 85) := by
    rw [nv_and, zb_nv_us (n := 1) (by decide), e, show (256 * a + b) / 2 ^ 1 = 256 * (a / 2) + (128 * (a % 2) + b / 2) by omega, show nv 1431655765 = 256 * 5592405 + 85 from rfl, zb_and_sp (by omega) (by decide), zc, za.1.1.2]
  unfold zb_bb1 zb_q1_
  rw [zb_nv_sub (by rw [m, e]; omega), m, e]
  omega
theorem zb_nv_bb2 {x : Int32} {a b : Nat} (ha : a < 256) (hb : b < 256) (e : nv x = 256 * a + b) : nv (zb_bb2 x) = 256 * zb_q2_ a + zb_q2_ b := by
  have zb := List.all_eq_true.mp zb_bt2 b (List.mem_range.mpr hb)
  have za := List.all_eq_true.mp zb_bt2 a (List.mem_range.mpr ha)
  simp only [Bool.and_eq_true, decide_eq_true_eq] at zb za
  have zc := of_decide_eq_true (List.all_eq_true.mp zb.1.1.1 (a % 4) (List.mem_range.mpr (by omega)))
  have m1 : nv (zb_us_ x 2 &&& 858993459) = 256 * (a / 4 &&& 51) + (b / 4 &&& 51) := by
    rw [nv_and, zb_nv_us (n := 2) (by decide), e, show (256 * a + b) / 2 ^ 2 = 256 * (a / 4) + (64 * (a % 4) + b / 4) by omega, show nv 858993459 = 256 * 3355443 + 51 from rfl, zb_and_sp (by omega) (by decide), zc, za.1.1.2]
  have m2 : nv (x &&& 858993459) = 256 * (a &&& 51) + (b &&& 51) := by
    rw [nv_and, e, show nv 858993459 = 256 * 3355443 + 51 from rfl, zb_and_sp hb (by decide), za.1.2]
  have u1 : zb_q2_ a = (a &&& 51) + (a / 4 &&& 51) := rfl
  have u2 : zb_q2_ b = (b &&& 51) + (b / 4 &&& 51) := rfl
  unfold zb_bb2
  rw [zb_nv_add (by rw [m1, m2]; omega), m1, m2]
  omega
/-- the bits of both bytes -/
theorem zb_bcv_n {x : Int32} (h : nv x < 65536) : bcv x = Int32.ofNat (cnt (nv x / 256) 8 + cnt (nv x % 256) 8) := by
  have e : nv x = 256 * (nv x / 256) + nv x % 256 := by omega
  generalize ha : nv x / 256 = a at e
  generalize hb : nv x % 256 = b at e
  have la : a < 256 := by omega
  have lb : b < 256 := by omega
  have zb := List.all_eq_true.mp zb_bt3 b (List.mem_range.mpr lb)
  have za := List.all_eq_true.mp zb_bt3 a (List.mem_range.mpr la)
  simp only [Bool.and_eq_true, decide_eq_true_eq] at zb za
  have t1b := List.all_eq_true.mp zb_bt1 b (List.mem_range.mpr lb)
  have t1a := List.all_eq_true.mp zb_bt1 a (List.mem_range.mpr la)
  simp only [Bool.and_eq_true, decide_eq_true_eq] at t1b t1a
  have e1 := zb_nv_bb1 la lb e
  have e2 := zb_nv_bb2 t1a.2 t1b.2 e1
  generalize hA : zb_q2_ (zb_q1_ a) = A at *
  generalize hB : zb_q2_ (zb_q1_ b) = B at *
  have zc := List.all_eq_true.mp zb.1.1.1.1.1 (A % 16) (List.mem_range.mpr (by omega))
  rw [Bool.or_eq_true, Bool.not_eq_true', decide_eq_false_iff_not, decide_eq_true_eq] at zc
  have zc := zc.resolve_left (fun n => n ⟨zb.1.1.1.1.2, za.1.1.1.2⟩)
  have m : nv (zb_us_ (zb_bb2 (zb_bb1 x)) 4) = 256 * (A / 16) + (16 * (A % 16) + B / 16) := by
    rw [zb_nv_us (n := 4) (by decide), e2]
    omega
  have e3 : nv (zb_bb3 (zb_bb2 (zb_bb1 x))) = 256 * cnt a 8 + cnt b 8 := by
    unfold zb_bb3
    rw [nv_and, zb_nv_add (by rw [m, e2]; omega), m, e2, show 256 * A + B + (256 * (A / 16) + (16 * (A % 16) + B / 16)) = 256 * (A + A / 16) + (B + 16 * (A % 16) + B / 16) by omega, show nv 252645135 = 256 * 986895 + 15 from rfl, zb_and_sp (by omega) (by decide), zc, za.1.1.2, za.1.2, zb.1.2]
  have e4 : nv (zb_bb4 (zb_bb3 (zb_bb2 (zb_bb1 x)))) = 257 * cnt a 8 + cnt b 8 := by
    have m4 : nv (zb_us_ (zb_bb3 (zb_bb2 (zb_bb1 x))) 8) = cnt a 8 := by
      rw [zb_nv_us (n := 8) (by decide), e3]
      omega
    unfold zb_bb4
    rw [zb_nv_add (by rw [m4, e3]; omega), m4, e3]
    omega
  have e5 : nv (zb_bb5 (zb_bb4 (zb_bb3 (zb_bb2 (zb_bb1 x))))) = 257 * cnt a 8 + cnt b 8 := by
    have m5 : nv (zb_us_ (zb_bb4 (zb_bb3 (zb_bb2 (zb_bb1 x)))) 16) = 0 := by
      rw [zb_nv_us (n := 16) (by decide), e4]
      omega
    unfold zb_bb5
    rw [zb_nv_add (by rw [m5, e4]; omega), m5, e4]
    omega
  rw [zb_bcv_c]
  refine zb_nv_i ?_
  rw [nv_and, e5, show nv 63 = 2 ^ 6 - 1 from rfl, Nat.and_two_pow_sub_one_eq_mod]
  have o : (Int32.ofNat (cnt a 8 + cnt b 8)).toInt = ((cnt a 8 + cnt b 8 : Nat) : Int) := on_j (by omega)
  have p := nv_of (x := Int32.ofNat (cnt a 8 + cnt b 8)) (by omega)
  omega
theorem cn_le (s : Nat) : ∀ b, cnt s b ≤ b
  | 0 => Nat.le_refl _
  | b + 1 => by
    show cnt s b + s / 2 ^ b % 2 ≤ b + 1
    have := cn_le s b
    omega
theorem cn_pos {s : Nat} (h : 0 < s) : ∀ b, s < 2 ^ b → 1 ≤ cnt s b
  | 0, l => by omega
  | b + 1, l => by
    show 1 ≤ cnt s b + s / 2 ^ b % 2
    have p : 0 < 2 ^ b := Nat.two_pow_pos b
    have l2 : s < 2 ^ b * 2 := l
    have d : s / 2 ^ b < 2 := Nat.div_lt_of_lt_mul l2
    by_cases c : s < 2 ^ b
    · have := cn_pos h b c
      omega
    · have g : 1 ≤ s / 2 ^ b := (Nat.le_div_iff_mul_le p).mpr (by omega)
      omega
theorem cn_lo (s : Nat) : ∀ b, b ≤ 8 → cnt s b = cnt (s % 256) b
  | 0, _ => rfl
  | b + 1, l => by
    show cnt s b + s / 2 ^ b % 2 = cnt (s % 256) b + s % 256 / 2 ^ b % 2
    rw [cn_lo s b (by omega)]
    have e : b = 0 ∨ b = 1 ∨ b = 2 ∨ b = 3 ∨ b = 4 ∨ b = 5 ∨ b = 6 ∨ b = 7 := by omega
    rcases e with e | e | e | e | e | e | e | e <;> subst e <;> omega
theorem cn_sp (s : Nat) : ∀ k, cnt s (8 + k) = cnt (s % 256) 8 + cnt (s / 256) k
  | 0 => cn_lo s 8 (Nat.le_refl _)
  | k + 1 => by
    show cnt s (8 + k) + s / 2 ^ (8 + k) % 2 = cnt (s % 256) 8 + (cnt (s / 256) k + s / 256 / 2 ^ k % 2)
    rw [cn_sp s k, Nat.div_div_eq_div_mul, Nat.pow_add, show (2 : Nat) ^ 8 = 256 from rfl]
    omega
theorem nv_ons {s : Nat} (h : s < 4294967296) : nv (Int32.ofNat s) = s := by
  show (BitVec.ofNat 32 s).toNat = s
  rw [BitVec.toNat_ofNat]
  exact Nat.mod_eq_of_lt h
theorem cnt_all : (List.range 4096).all (fun s => (Nat.ble s 0 || Nat.ble 1 (cnt s 12)) && (!(decide (1 ≤ (bcv (Int32.ofNat s)).toInt ∧ (bcv (Int32.ofNat s)).toInt ≤ 5)) || Nat.ble (cnt s 12) 5)) = true := by
  rw [List.all_eq_true]
  intro s hs
  have l := List.mem_range.mp hs
  have n : nv (Int32.ofNat s) = s := nv_ons (by omega)
  have e := zb_bcv_n (x := Int32.ofNat s) (by rw [n]; omega)
  rw [n] at e
  have a := cn_sp s 4
  have a : cnt s 12 = cnt (s % 256) 8 + cnt (s / 256) 4 := a
  have b := cnt_top (s := s / 256) (b := 4) (by omega) (c := 8) (by omega)
  have c : cnt (s / 256) 8 + cnt (s % 256) 8 = cnt s 12 := by rw [b, a]; exact Nat.add_comm _ _
  rw [c] at e
  have u := cn_le s 12
  have t : (Int32.ofNat (cnt s 12)).toInt = (cnt s 12 : Int) := Int32.toInt_ofNat_of_lt (by omega)
  rw [e, t, Bool.and_eq_true, Bool.or_eq_true, Bool.or_eq_true]
  refine ⟨?_, ?_⟩
  · rcases Nat.eq_zero_or_pos s with z | z
    · exact Or.inl (by rw [z]; rfl)
    · exact Or.inr (Nat.ble_eq.mpr (cn_pos z 12 (show s < 4096 from l)))
  · by_cases g : cnt s 12 ≤ 5
    · exact Or.inr (Nat.ble_eq.mpr g)
    · refine Or.inl ?_
      rw [Bool.not_eq_true', decide_eq_false_iff_not]
      omega
end
section
theorem ci_m1000000 : (-1000000 : Int32).toInt = -1000000 := by decide
theorem ci_m1000 : (-1000 : Int32).toInt = -1000 := by decide
theorem ci_m257 : (-257 : Int32).toInt = -257 := by decide
theorem ci_m2 : (-2 : Int32).toInt = -2 := by decide
theorem ci_m1 : (-1 : Int32).toInt = -1 := by decide
theorem ci_0 : (0 : Int32).toInt = 0 := by decide
theorem ci_1 : (1 : Int32).toInt = 1 := by decide
theorem ci_2 : (2 : Int32).toInt = 2 := by decide
theorem ci_3 : (3 : Int32).toInt = 3 := by decide
theorem ci_4 : (4 : Int32).toInt = 4 := by decide
theorem ci_5 : (5 : Int32).toInt = 5 := by decide
theorem ci_6 : (6 : Int32).toInt = 6 := by decide
theorem ci_7 : (7 : Int32).toInt = 7 := by decide
theorem ci_8 : (8 : Int32).toInt = 8 := by decide
theorem ci_9 : (9 : Int32).toInt = 9 := by decide
theorem ci_10 : (10 : Int32).toInt = 10 := by decide
theorem ci_11 : (11 : Int32).toInt = 11 := by decide
theorem ci_12 : (12 : Int32).toInt = 12 := by decide
theorem ci_13 : (13 : Int32).toInt = 13 := by decide
theorem ci_14 : (14 : Int32).toInt = 14 := by decide
theorem ci_15 : (15 : Int32).toInt = 15 := by decide
theorem ci_16 : (16 : Int32).toInt = 16 := by decide
theorem ci_17 : (17 : Int32).toInt = 17 := by decide
theorem ci_20 : (20 : Int32).toInt = 20 := by decide
theorem ci_30 : (30 : Int32).toInt = 30 := by decide
theorem ci_31 : (31 : Int32).toInt = 31 := by decide
theorem ci_32 : (32 : Int32).toInt = 32 := by decide
theorem ci_33 : (33 : Int32).toInt = 33 := by decide
theorem ci_38 : (38 : Int32).toInt = 38 := by decide
theorem ci_40 : (40 : Int32).toInt = 40 := by decide
theorem ci_41 : (41 : Int32).toInt = 41 := by decide
theorem ci_42 : (42 : Int32).toInt = 42 := by decide
theorem ci_48 : (48 : Int32).toInt = 48 := by decide
theorem ci_57 : (57 : Int32).toInt = 57 := by decide
theorem ci_59 : (59 : Int32).toInt = 59 := by decide
theorem ci_60 : (60 : Int32).toInt = 60 := by decide
theorem ci_61 : (61 : Int32).toInt = 61 := by decide
theorem ci_62 : (62 : Int32).toInt = 62 := by decide
theorem ci_63 : (63 : Int32).toInt = 63 := by decide
theorem ci_91 : (91 : Int32).toInt = 91 := by decide
theorem ci_93 : (93 : Int32).toInt = 93 := by decide
theorem ci_97 : (97 : Int32).toInt = 97 := by decide
theorem ci_99 : (99 : Int32).toInt = 99 := by decide
theorem ci_109 : (109 : Int32).toInt = 109 := by decide
theorem ci_116 : (116 : Int32).toInt = 116 := by decide
theorem ci_120 : (120 : Int32).toInt = 120 := by decide
theorem ci_121 : (121 : Int32).toInt = 121 := by decide
theorem ci_124 : (124 : Int32).toInt = 124 := by decide
theorem ci_150 : (150 : Int32).toInt = 150 := by decide
theorem ci_160 : (160 : Int32).toInt = 160 := by decide
theorem ci_164 : (164 : Int32).toInt = 164 := by decide
theorem ci_200 : (200 : Int32).toInt = 200 := by decide
theorem ci_240 : (240 : Int32).toInt = 240 := by decide
theorem ci_255 : (255 : Int32).toInt = 255 := by decide
theorem ci_256 : (256 : Int32).toInt = 256 := by decide
theorem ci_600 : (600 : Int32).toInt = 600 := by decide
theorem ci_1440 : (1440 : Int32).toInt = 1440 := by decide
theorem ci_9999 : (9999 : Int32).toInt = 9999 := by decide
theorem ci_10000 : (10000 : Int32).toInt = 10000 := by decide
theorem ci_20001 : (20001 : Int32).toInt = 20001 := by decide
theorem ci_30000 : (30000 : Int32).toInt = 30000 := by decide
theorem ci_99999 : (99999 : Int32).toInt = 99999 := by decide
theorem ci_100000 : (100000 : Int32).toInt = 100000 := by decide
theorem ci_1000000 : (1000000 : Int32).toInt = 1000000 := by decide
theorem ci_252645135 : (252645135 : Int32).toInt = 252645135 := by decide
theorem ci_858993459 : (858993459 : Int32).toInt = 858993459 := by decide
theorem ci_1000000000 : (1000000000 : Int32).toInt = 1000000000 := by decide
theorem ci_1431655765 : (1431655765 : Int32).toInt = 1431655765 := by decide
theorem cj_m1 : (Int32.ofInt (-1)).toInt = -1 := by decide
theorem cj_1 : (Int32.ofInt (1)).toInt = 1 := by decide
end
section
noncomputable def wz_J6_bitCount_0f7a4 : List Nat := []
noncomputable def q_J6_bitCount_0f7a4 : Ctr := ([.inl (((-2147483648), 2147483647), (0, 0), none)], [], (some (.inl ((0, 63), (0, 0), none))), [], wz_J6_bitCount_0f7a4)
noncomputable def k_J6_bitCount_0f7a4 : List (Nat × Fx) := [(0, x_iload 0 1), (1, x_iload 0 2), (2, x_push (1, 1) 3), (3, x_bin o_top 4), (4, x_push (1431655765, 1431655765) 7), (7, x_bin o_and 8), (8, x_bin o_sub 9), (9, x_istore 0 10), (10, x_iload 0 11), (11, x_push (858993459, 858993459) 14), (14, x_bin o_and 15), (15, x_iload 0 16), (16, x_push (2, 2) 17), (17, x_bin o_top 18), (18, x_push (858993459, 858993459) 21), (21, x_bin o_and 22), (22, x_add 23), (23, x_istore 0 24), (24, x_iload 0 25), (25, x_iload 0 26), (26, x_push (4, 4) 27), (27, x_bin o_top 28), (28, x_add 29), (29, x_push (252645135, 252645135) 32), (32, x_bin o_and 33), (33, x_istore 0 34), (34, x_iload 0 35), (35, x_iload 0 36), (36, x_push (8, 8) 38), (38, x_bin o_top 39), (39, x_add 40), (40, x_istore 0 41), (41, x_iload 0 42), (42, x_iload 0 43), (43, x_push (16, 16) 45), (45, x_bin o_top 46), (46, x_add 47), (47, x_istore 0 48), (48, x_iload 0 49), (49, x_push (63, 63) 51), (51, x_bin o_and 52), (52, x_ret rtop (.inl ((0, 63), (0, 0), none)) [])]
noncomputable def u_J6_bitCount_0f7a4 : List Cut := []
noncomputable abbrev mm_J6_bitCount_0f7a4 (n : Nat) : Mc_ := m_J6_bitCount_0f7a4 (n + 0) 0 0
theorem s_J6_bitCount_0f7a4 (n : Nat) (h0 : Hp_) : Al wz_J6_bitCount_0f7a4 h0 (mm_J6_bitCount_0f7a4 n) (Kc wz_J6_bitCount_0f7a4 h0 (some (.inl ((0, 63), (0, 0), none))) []) k_J6_bitCount_0f7a4 := ⟨z_iload_n (M := mm_J6_bitCount_0f7a4 n) d_J6_bitCount_0f7a4_0 rfl rfl, z_iload_n (M := mm_J6_bitCount_0f7a4 n) d_J6_bitCount_0f7a4_1 rfl rfl, z_iconst (M := mm_J6_bitCount_0f7a4 n) d_J6_bitCount_0f7a4_2 ic_1 ci_1 rfl, z_iushr (M := mm_J6_bitCount_0f7a4 n) d_J6_bitCount_0f7a4_3 rfl, z_ldcw (M := mm_J6_bitCount_0f7a4 n) d_J6_bitCount_0f7a4_4 tw_1268 ci_1431655765 rfl, z_iand (M := mm_J6_bitCount_0f7a4 n) d_J6_bitCount_0f7a4_7 rfl, z_isub (M := mm_J6_bitCount_0f7a4 n) d_J6_bitCount_0f7a4_8 rfl, z_istore_n (M := mm_J6_bitCount_0f7a4 n) d_J6_bitCount_0f7a4_9 (Nat.le_of_ble_eq_true rfl) rfl rfl, z_iload_n (M := mm_J6_bitCount_0f7a4 n) d_J6_bitCount_0f7a4_10 rfl rfl, z_ldcw (M := mm_J6_bitCount_0f7a4 n) d_J6_bitCount_0f7a4_11 tw_1269 ci_858993459 rfl, z_iand (M := mm_J6_bitCount_0f7a4 n) d_J6_bitCount_0f7a4_14 rfl, z_iload_n (M := mm_J6_bitCount_0f7a4 n) d_J6_bitCount_0f7a4_15 rfl rfl, z_iconst (M := mm_J6_bitCount_0f7a4 n) d_J6_bitCount_0f7a4_16 ic_2 ci_2 rfl, z_iushr (M := mm_J6_bitCount_0f7a4 n) d_J6_bitCount_0f7a4_17 rfl, z_ldcw (M := mm_J6_bitCount_0f7a4 n) d_J6_bitCount_0f7a4_18 tw_1269 ci_858993459 rfl, z_iand (M := mm_J6_bitCount_0f7a4 n) d_J6_bitCount_0f7a4_21 rfl, z_iadd (M := mm_J6_bitCount_0f7a4 n) d_J6_bitCount_0f7a4_22 rfl, z_istore_n (M := mm_J6_bitCount_0f7a4 n) d_J6_bitCount_0f7a4_23 (Nat.le_of_ble_eq_true rfl) rfl rfl, z_iload_n (M := mm_J6_bitCount_0f7a4 n) d_J6_bitCount_0f7a4_24 rfl rfl, z_iload_n (M := mm_J6_bitCount_0f7a4 n) d_J6_bitCount_0f7a4_25 rfl rfl, z_iconst (M := mm_J6_bitCount_0f7a4 n) d_J6_bitCount_0f7a4_26 ic_4 ci_4 rfl, z_iushr (M := mm_J6_bitCount_0f7a4 n) d_J6_bitCount_0f7a4_27 rfl, z_iadd (M := mm_J6_bitCount_0f7a4 n) d_J6_bitCount_0f7a4_28 rfl, z_ldcw (M := mm_J6_bitCount_0f7a4 n) d_J6_bitCount_0f7a4_29 tw_1270 ci_252645135 rfl, z_iand (M := mm_J6_bitCount_0f7a4 n) d_J6_bitCount_0f7a4_32 rfl, z_istore_n (M := mm_J6_bitCount_0f7a4 n) d_J6_bitCount_0f7a4_33 (Nat.le_of_ble_eq_true rfl) rfl rfl, z_iload_n (M := mm_J6_bitCount_0f7a4 n) d_J6_bitCount_0f7a4_34 rfl rfl, z_iload_n (M := mm_J6_bitCount_0f7a4 n) d_J6_bitCount_0f7a4_35 rfl rfl, z_bipush (M := mm_J6_bitCount_0f7a4 n) d_J6_bitCount_0f7a4_36 ib_8 ci_8 rfl, z_iushr (M := mm_J6_bitCount_0f7a4 n) d_J6_bitCount_0f7a4_38 rfl, z_iadd (M := mm_J6_bitCount_0f7a4 n) d_J6_bitCount_0f7a4_39 rfl, z_istore_n (M := mm_J6_bitCount_0f7a4 n) d_J6_bitCount_0f7a4_40 (Nat.le_of_ble_eq_true rfl) rfl rfl, z_iload_n (M := mm_J6_bitCount_0f7a4 n) d_J6_bitCount_0f7a4_41 rfl rfl, z_iload_n (M := mm_J6_bitCount_0f7a4 n) d_J6_bitCount_0f7a4_42 rfl rfl, z_bipush (M := mm_J6_bitCount_0f7a4 n) d_J6_bitCount_0f7a4_43 ib_16 ci_16 rfl, z_iushr (M := mm_J6_bitCount_0f7a4 n) d_J6_bitCount_0f7a4_45 rfl, z_iadd (M := mm_J6_bitCount_0f7a4 n) d_J6_bitCount_0f7a4_46 rfl, z_istore_n (M := mm_J6_bitCount_0f7a4 n) d_J6_bitCount_0f7a4_47 (Nat.le_of_ble_eq_true rfl) rfl rfl, z_iload_n (M := mm_J6_bitCount_0f7a4 n) d_J6_bitCount_0f7a4_48 rfl rfl, z_bipush (M := mm_J6_bitCount_0f7a4 n) d_J6_bitCount_0f7a4_49 ib_63 ci_63 rfl, z_iand (M := mm_J6_bitCount_0f7a4 n) d_J6_bitCount_0f7a4_51 rfl, z_iret (M := mm_J6_bitCount_0f7a4 n) rfl d_J6_bitCount_0f7a4_52, trivial⟩
theorem hc_J6_bitCount_0f7a4 (n : Nat) : Hc (m_J6_bitCount_0f7a4 (n + 0) 0 0) q_J6_bitCount_0f7a4 := Hc_of (code := k_J6_bitCount_0f7a4) (cuts := u_J6_bitCount_0f7a4) (n := 3000) (fun _ _ _ => trivial) rfl (Nat.le_of_ble_eq_true rfl) (fun h0 => Al_ok (s_J6_bitCount_0f7a4 n h0)) (by decide +kernel)
noncomputable def wz_J7_fill_53178_92 : List Nat := [82999]
noncomputable def q_J7_fill_53178_92 : Ctr := ([.inl ((0, 0), (0, 0), none), .inr 92], [], none, [], wz_J7_fill_53178_92)
noncomputable def k_J7_fill_53178_92 : List (Nat × Fx) := [(0, x_push (0, 0) 1), (1, x_istore 2 2), (2, x_aload 0 3), (3, x_alen 4), (4, x_istore 3 5), (5, x_iload 2 6), (6, x_iload 3 7), (7, x_icmp c_ge c_lt 20 10), (10, x_aload 0 11), (11, x_iload 2 12), (12, x_iload 1 13), (13, x_ast wz_J7_fill_53178_92 id 0 14), (14, x_iinc 2 1 17), (17, x_goto 5), (20, x_vret [])]
noncomputable def u_J7_fill_53178_92 : List Cut := [(5, ([(0, .inr 92), (1, .inl ((0, 0), (0, 0), none)), (2, .inl ((0, 8), (0, 0), none)), (3, .inl ((8, 8), (0, 0), none))], [], ([], [], [])), [(0, 99995), (1, 2), (0, 100000)])]
noncomputable abbrev mm_J7_fill_53178_92 (n : Nat) : Mc_ := m_J7_fill_53178 (n + 0) 0 0
theorem s_J7_fill_53178_92 (n : Nat) (h0 : Hp_) : Al wz_J7_fill_53178_92 h0 (mm_J7_fill_53178_92 n) (Kc wz_J7_fill_53178_92 h0 none []) k_J7_fill_53178_92 := ⟨z_iconst (M := mm_J7_fill_53178_92 n) d_J7_fill_53178_0 ic_0 ci_0 rfl, z_istore_n (M := mm_J7_fill_53178_92 n) d_J7_fill_53178_1 (Nat.le_of_ble_eq_true rfl) rfl rfl, z_aload_n (M := mm_J7_fill_53178_92 n) d_J7_fill_53178_2 rfl rfl, z_alen (M := mm_J7_fill_53178_92 n) d_J7_fill_53178_3 rfl, z_istore_n (M := mm_J7_fill_53178_92 n) d_J7_fill_53178_4 (Nat.le_of_ble_eq_true rfl) rfl rfl, z_iload_n (M := mm_J7_fill_53178_92 n) d_J7_fill_53178_5 rfl rfl, z_iload_n (M := mm_J7_fill_53178_92 n) d_J7_fill_53178_6 rfl rfl, z_icmp_ge (M := mm_J7_fill_53178_92 n) d_J7_fill_53178_7 rfl rfl, z_aload_n (M := mm_J7_fill_53178_92 n) d_J7_fill_53178_10 rfl rfl, z_iload_n (M := mm_J7_fill_53178_92 n) d_J7_fill_53178_11 rfl rfl, z_iload_n (M := mm_J7_fill_53178_92 n) d_J7_fill_53178_12 rfl rfl, z_iast (M := mm_J7_fill_53178_92 n) d_J7_fill_53178_13 rfl, z_iinc (M := mm_J7_fill_53178_92 n) d_J7_fill_53178_14 cj_1 (Nat.le_of_ble_eq_true rfl) rfl, z_goto (M := mm_J7_fill_53178_92 n) d_J7_fill_53178_17 rfl, z_vret (M := mm_J7_fill_53178_92 n) rfl d_J7_fill_53178_20, trivial⟩
theorem hc_J7_fill_53178_92 (n : Nat) : Hc (m_J7_fill_53178 (n + 0) 0 0) q_J7_fill_53178_92 := Hc_of (code := k_J7_fill_53178_92) (cuts := u_J7_fill_53178_92) (n := 3000) (fun _ _ _ => trivial) rfl (Nat.le_of_ble_eq_true rfl) (fun h0 => Al_ok (s_J7_fill_53178_92 n h0)) (by decide +kernel)
noncomputable def wz_J7_fill_53178_93 : List Nat := [83999]
noncomputable def q_J7_fill_53178_93 : Ctr := ([.inl ((0, 0), (0, 0), none), .inr 93], [], none, [], wz_J7_fill_53178_93)
noncomputable def k_J7_fill_53178_93 : List (Nat × Fx) := [(0, x_push (0, 0) 1), (1, x_istore 2 2), (2, x_aload 0 3), (3, x_alen 4), (4, x_istore 3 5), (5, x_iload 2 6), (6, x_iload 3 7), (7, x_icmp c_ge c_lt 20 10), (10, x_aload 0 11), (11, x_iload 2 12), (12, x_iload 1 13), (13, x_ast wz_J7_fill_53178_93 id 0 14), (14, x_iinc 2 1 17), (17, x_goto 5), (20, x_vret [])]
noncomputable def u_J7_fill_53178_93 : List Cut := [(5, ([(0, .inr 93), (1, .inl ((0, 0), (0, 0), none)), (2, .inl ((0, 8), (0, 0), none)), (3, .inl ((8, 8), (0, 0), none))], [], ([], [], [])), [(0, 99995), (1, 2), (0, 100000)])]
noncomputable abbrev mm_J7_fill_53178_93 (n : Nat) : Mc_ := m_J7_fill_53178 (n + 0) 0 0
theorem s_J7_fill_53178_93 (n : Nat) (h0 : Hp_) : Al wz_J7_fill_53178_93 h0 (mm_J7_fill_53178_93 n) (Kc wz_J7_fill_53178_93 h0 none []) k_J7_fill_53178_93 := ⟨z_iconst (M := mm_J7_fill_53178_93 n) d_J7_fill_53178_0 ic_0 ci_0 rfl, z_istore_n (M := mm_J7_fill_53178_93 n) d_J7_fill_53178_1 (Nat.le_of_ble_eq_true rfl) rfl rfl, z_aload_n (M := mm_J7_fill_53178_93 n) d_J7_fill_53178_2 rfl rfl, z_alen (M := mm_J7_fill_53178_93 n) d_J7_fill_53178_3 rfl, z_istore_n (M := mm_J7_fill_53178_93 n) d_J7_fill_53178_4 (Nat.le_of_ble_eq_true rfl) rfl rfl, z_iload_n (M := mm_J7_fill_53178_93 n) d_J7_fill_53178_5 rfl rfl, z_iload_n (M := mm_J7_fill_53178_93 n) d_J7_fill_53178_6 rfl rfl, z_icmp_ge (M := mm_J7_fill_53178_93 n) d_J7_fill_53178_7 rfl rfl, z_aload_n (M := mm_J7_fill_53178_93 n) d_J7_fill_53178_10 rfl rfl, z_iload_n (M := mm_J7_fill_53178_93 n) d_J7_fill_53178_11 rfl rfl, z_iload_n (M := mm_J7_fill_53178_93 n) d_J7_fill_53178_12 rfl rfl, z_iast (M := mm_J7_fill_53178_93 n) d_J7_fill_53178_13 rfl, z_iinc (M := mm_J7_fill_53178_93 n) d_J7_fill_53178_14 cj_1 (Nat.le_of_ble_eq_true rfl) rfl, z_goto (M := mm_J7_fill_53178_93 n) d_J7_fill_53178_17 rfl, z_vret (M := mm_J7_fill_53178_93 n) rfl d_J7_fill_53178_20, trivial⟩
theorem hc_J7_fill_53178_93 (n : Nat) : Hc (m_J7_fill_53178 (n + 0) 0 0) q_J7_fill_53178_93 := Hc_of (code := k_J7_fill_53178_93) (cuts := u_J7_fill_53178_93) (n := 3000) (fun _ _ _ => trivial) rfl (Nat.le_of_ble_eq_true rfl) (fun h0 => Al_ok (s_J7_fill_53178_93 n h0)) (by decide +kernel)
noncomputable def wz_J7_fill_53178_98 : List Nat := [88999]
noncomputable def q_J7_fill_53178_98 : Ctr := ([.inl ((0, 0), (0, 0), none), .inr 98], [], none, [], wz_J7_fill_53178_98)
noncomputable def k_J7_fill_53178_98 : List (Nat × Fx) := [(0, x_push (0, 0) 1), (1, x_istore 2 2), (2, x_aload 0 3), (3, x_alen 4), (4, x_istore 3 5), (5, x_iload 2 6), (6, x_iload 3 7), (7, x_icmp c_ge c_lt 20 10), (10, x_aload 0 11), (11, x_iload 2 12), (12, x_iload 1 13), (13, x_ast wz_J7_fill_53178_98 id 0 14), (14, x_iinc 2 1 17), (17, x_goto 5), (20, x_vret [])]
noncomputable def u_J7_fill_53178_98 : List Cut := [(5, ([(0, .inr 98), (1, .inl ((0, 0), (0, 0), none)), (2, .inl ((0, 2304), (0, 0), none)), (3, .inl ((2304, 2304), (0, 0), none))], [], ([], [], [])), [(0, 99995), (1, 2), (0, 100000)])]
noncomputable abbrev mm_J7_fill_53178_98 (n : Nat) : Mc_ := m_J7_fill_53178 (n + 0) 0 0
theorem s_J7_fill_53178_98 (n : Nat) (h0 : Hp_) : Al wz_J7_fill_53178_98 h0 (mm_J7_fill_53178_98 n) (Kc wz_J7_fill_53178_98 h0 none []) k_J7_fill_53178_98 := ⟨z_iconst (M := mm_J7_fill_53178_98 n) d_J7_fill_53178_0 ic_0 ci_0 rfl, z_istore_n (M := mm_J7_fill_53178_98 n) d_J7_fill_53178_1 (Nat.le_of_ble_eq_true rfl) rfl rfl, z_aload_n (M := mm_J7_fill_53178_98 n) d_J7_fill_53178_2 rfl rfl, z_alen (M := mm_J7_fill_53178_98 n) d_J7_fill_53178_3 rfl, z_istore_n (M := mm_J7_fill_53178_98 n) d_J7_fill_53178_4 (Nat.le_of_ble_eq_true rfl) rfl rfl, z_iload_n (M := mm_J7_fill_53178_98 n) d_J7_fill_53178_5 rfl rfl, z_iload_n (M := mm_J7_fill_53178_98 n) d_J7_fill_53178_6 rfl rfl, z_icmp_ge (M := mm_J7_fill_53178_98 n) d_J7_fill_53178_7 rfl rfl, z_aload_n (M := mm_J7_fill_53178_98 n) d_J7_fill_53178_10 rfl rfl, z_iload_n (M := mm_J7_fill_53178_98 n) d_J7_fill_53178_11 rfl rfl, z_iload_n (M := mm_J7_fill_53178_98 n) d_J7_fill_53178_12 rfl rfl, z_iast (M := mm_J7_fill_53178_98 n) d_J7_fill_53178_13 rfl, z_iinc (M := mm_J7_fill_53178_98 n) d_J7_fill_53178_14 cj_1 (Nat.le_of_ble_eq_true rfl) rfl, z_goto (M := mm_J7_fill_53178_98 n) d_J7_fill_53178_17 rfl, z_vret (M := mm_J7_fill_53178_98 n) rfl d_J7_fill_53178_20, trivial⟩
theorem hc_J7_fill_53178_98 (n : Nat) : Hc (m_J7_fill_53178 (n + 0) 0 0) q_J7_fill_53178_98 := Hc_of (code := k_J7_fill_53178_98) (cuts := u_J7_fill_53178_98) (n := 3000) (fun _ _ _ => trivial) rfl (Nat.le_of_ble_eq_true rfl) (fun h0 => Al_ok (s_J7_fill_53178_98 n h0)) (by decide +kernel)
noncomputable def wz_J7_fill_53178_100 : List Nat := [90999]
noncomputable def q_J7_fill_53178_100 : Ctr := ([.inl ((0, 0), (0, 0), none), .inr 100], [], none, [], wz_J7_fill_53178_100)
noncomputable def k_J7_fill_53178_100 : List (Nat × Fx) := [(0, x_push (0, 0) 1), (1, x_istore 2 2), (2, x_aload 0 3), (3, x_alen 4), (4, x_istore 3 5), (5, x_iload 2 6), (6, x_iload 3 7), (7, x_icmp c_ge c_lt 20 10), (10, x_aload 0 11), (11, x_iload 2 12), (12, x_iload 1 13), (13, x_ast wz_J7_fill_53178_100 id 0 14), (14, x_iinc 2 1 17), (17, x_goto 5), (20, x_vret [])]
noncomputable def u_J7_fill_53178_100 : List Cut := [(5, ([(0, .inr 100), (1, .inl ((0, 0), (0, 0), none)), (2, .inl ((0, 8), (0, 0), none)), (3, .inl ((8, 8), (0, 0), none))], [], ([], [], [])), [(0, 99995), (1, 2), (0, 100000)])]
noncomputable abbrev mm_J7_fill_53178_100 (n : Nat) : Mc_ := m_J7_fill_53178 (n + 0) 0 0
theorem s_J7_fill_53178_100 (n : Nat) (h0 : Hp_) : Al wz_J7_fill_53178_100 h0 (mm_J7_fill_53178_100 n) (Kc wz_J7_fill_53178_100 h0 none []) k_J7_fill_53178_100 := ⟨z_iconst (M := mm_J7_fill_53178_100 n) d_J7_fill_53178_0 ic_0 ci_0 rfl, z_istore_n (M := mm_J7_fill_53178_100 n) d_J7_fill_53178_1 (Nat.le_of_ble_eq_true rfl) rfl rfl, z_aload_n (M := mm_J7_fill_53178_100 n) d_J7_fill_53178_2 rfl rfl, z_alen (M := mm_J7_fill_53178_100 n) d_J7_fill_53178_3 rfl, z_istore_n (M := mm_J7_fill_53178_100 n) d_J7_fill_53178_4 (Nat.le_of_ble_eq_true rfl) rfl rfl, z_iload_n (M := mm_J7_fill_53178_100 n) d_J7_fill_53178_5 rfl rfl, z_iload_n (M := mm_J7_fill_53178_100 n) d_J7_fill_53178_6 rfl rfl, z_icmp_ge (M := mm_J7_fill_53178_100 n) d_J7_fill_53178_7 rfl rfl, z_aload_n (M := mm_J7_fill_53178_100 n) d_J7_fill_53178_10 rfl rfl, z_iload_n (M := mm_J7_fill_53178_100 n) d_J7_fill_53178_11 rfl rfl, z_iload_n (M := mm_J7_fill_53178_100 n) d_J7_fill_53178_12 rfl rfl, z_iast (M := mm_J7_fill_53178_100 n) d_J7_fill_53178_13 rfl, z_iinc (M := mm_J7_fill_53178_100 n) d_J7_fill_53178_14 cj_1 (Nat.le_of_ble_eq_true rfl) rfl, z_goto (M := mm_J7_fill_53178_100 n) d_J7_fill_53178_17 rfl, z_vret (M := mm_J7_fill_53178_100 n) rfl d_J7_fill_53178_20, trivial⟩
theorem hc_J7_fill_53178_100 (n : Nat) : Hc (m_J7_fill_53178 (n + 0) 0 0) q_J7_fill_53178_100 := Hc_of (code := k_J7_fill_53178_100) (cuts := u_J7_fill_53178_100) (n := 3000) (fun _ _ _ => trivial) rfl (Nat.le_of_ble_eq_true rfl) (fun h0 => Al_ok (s_J7_fill_53178_100 n h0)) (by decide +kernel)
end
