/-! words for the walks -/
abbrev kI (K : Int32 → Hp_ → Prop) : Option Value → Hp_ → Prop := fun v h' => ∃ r, v = some (.int r) ∧ K r h'
abbrev kV (K : Hp_ → Prop) : Option Value → Hp_ → Prop := fun v h' => v = none ∧ K h'
abbrev kL (K : Int64 → Hp_ → Prop) : Option Value → Hp_ → Prop := fun v h' => ∃ r, v = some (.long r) ∧ K r h'
abbrev kR (K : Option Nat → Hp_ → Prop) : Option Value → Hp_ → Prop := fun v h' => ∃ o, v = some (va_rf o) ∧ K o h'
theorem aw_lvp {M : Mc_} {kc ks pc : Nat} {lv : List (Nat × Value)} {st : List Value} {h : Hp_} {K : Option Value → Hp_ → Prop} (ps : List Nat) (lv' : List (Nat × Value)) (hp : ps.filterMap (fun i => lv[i]?) = lv') (k : AW M kc ks pc lv' st h K) : AW M kc ks pc lv st h K := aw_lv lv' (fun q hq => by
  rw [← hp] at hq
  obtain ⟨i, -, hi⟩ := List.mem_filterMap.mp hq
  exact List.mem_of_getElem? hi) k
theorem hi_s (h : Hp_) (a k : Nat) (x : Int32) : h_i (h_im h a k x) a k = x := by rw [h_i_im, if_pos ⟨rfl, rfl⟩]
theorem hl_s (h : Hp_) (a k : Nat) (x : Int64) : h_l (h_lm h a k x) a k = x := by rw [h_l_lm, if_pos ⟨rfl, rfl⟩]
theorem hi_n (h : Hp_) (a k : Nat) (x : Int32) (b j : Nat) (hb : b ≠ a) : h_i (h_im h a k x) b j = h_i h b j := by rw [h_i_im, if_neg (fun z => hb z.1)]
theorem hi_o (h : Hp_) (a k : Nat) (x : Int32) (j : Nat) (hj : j ≠ k) : h_i (h_im h a k x) a j = h_i h a j := by rw [h_i_im, if_neg (fun z => hj z.2)]
theorem hl_n (h : Hp_) (a k : Nat) (x : Int64) (b j : Nat) (hb : b ≠ a) : h_l (h_lm h a k x) b j = h_l h b j := by rw [h_l_lm, if_neg (fun z => hb z.1)]
theorem hl_o (h : Hp_) (a k : Nat) (x : Int64) (j : Nat) (hj : j ≠ k) : h_l (h_lm h a k x) a j = h_l h a j := by rw [h_l_lm, if_neg (fun z => hj z.2)]
theorem aw_vi {M : Mc_} {kc ks pc : Nat} {lv : List (Nat × Value)} {st : List Value} {h : Hp_} {K : Option Value → Hp_ → Prop} {v1 v2 : Int32} (e : v1 = v2) (k : AW M kc ks pc lv (.int v2 :: st) h K) : AW M kc ks pc lv (.int v1 :: st) h K := e ▸ k
theorem aw_vl {M : Mc_} {kc ks pc : Nat} {lv : List (Nat × Value)} {st : List Value} {h : Hp_} {K : Option Value → Hp_ → Prop} {v1 v2 : Int64} (e : v1 = v2) (k : AW M kc ks pc lv (.long v2 :: st) h K) : AW M kc ks pc lv (.long v1 :: st) h K := e ▸ k
theorem nf_z {x : Int32} (h : x = 0 ∨ x = 1) : narrow .boolean (.int x) = .int x ∧ fits .boolean (.int x) = true := by rcases h with h | h <;> subst h <;> exact ⟨rfl, rfl⟩
theorem sw_ne {x w : Int32} (v : Int) (hw : w.toInt = v) (h : ¬ x = w) : x.toInt ≠ v := fun z => h (Int32.toInt_inj.mp (z.trans hw.symm))
theorem aw_tableD {M : Mc_} {kc ks pc : Nat} {lv : List (Nat × Value)} {st : List Value} {h : Hp_} {K : Option Value → Hp_ → Prop} {dflt lo hi : Int} {offs : Array Int} {len : Nat} {x : Int32} {tgt : Nat} (hd : decode (mC M) pc = .ok (.tableswitch dflt lo hi offs, len)) (h1 : x.toInt < lo ∨ hi < x.toInt ∨ offs[(x.toInt - lo).toNat]? = some dflt) (ht : (pc : Int) + dflt = (tgt : Int)) (k : AW M kc ks tgt lv st h K) : AW M kc ks pc lv (.int x :: st) h K := by
  by_cases h2 : x.toInt < lo
  · exact aw_tableOut hd (Or.inl h2) ht k
  · by_cases h3 : hi < x.toInt
    · exact aw_tableOut hd (Or.inr h3) ht k
    · rcases h1 with h1 | h1 | h1
      · exact absurd h1 h2
      · exact absurd h1 h3
      · exact aw_tableIn hd h2 h3 h1 ht k
theorem rr0 {y' y : MethodName} {cc' cc : ByteArray} {nL' nL : Nat} {ret' ret : Option FieldType} {d h' H : Nat} (h1 : h' + 1 ≤ H) (h2 : nL' ≤ 81) : rr_ (fun _ _ _ => True, y', cc', nL', ret', { frames := d + h', cells := 0, slots := 0, locals := 100 * (d + h') }) (fun _ _ _ => True, y, cc, nL, ret, { frames := d + H, cells := 0, slots := 0, locals := 100 * (d + H) }) 0 0 :=
  ⟨⟨(show d + h' + 1 ≤ d + H by omega), (show 8 + (nL' + 11) + 100 * (d + h') ≤ 100 * (d + H) by omega)⟩, Nat.le_refl _, Nat.le_refl _⟩
theorem xs0 {y : MethodName} {cc : ByteArray} {nL : Nat} {ret : Option FieldType} {R : Room} : xs_ (fun _ _ _ => True, y, cc, nL, ret, R) := fun _ _ _ _ _ _ => trivial

theorem t_X12_in (d : Nat) (h : Hp_) (x0 : Int32) (x1 : Int32) (x2 : Int32) (K : Int32 → Hp_ → Prop) (k : (x0 < x1 → K 0 h) ∧ (¬ x0 < x1 → (x2 < x0 → K 0 h) ∧ (¬ x2 < x0 → K 1 h))) : Ci (m_X12_in (d + 0) 0 0) [.int x0, .int x1, .int x2] h K := by
  refine Ct.of (fun _ _ _ => trivial) rfl (Nat.le_of_ble_eq_true rfl) ?_
  show AW (m_X12_in (d + 0) 0 0) 0 0 0 [(0, .int x0), (1, .int x1), (2, .int x2)] [] h (kI K)
  refine aw_iload_n (i := 0) rfl d_X12_in_0 0 rfl ?_
  refine aw_iload_n (i := 1) rfl d_X12_in_1 1 rfl ?_
  refine aw_icmp_lt (tgt := 14) d_X12_in_2 rfl (fun c1 => ?_) (fun c1 => ?_)
  · have k := k.1 c1
    refine aw_iconst (v := 0) d_X12_in_14 ic_0 ?_
    exact aw_zret rfl rfl d_X12_in_15 ⟨Nat.le_refl _, Nat.le_refl _⟩ ⟨_, rfl, k⟩
  · have k := k.2 c1
    refine aw_iload_n (i := 0) rfl d_X12_in_5 0 rfl ?_
    refine aw_iload_n (i := 2) rfl d_X12_in_6 2 rfl ?_
    refine aw_icmp_gt (tgt := 14) d_X12_in_7 rfl (fun c2 => ?_) (fun c2 => ?_)
    · have k := k.1 c2
      refine aw_iconst (v := 0) d_X12_in_14 ic_0 ?_
      exact aw_zret rfl rfl d_X12_in_15 ⟨Nat.le_refl _, Nat.le_refl _⟩ ⟨_, rfl, k⟩
    · have k := k.2 c2
      refine aw_iconst (v := 1) d_X12_in_10 ic_1 ?_
      refine aw_goto (tgt := 15) d_X12_in_11 rfl ?_
      exact aw_zret rfl rfl d_X12_in_15 ⟨Nat.le_refl _, Nat.le_refl _⟩ ⟨_, rfl, k⟩
theorem s_X12_in (d : Nat) (h : Hp_) (x lo hi : Int32) : Ci (m_X12_in (d + 0) 0 0) [.int x, .int lo, .int hi] h (fun r h1 => r = bI (lo ≤ x ∧ x ≤ hi) ∧ h1 = h) := by
  refine t_X12_in d h x lo hi _ ⟨fun c => ⟨?_, rfl⟩, fun c => ⟨fun e => ⟨?_, rfl⟩, fun e => ⟨?_, rfl⟩⟩⟩
  · exact (bI_0.mpr (fun z => absurd c (Int32.not_lt.mpr z.1))).symm
  · exact (bI_0.mpr (fun z => absurd e (Int32.not_lt.mpr z.2))).symm
  · exact (bI_1.mpr ⟨Int32.not_lt.mp c, Int32.not_lt.mp e⟩).symm
theorem t_X11_within (d : Nat) (h : Hp_) (x0 : Int32) (x1 : Int32) (x2 : Int32) (K : Int32 → Hp_ → Prop) (k : (x0 < x1 → K 0 h) ∧ (¬ x0 < x1 → (x2 < x0 → K 0 h) ∧ (¬ x2 < x0 → K 1 h))) : Ci (m_X11_within (d + 0) 0 0) [.int x0, .int x1, .int x2] h K := by
  refine Ct.of (fun _ _ _ => trivial) rfl (Nat.le_of_ble_eq_true rfl) ?_
  show AW (m_X11_within (d + 0) 0 0) 0 0 0 [(0, .int x0), (1, .int x1), (2, .int x2)] [] h (kI K)
  refine aw_iload_n (i := 0) rfl d_X11_within_0 0 rfl ?_
  refine aw_iload_n (i := 1) rfl d_X11_within_1 1 rfl ?_
  refine aw_icmp_lt (tgt := 14) d_X11_within_2 rfl (fun c1 => ?_) (fun c1 => ?_)
  · have k := k.1 c1
    refine aw_iconst (v := 0) d_X11_within_14 ic_0 ?_
    exact aw_zret rfl rfl d_X11_within_15 ⟨Nat.le_refl _, Nat.le_refl _⟩ ⟨_, rfl, k⟩
  · have k := k.2 c1
    refine aw_iload_n (i := 0) rfl d_X11_within_5 0 rfl ?_
    refine aw_iload_n (i := 2) rfl d_X11_within_6 2 rfl ?_
    refine aw_icmp_gt (tgt := 14) d_X11_within_7 rfl (fun c2 => ?_) (fun c2 => ?_)
    · have k := k.1 c2
      refine aw_iconst (v := 0) d_X11_within_14 ic_0 ?_
      exact aw_zret rfl rfl d_X11_within_15 ⟨Nat.le_refl _, Nat.le_refl _⟩ ⟨_, rfl, k⟩
    · have k := k.2 c2
      refine aw_iconst (v := 1) d_X11_within_10 ic_1 ?_
      refine aw_goto (tgt := 15) d_X11_within_11 rfl ?_
      exact aw_zret rfl rfl d_X11_within_15 ⟨Nat.le_refl _, Nat.le_refl _⟩ ⟨_, rfl, k⟩
theorem s_X11_within (d : Nat) (h : Hp_) (x lo hi : Int32) : Ci (m_X11_within (d + 0) 0 0) [.int x, .int lo, .int hi] h (fun r h1 => r = bI (lo ≤ x ∧ x ≤ hi) ∧ h1 = h) := by
  refine t_X11_within d h x lo hi _ ⟨fun c => ⟨?_, rfl⟩, fun c => ⟨fun e => ⟨?_, rfl⟩, fun e => ⟨?_, rfl⟩⟩⟩
  · exact (bI_0.mpr (fun z => absurd c (Int32.not_lt.mpr z.1))).symm
  · exact (bI_0.mpr (fun z => absurd e (Int32.not_lt.mpr z.2))).symm
  · exact (bI_1.mpr ⟨Int32.not_lt.mp c, Int32.not_lt.mp e⟩).symm
theorem t_X12_isPlace (d : Nat) (h : Hp_) (x0 : Int32) (K : Int32 → Hp_ → Prop) (k : K (bI (0 ≤ x0 ∧ x0 ≤ 15)) h) : Ci (m_X12_isPlace (d + 1) 0 0) [.int x0] h K := by
  refine Ct.of (fun _ _ _ => trivial) rfl (Nat.le_of_ble_eq_true rfl) ?_
  show AW (m_X12_isPlace (d + 1) 0 0) 0 0 0 [(0, .int x0)] [] h (kI K)
  refine aw_iload_n (i := 0) rfl d_X12_isPlace_0 0 rfl ?_
  refine aw_iconst (v := 0) d_X12_isPlace_1 ic_0 ?_
  refine aw_bipush (v := 15) d_X12_isPlace_2 ib_15 ?_
  refine aw_Si [.int x0, .int 0, .int 15] [] d_X12_isPlace_4 (cS_X12_in (d + 0) 0 0) tw_2143 rfl (rr0 (Nat.le_of_ble_eq_true rfl) (Nat.le_of_ble_eq_true rfl)) (Nat.le_of_ble_eq_true rfl) xs0 (s_X12_in _ _ x0 0 15) (fun _ _ kk => ?_)
  obtain ⟨e1, e2⟩ := kk
  rw [e1, e2]
  exact aw_zret rfl (bI_nar _) d_X12_isPlace_7 ⟨Nat.le_refl _, Nat.le_refl _⟩ ⟨_, rfl, k⟩
theorem s_X12_isPlace (d : Nat) (h : Hp_) (x : Int32) : Ci (m_X12_isPlace (d + 1) 0 0) [.int x] h (fun r h1 => r = bI (0 ≤ x ∧ x ≤ 15) ∧ h1 = h) := by
  exact t_X12_isPlace d h x _ ⟨rfl, rfl⟩
theorem t_X12_isMan (d : Nat) (h : Hp_) (w : Wf h) (x1 : Int32) (K : Int32 → Hp_ → Prop) (k : K (bI (0 ≤ x1 ∧ x1 ≤ ((h_i h 1 7) - 1))) h) : Ci (m_X12_isMan (d + 1) 0 0) [.ref 1, .int x1] h K := by
  refine Ct.of (fun _ _ _ => trivial) rfl (Nat.le_of_ble_eq_true rfl) ?_
  show AW (m_X12_isMan (d + 1) 0 0) 0 0 0 [(0, .ref 1), (1, .int x1)] [] h (kI K)
  refine aw_iload_n (i := 1) rfl d_X12_isMan_0 1 rfl ?_
  refine aw_iconst (v := 0) d_X12_isMan_1 ic_0 ?_
  refine aw_aload_n (i := 0) rfl d_X12_isMan_2 0 rfl ?_
  refine aw_geti (k0 := 7) kc_12 (ws_1 w) (Nat.le_of_ble_eq_true rfl) tw_1749 d_X12_isMan_3 rfl ?_
  refine aw_iconst (v := 1) d_X12_isMan_6 ic_1 ?_
  refine aw_isub d_X12_isMan_7 ?_
  refine aw_Si [.int x1, .int 0, .int ((h_i h 1 7) - 1)] [] d_X12_isMan_8 (cS_X12_in (d + 0) 0 0) tw_2143 rfl (rr0 (Nat.le_of_ble_eq_true rfl) (Nat.le_of_ble_eq_true rfl)) (Nat.le_of_ble_eq_true rfl) xs0 (s_X12_in _ _ x1 0 ((h_i h 1 7) - 1)) (fun _ _ kk => ?_)
  obtain ⟨e1, e2⟩ := kk
  rw [e1, e2]
  exact aw_zret rfl (bI_nar _) d_X12_isMan_11 ⟨Nat.le_refl _, Nat.le_refl _⟩ ⟨_, rfl, k⟩
theorem s_X12_isMan (d : Nat) (h : Hp_) (w : Wf h) (x : Int32) : Ci (m_X12_isMan (d + 1) 0 0) [.ref 1, .int x] h (fun r h1 => r = bI (0 ≤ x ∧ x ≤ (h_i h 1 7) - 1) ∧ h1 = h) := by
  exact t_X12_isMan d h w x _ ⟨rfl, rfl⟩
theorem t_X12_isKnowing (d : Nat) (h : Hp_) (w : Wf h) (x1 : Int32) (K : Int32 → Hp_ → Prop) (k : K (bI (0 ≤ x1 ∧ x1 ≤ (h_i h 1 0))) h) : Ci (m_X12_isKnowing (d + 1) 0 0) [.ref 1, .int x1] h K := by
  refine Ct.of (fun _ _ _ => trivial) rfl (Nat.le_of_ble_eq_true rfl) ?_
  show AW (m_X12_isKnowing (d + 1) 0 0) 0 0 0 [(0, .ref 1), (1, .int x1)] [] h (kI K)
  refine aw_iload_n (i := 1) rfl d_X12_isKnowing_0 1 rfl ?_
  refine aw_iconst (v := 0) d_X12_isKnowing_1 ic_0 ?_
  refine aw_aload_n (i := 0) rfl d_X12_isKnowing_2 0 rfl ?_
  refine aw_geti (k0 := 0) kc_12 (ws_1 w) (Nat.le_of_ble_eq_true rfl) tw_1742 d_X12_isKnowing_3 rfl ?_
  refine aw_Si [.int x1, .int 0, .int (h_i h 1 0)] [] d_X12_isKnowing_6 (cS_X12_in (d + 0) 0 0) tw_2143 rfl (rr0 (Nat.le_of_ble_eq_true rfl) (Nat.le_of_ble_eq_true rfl)) (Nat.le_of_ble_eq_true rfl) xs0 (s_X12_in _ _ x1 0 (h_i h 1 0)) (fun _ _ kk => ?_)
  obtain ⟨e1, e2⟩ := kk
  rw [e1, e2]
  exact aw_zret rfl (bI_nar _) d_X12_isKnowing_9 ⟨Nat.le_refl _, Nat.le_refl _⟩ ⟨_, rfl, k⟩
theorem s_X12_isKnowing (d : Nat) (h : Hp_) (w : Wf h) (x : Int32) : Ci (m_X12_isKnowing (d + 1) 0 0) [.ref 1, .int x] h (fun r h1 => r = bI (0 ≤ x ∧ x ≤ (h_i h 1 0)) ∧ h1 = h) := by
  exact t_X12_isKnowing d h w x _ ⟨rfl, rfl⟩
theorem t_X12_isCase (d : Nat) (h : Hp_) (w : Wf h) (x1 : Int32) (K : Int32 → Hp_ → Prop) (k : K (bI (0 ≤ x1 ∧ x1 ≤ ((h_i h 1 96) - 1))) h) : Ci (m_X12_isCase (d + 1) 0 0) [.ref 1, .int x1] h K := by
  refine Ct.of (fun _ _ _ => trivial) rfl (Nat.le_of_ble_eq_true rfl) ?_
  show AW (m_X12_isCase (d + 1) 0 0) 0 0 0 [(0, .ref 1), (1, .int x1)] [] h (kI K)
  refine aw_iload_n (i := 1) rfl d_X12_isCase_0 1 rfl ?_
  refine aw_iconst (v := 0) d_X12_isCase_1 ic_0 ?_
  refine aw_aload_n (i := 0) rfl d_X12_isCase_2 0 rfl ?_
  refine aw_geti (k0 := 96) kc_12 (ws_1 w) (Nat.le_of_ble_eq_true rfl) tw_1838 d_X12_isCase_3 rfl ?_
  refine aw_iconst (v := 1) d_X12_isCase_6 ic_1 ?_
  refine aw_isub d_X12_isCase_7 ?_
  refine aw_Si [.int x1, .int 0, .int ((h_i h 1 96) - 1)] [] d_X12_isCase_8 (cS_X12_in (d + 0) 0 0) tw_2143 rfl (rr0 (Nat.le_of_ble_eq_true rfl) (Nat.le_of_ble_eq_true rfl)) (Nat.le_of_ble_eq_true rfl) xs0 (s_X12_in _ _ x1 0 ((h_i h 1 96) - 1)) (fun _ _ kk => ?_)
  obtain ⟨e1, e2⟩ := kk
  rw [e1, e2]
  exact aw_zret rfl (bI_nar _) d_X12_isCase_11 ⟨Nat.le_refl _, Nat.le_refl _⟩ ⟨_, rfl, k⟩
theorem s_X12_isCase (d : Nat) (h : Hp_) (w : Wf h) (x : Int32) : Ci (m_X12_isCase (d + 1) 0 0) [.ref 1, .int x] h (fun r h1 => r = bI (0 ≤ x ∧ x ≤ (h_i h 1 96) - 1) ∧ h1 = h) := by
  exact t_X12_isCase d h w x _ ⟨rfl, rfl⟩
theorem t_X12_isLost (d : Nat) (h : Hp_) (w : Wf h) (x1 : Int32) (K : Int32 → Hp_ → Prop) (k : K (bI (0 ≤ x1 ∧ x1 ≤ ((h_i h 1 101) - 1))) h) : Ci (m_X12_isLost (d + 1) 0 0) [.ref 1, .int x1] h K := by
  refine Ct.of (fun _ _ _ => trivial) rfl (Nat.le_of_ble_eq_true rfl) ?_
  show AW (m_X12_isLost (d + 1) 0 0) 0 0 0 [(0, .ref 1), (1, .int x1)] [] h (kI K)
  refine aw_iload_n (i := 1) rfl d_X12_isLost_0 1 rfl ?_
  refine aw_iconst (v := 0) d_X12_isLost_1 ic_0 ?_
  refine aw_aload_n (i := 0) rfl d_X12_isLost_2 0 rfl ?_
  refine aw_geti (k0 := 101) kc_12 (ws_1 w) (Nat.le_of_ble_eq_true rfl) tw_1843 d_X12_isLost_3 rfl ?_
  refine aw_iconst (v := 1) d_X12_isLost_6 ic_1 ?_
  refine aw_isub d_X12_isLost_7 ?_
  refine aw_Si [.int x1, .int 0, .int ((h_i h 1 101) - 1)] [] d_X12_isLost_8 (cS_X12_in (d + 0) 0 0) tw_2143 rfl (rr0 (Nat.le_of_ble_eq_true rfl) (Nat.le_of_ble_eq_true rfl)) (Nat.le_of_ble_eq_true rfl) xs0 (s_X12_in _ _ x1 0 ((h_i h 1 101) - 1)) (fun _ _ kk => ?_)
  obtain ⟨e1, e2⟩ := kk
  rw [e1, e2]
  exact aw_zret rfl (bI_nar _) d_X12_isLost_11 ⟨Nat.le_refl _, Nat.le_refl _⟩ ⟨_, rfl, k⟩
theorem s_X12_isLost (d : Nat) (h : Hp_) (w : Wf h) (x : Int32) : Ci (m_X12_isLost (d + 1) 0 0) [.ref 1, .int x] h (fun r h1 => r = bI (0 ≤ x ∧ x ≤ (h_i h 1 101) - 1) ∧ h1 = h) := by
  exact t_X12_isLost d h w x _ ⟨rfl, rfl⟩
theorem t_X11_isPlace (d : Nat) (h : Hp_) (x0 : Int32) (K : Int32 → Hp_ → Prop) (k : (x0 < 0 → K 0 h) ∧ (¬ x0 < 0 → (16 ≤ x0 → K 0 h) ∧ (¬ 16 ≤ x0 → K 1 h))) : Ci (m_X11_isPlace (d + 0) 0 0) [.int x0] h K := by
  refine Ct.of (fun _ _ _ => trivial) rfl (Nat.le_of_ble_eq_true rfl) ?_
  show AW (m_X11_isPlace (d + 0) 0 0) 0 0 0 [(0, .int x0)] [] h (kI K)
  refine aw_iload_n (i := 0) rfl d_X11_isPlace_0 0 rfl ?_
  refine aw_if_lt (tgt := 14) d_X11_isPlace_1 rfl (fun c1 => ?_) (fun c1 => ?_)
  · have k := k.1 c1
    refine aw_iconst (v := 0) d_X11_isPlace_14 ic_0 ?_
    exact aw_zret rfl rfl d_X11_isPlace_15 ⟨Nat.le_refl _, Nat.le_refl _⟩ ⟨_, rfl, k⟩
  · have k := k.2 c1
    refine aw_iload_n (i := 0) rfl d_X11_isPlace_4 0 rfl ?_
    refine aw_bipush (v := 16) d_X11_isPlace_5 ib_16 ?_
    refine aw_icmp_ge (tgt := 14) d_X11_isPlace_7 rfl (fun c2 => ?_) (fun c2 => ?_)
    · have k := k.1 c2
      refine aw_iconst (v := 0) d_X11_isPlace_14 ic_0 ?_
      exact aw_zret rfl rfl d_X11_isPlace_15 ⟨Nat.le_refl _, Nat.le_refl _⟩ ⟨_, rfl, k⟩
    · have k := k.2 c2
      refine aw_iconst (v := 1) d_X11_isPlace_10 ic_1 ?_
      refine aw_goto (tgt := 15) d_X11_isPlace_11 rfl ?_
      exact aw_zret rfl rfl d_X11_isPlace_15 ⟨Nat.le_refl _, Nat.le_refl _⟩ ⟨_, rfl, k⟩
theorem s_X11_isPlace (d : Nat) (h : Hp_) (x : Int32) : Ci (m_X11_isPlace (d + 0) 0 0) [.int x] h (fun r h1 => r = bI (0 ≤ x ∧ x < 16) ∧ h1 = h) := by
  refine t_X11_isPlace d h x _ ⟨fun c => ⟨?_, rfl⟩, fun c => ⟨fun e => ⟨?_, rfl⟩, fun e => ⟨?_, rfl⟩⟩⟩
  · exact (bI_0.mpr (fun z => absurd c (Int32.not_lt.mpr z.1))).symm
  · exact (bI_0.mpr (fun z => absurd z.2 (Int32.not_lt.mpr e))).symm
  · exact (bI_1.mpr ⟨Int32.not_lt.mp c, Int32.not_le.mp e⟩).symm
