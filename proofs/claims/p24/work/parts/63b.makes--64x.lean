section
/-! the history's row grows -/
section CPL
variable {M : Mc_} {kc ks pc : Nat} {lv : List (Nat × Value)} {rest : List Value} {h : Hp_} {K : Option Value → Hp_ → Prop}
theorem aw_copyl {a b n0 n1 idx : Nat} {n : Int32} (hs0 : h_sh h a = some (3, n0)) (hs1 : h_sh h b = some (3, n1)) (hn0 : ¬ n < 0) (h4 : n.toNatClampNeg ≤ n0) (h5 : n.toNatClampNeg ≤ n1) (hlk : Cond.methodLink (mY M).cls idx arraycopyName ∈ lw_g) (hfr : 1 ≤ (mR M).frames) (hlo : (rest.map (fun v => v.category)).sum + (nativeFrameWords "java/lang/System" "arraycopy" 5 + 11) ≤ (mR M).locals) (hd : decode (mC M) pc = .ok (.invokestatic idx, 3)) (k : ∀ f, AW M kc ks (pc + 3) lv rest (h_lw h b f) K) : AW M kc ks pc lv (.int n :: .int 0 :: .ref b :: .int 0 :: .ref a :: rest) h K := by
  intro l p e s m args below meth c dC dI cy A ad0 adV ad dom0 dom H locs ls hf hX hT hE hW hS hl ho hs
  obtain ⟨q0, hq0, hw0⟩ := h_W_get (cy := cy) (ad := ad) (h := h) (wd_in hW hs0)
  obtain ⟨q1, hq1, hw1⟩ := h_W_get (cy := cy) (ad := ad) (h := h) (wd_in hW hs1)
  rw [h_ce_arr hs0 (by decide)] at hw0
  rw [h_ce_arr hs1 (by decide)] at hw1
  have z0 : (0 : Int32).toNatClampNeg = 0 := by simp
  have hz0 : ¬ (0 : Int32) < 0 := by decide
  have g4 : (0 : Int32).toNatClampNeg + n.toNatClampNeg ≤ n0 := by rw [z0, Nat.zero_add]; exact h4
  have g5 : (0 : Int32).toNatClampNeg + n.toNatClampNeg ≤ n1 := by rw [z0, Nat.zero_add]; exact h5
  refine va_copyl (t0 := 3) (t1 := 3) (q0 := q0) (q1 := q1) (ty := .long) hf.1 hf.2.1 (hf.2.2.1.trans hl.1.symm) hf.2.2.2.2.2.1 (hf.2.2.2.2.2.2.2.1 _ hlk) (hf.2.2.2.2.2.2.2.1 _ tw_nat) (hf.2.2.2.2.2.2.2.1 _ tw_1013) (hf.2.2.2.2.2.2.2.1 _ tw_21) hf.2.2.2.2.2.2.2.2.1.1 hW.2.1 hW.2.2 hS hw0 hw1 rfl rfl rfl hz0 hz0 hn0 g4 g5 ?_ hfr (by rw [cat_cv]; exact hlo) hd (fun H1 locs1 hP1 hD1 hS1 => ?_)
  · intro i hi; trivial
  have hW1 : wd_ dC dI cy A ad dom (h_lw h b (va_cpy (h_l h a) (h_l h b) (0 : Int32).toNatClampNeg (0 : Int32).toNatClampNeg n.toNatClampNeg)) H1 := wd_l hW hq1 (ce_lw hs1) hP1 hD1
  exact k (va_cpy (h_l h a) (h_l h b) (0 : Int32).toNatClampNeg (0 : Int32).toNatClampNeg n.toNatClampNeg) l p e s m args below meth c dC dI cy A ad0 adV ad dom0 dom H1 locs1 ls hf hX hT hE hW1 hS1 hl ho (ok_t (ok_t (ok_t (ok_t (ok_t hs)))))
end CPL
theorem on_i {n : Nat} (h : n ≤ 20000) : (Int32.ofNat n).toInt = (n : Int) := Int32.toInt_ofNat_of_lt (by omega)
theorem on_c {n : Nat} (h : n ≤ 20000) : (Int32.ofNat n).toNatClampNeg = n := by
  show (Int32.ofNat n).toInt.toNat = n
  rw [on_i h]; rfl
theorem c_copyOf (d : Nat) {h : Hp_} {c N W b : Nat} (hs : h_sh h c = some (3, N)) (hb : h_sh h b = none) (hbl : b < 1000) (hNW : N < W) (hW : W ≤ 20000) : Ct (m_J7_copyOf_c38d5 (d + 1) 1 W) [.ref c, .int (Int32.ofNat W)] h (fun v h' => v = some (.ref b) ∧ ∃ f, h' = h_lw (h_nw h b 3 W) b f) := by
  have eW := on_i hW
  have eN := on_i (n := N) (by omega)
  have cW := on_c hW
  have cN := on_c (n := N) (by omega)
  have z : (0 : Int32).toInt = 0 := rfl
  have cb : c ≠ b := fun e => by rw [e, hb] at hs; cases hs
  refine Ct.of (fun _ _ _ => trivial) rfl (Nat.le_of_ble_eq_true rfl) ?_
  show AW (m_J7_copyOf_c38d5 (d + 1) 1 W) 0 0 0 [(0, .ref c), (1, .int (Int32.ofNat W))] [] h _
  refine aw_iload_n (i := 1) rfl d_J7_copyOf_c38d5_0 1 rfl ?_
  refine aw_aload_n (i := 0) rfl d_J7_copyOf_c38d5_1 0 rfl ?_
  refine aw_alen (t := 3) (n := N) (v := Int32.ofNat N) hs (by decide) rfl d_J7_copyOf_c38d5_2 ?_
  refine aw_icmp_ne (tgt := 14) d_J7_copyOf_c38d5_3 rfl (fun _ => ?_) (fun e => by have := congrArg Int32.toInt e; omega)
  refine aw_iload_n (i := 1) rfl d_J7_copyOf_c38d5_14 1 rfl ?_
  refine aw_newa (t := 3) (atype := .long) b W (by decide) rfl tw_426 hb hbl xs0 (fun y => by have := q_lt.mp y; omega) cW (show W * 8 ≤ 536870912 by omega) (show 0 + 1 ≤ 1 by omega) (show 0 + W ≤ W by omega) d_J7_copyOf_c38d5_15 ?_
  have s0 : h_sh (h_nw h b 3 W) c = some (3, N) := by rw [y_sh, if_neg cb]; exact hs
  have s1 : h_sh (h_nw h b 3 W) b = some (3, W) := by rw [y_sh, if_pos rfl]
  refine aw_astore_n (i := 2) rfl [(0, .ref c), (1, .int (Int32.ofNat W)), (2, .ref b)] d_J7_copyOf_c38d5_17 (Nat.le_of_ble_eq_true rfl) rfl rfl ?_
  refine aw_aload_n (i := 0) rfl d_J7_copyOf_c38d5_18 0 rfl ?_
  refine aw_iconst (v := 0) d_J7_copyOf_c38d5_19 ic_0 ?_
  refine aw_aload_n (i := 2) rfl d_J7_copyOf_c38d5_20 2 rfl ?_
  refine aw_iconst (v := 0) d_J7_copyOf_c38d5_21 ic_0 ?_
  refine aw_aload_n (i := 0) rfl d_J7_copyOf_c38d5_22 0 rfl ?_
  refine aw_alen (t := 3) (n := N) (v := Int32.ofNat N) s0 (by decide) rfl d_J7_copyOf_c38d5_23 ?_
  refine aw_iload_n (i := 1) rfl d_J7_copyOf_c38d5_24 1 rfl ?_
  refine aw_mmin d_J7_copyOf_c38d5_25 tw_1011 (show 1 ≤ d + 1 by omega) (Nat.le_trans (Nat.le_of_ble_eq_true rfl) (show 100 ≤ 100 * (d + 1) by omega)) ⟨show 0 + 1 ≤ 1 by omega, show 0 + W ≤ W by omega⟩ ?_
  refine aw_vi (v2 := Int32.ofNat N) (if_neg (fun y => by have := q_lt.mp y; omega)) ?_
  refine aw_copyl s0 s1 (fun y => by have := q_lt.mp y; omega) (by omega) (by omega) tw_1012 (show 1 ≤ d + 1 by omega) (show 0 + (nativeFrameWords "java/lang/System" "arraycopy" 5 + 11) ≤ 100 * (d + 1) from Nat.le_trans (by decide) (show 100 ≤ 100 * (d + 1) by omega)) d_J7_copyOf_c38d5_28 (fun f => ?_)
  refine aw_aload_n (i := 2) rfl d_J7_copyOf_c38d5_31 2 rfl ?_
  exact aw_aret rfl (Or.inr ⟨_, rfl⟩) d_J7_copyOf_c38d5_32 ⟨show 0 + 1 ≤ 1 by omega, show 0 + W ≤ W by omega⟩ ⟨rfl, f, rfl⟩
/-- how long the history's row is to be -/
noncomputable def hwant (n N : Nat) : Nat := max n (min (2 * N) 20000)
theorem c_makeHistory0 (d mc ms : Nat) {h : Hp_} (I : Iv h) {c N n : Nat} (hc : h_r h 0 15 = some c) (hs : h_sh h c = some (3, N)) (hN : N ≤ 20000) (hn : n ≤ N) : Cv (m_X11_makeHistory (d + 2) mc ms) [.ref 0, .int (Int32.ofNat n)] h (fun h' => h' = h) := by
  have w := I.1
  have e1 := on_i hN
  have e2 := on_i (n := n) (by omega)
  refine Ct.of (fun _ _ _ => trivial) pn_X11 (Nat.le_of_ble_eq_true rfl) ?_
  show AW (m_X11_makeHistory (d + 2) mc ms) 0 0 0 [(0, .ref 0), (1, .int (Int32.ofNat n))] [] h (kV _)
  refine aw_iload_n (i := 1) rfl d_X11_makeHistory_0 1 rfl ?_
  refine aw_aload_n (i := 0) rfl d_X11_makeHistory_1 0 rfl ?_
  refine aw_getr (k0 := 15) kc_11 (ws_0 w) (Nat.le_of_ble_eq_true rfl) tw_502 d_X11_makeHistory_2 rfl hc ?_
  refine aw_alen (t := 3) (n := N) (v := Int32.ofNat N) hs (by decide) rfl d_X11_makeHistory_5 ?_
  refine aw_icmp_le (tgt := 39) d_X11_makeHistory_6 rfl (fun _ => ?_) (fun y => by have := q_nle y; omega)
  exact aw_vret rfl d_X11_makeHistory_39 ⟨Nat.zero_le _, Nat.zero_le _⟩ ⟨rfl, rfl⟩
end
section
/-! the class's tick -/
theorem aw_Vk {M M' : Mc_} {K : Option Value → Hp_ → Prop} {kc ks pc n idx ci N a : Nat} {lv : List (Nat × Value)} {rest : List Value} {h : Hp_} {c : Ctr} {T : u_T} (vs : List Value) (hC : Hc M' c) (ma : am h (vs.reverse ++ [.ref a]) c.1) (I : Iv h) (hp : hm h c.2.1) (hd : decode (mC M) pc = .ok (.invokevirtual idx, 3)) (hm : cV_ M' n) (hkc : kc_ ci (mY M').cls T N) (hs : h_sh h a = some (ci + 10, N)) (hlk : Cond.methodLink (mY M).cls idx (mY M') ∈ lw_g) (hn : vs.length = n) (hc : (rest.map (fun v => v.category)).sum ≤ 8) (hz : ((mR M').frames + 1 ≤ (mR M).frames ∧ 8 + (mN M' + 11) + (mR M').locals ≤ (mR M).locals) ∧ (mR M').cells = 0 ∧ (mR M').slots = 0 ∧ xs_ M) (hk : kc ≤ (mR M).cells ∧ ks ≤ (mR M).slots)
    (k : ∀ v h', Kc c.2.2.2.2 h c.2.2.1 c.2.2.2.1 v h' → AW M kc ks (pc + 3) lv (v.toList ++ rest) h' K) : AW M kc ks pc lv (vs.reverse ++ .ref a :: rest) h K := by
  have C := hC _ h ma I hp
  rw [List.reverse_append, List.reverse_reverse, List.reverse_singleton, List.singleton_append] at C
  exact aw_callV hd hm.1 hkc hs hm.2.1 hm.2.2 hlk hn hz.1 hc ⟨by rw [hz.2.1]; exact hk.1, by rw [hz.2.2.1]; exact hk.2⟩ hz.2.2.2 C (fun v h' kv => by rw [hz.2.1, hz.2.2.1]; exact k v h' kv)
/-- what a tick costs: nothing, or a row at least twice as long, or the longest -/
noncomputable def hcost (mc ms N N' : Nat) : Prop := (mc = 0 ∧ ms = 0 ∧ N' = N) ∨ (mc = 1 ∧ ms = N' ∧ N < N' ∧ (2 * N ≤ N' ∨ N' = 20000))
end
section
/-! the class's constable -/
/-- what a call of the class that makes cells leaves -/
noncomputable def Cx (h h' : Hp_) : Prop := Iv h' ∧ Mf wsC h h' ∧ h_r h' 0 15 = h_r h 0 15 ∧ ∀ c N, h_r h 0 15 = some c → h_sh h c = some (3, N) → h_sh h' c = some (3, N)
theorem Cx.fr {ws : List Nat} {h0 h h' : Hp_} (x : Cx h0 h) (I : Iv h') (f : Fr ws h h') (c : (mfo wsC ws && !(inw ws 0 15)) = true) : Cx h0 h' := by
  rw [Bool.and_eq_true, Bool.not_eq_true'] at c
  exact ⟨I, x.2.1.tr (Mf.fr c.1 f), by rw [(f.2 0 15 c.2).2.2]; exact x.2.2.1, fun a N h1 h2 => by rw [f.1]; exact x.2.2.2 a N h1 h2⟩
theorem Cx.rf {h : Hp_} (I : Iv h) : Cx h h := ⟨I, Mf.rf h, rfl, fun _ _ _ z => z⟩
/-- constable is taken -/
noncomputable def okc (m x1 x2 x3 : Int32) : Prop := (1 ≤ x1 ∧ x1 ≤ 4) ∧ (0 ≤ x2 ∧ x2 ≤ 40) ∧ (0 ≤ x3 ∧ x3 < 16) ∧ m < 12
/-- what constable answers, and how many men there are then -/
noncomputable def ocs (m x1 x2 x3 r m' : Int32) : Prop := (okc m x1 x2 x3 ∧ r = m ∧ m' = m + 1) ∨ (¬ okc m x1 x2 x3 ∧ r = -1 ∧ m' = m)
/-- the men that are counted are there -/
noncomputable def Mn (h : Hp_) : Prop := ∀ k : Nat, k < 12 → (k : Int) < (h_i h 0 7).toInt → h_r h 15 k ≠ none
/-- the man that comes, and the men that were -/
noncomputable def Cz (ok : Prop) (m x1 : Int32) (h h' : Hp_) : Prop := (ok → h_r h' 15 m.toNatClampNeg = some (401 + m.toNatClampNeg) ∧ h_i h' (401 + m.toNatClampNeg) 0 = m ∧ h_i h' (401 + m.toNatClampNeg) 1 = x1) ∧ ∀ k, (k ≠ m.toNatClampNeg ∨ ¬ ok) → h_r h' 15 k = h_r h 15 k ∧ (k < 12 → ∀ f, f ≤ 3 → h_i h' (401 + k) f = h_i h (401 + k) f)
noncomputable def Cy (x1 x2 x3 : Int32) (h : Hp_) (r : Int32) (h' : Hp_) : Prop := Cx h h' ∧ ocs (h_i h 0 7) x1 x2 x3 r (h_i h' 0 7) ∧ (Mn h → Mn h') ∧ Cz (okc (h_i h 0 7) x1 x2 x3) (h_i h 0 7) x1 h h'
theorem inw_ce {ws : List Nat} {a b k : Nat} (e : cn a = cn b) : inw ws a k = inw ws b k := by unfold inw; rw [e]
theorem cn_man {j : Nat} (h : j < 12) : cn (401 + j) = 401 := by
  unfold cn
  have a : Nat.ble 401 (401 + j) = true := Nat.ble_eq.mpr (by omega)
  have b : Nat.ble (401 + j) 412 = true := Nat.ble_eq.mpr (by omega)
  rw [a, b]
  rfl
end
section
theorem t_X12_setOut (d : Nat) (h : Hp_) (w : Wf h) (x1 : Int32) (x2 : Int32) (K : Hp_ → Prop) (k : vp_in x1 12 ∧ (Ci (m_X12_walkOf (d + 0) 0 0) [.ref 1, .int (h_i h 209 x1.toNatClampNeg), .int x2] h (fun r4 h2 => Wf h2 ∧ ((¬ r4 = 0 → vp_in x1 12 ∧ (vp_in x1 12 ∧ (vp_in x1 12 ∧ (K (h_im (h_im (h_im h2 209 x1.toNatClampNeg (-1)) 210 x1.toNatClampNeg x2) 211 x1.toNatClampNeg ((h_i h2 1 0) + r4)))))) ∧ (r4 = 0 → K h2))))) : Cv (m_X12_setOut (d + 1) 0 0) [.ref 1, .int x1, .int x2] h K := by
  refine Ct.of (fun _ _ _ => trivial) pn_X12 (Nat.le_of_ble_eq_true rfl) ?_
  show AW (m_X12_setOut (d + 1) 0 0) 0 0 0 [(0, .ref 1), (1, .int x1), (2, .int x2)] [] h (kV K)
  refine aw_aload_n (i := 0) rfl d_X12_setOut_0 0 rfl ?_
  refine aw_aload_n (i := 0) rfl d_X12_setOut_1 0 rfl ?_
  refine aw_getr (k0 := 13) kc_12 (ws_1 w) (Nat.le_of_ble_eq_true rfl) tw_1755 d_X12_setOut_2 rfl (wr_1_13 w) ?_
  refine aw_iload_n (i := 1) rfl d_X12_setOut_5 1 rfl ?_
  obtain ⟨b1, k⟩ := k
  refine aw_iald (ws_209 w) b1 d_X12_setOut_6 ?_
  refine aw_iload_n (i := 2) rfl d_X12_setOut_7 2 rfl ?_
  refine aw_Vi 1 [.int (h_i h 209 x1.toNatClampNeg), .int x2] [] d_X12_setOut_8 (cV_X12_walkOf (d + 0) 0 0) kc_12 (ws_1 w) tw_2150 rfl (rr0 (Nat.le_of_ble_eq_true rfl) (Nat.le_of_ble_eq_true rfl)) (Nat.le_of_ble_eq_true rfl) xs0 k (fun r4 h2 kk => ?_)
  obtain ⟨w3, k⟩ := kk
  refine aw_istore_n (i := 3) rfl [(0, .ref 1), (1, .int x1), (2, .int x2), (3, .int r4)] d_X12_setOut_11 (Nat.le_of_ble_eq_true rfl) rfl rfl ?_
  refine aw_iload_n (i := 3) rfl d_X12_setOut_12 3 rfl ?_
  refine aw_if_ne (tgt := 17) d_X12_setOut_13 rfl (fun c5 => ?_) (fun c5 => ?_)
  · have k := k.1 c5
    refine aw_aload_n (i := 0) rfl d_X12_setOut_17 0 rfl ?_
    refine aw_getr (k0 := 13) kc_12 (ws_1 w3) (Nat.le_of_ble_eq_true rfl) tw_1755 d_X12_setOut_18 rfl (wr_1_13 w3) ?_
    refine aw_iload_n (i := 1) rfl d_X12_setOut_21 1 rfl ?_
    refine aw_iconst (v := (-1)) d_X12_setOut_22 ic_m1 ?_
    obtain ⟨b6, k⟩ := k
    refine aw_iast (ws_209 w3) b6 d_X12_setOut_23 ?_
    refine aw_aload_n (i := 0) rfl d_X12_setOut_24 0 rfl ?_
    refine aw_getr (k0 := 14) kc_12 (ws_1 w3) (Nat.le_of_ble_eq_true rfl) tw_1756 d_X12_setOut_25 rfl (wr_1_14 w3) ?_
    refine aw_iload_n (i := 1) rfl d_X12_setOut_28 1 rfl ?_
    refine aw_iload_n (i := 2) rfl d_X12_setOut_29 2 rfl ?_
    obtain ⟨b7, k⟩ := k
    refine aw_iast (ws_210 w3) b7 d_X12_setOut_30 ?_
    refine aw_aload_n (i := 0) rfl d_X12_setOut_31 0 rfl ?_
    refine aw_getr (k0 := 15) kc_12 (ws_1 w3) (Nat.le_of_ble_eq_true rfl) tw_1757 d_X12_setOut_32 rfl (wr_1_15 w3) ?_
    refine aw_iload_n (i := 1) rfl d_X12_setOut_35 1 rfl ?_
    refine aw_aload_n (i := 0) rfl d_X12_setOut_36 0 rfl ?_
    refine aw_geti (k0 := 0) kc_12 (ws_1 w3) (Nat.le_of_ble_eq_true rfl) tw_1742 d_X12_setOut_37 rfl ?_
    refine aw_vi (v2 := (h_i h2 1 0)) (rfl) ?_
    refine aw_iload_n (i := 3) rfl d_X12_setOut_40 3 rfl ?_
    refine aw_iadd d_X12_setOut_41 ?_
    obtain ⟨b8, k⟩ := k
    refine aw_iast (ws_211 w3) b8 d_X12_setOut_42 ?_
    exact aw_vret rfl d_X12_setOut_43 ⟨Nat.le_refl _, Nat.le_refl _⟩ ⟨rfl, k⟩
  · have k := k.2 c5
    exact aw_vret rfl d_X12_setOut_16 ⟨Nat.le_refl _, Nat.le_refl _⟩ ⟨rfl, k⟩
theorem t_X12_free (d : Nat) (h : Hp_) (w : Wf h) (x1 : Int32) (K : Hp_ → Prop) (k : vp_in x1 12 ∧ (vp_in x1 12 ∧ (vp_in x1 12 ∧ (vp_in x1 12 ∧ (vp_in x1 12 ∧ (vp_in x1 12 ∧ (AW (m_X12_free (d + 0) 0 0) 0 0 42 [(0, .ref 1), (1, .int x1), (2, .int 0)] [] (h_im (h_im (h_im (h_im (h_im h 208 x1.toNatClampNeg 0) 209 x1.toNatClampNeg (h_i h 206 x1.toNatClampNeg)) 210 x1.toNatClampNeg (-1)) 211 x1.toNatClampNeg (-1)) 213 x1.toNatClampNeg (-1)) (kV K)))))))) : Cv (m_X12_free (d + 0) 0 0) [.ref 1, .int x1] h K := by
  refine Ct.of (fun _ _ _ => trivial) pn_X12 (Nat.le_of_ble_eq_true rfl) ?_
  show AW (m_X12_free (d + 0) 0 0) 0 0 0 [(0, .ref 1), (1, .int x1)] [] h (kV K)
  refine aw_aload_n (i := 0) rfl d_X12_free_0 0 rfl ?_
  refine aw_getr (k0 := 12) kc_12 (ws_1 w) (Nat.le_of_ble_eq_true rfl) tw_1754 d_X12_free_1 rfl (wr_1_12 w) ?_
  refine aw_iload_n (i := 1) rfl d_X12_free_4 1 rfl ?_
  refine aw_iconst (v := 0) d_X12_free_5 ic_0 ?_
  obtain ⟨b1, k⟩ := k
  refine aw_iast (ws_208 w) b1 d_X12_free_6 ?_
  refine aw_aload_n (i := 0) rfl d_X12_free_7 0 rfl ?_
  refine aw_getr (k0 := 13) kc_12 (ws_1 w) (Nat.le_of_ble_eq_true rfl) tw_1755 d_X12_free_8 rfl (wr_1_13 w) ?_
  refine aw_iload_n (i := 1) rfl d_X12_free_11 1 rfl ?_
  refine aw_aload_n (i := 0) rfl d_X12_free_12 0 rfl ?_
  refine aw_getr (k0 := 10) kc_12 (ws_1 w) (Nat.le_of_ble_eq_true rfl) tw_1752 d_X12_free_13 rfl (wr_1_10 w) ?_
  refine aw_iload_n (i := 1) rfl d_X12_free_16 1 rfl ?_
  obtain ⟨b2, k⟩ := k
  refine aw_iald (ws_206 w) b2 d_X12_free_17 ?_
  refine aw_vi (v2 := (h_i h 206 x1.toNatClampNeg)) (rfl) ?_
  obtain ⟨b3, k⟩ := k
  refine aw_iast (ws_209 w) b3 d_X12_free_18 ?_
  refine aw_aload_n (i := 0) rfl d_X12_free_19 0 rfl ?_
  refine aw_getr (k0 := 14) kc_12 (ws_1 w) (Nat.le_of_ble_eq_true rfl) tw_1756 d_X12_free_20 rfl (wr_1_14 w) ?_
  refine aw_iload_n (i := 1) rfl d_X12_free_23 1 rfl ?_
  refine aw_iconst (v := (-1)) d_X12_free_24 ic_m1 ?_
  obtain ⟨b4, k⟩ := k
  refine aw_iast (ws_210 w) b4 d_X12_free_25 ?_
  refine aw_aload_n (i := 0) rfl d_X12_free_26 0 rfl ?_
  refine aw_getr (k0 := 15) kc_12 (ws_1 w) (Nat.le_of_ble_eq_true rfl) tw_1757 d_X12_free_27 rfl (wr_1_15 w) ?_
  refine aw_iload_n (i := 1) rfl d_X12_free_30 1 rfl ?_
  refine aw_iconst (v := (-1)) d_X12_free_31 ic_m1 ?_
  obtain ⟨b5, k⟩ := k
  refine aw_iast (ws_211 w) b5 d_X12_free_32 ?_
  refine aw_aload_n (i := 0) rfl d_X12_free_33 0 rfl ?_
  refine aw_getr (k0 := 17) kc_12 (ws_1 w) (Nat.le_of_ble_eq_true rfl) tw_1759 d_X12_free_34 rfl (wr_1_17 w) ?_
  refine aw_iload_n (i := 1) rfl d_X12_free_37 1 rfl ?_
  refine aw_iconst (v := (-1)) d_X12_free_38 ic_m1 ?_
  obtain ⟨b6, k⟩ := k
  refine aw_iast (ws_213 w) b6 d_X12_free_39 ?_
  refine aw_iconst (v := 0) d_X12_free_40 ic_0 ?_
  refine aw_istore_n (i := 2) rfl [(0, .ref 1), (1, .int x1), (2, .int 0)] d_X12_free_41 (Nat.le_of_ble_eq_true rfl) rfl rfl ?_
  exact k
theorem t_X12_free_42 (d : Nat) (h : Hp_) (w : Wf h) (x1 : Int32) (x2 : Int32) (K : Hp_ → Prop) (k : ((h_i h 1 80) ≤ x2 → K h) ∧ (¬ (h_i h 1 80) ≤ x2 → vp_in x2 300 ∧ ((¬ (h_i h 255 x2.toNatClampNeg) = x1 → AW (m_X12_free (d + 0) 0 0) 0 0 42 [(0, .ref 1), (1, .int x1), (2, .int (x2 + 1))] [] h (kV K)) ∧ ((h_i h 255 x2.toNatClampNeg) = x1 → vp_in x2 300 ∧ ((¬ (h_i h 258 x2.toNatClampNeg) = 1 → AW (m_X12_free (d + 0) 0 0) 0 0 42 [(0, .ref 1), (1, .int x1), (2, .int (x2 + 1))] [] h (kV K)) ∧ ((h_i h 258 x2.toNatClampNeg) = 1 → vp_in x2 300 ∧ ((¬ (h_i h 260 x2.toNatClampNeg) = (-1) → AW (m_X12_free (d + 0) 0 0) 0 0 42 [(0, .ref 1), (1, .int x1), (2, .int (x2 + 1))] [] h (kV K)) ∧ ((h_i h 260 x2.toNatClampNeg) = (-1) → vp_in x2 300 ∧ (AW (m_X12_free (d + 0) 0 0) 0 0 42 [(0, .ref 1), (1, .int x1), (2, .int (x2 + 1))] [] (h_im h 260 x2.toNatClampNeg (h_i h 1 0)) (kV K)))))))))) : AW (m_X12_free (d + 0) 0 0) 0 0 42 [(0, .ref 1), (1, .int x1), (2, .int x2)] [] h (kV K) := by
  refine aw_iload_n (i := 2) rfl d_X12_free_42 2 rfl ?_
  refine aw_aload_n (i := 0) rfl d_X12_free_43 0 rfl ?_
  refine aw_geti (k0 := 80) kc_12 (ws_1 w) (Nat.le_of_ble_eq_true rfl) tw_1822 d_X12_free_44 rfl ?_
  refine aw_icmp_ge (tgt := 96) d_X12_free_47 rfl (fun c7 => ?_) (fun c7 => ?_)
  · have k := k.1 c7
    exact aw_vret rfl d_X12_free_96 ⟨Nat.le_refl _, Nat.le_refl _⟩ ⟨rfl, k⟩
  · have k := k.2 c7
    refine aw_aload_n (i := 0) rfl d_X12_free_50 0 rfl ?_
    refine aw_getr (k0 := 72) kc_12 (ws_1 w) (Nat.le_of_ble_eq_true rfl) tw_1814 d_X12_free_51 rfl (wr_1_72 w) ?_
    refine aw_iload_n (i := 2) rfl d_X12_free_54 2 rfl ?_
    obtain ⟨b8, k⟩ := k
    refine aw_iald (ws_255 w) b8 d_X12_free_55 ?_
    refine aw_iload_n (i := 1) rfl d_X12_free_56 1 rfl ?_
    refine aw_icmp_ne (tgt := 90) d_X12_free_57 rfl (fun c9 => ?_) (fun c9 => ?_)
    · have k := k.1 c9
      refine aw_iinc (v := (x2 + 1)) [(0, .ref 1), (1, .int x1), (2, .int (x2 + 1))] d_X12_free_90 2 rfl rfl (Nat.le_of_ble_eq_true rfl) rfl rfl ?_
      refine aw_goto (tgt := 42) d_X12_free_93 rfl ?_
      exact k
    · have k := k.2 c9
      refine aw_aload_n (i := 0) rfl d_X12_free_60 0 rfl ?_
      refine aw_getr (k0 := 75) kc_12 (ws_1 w) (Nat.le_of_ble_eq_true rfl) tw_1817 d_X12_free_61 rfl (wr_1_75 w) ?_
      refine aw_iload_n (i := 2) rfl d_X12_free_64 2 rfl ?_
      obtain ⟨b10, k⟩ := k
      refine aw_iald (ws_258 w) b10 d_X12_free_65 ?_
      refine aw_iconst (v := 1) d_X12_free_66 ic_1 ?_
      refine aw_icmp_ne (tgt := 90) d_X12_free_67 rfl (fun c11 => ?_) (fun c11 => ?_)
      · have k := k.1 c11
        refine aw_iinc (v := (x2 + 1)) [(0, .ref 1), (1, .int x1), (2, .int (x2 + 1))] d_X12_free_90 2 rfl rfl (Nat.le_of_ble_eq_true rfl) rfl rfl ?_
        refine aw_goto (tgt := 42) d_X12_free_93 rfl ?_
        exact k
      · have k := k.2 c11
        refine aw_aload_n (i := 0) rfl d_X12_free_70 0 rfl ?_
        refine aw_getr (k0 := 77) kc_12 (ws_1 w) (Nat.le_of_ble_eq_true rfl) tw_1819 d_X12_free_71 rfl (wr_1_77 w) ?_
        refine aw_iload_n (i := 2) rfl d_X12_free_74 2 rfl ?_
        obtain ⟨b12, k⟩ := k
        refine aw_iald (ws_260 w) b12 d_X12_free_75 ?_
        refine aw_iconst (v := (-1)) d_X12_free_76 ic_m1 ?_
        refine aw_icmp_ne (tgt := 90) d_X12_free_77 rfl (fun c13 => ?_) (fun c13 => ?_)
        · have k := k.1 c13
          refine aw_iinc (v := (x2 + 1)) [(0, .ref 1), (1, .int x1), (2, .int (x2 + 1))] d_X12_free_90 2 rfl rfl (Nat.le_of_ble_eq_true rfl) rfl rfl ?_
          refine aw_goto (tgt := 42) d_X12_free_93 rfl ?_
          exact k
        · have k := k.2 c13
          refine aw_aload_n (i := 0) rfl d_X12_free_80 0 rfl ?_
          refine aw_getr (k0 := 77) kc_12 (ws_1 w) (Nat.le_of_ble_eq_true rfl) tw_1819 d_X12_free_81 rfl (wr_1_77 w) ?_
          refine aw_iload_n (i := 2) rfl d_X12_free_84 2 rfl ?_
          refine aw_aload_n (i := 0) rfl d_X12_free_85 0 rfl ?_
          refine aw_geti (k0 := 0) kc_12 (ws_1 w) (Nat.le_of_ble_eq_true rfl) tw_1742 d_X12_free_86 rfl ?_
          obtain ⟨b14, k⟩ := k
          refine aw_iast (ws_260 w) b14 d_X12_free_89 ?_
          refine aw_iinc (v := (x2 + 1)) [(0, .ref 1), (1, .int x1), (2, .int (x2 + 1))] d_X12_free_90 2 rfl rfl (Nat.le_of_ble_eq_true rfl) rfl rfl ?_
          refine aw_goto (tgt := 42) d_X12_free_93 rfl ?_
          exact k
theorem t_X12_goHome (d : Nat) (h : Hp_) (w : Wf h) (x1 : Int32) (K : Hp_ → Prop) (k : vp_in x1 12 ∧ (vp_in x1 12 ∧ (vp_in x1 12 ∧ (vp_in x1 12 ∧ (vp_in x1 12 ∧ (Ci (m_X12_walkOf (d + 0) 0 0) [.ref 1, .int (h_i h 209 x1.toNatClampNeg), .int (h_i h 206 x1.toNatClampNeg)] (h_im (h_im (h_im h 208 x1.toNatClampNeg 2) 213 x1.toNatClampNeg (-1)) 211 x1.toNatClampNeg (-1)) (fun r8 h6 => Wf h6 ∧ ((r8 = (-1) → Cv (m_X12_free (d + 0) 0 0) [.ref 1, .int x1] h6 (fun h10 => Wf h10 ∧ (K h10))) ∧ (¬ r8 = (-1) → (¬ r8 = 0 → vp_in x1 12 ∧ (Cv (m_X12_setOut (d + 1) 0 0) [.ref 1, .int x1, .int (h_i h6 206 x1.toNatClampNeg)] h6 (fun h15 => Wf h15 ∧ (K h15)))) ∧ (r8 = 0 → Cv (m_X12_free (d + 0) 0 0) [.ref 1, .int x1] h6 (fun h18 => Wf h18 ∧ (K h18)))))))))))) : Cv (m_X12_goHome (d + 2) 0 0) [.ref 1, .int x1] h K := by
  refine Ct.of (fun _ _ _ => trivial) pn_X12 (Nat.le_of_ble_eq_true rfl) ?_
  show AW (m_X12_goHome (d + 2) 0 0) 0 0 0 [(0, .ref 1), (1, .int x1)] [] h (kV K)
  refine aw_aload_n (i := 0) rfl d_X12_goHome_0 0 rfl ?_
  refine aw_getr (k0 := 12) kc_12 (ws_1 w) (Nat.le_of_ble_eq_true rfl) tw_1754 d_X12_goHome_1 rfl (wr_1_12 w) ?_
  refine aw_iload_n (i := 1) rfl d_X12_goHome_4 1 rfl ?_
  refine aw_iconst (v := 2) d_X12_goHome_5 ic_2 ?_
  obtain ⟨b1, k⟩ := k
  refine aw_iast (ws_208 w) b1 d_X12_goHome_6 ?_
  refine aw_aload_n (i := 0) rfl d_X12_goHome_7 0 rfl ?_
  refine aw_getr (k0 := 17) kc_12 (ws_1 w) (Nat.le_of_ble_eq_true rfl) tw_1759 d_X12_goHome_8 rfl (wr_1_17 w) ?_
  refine aw_iload_n (i := 1) rfl d_X12_goHome_11 1 rfl ?_
  refine aw_iconst (v := (-1)) d_X12_goHome_12 ic_m1 ?_
  obtain ⟨b2, k⟩ := k
  refine aw_iast (ws_213 w) b2 d_X12_goHome_13 ?_
  refine aw_aload_n (i := 0) rfl d_X12_goHome_14 0 rfl ?_
  refine aw_getr (k0 := 15) kc_12 (ws_1 w) (Nat.le_of_ble_eq_true rfl) tw_1757 d_X12_goHome_15 rfl (wr_1_15 w) ?_
  refine aw_iload_n (i := 1) rfl d_X12_goHome_18 1 rfl ?_
  refine aw_iconst (v := (-1)) d_X12_goHome_19 ic_m1 ?_
  obtain ⟨b3, k⟩ := k
  refine aw_iast (ws_211 w) b3 d_X12_goHome_20 ?_
  refine aw_aload_n (i := 0) rfl d_X12_goHome_21 0 rfl ?_
  refine aw_aload_n (i := 0) rfl d_X12_goHome_22 0 rfl ?_
  refine aw_getr (k0 := 13) kc_12 (ws_1 w) (Nat.le_of_ble_eq_true rfl) tw_1755 d_X12_goHome_23 rfl (wr_1_13 w) ?_
  refine aw_iload_n (i := 1) rfl d_X12_goHome_26 1 rfl ?_
  obtain ⟨b4, k⟩ := k
  refine aw_iald (ws_209 w) b4 d_X12_goHome_27 ?_
  refine aw_vi (v2 := (h_i h 209 x1.toNatClampNeg)) (rfl) ?_
  refine aw_aload_n (i := 0) rfl d_X12_goHome_28 0 rfl ?_
  refine aw_getr (k0 := 10) kc_12 (ws_1 w) (Nat.le_of_ble_eq_true rfl) tw_1752 d_X12_goHome_29 rfl (wr_1_10 w) ?_
  refine aw_iload_n (i := 1) rfl d_X12_goHome_32 1 rfl ?_
  obtain ⟨b5, k⟩ := k
  refine aw_iald (ws_206 w) b5 d_X12_goHome_33 ?_
  refine aw_vi (v2 := (h_i h 206 x1.toNatClampNeg)) (rfl) ?_
  refine aw_Vi 1 [.int (h_i h 209 x1.toNatClampNeg), .int (h_i h 206 x1.toNatClampNeg)] [] d_X12_goHome_34 (cV_X12_walkOf (d + 0) 0 0) kc_12 (ws_1 w) tw_2150 rfl (rr0 (Nat.le_of_ble_eq_true rfl) (Nat.le_of_ble_eq_true rfl)) (Nat.le_of_ble_eq_true rfl) xs0 k (fun r8 h6 kk => ?_)
  obtain ⟨w7, k⟩ := kk
  refine aw_istore_n (i := 2) rfl [(0, .ref 1), (1, .int x1), (2, .int r8)] d_X12_goHome_37 (Nat.le_of_ble_eq_true rfl) rfl rfl ?_
  refine aw_iload_n (i := 2) rfl d_X12_goHome_38 2 rfl ?_
  refine aw_iconst (v := (-1)) d_X12_goHome_39 ic_m1 ?_
  refine aw_icmp_eq (tgt := 47) d_X12_goHome_40 rfl (fun c9 => ?_) (fun c9 => ?_)
  · have k := k.1 c9
    refine aw_aload_n (i := 0) rfl d_X12_goHome_47 0 rfl ?_
    refine aw_iload_n (i := 1) rfl d_X12_goHome_48 1 rfl ?_
    refine aw_Vv 1 [.int x1] [] d_X12_goHome_49 (cV_X12_free (d + 0) 0 0) kc_12 (ws_1 w7) tw_2344 rfl (rr0 (Nat.le_of_ble_eq_true rfl) (Nat.le_of_ble_eq_true rfl)) (Nat.le_of_ble_eq_true rfl) xs0 k (fun h10 kk => ?_)
    obtain ⟨w11, k⟩ := kk
    exact aw_vret rfl d_X12_goHome_52 ⟨Nat.le_refl _, Nat.le_refl _⟩ ⟨rfl, k⟩
  · have k := k.2 c9
    refine aw_iload_n (i := 2) rfl d_X12_goHome_43 2 rfl ?_
    refine aw_if_ne (tgt := 53) d_X12_goHome_44 rfl (fun c13 => ?_) (fun c13 => ?_)
    · have k := k.1 c13
      refine aw_aload_n (i := 0) rfl d_X12_goHome_53 0 rfl ?_
      refine aw_iload_n (i := 1) rfl d_X12_goHome_54 1 rfl ?_
      refine aw_aload_n (i := 0) rfl d_X12_goHome_55 0 rfl ?_
      refine aw_getr (k0 := 10) kc_12 (ws_1 w7) (Nat.le_of_ble_eq_true rfl) tw_1752 d_X12_goHome_56 rfl (wr_1_10 w7) ?_
      refine aw_iload_n (i := 1) rfl d_X12_goHome_59 1 rfl ?_
      obtain ⟨b14, k⟩ := k
      refine aw_iald (ws_206 w7) b14 d_X12_goHome_60 ?_
      refine aw_Vv 1 [.int x1, .int (h_i h6 206 x1.toNatClampNeg)] [] d_X12_goHome_61 (cV_X12_setOut (d + 1) 0 0) kc_12 (ws_1 w7) tw_2348 rfl (rr0 (Nat.le_of_ble_eq_true rfl) (Nat.le_of_ble_eq_true rfl)) (Nat.le_of_ble_eq_true rfl) xs0 k (fun h15 kk => ?_)
      obtain ⟨w16, k⟩ := kk
      exact aw_vret rfl d_X12_goHome_64 ⟨Nat.le_refl _, Nat.le_refl _⟩ ⟨rfl, k⟩
    · have k := k.2 c13
      refine aw_aload_n (i := 0) rfl d_X12_goHome_47 0 rfl ?_
      refine aw_iload_n (i := 1) rfl d_X12_goHome_48 1 rfl ?_
      refine aw_Vv 1 [.int x1] [] d_X12_goHome_49 (cV_X12_free (d + 0) 0 0) kc_12 (ws_1 w7) tw_2344 rfl (rr0 (Nat.le_of_ble_eq_true rfl) (Nat.le_of_ble_eq_true rfl)) (Nat.le_of_ble_eq_true rfl) xs0 k (fun h18 kk => ?_)
      obtain ⟨w19, k⟩ := kk
      exact aw_vret rfl d_X12_goHome_52 ⟨Nat.le_refl _, Nat.le_refl _⟩ ⟨rfl, k⟩
theorem t_X12_stay (d : Nat) (h : Hp_) (w : Wf h) (x1 : Int32) (K : Hp_ → Prop) (k : vp_in x1 12 ∧ (((h_i h 1 0) < (h_i h 219 x1.toNatClampNeg) → vp_in x1 12 ∧ (vp_in x1 12 ∧ (K (h_im h 211 x1.toNatClampNeg (h_i h 219 x1.toNatClampNeg))))) ∧ (¬ (h_i h 1 0) < (h_i h 219 x1.toNatClampNeg) → Cv (m_X12_goHome (d + 2) 0 0) [.ref 1, .int x1] h (fun h5 => Wf h5 ∧ (K h5))))) : Cv (m_X12_stay (d + 3) 0 0) [.ref 1, .int x1] h K := by
  refine Ct.of (fun _ _ _ => trivial) pn_X12 (Nat.le_of_ble_eq_true rfl) ?_
  show AW (m_X12_stay (d + 3) 0 0) 0 0 0 [(0, .ref 1), (1, .int x1)] [] h (kV K)
  refine aw_aload_n (i := 0) rfl d_X12_stay_0 0 rfl ?_
  refine aw_getr (k0 := 23) kc_12 (ws_1 w) (Nat.le_of_ble_eq_true rfl) tw_1765 d_X12_stay_1 rfl (wr_1_23 w) ?_
  refine aw_iload_n (i := 1) rfl d_X12_stay_4 1 rfl ?_
  obtain ⟨b1, k⟩ := k
  refine aw_iald (ws_219 w) b1 d_X12_stay_5 ?_
  refine aw_aload_n (i := 0) rfl d_X12_stay_6 0 rfl ?_
  refine aw_geti (k0 := 0) kc_12 (ws_1 w) (Nat.le_of_ble_eq_true rfl) tw_1742 d_X12_stay_7 rfl ?_
  refine aw_icmp_gt (tgt := 21) d_X12_stay_10 rfl (fun c2 => ?_) (fun c2 => ?_)
  · have k := k.1 c2
    refine aw_aload_n (i := 0) rfl d_X12_stay_21 0 rfl ?_
    refine aw_getr (k0 := 15) kc_12 (ws_1 w) (Nat.le_of_ble_eq_true rfl) tw_1757 d_X12_stay_22 rfl (wr_1_15 w) ?_
    refine aw_iload_n (i := 1) rfl d_X12_stay_25 1 rfl ?_
    refine aw_aload_n (i := 0) rfl d_X12_stay_26 0 rfl ?_
    refine aw_getr (k0 := 23) kc_12 (ws_1 w) (Nat.le_of_ble_eq_true rfl) tw_1765 d_X12_stay_27 rfl (wr_1_23 w) ?_
    refine aw_iload_n (i := 1) rfl d_X12_stay_30 1 rfl ?_
    obtain ⟨b3, k⟩ := k
    refine aw_iald (ws_219 w) b3 d_X12_stay_31 ?_
    obtain ⟨b4, k⟩ := k
    refine aw_iast (ws_211 w) b4 d_X12_stay_32 ?_
    exact aw_vret rfl d_X12_stay_33 ⟨Nat.le_refl _, Nat.le_refl _⟩ ⟨rfl, k⟩
  · have k := k.2 c2
    refine aw_aload_n (i := 0) rfl d_X12_stay_13 0 rfl ?_
    refine aw_iload_n (i := 1) rfl d_X12_stay_14 1 rfl ?_
    refine aw_Vv 1 [.int x1] [] d_X12_stay_15 (cV_X12_goHome (d + 2) 0 0) kc_12 (ws_1 w) tw_2340 rfl (rr0 (Nat.le_of_ble_eq_true rfl) (Nat.le_of_ble_eq_true rfl)) (Nat.le_of_ble_eq_true rfl) xs0 k (fun h5 kk => ?_)
    obtain ⟨w6, k⟩ := kk
    refine aw_goto (tgt := 33) d_X12_stay_18 rfl ?_
    exact aw_vret rfl d_X12_stay_33 ⟨Nat.le_refl _, Nat.le_refl _⟩ ⟨rfl, k⟩
theorem t_X12_goDrawn (d : Nat) (h : Hp_) (w : Wf h) (x1 : Int32) (K : Hp_ → Prop) (k : vp_in x1 12 ∧ (vp_in x1 12 ∧ (Cv (m_X12_setOut (d + 1) 0 0) [.ref 1, .int x1, .int (h_i h 218 x1.toNatClampNeg)] (h_im h 211 x1.toNatClampNeg (-1)) (fun h3 => Wf h3 ∧ (vp_in x1 12 ∧ ((¬ (h_i h3 210 x1.toNatClampNeg) = (-1) → K h3) ∧ ((h_i h3 210 x1.toNatClampNeg) = (-1) → Cv (m_X12_stay (d + 3) 0 0) [.ref 1, .int x1] h3 (fun h8 => Wf h8 ∧ (K h8))))))))) : Cv (m_X12_goDrawn (d + 4) 0 0) [.ref 1, .int x1] h K := by
  refine Ct.of (fun _ _ _ => trivial) pn_X12 (Nat.le_of_ble_eq_true rfl) ?_
  show AW (m_X12_goDrawn (d + 4) 0 0) 0 0 0 [(0, .ref 1), (1, .int x1)] [] h (kV K)
  refine aw_aload_n (i := 0) rfl d_X12_goDrawn_0 0 rfl ?_
  refine aw_getr (k0 := 15) kc_12 (ws_1 w) (Nat.le_of_ble_eq_true rfl) tw_1757 d_X12_goDrawn_1 rfl (wr_1_15 w) ?_
  refine aw_iload_n (i := 1) rfl d_X12_goDrawn_4 1 rfl ?_
  refine aw_iconst (v := (-1)) d_X12_goDrawn_5 ic_m1 ?_
  obtain ⟨b1, k⟩ := k
  refine aw_iast (ws_211 w) b1 d_X12_goDrawn_6 ?_
  refine aw_aload_n (i := 0) rfl d_X12_goDrawn_7 0 rfl ?_
  refine aw_iload_n (i := 1) rfl d_X12_goDrawn_8 1 rfl ?_
  refine aw_aload_n (i := 0) rfl d_X12_goDrawn_9 0 rfl ?_
  refine aw_getr (k0 := 22) kc_12 (ws_1 w) (Nat.le_of_ble_eq_true rfl) tw_1764 d_X12_goDrawn_10 rfl (wr_1_22 w) ?_
  refine aw_iload_n (i := 1) rfl d_X12_goDrawn_13 1 rfl ?_
  obtain ⟨b2, k⟩ := k
  refine aw_iald (ws_218 w) b2 d_X12_goDrawn_14 ?_
  refine aw_vi (v2 := (h_i h 218 x1.toNatClampNeg)) (rfl) ?_
  refine aw_Vv 1 [.int x1, .int (h_i h 218 x1.toNatClampNeg)] [] d_X12_goDrawn_15 (cV_X12_setOut (d + 1) 0 0) kc_12 (ws_1 w) tw_2348 rfl (rr0 (Nat.le_of_ble_eq_true rfl) (Nat.le_of_ble_eq_true rfl)) (Nat.le_of_ble_eq_true rfl) xs0 k (fun h3 kk => ?_)
  obtain ⟨w4, k⟩ := kk
  refine aw_aload_n (i := 0) rfl d_X12_goDrawn_18 0 rfl ?_
  refine aw_getr (k0 := 14) kc_12 (ws_1 w4) (Nat.le_of_ble_eq_true rfl) tw_1756 d_X12_goDrawn_19 rfl (wr_1_14 w4) ?_
  refine aw_iload_n (i := 1) rfl d_X12_goDrawn_22 1 rfl ?_
  obtain ⟨b6, k⟩ := k
  refine aw_iald (ws_210 w4) b6 d_X12_goDrawn_23 ?_
  refine aw_iconst (v := (-1)) d_X12_goDrawn_24 ic_m1 ?_
  refine aw_icmp_ne (tgt := 33) d_X12_goDrawn_25 rfl (fun c7 => ?_) (fun c7 => ?_)
  · have k := k.1 c7
    exact aw_vret rfl d_X12_goDrawn_33 ⟨Nat.le_refl _, Nat.le_refl _⟩ ⟨rfl, k⟩
  · have k := k.2 c7
    refine aw_aload_n (i := 0) rfl d_X12_goDrawn_28 0 rfl ?_
    refine aw_iload_n (i := 1) rfl d_X12_goDrawn_29 1 rfl ?_
    refine aw_Vv 1 [.int x1] [] d_X12_goDrawn_30 (cV_X12_stay (d + 3) 0 0) kc_12 (ws_1 w4) tw_2372 rfl (rr0 (Nat.le_of_ble_eq_true rfl) (Nat.le_of_ble_eq_true rfl)) (Nat.le_of_ble_eq_true rfl) xs0 k (fun h8 kk => ?_)
    obtain ⟨w9, k⟩ := kk
    exact aw_vret rfl d_X12_goDrawn_33 ⟨Nat.le_refl _, Nat.le_refl _⟩ ⟨rfl, k⟩
theorem t_X12_miss (d : Nat) (h : Hp_) (w : Wf h) (x1 : Int32) (x2 : Int32) (K : Hp_ → Prop) (k : vp_in x1 400 ∧ (vp_in x1 400 ∧ (K (h_im (h_im h 242 x1.toNatClampNeg (h_i h 1 0)) 243 x1.toNatClampNeg x2)))) : Cv (m_X12_miss (d + 0) 0 0) [.ref 1, .int x1, .int x2] h K := by
  refine Ct.of (fun _ _ _ => trivial) pn_X12 (Nat.le_of_ble_eq_true rfl) ?_
  show AW (m_X12_miss (d + 0) 0 0) 0 0 0 [(0, .ref 1), (1, .int x1), (2, .int x2)] [] h (kV K)
  refine aw_aload_n (i := 0) rfl d_X12_miss_0 0 rfl ?_
  refine aw_getr (k0 := 57) kc_12 (ws_1 w) (Nat.le_of_ble_eq_true rfl) tw_1799 d_X12_miss_1 rfl (wr_1_57 w) ?_
  refine aw_iload_n (i := 1) rfl d_X12_miss_4 1 rfl ?_
  refine aw_aload_n (i := 0) rfl d_X12_miss_5 0 rfl ?_
  refine aw_geti (k0 := 0) kc_12 (ws_1 w) (Nat.le_of_ble_eq_true rfl) tw_1742 d_X12_miss_6 rfl ?_
  obtain ⟨b1, k⟩ := k
  refine aw_iast (ws_242 w) b1 d_X12_miss_9 ?_
  refine aw_aload_n (i := 0) rfl d_X12_miss_10 0 rfl ?_
  refine aw_getr (k0 := 58) kc_12 (ws_1 w) (Nat.le_of_ble_eq_true rfl) tw_1800 d_X12_miss_11 rfl (wr_1_58 w) ?_
  refine aw_iload_n (i := 1) rfl d_X12_miss_14 1 rfl ?_
  refine aw_iload_n (i := 2) rfl d_X12_miss_15 2 rfl ?_
  obtain ⟨b2, k⟩ := k
  refine aw_iast (ws_243 w) b2 d_X12_miss_16 ?_
  exact aw_vret rfl d_X12_miss_17 ⟨Nat.le_refl _, Nat.le_refl _⟩ ⟨rfl, k⟩
theorem t_X12_comes (d : Nat) (h : Hp_) (w : Wf h) (x1 : Int32) (x2 : Int32) (K : Int32 → Hp_ → Prop) (k : vp_in x1 12 ∧ (vp_in x1 12 ∧ (vp_in x1 12 ∧ (vp_in x1 12 ∧ (((h_i h 1 0) ≤ ((h_i h 214 x1.toNatClampNeg) + x2) → vp_in (h_i h 216 x1.toNatClampNeg) 400 ∧ ((((h_i h 214 x1.toNatClampNeg) + x2) ≤ (h_i h 1 0) → K 0 (h_im (h_im h 216 x1.toNatClampNeg ((h_i h 216 x1.toNatClampNeg) + 1)) 241 ((h_i h 216 x1.toNatClampNeg) : Int32).toNatClampNeg (h_i h 1 0))) ∧ (¬ ((h_i h 214 x1.toNatClampNeg) + x2) ≤ (h_i h 1 0) → vp_in x1 12 ∧ (K 1 (h_im (h_im (h_im h 216 x1.toNatClampNeg ((h_i h 216 x1.toNatClampNeg) + 1)) 241 ((h_i h 216 x1.toNatClampNeg) : Int32).toNatClampNeg (h_i h 1 0)) 211 x1.toNatClampNeg ((h_i h 214 x1.toNatClampNeg) + x2)))))) ∧ (¬ (h_i h 1 0) ≤ ((h_i h 214 x1.toNatClampNeg) + x2) → Cv (m_X12_miss (d + 0) 0 0) [.ref 1, .int (h_i h 216 x1.toNatClampNeg), .int 1] (h_im h 216 x1.toNatClampNeg ((h_i h 216 x1.toNatClampNeg) + 1)) (fun h9 => Wf h9 ∧ (K 0 h9)))))))) : Ci (m_X12_comes (d + 1) 0 0) [.ref 1, .int x1, .int x2] h K := by
  refine Ct.of (fun _ _ _ => trivial) pn_X12 (Nat.le_of_ble_eq_true rfl) ?_
  show AW (m_X12_comes (d + 1) 0 0) 0 0 0 [(0, .ref 1), (1, .int x1), (2, .int x2)] [] h (kI K)
  refine aw_aload_n (i := 0) rfl d_X12_comes_0 0 rfl ?_
  refine aw_getr (k0 := 18) kc_12 (ws_1 w) (Nat.le_of_ble_eq_true rfl) tw_1760 d_X12_comes_1 rfl (wr_1_18 w) ?_
  refine aw_iload_n (i := 1) rfl d_X12_comes_4 1 rfl ?_
  obtain ⟨b1, k⟩ := k
  refine aw_iald (ws_214 w) b1 d_X12_comes_5 ?_
  refine aw_iload_n (i := 2) rfl d_X12_comes_6 2 rfl ?_
  refine aw_iadd d_X12_comes_7 ?_
  refine aw_istore_n (i := 3) rfl [(0, .ref 1), (1, .int x1), (2, .int x2), (3, .int ((h_i h 214 x1.toNatClampNeg) + x2))] d_X12_comes_8 (Nat.le_of_ble_eq_true rfl) rfl rfl ?_
  refine aw_aload_n (i := 0) rfl d_X12_comes_9 0 rfl ?_
  refine aw_getr (k0 := 20) kc_12 (ws_1 w) (Nat.le_of_ble_eq_true rfl) tw_1762 d_X12_comes_10 rfl (wr_1_20 w) ?_
  refine aw_iload_n (i := 1) rfl d_X12_comes_13 1 rfl ?_
  obtain ⟨b2, k⟩ := k
  refine aw_iald (ws_216 w) b2 d_X12_comes_14 ?_
  refine aw_istore [(0, .ref 1), (1, .int x1), (2, .int x2), (3, .int ((h_i h 214 x1.toNatClampNeg) + x2)), (4, .int (h_i h 216 x1.toNatClampNeg))] d_X12_comes_15 (Nat.le_of_ble_eq_true rfl) rfl rfl ?_
  refine aw_aload_n (i := 0) rfl d_X12_comes_17 0 rfl ?_
  refine aw_getr (k0 := 20) kc_12 (ws_1 w) (Nat.le_of_ble_eq_true rfl) tw_1762 d_X12_comes_18 rfl (wr_1_20 w) ?_
  refine aw_iload_n (i := 1) rfl d_X12_comes_21 1 rfl ?_
  refine aw_dup2 d_X12_comes_22 ⟨rfl, rfl⟩ ?_
  obtain ⟨b3, k⟩ := k
  refine aw_iald (ws_216 w) b3 d_X12_comes_23 ?_
  refine aw_iconst (v := 1) d_X12_comes_24 ic_1 ?_
  refine aw_iadd d_X12_comes_25 ?_
  obtain ⟨b4, k⟩ := k
  refine aw_iast (ws_216 w) b4 d_X12_comes_26 ?_
  refine aw_aload_n (i := 0) rfl d_X12_comes_27 0 rfl ?_
  refine aw_geti (k0 := 0) kc_12 (ws_1 w) (Nat.le_of_ble_eq_true rfl) tw_1742 d_X12_comes_28 rfl ?_
  refine aw_vi (v2 := (h_i h 1 0)) (rfl) ?_
  refine aw_iload_n (i := 3) rfl d_X12_comes_31 3 rfl ?_
  refine aw_icmp_le (tgt := 44) d_X12_comes_32 rfl (fun c5 => ?_) (fun c5 => ?_)
  · have k := k.1 c5
    refine aw_aload_n (i := 0) rfl d_X12_comes_44 0 rfl ?_
    refine aw_getr (k0 := 56) kc_12 (ws_1 w) (Nat.le_of_ble_eq_true rfl) tw_1798 d_X12_comes_45 rfl (wr_1_56 w) ?_
    refine aw_iload d_X12_comes_48 4 rfl ?_
    refine aw_aload_n (i := 0) rfl d_X12_comes_50 0 rfl ?_
    refine aw_geti (k0 := 0) kc_12 (ws_1 w) (Nat.le_of_ble_eq_true rfl) tw_1742 d_X12_comes_51 rfl ?_
    refine aw_vi (v2 := (h_i h 1 0)) (rfl) ?_
    obtain ⟨b6, k⟩ := k
    refine aw_iast (ws_241 w) b6 d_X12_comes_54 ?_
    refine aw_aload_n (i := 0) rfl d_X12_comes_55 0 rfl ?_
    refine aw_geti (k0 := 0) kc_12 (ws_1 w) (Nat.le_of_ble_eq_true rfl) tw_1742 d_X12_comes_56 rfl ?_
    refine aw_vi (v2 := (h_i h 1 0)) (rfl) ?_
    refine aw_iload_n (i := 3) rfl d_X12_comes_59 3 rfl ?_
    refine aw_icmp_ge (tgt := 72) d_X12_comes_60 rfl (fun c7 => ?_) (fun c7 => ?_)
    · have k := k.1 c7
      refine aw_iconst (v := 0) d_X12_comes_72 ic_0 ?_
      exact aw_zret rfl rfl d_X12_comes_73 ⟨Nat.le_refl _, Nat.le_refl _⟩ ⟨_, rfl, k⟩
    · have k := k.2 c7
      refine aw_aload_n (i := 0) rfl d_X12_comes_63 0 rfl ?_
      refine aw_getr (k0 := 15) kc_12 (ws_1 w) (Nat.le_of_ble_eq_true rfl) tw_1757 d_X12_comes_64 rfl (wr_1_15 w) ?_
      refine aw_iload_n (i := 1) rfl d_X12_comes_67 1 rfl ?_
      refine aw_iload_n (i := 3) rfl d_X12_comes_68 3 rfl ?_
      obtain ⟨b8, k⟩ := k
      refine aw_iast (ws_211 w) b8 d_X12_comes_69 ?_
      refine aw_iconst (v := 1) d_X12_comes_70 ic_1 ?_
      exact aw_zret rfl rfl d_X12_comes_71 ⟨Nat.le_refl _, Nat.le_refl _⟩ ⟨_, rfl, k⟩
  · have k := k.2 c5
    refine aw_aload_n (i := 0) rfl d_X12_comes_35 0 rfl ?_
    refine aw_iload d_X12_comes_36 4 rfl ?_
    refine aw_iconst (v := 1) d_X12_comes_38 ic_1 ?_
    refine aw_Vv 1 [.int (h_i h 216 x1.toNatClampNeg), .int 1] [] d_X12_comes_39 (cV_X12_miss (d + 0) 0 0) kc_12 (ws_1 w) tw_2352 rfl (rr0 (Nat.le_of_ble_eq_true rfl) (Nat.le_of_ble_eq_true rfl)) (Nat.le_of_ble_eq_true rfl) xs0 k (fun h9 kk => ?_)
    obtain ⟨w10, k⟩ := kk
    refine aw_iconst (v := 0) d_X12_comes_42 ic_0 ?_
    exact aw_zret rfl rfl d_X12_comes_43 ⟨Nat.le_refl _, Nat.le_refl _⟩ ⟨_, rfl, k⟩
theorem t_X12_goOn_0 (d : Nat) (h : Hp_) (w : Wf h) (x1 : Int32) (K : Hp_ → Prop) (k : vp_in x1 12 ∧ ((¬ (h_i h 208 x1.toNatClampNeg) = 1 → K h) ∧ ((h_i h 208 x1.toNatClampNeg) = 1 → vp_in x1 12 ∧ (vp_in x1 12 ∧ (vp_in (h_i h 212 x1.toNatClampNeg) 12 ∧ ((¬ (h_i h 213 x1.toNatClampNeg) = (h_i h 227 ((h_i h 212 x1.toNatClampNeg) : Int32).toNatClampNeg) → vp_in x1 12 ∧ (vp_in x1 12 ∧ (vp_in ((150 * (h_i h 212 x1.toNatClampNeg)) + (h_i h 213 x1.toNatClampNeg)) 1800 ∧ (vp_in x1 12 ∧ (((h_i h 228 (((150 * (h_i h 212 x1.toNatClampNeg)) + (h_i h 213 x1.toNatClampNeg)) : Int32).toNatClampNeg) = 0 → vp_in x1 12 ∧ (vp_in ((150 * (h_i h 212 x1.toNatClampNeg)) + (h_i h 213 x1.toNatClampNeg)) 1800 ∧ (Ci (m_X12_walkOf (d + 0) 0 0) [.ref 1, .int (h_i h 209 x1.toNatClampNeg), .int (h_i h 229 (((150 * (h_i h 212 x1.toNatClampNeg)) + (h_i h 213 x1.toNatClampNeg)) : Int32).toNatClampNeg)] (h_im h 211 x1.toNatClampNeg (-1)) (fun r115 h113 => Wf h113 ∧ ((r115 ≤ 0 → (¬ (h_i h 228 (((150 * (h_i h 212 x1.toNatClampNeg)) + (h_i h 213 x1.toNatClampNeg)) : Int32).toNatClampNeg) = 2 → (¬ (h_i h 228 (((150 * (h_i h 212 x1.toNatClampNeg)) + (h_i h 213 x1.toNatClampNeg)) : Int32).toNatClampNeg) = 2 → vp_in x1 12 ∧ (vp_in x1 12 ∧ (AW (m_X12_goOn (d + 3) 0 0) 0 0 0 [(0, .ref 1), (1, .int x1)] [] (h_im h113 213 x1.toNatClampNeg ((h_i h113 213 x1.toNatClampNeg) + 1)) (kV K)))) ∧ ((h_i h 228 (((150 * (h_i h 212 x1.toNatClampNeg)) + (h_i h 213 x1.toNatClampNeg)) : Int32).toNatClampNeg) = 2 → vp_in ((150 * (h_i h 212 x1.toNatClampNeg)) + (h_i h 213 x1.toNatClampNeg)) 1800 ∧ (Ci (m_X12_comes (d + 1) 0 0) [.ref 1, .int x1, .int (h_i h113 230 (((150 * (h_i h 212 x1.toNatClampNeg)) + (h_i h 213 x1.toNatClampNeg)) : Int32).toNatClampNeg)] h113 (fun r124 h122 => Wf h122 ∧ ((r124 = 0 → vp_in x1 12 ∧ (vp_in x1 12 ∧ (AW (m_X12_goOn (d + 3) 0 0) 0 0 0 [(0, .ref 1), (1, .int x1)] [] (h_im h122 213 x1.toNatClampNeg ((h_i h122 213 x1.toNatClampNeg) + 1)) (kV K)))) ∧ (¬ r124 = 0 → K h122)))))) ∧ ((h_i h 228 (((150 * (h_i h 212 x1.toNatClampNeg)) + (h_i h 213 x1.toNatClampNeg)) : Int32).toNatClampNeg) = 2 → (¬ r115 = (-1) → (¬ (h_i h 228 (((150 * (h_i h 212 x1.toNatClampNeg)) + (h_i h 213 x1.toNatClampNeg)) : Int32).toNatClampNeg) = 2 → vp_in x1 12 ∧ (vp_in x1 12 ∧ (AW (m_X12_goOn (d + 3) 0 0) 0 0 0 [(0, .ref 1), (1, .int x1)] [] (h_im h113 213 x1.toNatClampNeg ((h_i h113 213 x1.toNatClampNeg) + 1)) (kV K)))) ∧ ((h_i h 228 (((150 * (h_i h 212 x1.toNatClampNeg)) + (h_i h 213 x1.toNatClampNeg)) : Int32).toNatClampNeg) = 2 → vp_in ((150 * (h_i h 212 x1.toNatClampNeg)) + (h_i h 213 x1.toNatClampNeg)) 1800 ∧ (Ci (m_X12_comes (d + 1) 0 0) [.ref 1, .int x1, .int (h_i h113 230 (((150 * (h_i h 212 x1.toNatClampNeg)) + (h_i h 213 x1.toNatClampNeg)) : Int32).toNatClampNeg)] h113 (fun r135 h133 => Wf h133 ∧ ((r135 = 0 → vp_in x1 12 ∧ (vp_in x1 12 ∧ (AW (m_X12_goOn (d + 3) 0 0) 0 0 0 [(0, .ref 1), (1, .int x1)] [] (h_im h133 213 x1.toNatClampNeg ((h_i h133 213 x1.toNatClampNeg) + 1)) (kV K)))) ∧ (¬ r135 = 0 → K h133)))))) ∧ (r115 = (-1) → vp_in x1 12 ∧ (Cv (m_X12_miss (d + 0) 0 0) [.ref 1, .int (h_i h113 216 x1.toNatClampNeg), .int 2] h113 (fun h140 => Wf h140 ∧ (vp_in x1 12 ∧ (vp_in x1 12 ∧ (vp_in x1 12 ∧ (vp_in x1 12 ∧ (AW (m_X12_goOn (d + 3) 0 0) 0 0 0 [(0, .ref 1), (1, .int x1)] [] (h_im (h_im h140 216 x1.toNatClampNeg ((h_i h140 216 x1.toNatClampNeg) + 1)) 213 x1.toNatClampNeg ((h_i h140 213 x1.toNatClampNeg) + 1)) (kV K))))))))))) ∧ (¬ r115 ≤ 0 → vp_in ((150 * (h_i h 212 x1.toNatClampNeg)) + (h_i h 213 x1.toNatClampNeg)) 1800 ∧ (Cv (m_X12_setOut (d + 1) 0 0) [.ref 1, .int x1, .int (h_i h113 229 (((150 * (h_i h 212 x1.toNatClampNeg)) + (h_i h 213 x1.toNatClampNeg)) : Int32).toNatClampNeg)] h113 (fun h148 => Wf h148 ∧ (K h148))))))))) ∧ (¬ (h_i h 228 (((150 * (h_i h 212 x1.toNatClampNeg)) + (h_i h 213 x1.toNatClampNeg)) : Int32).toNatClampNeg) = 0 → (¬ (h_i h 228 (((150 * (h_i h 212 x1.toNatClampNeg)) + (h_i h 213 x1.toNatClampNeg)) : Int32).toNatClampNeg) = 2 → (¬ (h_i h 228 (((150 * (h_i h 212 x1.toNatClampNeg)) + (h_i h 213 x1.toNatClampNeg)) : Int32).toNatClampNeg) = 1 → vp_in x1 12 ∧ (K (h_im (h_im h 211 x1.toNatClampNeg (-1)) 211 x1.toNatClampNeg ((h_i h 1 0) + 1)))) ∧ ((h_i h 228 (((150 * (h_i h 212 x1.toNatClampNeg)) + (h_i h 213 x1.toNatClampNeg)) : Int32).toNatClampNeg) = 1 → vp_in ((150 * (h_i h 212 x1.toNatClampNeg)) + (h_i h 213 x1.toNatClampNeg)) 1800 ∧ (vp_in x1 12 ∧ (K (h_im (h_im h 211 x1.toNatClampNeg (-1)) 211 x1.toNatClampNeg ((h_i h 1 0) + (h_i h 229 (((150 * (h_i h 212 x1.toNatClampNeg)) + (h_i h 213 x1.toNatClampNeg)) : Int32).toNatClampNeg))))))) ∧ ((h_i h 228 (((150 * (h_i h 212 x1.toNatClampNeg)) + (h_i h 213 x1.toNatClampNeg)) : Int32).toNatClampNeg) = 2 → vp_in x1 12 ∧ (vp_in ((150 * (h_i h 212 x1.toNatClampNeg)) + (h_i h 213 x1.toNatClampNeg)) 1800 ∧ (Ci (m_X12_walkOf (d + 0) 0 0) [.ref 1, .int (h_i h 209 x1.toNatClampNeg), .int (h_i h 229 (((150 * (h_i h 212 x1.toNatClampNeg)) + (h_i h 213 x1.toNatClampNeg)) : Int32).toNatClampNeg)] (h_im h 211 x1.toNatClampNeg (-1)) (fun r160 h158 => Wf h158 ∧ ((r160 ≤ 0 → (¬ (h_i h 228 (((150 * (h_i h 212 x1.toNatClampNeg)) + (h_i h 213 x1.toNatClampNeg)) : Int32).toNatClampNeg) = 2 → (¬ (h_i h 228 (((150 * (h_i h 212 x1.toNatClampNeg)) + (h_i h 213 x1.toNatClampNeg)) : Int32).toNatClampNeg) = 2 → vp_in x1 12 ∧ (vp_in x1 12 ∧ (AW (m_X12_goOn (d + 3) 0 0) 0 0 0 [(0, .ref 1), (1, .int x1)] [] (h_im h158 213 x1.toNatClampNeg ((h_i h158 213 x1.toNatClampNeg) + 1)) (kV K)))) ∧ ((h_i h 228 (((150 * (h_i h 212 x1.toNatClampNeg)) + (h_i h 213 x1.toNatClampNeg)) : Int32).toNatClampNeg) = 2 → vp_in ((150 * (h_i h 212 x1.toNatClampNeg)) + (h_i h 213 x1.toNatClampNeg)) 1800 ∧ (Ci (m_X12_comes (d + 1) 0 0) [.ref 1, .int x1, .int (h_i h158 230 (((150 * (h_i h 212 x1.toNatClampNeg)) + (h_i h 213 x1.toNatClampNeg)) : Int32).toNatClampNeg)] h158 (fun r169 h167 => Wf h167 ∧ ((r169 = 0 → vp_in x1 12 ∧ (vp_in x1 12 ∧ (AW (m_X12_goOn (d + 3) 0 0) 0 0 0 [(0, .ref 1), (1, .int x1)] [] (h_im h167 213 x1.toNatClampNeg ((h_i h167 213 x1.toNatClampNeg) + 1)) (kV K)))) ∧ (¬ r169 = 0 → K h167)))))) ∧ ((h_i h 228 (((150 * (h_i h 212 x1.toNatClampNeg)) + (h_i h 213 x1.toNatClampNeg)) : Int32).toNatClampNeg) = 2 → (¬ r160 = (-1) → (¬ (h_i h 228 (((150 * (h_i h 212 x1.toNatClampNeg)) + (h_i h 213 x1.toNatClampNeg)) : Int32).toNatClampNeg) = 2 → vp_in x1 12 ∧ (vp_in x1 12 ∧ (AW (m_X12_goOn (d + 3) 0 0) 0 0 0 [(0, .ref 1), (1, .int x1)] [] (h_im h158 213 x1.toNatClampNeg ((h_i h158 213 x1.toNatClampNeg) + 1)) (kV K)))) ∧ ((h_i h 228 (((150 * (h_i h 212 x1.toNatClampNeg)) + (h_i h 213 x1.toNatClampNeg)) : Int32).toNatClampNeg) = 2 → vp_in ((150 * (h_i h 212 x1.toNatClampNeg)) + (h_i h 213 x1.toNatClampNeg)) 1800 ∧ (Ci (m_X12_comes (d + 1) 0 0) [.ref 1, .int x1, .int (h_i h158 230 (((150 * (h_i h 212 x1.toNatClampNeg)) + (h_i h 213 x1.toNatClampNeg)) : Int32).toNatClampNeg)] h158 (fun r180 h178 => Wf h178 ∧ ((r180 = 0 → vp_in x1 12 ∧ (vp_in x1 12 ∧ (AW (m_X12_goOn (d + 3) 0 0) 0 0 0 [(0, .ref 1), (1, .int x1)] [] (h_im h178 213 x1.toNatClampNeg ((h_i h178 213 x1.toNatClampNeg) + 1)) (kV K)))) ∧ (¬ r180 = 0 → K h178)))))) ∧ (r160 = (-1) → vp_in x1 12 ∧ (Cv (m_X12_miss (d + 0) 0 0) [.ref 1, .int (h_i h158 216 x1.toNatClampNeg), .int 2] h158 (fun h185 => Wf h185 ∧ (vp_in x1 12 ∧ (vp_in x1 12 ∧ (vp_in x1 12 ∧ (vp_in x1 12 ∧ (AW (m_X12_goOn (d + 3) 0 0) 0 0 0 [(0, .ref 1), (1, .int x1)] [] (h_im (h_im h185 216 x1.toNatClampNeg ((h_i h185 216 x1.toNatClampNeg) + 1)) 213 x1.toNatClampNeg ((h_i h185 213 x1.toNatClampNeg) + 1)) (kV K))))))))))) ∧ (¬ r160 ≤ 0 → vp_in ((150 * (h_i h 212 x1.toNatClampNeg)) + (h_i h 213 x1.toNatClampNeg)) 1800 ∧ (Cv (m_X12_setOut (d + 1) 0 0) [.ref 1, .int x1, .int (h_i h158 229 (((150 * (h_i h 212 x1.toNatClampNeg)) + (h_i h 213 x1.toNatClampNeg)) : Int32).toNatClampNeg)] h158 (fun h193 => Wf h193 ∧ (K h193))))))))))))))) ∧ ((h_i h 213 x1.toNatClampNeg) = (h_i h 227 ((h_i h 212 x1.toNatClampNeg) : Int32).toNatClampNeg) → Cv (m_X12_goHome (d + 2) 0 0) [.ref 1, .int x1] h (fun h196 => Wf h196 ∧ (K h196))))))))) : AW (m_X12_goOn (d + 3) 0 0) 0 0 0 [(0, .ref 1), (1, .int x1)] [] h (kV K) := by
  refine aw_aload_n (i := 0) rfl d_X12_goOn_0 0 rfl ?_
  refine aw_getr (k0 := 12) kc_12 (ws_1 w) (Nat.le_of_ble_eq_true rfl) tw_1754 d_X12_goOn_1 rfl (wr_1_12 w) ?_
  refine aw_iload_n (i := 1) rfl d_X12_goOn_4 1 rfl ?_
  obtain ⟨b100, k⟩ := k
  refine aw_iald (ws_208 w) b100 d_X12_goOn_5 ?_
  refine aw_iconst (v := 1) d_X12_goOn_6 ic_1 ?_
  refine aw_icmp_ne (tgt := 210) d_X12_goOn_7 rfl (fun c101 => ?_) (fun c101 => ?_)
  · have k := k.1 c101
    exact aw_vret rfl d_X12_goOn_210 ⟨Nat.le_refl _, Nat.le_refl _⟩ ⟨rfl, k⟩
  · have k := k.2 c101
    refine aw_aload_n (i := 0) rfl d_X12_goOn_10 0 rfl ?_
    refine aw_getr (k0 := 17) kc_12 (ws_1 w) (Nat.le_of_ble_eq_true rfl) tw_1759 d_X12_goOn_11 rfl (wr_1_17 w) ?_
    refine aw_iload_n (i := 1) rfl d_X12_goOn_14 1 rfl ?_
    obtain ⟨b102, k⟩ := k
    refine aw_iald (ws_213 w) b102 d_X12_goOn_15 ?_
    refine aw_aload_n (i := 0) rfl d_X12_goOn_16 0 rfl ?_
    refine aw_getr (k0 := 38) kc_12 (ws_1 w) (Nat.le_of_ble_eq_true rfl) tw_1780 d_X12_goOn_17 rfl (wr_1_38 w) ?_
    refine aw_aload_n (i := 0) rfl d_X12_goOn_20 0 rfl ?_
    refine aw_getr (k0 := 16) kc_12 (ws_1 w) (Nat.le_of_ble_eq_true rfl) tw_1758 d_X12_goOn_21 rfl (wr_1_16 w) ?_
    refine aw_iload_n (i := 1) rfl d_X12_goOn_24 1 rfl ?_
    obtain ⟨b103, k⟩ := k
    refine aw_iald (ws_212 w) b103 d_X12_goOn_25 ?_
    obtain ⟨b104, k⟩ := k
    refine aw_iald (ws_227 w) b104 d_X12_goOn_26 ?_
    refine aw_icmp_ne (tgt := 36) d_X12_goOn_27 rfl (fun c105 => ?_) (fun c105 => ?_)
    · have k := k.1 c105
      refine aw_sipush (v := 150) d_X12_goOn_36 is_150 ?_
      refine aw_aload_n (i := 0) rfl d_X12_goOn_39 0 rfl ?_
      refine aw_getr (k0 := 16) kc_12 (ws_1 w) (Nat.le_of_ble_eq_true rfl) tw_1758 d_X12_goOn_40 rfl (wr_1_16 w) ?_
      refine aw_iload_n (i := 1) rfl d_X12_goOn_43 1 rfl ?_
      obtain ⟨b106, k⟩ := k
      refine aw_iald (ws_212 w) b106 d_X12_goOn_44 ?_
      refine aw_imul d_X12_goOn_45 ?_
      refine aw_aload_n (i := 0) rfl d_X12_goOn_46 0 rfl ?_
      refine aw_getr (k0 := 17) kc_12 (ws_1 w) (Nat.le_of_ble_eq_true rfl) tw_1759 d_X12_goOn_47 rfl (wr_1_17 w) ?_
      refine aw_iload_n (i := 1) rfl d_X12_goOn_50 1 rfl ?_
      obtain ⟨b107, k⟩ := k
      refine aw_iald (ws_213 w) b107 d_X12_goOn_51 ?_
      refine aw_iadd d_X12_goOn_52 ?_
      refine aw_istore_n (i := 2) rfl [(0, .ref 1), (1, .int x1), (2, .int ((150 * (h_i h 212 x1.toNatClampNeg)) + (h_i h 213 x1.toNatClampNeg)))] d_X12_goOn_53 (Nat.le_of_ble_eq_true rfl) rfl rfl ?_
      refine aw_aload_n (i := 0) rfl d_X12_goOn_54 0 rfl ?_
      refine aw_getr (k0 := 39) kc_12 (ws_1 w) (Nat.le_of_ble_eq_true rfl) tw_1781 d_X12_goOn_55 rfl (wr_1_39 w) ?_
      refine aw_iload_n (i := 2) rfl d_X12_goOn_58 2 rfl ?_
      obtain ⟨b108, k⟩ := k
      refine aw_iald (ws_228 w) b108 d_X12_goOn_59 ?_
      refine aw_istore_n (i := 3) rfl [(0, .ref 1), (1, .int x1), (2, .int ((150 * (h_i h 212 x1.toNatClampNeg)) + (h_i h 213 x1.toNatClampNeg))), (3, .int (h_i h 228 (((150 * (h_i h 212 x1.toNatClampNeg)) + (h_i h 213 x1.toNatClampNeg)) : Int32).toNatClampNeg))] d_X12_goOn_60 (Nat.le_of_ble_eq_true rfl) rfl rfl ?_
      refine aw_aload_n (i := 0) rfl d_X12_goOn_61 0 rfl ?_
      refine aw_getr (k0 := 15) kc_12 (ws_1 w) (Nat.le_of_ble_eq_true rfl) tw_1757 d_X12_goOn_62 rfl (wr_1_15 w) ?_
      refine aw_iload_n (i := 1) rfl d_X12_goOn_65 1 rfl ?_
      refine aw_iconst (v := (-1)) d_X12_goOn_66 ic_m1 ?_
      obtain ⟨b109, k⟩ := k
      refine aw_iast (ws_211 w) b109 d_X12_goOn_67 ?_
      refine aw_iload_n (i := 3) rfl d_X12_goOn_68 3 rfl ?_
      refine aw_if_eq (tgt := 77) d_X12_goOn_69 rfl (fun c110 => ?_) (fun c110 => ?_)
      · have k := k.1 c110
        refine aw_aload_n (i := 0) rfl d_X12_goOn_77 0 rfl ?_
        refine aw_aload_n (i := 0) rfl d_X12_goOn_78 0 rfl ?_
        refine aw_getr (k0 := 13) kc_12 (ws_1 w) (Nat.le_of_ble_eq_true rfl) tw_1755 d_X12_goOn_79 rfl (wr_1_13 w) ?_
        refine aw_iload_n (i := 1) rfl d_X12_goOn_82 1 rfl ?_
        obtain ⟨b111, k⟩ := k
        refine aw_iald (ws_209 w) b111 d_X12_goOn_83 ?_
        refine aw_vi (v2 := (h_i h 209 x1.toNatClampNeg)) (rfl) ?_
        refine aw_aload_n (i := 0) rfl d_X12_goOn_84 0 rfl ?_
        refine aw_getr (k0 := 40) kc_12 (ws_1 w) (Nat.le_of_ble_eq_true rfl) tw_1782 d_X12_goOn_85 rfl (wr_1_40 w) ?_
        refine aw_iload_n (i := 2) rfl d_X12_goOn_88 2 rfl ?_
        obtain ⟨b112, k⟩ := k
        refine aw_iald (ws_229 w) b112 d_X12_goOn_89 ?_
        refine aw_vi (v2 := (h_i h 229 (((150 * (h_i h 212 x1.toNatClampNeg)) + (h_i h 213 x1.toNatClampNeg)) : Int32).toNatClampNeg)) (rfl) ?_
        refine aw_Vi 1 [.int (h_i h 209 x1.toNatClampNeg), .int (h_i h 229 (((150 * (h_i h 212 x1.toNatClampNeg)) + (h_i h 213 x1.toNatClampNeg)) : Int32).toNatClampNeg)] [] d_X12_goOn_90 (cV_X12_walkOf (d + 0) 0 0) kc_12 (ws_1 w) tw_2150 rfl (rr0 (Nat.le_of_ble_eq_true rfl) (Nat.le_of_ble_eq_true rfl)) (Nat.le_of_ble_eq_true rfl) xs0 k (fun r115 h113 kk => ?_)
        obtain ⟨w114, k⟩ := kk
        refine aw_istore [(0, .ref 1), (1, .int x1), (2, .int ((150 * (h_i h 212 x1.toNatClampNeg)) + (h_i h 213 x1.toNatClampNeg))), (3, .int (h_i h 228 (((150 * (h_i h 212 x1.toNatClampNeg)) + (h_i h 213 x1.toNatClampNeg)) : Int32).toNatClampNeg)), (4, .int r115)] d_X12_goOn_93 (Nat.le_of_ble_eq_true rfl) rfl rfl ?_
        refine aw_iload d_X12_goOn_95 4 rfl ?_
        refine aw_if_le (tgt := 112) d_X12_goOn_97 rfl (fun c116 => ?_) (fun c116 => ?_)
        · have k := k.1 c116
          refine aw_iload_n (i := 3) rfl d_X12_goOn_112 3 rfl ?_
          refine aw_iconst (v := 2) d_X12_goOn_113 ic_2 ?_
          refine aw_icmp_ne (tgt := 147) d_X12_goOn_114 rfl (fun c117 => ?_) (fun c117 => ?_)
          · have k := k.1 c117
            refine aw_iload_n (i := 3) rfl d_X12_goOn_147 3 rfl ?_
            refine aw_iconst (v := 2) d_X12_goOn_148 ic_2 ?_
            refine aw_icmp_ne (tgt := 167) d_X12_goOn_149 rfl (fun c118 => ?_) (fun c118 => ?_)
            · have k := k.1 c118
              refine aw_goto (tgt := 197) d_X12_goOn_167 rfl ?_
              refine aw_aload_n (i := 0) rfl d_X12_goOn_197 0 rfl ?_
              refine aw_getr (k0 := 17) kc_12 (ws_1 w114) (Nat.le_of_ble_eq_true rfl) tw_1759 d_X12_goOn_198 rfl (wr_1_17 w114) ?_
              refine aw_iload_n (i := 1) rfl d_X12_goOn_201 1 rfl ?_
              refine aw_dup2 d_X12_goOn_202 ⟨rfl, rfl⟩ ?_
              obtain ⟨b119, k⟩ := k
              refine aw_iald (ws_213 w114) b119 d_X12_goOn_203 ?_
              refine aw_iconst (v := 1) d_X12_goOn_204 ic_1 ?_
              refine aw_iadd d_X12_goOn_205 ?_
              obtain ⟨b120, k⟩ := k
              refine aw_iast (ws_213 w114) b120 d_X12_goOn_206 ?_
              refine aw_goto (tgt := 0) d_X12_goOn_207 rfl ?_
              exact aw_lvp [0, 1] [(0, .ref 1), (1, .int x1)] rfl k
            · have k := k.2 c118
              refine aw_aload_n (i := 0) rfl d_X12_goOn_152 0 rfl ?_
              refine aw_iload_n (i := 1) rfl d_X12_goOn_153 1 rfl ?_
              refine aw_aload_n (i := 0) rfl d_X12_goOn_154 0 rfl ?_
              refine aw_getr (k0 := 41) kc_12 (ws_1 w114) (Nat.le_of_ble_eq_true rfl) tw_1783 d_X12_goOn_155 rfl (wr_1_41 w114) ?_
              refine aw_iload_n (i := 2) rfl d_X12_goOn_158 2 rfl ?_
              obtain ⟨b121, k⟩ := k
              refine aw_iald (ws_230 w114) b121 d_X12_goOn_159 ?_
              refine aw_Vi 1 [.int x1, .int (h_i h113 230 (((150 * (h_i h 212 x1.toNatClampNeg)) + (h_i h 213 x1.toNatClampNeg)) : Int32).toNatClampNeg)] [] d_X12_goOn_160 (cV_X12_comes (d + 1) 0 0) kc_12 (ws_1 w114) tw_2356 rfl (rr0 (Nat.le_of_ble_eq_true rfl) (Nat.le_of_ble_eq_true rfl)) (Nat.le_of_ble_eq_true rfl) xs0 k (fun r124 h122 kk => ?_)
              obtain ⟨w123, k⟩ := kk
              refine aw_if_eq (tgt := 167) d_X12_goOn_163 rfl (fun c125 => ?_) (fun c125 => ?_)
              · have k := k.1 c125
                refine aw_goto (tgt := 197) d_X12_goOn_167 rfl ?_
                refine aw_aload_n (i := 0) rfl d_X12_goOn_197 0 rfl ?_
                refine aw_getr (k0 := 17) kc_12 (ws_1 w123) (Nat.le_of_ble_eq_true rfl) tw_1759 d_X12_goOn_198 rfl (wr_1_17 w123) ?_
                refine aw_iload_n (i := 1) rfl d_X12_goOn_201 1 rfl ?_
                refine aw_dup2 d_X12_goOn_202 ⟨rfl, rfl⟩ ?_
                obtain ⟨b126, k⟩ := k
                refine aw_iald (ws_213 w123) b126 d_X12_goOn_203 ?_
                refine aw_iconst (v := 1) d_X12_goOn_204 ic_1 ?_
                refine aw_iadd d_X12_goOn_205 ?_
                obtain ⟨b127, k⟩ := k
                refine aw_iast (ws_213 w123) b127 d_X12_goOn_206 ?_
                refine aw_goto (tgt := 0) d_X12_goOn_207 rfl ?_
                exact aw_lvp [0, 1] [(0, .ref 1), (1, .int x1)] rfl k
              · have k := k.2 c125
                exact aw_vret rfl d_X12_goOn_166 ⟨Nat.le_refl _, Nat.le_refl _⟩ ⟨rfl, k⟩
          · have k := k.2 c117
            refine aw_iload d_X12_goOn_117 4 rfl ?_
            refine aw_iconst (v := (-1)) d_X12_goOn_119 ic_m1 ?_
            refine aw_icmp_ne (tgt := 147) d_X12_goOn_120 rfl (fun c128 => ?_) (fun c128 => ?_)
            · have k := k.1 c128
              refine aw_iload_n (i := 3) rfl d_X12_goOn_147 3 rfl ?_
              refine aw_iconst (v := 2) d_X12_goOn_148 ic_2 ?_
              refine aw_icmp_ne (tgt := 167) d_X12_goOn_149 rfl (fun c129 => ?_) (fun c129 => ?_)
              · have k := k.1 c129
                refine aw_goto (tgt := 197) d_X12_goOn_167 rfl ?_
                refine aw_aload_n (i := 0) rfl d_X12_goOn_197 0 rfl ?_
                refine aw_getr (k0 := 17) kc_12 (ws_1 w114) (Nat.le_of_ble_eq_true rfl) tw_1759 d_X12_goOn_198 rfl (wr_1_17 w114) ?_
                refine aw_iload_n (i := 1) rfl d_X12_goOn_201 1 rfl ?_
                refine aw_dup2 d_X12_goOn_202 ⟨rfl, rfl⟩ ?_
                obtain ⟨b130, k⟩ := k
                refine aw_iald (ws_213 w114) b130 d_X12_goOn_203 ?_
                refine aw_iconst (v := 1) d_X12_goOn_204 ic_1 ?_
                refine aw_iadd d_X12_goOn_205 ?_
                obtain ⟨b131, k⟩ := k
                refine aw_iast (ws_213 w114) b131 d_X12_goOn_206 ?_
                refine aw_goto (tgt := 0) d_X12_goOn_207 rfl ?_
                exact aw_lvp [0, 1] [(0, .ref 1), (1, .int x1)] rfl k
              · have k := k.2 c129
                refine aw_aload_n (i := 0) rfl d_X12_goOn_152 0 rfl ?_
                refine aw_iload_n (i := 1) rfl d_X12_goOn_153 1 rfl ?_
                refine aw_aload_n (i := 0) rfl d_X12_goOn_154 0 rfl ?_
                refine aw_getr (k0 := 41) kc_12 (ws_1 w114) (Nat.le_of_ble_eq_true rfl) tw_1783 d_X12_goOn_155 rfl (wr_1_41 w114) ?_
                refine aw_iload_n (i := 2) rfl d_X12_goOn_158 2 rfl ?_
                obtain ⟨b132, k⟩ := k
                refine aw_iald (ws_230 w114) b132 d_X12_goOn_159 ?_
                refine aw_Vi 1 [.int x1, .int (h_i h113 230 (((150 * (h_i h 212 x1.toNatClampNeg)) + (h_i h 213 x1.toNatClampNeg)) : Int32).toNatClampNeg)] [] d_X12_goOn_160 (cV_X12_comes (d + 1) 0 0) kc_12 (ws_1 w114) tw_2356 rfl (rr0 (Nat.le_of_ble_eq_true rfl) (Nat.le_of_ble_eq_true rfl)) (Nat.le_of_ble_eq_true rfl) xs0 k (fun r135 h133 kk => ?_)
                obtain ⟨w134, k⟩ := kk
                refine aw_if_eq (tgt := 167) d_X12_goOn_163 rfl (fun c136 => ?_) (fun c136 => ?_)
                · have k := k.1 c136
                  refine aw_goto (tgt := 197) d_X12_goOn_167 rfl ?_
                  refine aw_aload_n (i := 0) rfl d_X12_goOn_197 0 rfl ?_
                  refine aw_getr (k0 := 17) kc_12 (ws_1 w134) (Nat.le_of_ble_eq_true rfl) tw_1759 d_X12_goOn_198 rfl (wr_1_17 w134) ?_
                  refine aw_iload_n (i := 1) rfl d_X12_goOn_201 1 rfl ?_
                  refine aw_dup2 d_X12_goOn_202 ⟨rfl, rfl⟩ ?_
                  obtain ⟨b137, k⟩ := k
                  refine aw_iald (ws_213 w134) b137 d_X12_goOn_203 ?_
                  refine aw_iconst (v := 1) d_X12_goOn_204 ic_1 ?_
                  refine aw_iadd d_X12_goOn_205 ?_
                  obtain ⟨b138, k⟩ := k
                  refine aw_iast (ws_213 w134) b138 d_X12_goOn_206 ?_
                  refine aw_goto (tgt := 0) d_X12_goOn_207 rfl ?_
                  exact aw_lvp [0, 1] [(0, .ref 1), (1, .int x1)] rfl k
                · have k := k.2 c136
                  exact aw_vret rfl d_X12_goOn_166 ⟨Nat.le_refl _, Nat.le_refl _⟩ ⟨rfl, k⟩
            · have k := k.2 c128
              refine aw_aload_n (i := 0) rfl d_X12_goOn_123 0 rfl ?_
              refine aw_aload_n (i := 0) rfl d_X12_goOn_124 0 rfl ?_
              refine aw_getr (k0 := 20) kc_12 (ws_1 w114) (Nat.le_of_ble_eq_true rfl) tw_1762 d_X12_goOn_125 rfl (wr_1_20 w114) ?_
              refine aw_iload_n (i := 1) rfl d_X12_goOn_128 1 rfl ?_
              obtain ⟨b139, k⟩ := k
              refine aw_iald (ws_216 w114) b139 d_X12_goOn_129 ?_
              refine aw_iconst (v := 2) d_X12_goOn_130 ic_2 ?_
              refine aw_Vv 1 [.int (h_i h113 216 x1.toNatClampNeg), .int 2] [] d_X12_goOn_131 (cV_X12_miss (d + 0) 0 0) kc_12 (ws_1 w114) tw_2352 rfl (rr0 (Nat.le_of_ble_eq_true rfl) (Nat.le_of_ble_eq_true rfl)) (Nat.le_of_ble_eq_true rfl) xs0 k (fun h140 kk => ?_)
              obtain ⟨w141, k⟩ := kk
              refine aw_aload_n (i := 0) rfl d_X12_goOn_134 0 rfl ?_
              refine aw_getr (k0 := 20) kc_12 (ws_1 w141) (Nat.le_of_ble_eq_true rfl) tw_1762 d_X12_goOn_135 rfl (wr_1_20 w141) ?_
              refine aw_iload_n (i := 1) rfl d_X12_goOn_138 1 rfl ?_
              refine aw_dup2 d_X12_goOn_139 ⟨rfl, rfl⟩ ?_
              obtain ⟨b143, k⟩ := k
              refine aw_iald (ws_216 w141) b143 d_X12_goOn_140 ?_
              refine aw_iconst (v := 1) d_X12_goOn_141 ic_1 ?_
              refine aw_iadd d_X12_goOn_142 ?_
              obtain ⟨b144, k⟩ := k
              refine aw_iast (ws_216 w141) b144 d_X12_goOn_143 ?_
              refine aw_goto (tgt := 167) d_X12_goOn_144 rfl ?_
              refine aw_goto (tgt := 197) d_X12_goOn_167 rfl ?_
              refine aw_aload_n (i := 0) rfl d_X12_goOn_197 0 rfl ?_
              refine aw_getr (k0 := 17) kc_12 (ws_1 w141) (Nat.le_of_ble_eq_true rfl) tw_1759 d_X12_goOn_198 rfl (wr_1_17 w141) ?_
              refine aw_iload_n (i := 1) rfl d_X12_goOn_201 1 rfl ?_
              refine aw_dup2 d_X12_goOn_202 ⟨rfl, rfl⟩ ?_
              obtain ⟨b145, k⟩ := k
              refine aw_iald (ws_213 w141) b145 d_X12_goOn_203 ?_
              refine aw_vi (v2 := (h_i h140 213 x1.toNatClampNeg)) (rfl) ?_
              refine aw_iconst (v := 1) d_X12_goOn_204 ic_1 ?_
              refine aw_iadd d_X12_goOn_205 ?_
              obtain ⟨b146, k⟩ := k
              refine aw_iast (ws_213 w141) b146 d_X12_goOn_206 ?_
              refine aw_goto (tgt := 0) d_X12_goOn_207 rfl ?_
              exact aw_lvp [0, 1] [(0, .ref 1), (1, .int x1)] rfl k
        · have k := k.2 c116
          refine aw_aload_n (i := 0) rfl d_X12_goOn_100 0 rfl ?_
          refine aw_iload_n (i := 1) rfl d_X12_goOn_101 1 rfl ?_
          refine aw_aload_n (i := 0) rfl d_X12_goOn_102 0 rfl ?_
          refine aw_getr (k0 := 40) kc_12 (ws_1 w114) (Nat.le_of_ble_eq_true rfl) tw_1782 d_X12_goOn_103 rfl (wr_1_40 w114) ?_
          refine aw_iload_n (i := 2) rfl d_X12_goOn_106 2 rfl ?_
          obtain ⟨b147, k⟩ := k
          refine aw_iald (ws_229 w114) b147 d_X12_goOn_107 ?_
          refine aw_Vv 1 [.int x1, .int (h_i h113 229 (((150 * (h_i h 212 x1.toNatClampNeg)) + (h_i h 213 x1.toNatClampNeg)) : Int32).toNatClampNeg)] [] d_X12_goOn_108 (cV_X12_setOut (d + 1) 0 0) kc_12 (ws_1 w114) tw_2348 rfl (rr0 (Nat.le_of_ble_eq_true rfl) (Nat.le_of_ble_eq_true rfl)) (Nat.le_of_ble_eq_true rfl) xs0 k (fun h148 kk => ?_)
          obtain ⟨w149, k⟩ := kk
          exact aw_vret rfl d_X12_goOn_111 ⟨Nat.le_refl _, Nat.le_refl _⟩ ⟨rfl, k⟩
      · have k := k.2 c110
        refine aw_iload_n (i := 3) rfl d_X12_goOn_72 3 rfl ?_
        refine aw_iconst (v := 2) d_X12_goOn_73 ic_2 ?_
        refine aw_icmp_ne (tgt := 170) d_X12_goOn_74 rfl (fun c151 => ?_) (fun c151 => ?_)
        · have k := k.1 c151
          refine aw_aload_n (i := 0) rfl d_X12_goOn_170 0 rfl ?_
          refine aw_getr (k0 := 15) kc_12 (ws_1 w) (Nat.le_of_ble_eq_true rfl) tw_1757 d_X12_goOn_171 rfl (wr_1_15 w) ?_
          refine aw_iload_n (i := 1) rfl d_X12_goOn_174 1 rfl ?_
          refine aw_aload_n (i := 0) rfl d_X12_goOn_175 0 rfl ?_
          refine aw_geti (k0 := 0) kc_12 (ws_1 w) (Nat.le_of_ble_eq_true rfl) tw_1742 d_X12_goOn_176 rfl ?_
          refine aw_vi (v2 := (h_i h 1 0)) (rfl) ?_
          refine aw_iload_n (i := 3) rfl d_X12_goOn_179 3 rfl ?_
          refine aw_iconst (v := 1) d_X12_goOn_180 ic_1 ?_
          refine aw_icmp_ne (tgt := 193) d_X12_goOn_181 rfl (fun c152 => ?_) (fun c152 => ?_)
          · have k := k.1 c152
            refine aw_iconst (v := 1) d_X12_goOn_193 ic_1 ?_
            refine aw_iadd d_X12_goOn_194 ?_
            obtain ⟨b153, k⟩ := k
            refine aw_iast (ws_211 w) b153 d_X12_goOn_195 ?_
            exact aw_vret rfl d_X12_goOn_196 ⟨Nat.le_refl _, Nat.le_refl _⟩ ⟨rfl, k⟩
          · have k := k.2 c152
            refine aw_aload_n (i := 0) rfl d_X12_goOn_184 0 rfl ?_
            refine aw_getr (k0 := 40) kc_12 (ws_1 w) (Nat.le_of_ble_eq_true rfl) tw_1782 d_X12_goOn_185 rfl (wr_1_40 w) ?_
            refine aw_iload_n (i := 2) rfl d_X12_goOn_188 2 rfl ?_
            obtain ⟨b154, k⟩ := k
            refine aw_iald (ws_229 w) b154 d_X12_goOn_189 ?_
            refine aw_vi (v2 := (h_i h 229 (((150 * (h_i h 212 x1.toNatClampNeg)) + (h_i h 213 x1.toNatClampNeg)) : Int32).toNatClampNeg)) (rfl) ?_
            refine aw_goto (tgt := 194) d_X12_goOn_190 rfl ?_
            refine aw_iadd d_X12_goOn_194 ?_
            obtain ⟨b155, k⟩ := k
            refine aw_iast (ws_211 w) b155 d_X12_goOn_195 ?_
            exact aw_vret rfl d_X12_goOn_196 ⟨Nat.le_refl _, Nat.le_refl _⟩ ⟨rfl, k⟩
        · have k := k.2 c151
          refine aw_aload_n (i := 0) rfl d_X12_goOn_77 0 rfl ?_
          refine aw_aload_n (i := 0) rfl d_X12_goOn_78 0 rfl ?_
          refine aw_getr (k0 := 13) kc_12 (ws_1 w) (Nat.le_of_ble_eq_true rfl) tw_1755 d_X12_goOn_79 rfl (wr_1_13 w) ?_
          refine aw_iload_n (i := 1) rfl d_X12_goOn_82 1 rfl ?_
          obtain ⟨b156, k⟩ := k
          refine aw_iald (ws_209 w) b156 d_X12_goOn_83 ?_
          refine aw_vi (v2 := (h_i h 209 x1.toNatClampNeg)) (rfl) ?_
          refine aw_aload_n (i := 0) rfl d_X12_goOn_84 0 rfl ?_
          refine aw_getr (k0 := 40) kc_12 (ws_1 w) (Nat.le_of_ble_eq_true rfl) tw_1782 d_X12_goOn_85 rfl (wr_1_40 w) ?_
          refine aw_iload_n (i := 2) rfl d_X12_goOn_88 2 rfl ?_
          obtain ⟨b157, k⟩ := k
          refine aw_iald (ws_229 w) b157 d_X12_goOn_89 ?_
          refine aw_vi (v2 := (h_i h 229 (((150 * (h_i h 212 x1.toNatClampNeg)) + (h_i h 213 x1.toNatClampNeg)) : Int32).toNatClampNeg)) (rfl) ?_
          refine aw_Vi 1 [.int (h_i h 209 x1.toNatClampNeg), .int (h_i h 229 (((150 * (h_i h 212 x1.toNatClampNeg)) + (h_i h 213 x1.toNatClampNeg)) : Int32).toNatClampNeg)] [] d_X12_goOn_90 (cV_X12_walkOf (d + 0) 0 0) kc_12 (ws_1 w) tw_2150 rfl (rr0 (Nat.le_of_ble_eq_true rfl) (Nat.le_of_ble_eq_true rfl)) (Nat.le_of_ble_eq_true rfl) xs0 k (fun r160 h158 kk => ?_)
          obtain ⟨w159, k⟩ := kk
          refine aw_istore [(0, .ref 1), (1, .int x1), (2, .int ((150 * (h_i h 212 x1.toNatClampNeg)) + (h_i h 213 x1.toNatClampNeg))), (3, .int (h_i h 228 (((150 * (h_i h 212 x1.toNatClampNeg)) + (h_i h 213 x1.toNatClampNeg)) : Int32).toNatClampNeg)), (4, .int r160)] d_X12_goOn_93 (Nat.le_of_ble_eq_true rfl) rfl rfl ?_
          refine aw_iload d_X12_goOn_95 4 rfl ?_
          refine aw_if_le (tgt := 112) d_X12_goOn_97 rfl (fun c161 => ?_) (fun c161 => ?_)
          · have k := k.1 c161
            refine aw_iload_n (i := 3) rfl d_X12_goOn_112 3 rfl ?_
            refine aw_iconst (v := 2) d_X12_goOn_113 ic_2 ?_
            refine aw_icmp_ne (tgt := 147) d_X12_goOn_114 rfl (fun c162 => ?_) (fun c162 => ?_)
            · have k := k.1 c162
              refine aw_iload_n (i := 3) rfl d_X12_goOn_147 3 rfl ?_
              refine aw_iconst (v := 2) d_X12_goOn_148 ic_2 ?_
              refine aw_icmp_ne (tgt := 167) d_X12_goOn_149 rfl (fun c163 => ?_) (fun c163 => ?_)
              · have k := k.1 c163
                refine aw_goto (tgt := 197) d_X12_goOn_167 rfl ?_
                refine aw_aload_n (i := 0) rfl d_X12_goOn_197 0 rfl ?_
                refine aw_getr (k0 := 17) kc_12 (ws_1 w159) (Nat.le_of_ble_eq_true rfl) tw_1759 d_X12_goOn_198 rfl (wr_1_17 w159) ?_
                refine aw_iload_n (i := 1) rfl d_X12_goOn_201 1 rfl ?_
                refine aw_dup2 d_X12_goOn_202 ⟨rfl, rfl⟩ ?_
                obtain ⟨b164, k⟩ := k
                refine aw_iald (ws_213 w159) b164 d_X12_goOn_203 ?_
                refine aw_iconst (v := 1) d_X12_goOn_204 ic_1 ?_
                refine aw_iadd d_X12_goOn_205 ?_
                obtain ⟨b165, k⟩ := k
                refine aw_iast (ws_213 w159) b165 d_X12_goOn_206 ?_
                refine aw_goto (tgt := 0) d_X12_goOn_207 rfl ?_
                exact aw_lvp [0, 1] [(0, .ref 1), (1, .int x1)] rfl k
              · have k := k.2 c163
                refine aw_aload_n (i := 0) rfl d_X12_goOn_152 0 rfl ?_
                refine aw_iload_n (i := 1) rfl d_X12_goOn_153 1 rfl ?_
                refine aw_aload_n (i := 0) rfl d_X12_goOn_154 0 rfl ?_
                refine aw_getr (k0 := 41) kc_12 (ws_1 w159) (Nat.le_of_ble_eq_true rfl) tw_1783 d_X12_goOn_155 rfl (wr_1_41 w159) ?_
                refine aw_iload_n (i := 2) rfl d_X12_goOn_158 2 rfl ?_
                obtain ⟨b166, k⟩ := k
                refine aw_iald (ws_230 w159) b166 d_X12_goOn_159 ?_
                refine aw_Vi 1 [.int x1, .int (h_i h158 230 (((150 * (h_i h 212 x1.toNatClampNeg)) + (h_i h 213 x1.toNatClampNeg)) : Int32).toNatClampNeg)] [] d_X12_goOn_160 (cV_X12_comes (d + 1) 0 0) kc_12 (ws_1 w159) tw_2356 rfl (rr0 (Nat.le_of_ble_eq_true rfl) (Nat.le_of_ble_eq_true rfl)) (Nat.le_of_ble_eq_true rfl) xs0 k (fun r169 h167 kk => ?_)
                obtain ⟨w168, k⟩ := kk
                refine aw_if_eq (tgt := 167) d_X12_goOn_163 rfl (fun c170 => ?_) (fun c170 => ?_)
                · have k := k.1 c170
                  refine aw_goto (tgt := 197) d_X12_goOn_167 rfl ?_
                  refine aw_aload_n (i := 0) rfl d_X12_goOn_197 0 rfl ?_
                  refine aw_getr (k0 := 17) kc_12 (ws_1 w168) (Nat.le_of_ble_eq_true rfl) tw_1759 d_X12_goOn_198 rfl (wr_1_17 w168) ?_
                  refine aw_iload_n (i := 1) rfl d_X12_goOn_201 1 rfl ?_
                  refine aw_dup2 d_X12_goOn_202 ⟨rfl, rfl⟩ ?_
                  obtain ⟨b171, k⟩ := k
                  refine aw_iald (ws_213 w168) b171 d_X12_goOn_203 ?_
                  refine aw_iconst (v := 1) d_X12_goOn_204 ic_1 ?_
                  refine aw_iadd d_X12_goOn_205 ?_
                  obtain ⟨b172, k⟩ := k
                  refine aw_iast (ws_213 w168) b172 d_X12_goOn_206 ?_
                  refine aw_goto (tgt := 0) d_X12_goOn_207 rfl ?_
                  exact aw_lvp [0, 1] [(0, .ref 1), (1, .int x1)] rfl k
                · have k := k.2 c170
                  exact aw_vret rfl d_X12_goOn_166 ⟨Nat.le_refl _, Nat.le_refl _⟩ ⟨rfl, k⟩
            · have k := k.2 c162
              refine aw_iload d_X12_goOn_117 4 rfl ?_
              refine aw_iconst (v := (-1)) d_X12_goOn_119 ic_m1 ?_
              refine aw_icmp_ne (tgt := 147) d_X12_goOn_120 rfl (fun c173 => ?_) (fun c173 => ?_)
              · have k := k.1 c173
                refine aw_iload_n (i := 3) rfl d_X12_goOn_147 3 rfl ?_
                refine aw_iconst (v := 2) d_X12_goOn_148 ic_2 ?_
                refine aw_icmp_ne (tgt := 167) d_X12_goOn_149 rfl (fun c174 => ?_) (fun c174 => ?_)
                · have k := k.1 c174
                  refine aw_goto (tgt := 197) d_X12_goOn_167 rfl ?_
                  refine aw_aload_n (i := 0) rfl d_X12_goOn_197 0 rfl ?_
                  refine aw_getr (k0 := 17) kc_12 (ws_1 w159) (Nat.le_of_ble_eq_true rfl) tw_1759 d_X12_goOn_198 rfl (wr_1_17 w159) ?_
                  refine aw_iload_n (i := 1) rfl d_X12_goOn_201 1 rfl ?_
                  refine aw_dup2 d_X12_goOn_202 ⟨rfl, rfl⟩ ?_
                  obtain ⟨b175, k⟩ := k
                  refine aw_iald (ws_213 w159) b175 d_X12_goOn_203 ?_
                  refine aw_iconst (v := 1) d_X12_goOn_204 ic_1 ?_
                  refine aw_iadd d_X12_goOn_205 ?_
                  obtain ⟨b176, k⟩ := k
                  refine aw_iast (ws_213 w159) b176 d_X12_goOn_206 ?_
                  refine aw_goto (tgt := 0) d_X12_goOn_207 rfl ?_
                  exact aw_lvp [0, 1] [(0, .ref 1), (1, .int x1)] rfl k
                · have k := k.2 c174
                  refine aw_aload_n (i := 0) rfl d_X12_goOn_152 0 rfl ?_
                  refine aw_iload_n (i := 1) rfl d_X12_goOn_153 1 rfl ?_
                  refine aw_aload_n (i := 0) rfl d_X12_goOn_154 0 rfl ?_
                  refine aw_getr (k0 := 41) kc_12 (ws_1 w159) (Nat.le_of_ble_eq_true rfl) tw_1783 d_X12_goOn_155 rfl (wr_1_41 w159) ?_
                  refine aw_iload_n (i := 2) rfl d_X12_goOn_158 2 rfl ?_
                  obtain ⟨b177, k⟩ := k
                  refine aw_iald (ws_230 w159) b177 d_X12_goOn_159 ?_
                  refine aw_Vi 1 [.int x1, .int (h_i h158 230 (((150 * (h_i h 212 x1.toNatClampNeg)) + (h_i h 213 x1.toNatClampNeg)) : Int32).toNatClampNeg)] [] d_X12_goOn_160 (cV_X12_comes (d + 1) 0 0) kc_12 (ws_1 w159) tw_2356 rfl (rr0 (Nat.le_of_ble_eq_true rfl) (Nat.le_of_ble_eq_true rfl)) (Nat.le_of_ble_eq_true rfl) xs0 k (fun r180 h178 kk => ?_)
                  obtain ⟨w179, k⟩ := kk
                  refine aw_if_eq (tgt := 167) d_X12_goOn_163 rfl (fun c181 => ?_) (fun c181 => ?_)
                  · have k := k.1 c181
                    refine aw_goto (tgt := 197) d_X12_goOn_167 rfl ?_
                    refine aw_aload_n (i := 0) rfl d_X12_goOn_197 0 rfl ?_
                    refine aw_getr (k0 := 17) kc_12 (ws_1 w179) (Nat.le_of_ble_eq_true rfl) tw_1759 d_X12_goOn_198 rfl (wr_1_17 w179) ?_
                    refine aw_iload_n (i := 1) rfl d_X12_goOn_201 1 rfl ?_
                    refine aw_dup2 d_X12_goOn_202 ⟨rfl, rfl⟩ ?_
                    obtain ⟨b182, k⟩ := k
                    refine aw_iald (ws_213 w179) b182 d_X12_goOn_203 ?_
                    refine aw_iconst (v := 1) d_X12_goOn_204 ic_1 ?_
                    refine aw_iadd d_X12_goOn_205 ?_
                    obtain ⟨b183, k⟩ := k
                    refine aw_iast (ws_213 w179) b183 d_X12_goOn_206 ?_
                    refine aw_goto (tgt := 0) d_X12_goOn_207 rfl ?_
                    exact aw_lvp [0, 1] [(0, .ref 1), (1, .int x1)] rfl k
                  · have k := k.2 c181
                    exact aw_vret rfl d_X12_goOn_166 ⟨Nat.le_refl _, Nat.le_refl _⟩ ⟨rfl, k⟩
              · have k := k.2 c173
                refine aw_aload_n (i := 0) rfl d_X12_goOn_123 0 rfl ?_
                refine aw_aload_n (i := 0) rfl d_X12_goOn_124 0 rfl ?_
                refine aw_getr (k0 := 20) kc_12 (ws_1 w159) (Nat.le_of_ble_eq_true rfl) tw_1762 d_X12_goOn_125 rfl (wr_1_20 w159) ?_
                refine aw_iload_n (i := 1) rfl d_X12_goOn_128 1 rfl ?_
                obtain ⟨b184, k⟩ := k
                refine aw_iald (ws_216 w159) b184 d_X12_goOn_129 ?_
                refine aw_iconst (v := 2) d_X12_goOn_130 ic_2 ?_
                refine aw_Vv 1 [.int (h_i h158 216 x1.toNatClampNeg), .int 2] [] d_X12_goOn_131 (cV_X12_miss (d + 0) 0 0) kc_12 (ws_1 w159) tw_2352 rfl (rr0 (Nat.le_of_ble_eq_true rfl) (Nat.le_of_ble_eq_true rfl)) (Nat.le_of_ble_eq_true rfl) xs0 k (fun h185 kk => ?_)
                obtain ⟨w186, k⟩ := kk
                refine aw_aload_n (i := 0) rfl d_X12_goOn_134 0 rfl ?_
                refine aw_getr (k0 := 20) kc_12 (ws_1 w186) (Nat.le_of_ble_eq_true rfl) tw_1762 d_X12_goOn_135 rfl (wr_1_20 w186) ?_
                refine aw_iload_n (i := 1) rfl d_X12_goOn_138 1 rfl ?_
                refine aw_dup2 d_X12_goOn_139 ⟨rfl, rfl⟩ ?_
                obtain ⟨b188, k⟩ := k
                refine aw_iald (ws_216 w186) b188 d_X12_goOn_140 ?_
                refine aw_iconst (v := 1) d_X12_goOn_141 ic_1 ?_
                refine aw_iadd d_X12_goOn_142 ?_
                obtain ⟨b189, k⟩ := k
                refine aw_iast (ws_216 w186) b189 d_X12_goOn_143 ?_
                refine aw_goto (tgt := 167) d_X12_goOn_144 rfl ?_
                refine aw_goto (tgt := 197) d_X12_goOn_167 rfl ?_
                refine aw_aload_n (i := 0) rfl d_X12_goOn_197 0 rfl ?_
                refine aw_getr (k0 := 17) kc_12 (ws_1 w186) (Nat.le_of_ble_eq_true rfl) tw_1759 d_X12_goOn_198 rfl (wr_1_17 w186) ?_
                refine aw_iload_n (i := 1) rfl d_X12_goOn_201 1 rfl ?_
                refine aw_dup2 d_X12_goOn_202 ⟨rfl, rfl⟩ ?_
                obtain ⟨b190, k⟩ := k
                refine aw_iald (ws_213 w186) b190 d_X12_goOn_203 ?_
                refine aw_vi (v2 := (h_i h185 213 x1.toNatClampNeg)) (rfl) ?_
                refine aw_iconst (v := 1) d_X12_goOn_204 ic_1 ?_
                refine aw_iadd d_X12_goOn_205 ?_
                obtain ⟨b191, k⟩ := k
                refine aw_iast (ws_213 w186) b191 d_X12_goOn_206 ?_
                refine aw_goto (tgt := 0) d_X12_goOn_207 rfl ?_
                exact aw_lvp [0, 1] [(0, .ref 1), (1, .int x1)] rfl k
          · have k := k.2 c161
            refine aw_aload_n (i := 0) rfl d_X12_goOn_100 0 rfl ?_
            refine aw_iload_n (i := 1) rfl d_X12_goOn_101 1 rfl ?_
            refine aw_aload_n (i := 0) rfl d_X12_goOn_102 0 rfl ?_
            refine aw_getr (k0 := 40) kc_12 (ws_1 w159) (Nat.le_of_ble_eq_true rfl) tw_1782 d_X12_goOn_103 rfl (wr_1_40 w159) ?_
            refine aw_iload_n (i := 2) rfl d_X12_goOn_106 2 rfl ?_
            obtain ⟨b192, k⟩ := k
            refine aw_iald (ws_229 w159) b192 d_X12_goOn_107 ?_
            refine aw_Vv 1 [.int x1, .int (h_i h158 229 (((150 * (h_i h 212 x1.toNatClampNeg)) + (h_i h 213 x1.toNatClampNeg)) : Int32).toNatClampNeg)] [] d_X12_goOn_108 (cV_X12_setOut (d + 1) 0 0) kc_12 (ws_1 w159) tw_2348 rfl (rr0 (Nat.le_of_ble_eq_true rfl) (Nat.le_of_ble_eq_true rfl)) (Nat.le_of_ble_eq_true rfl) xs0 k (fun h193 kk => ?_)
            obtain ⟨w194, k⟩ := kk
            exact aw_vret rfl d_X12_goOn_111 ⟨Nat.le_refl _, Nat.le_refl _⟩ ⟨rfl, k⟩
    · have k := k.2 c105
      refine aw_aload_n (i := 0) rfl d_X12_goOn_30 0 rfl ?_
      refine aw_iload_n (i := 1) rfl d_X12_goOn_31 1 rfl ?_
      refine aw_Vv 1 [.int x1] [] d_X12_goOn_32 (cV_X12_goHome (d + 2) 0 0) kc_12 (ws_1 w) tw_2340 rfl (rr0 (Nat.le_of_ble_eq_true rfl) (Nat.le_of_ble_eq_true rfl)) (Nat.le_of_ble_eq_true rfl) xs0 k (fun h196 kk => ?_)
      obtain ⟨w197, k⟩ := kk
      exact aw_vret rfl d_X12_goOn_35 ⟨Nat.le_refl _, Nat.le_refl _⟩ ⟨rfl, k⟩
end
section
/-! the reference's men: what one man's methods leave of the others -/
noncomputable def mrow (a : Nat) : Bool := Nat.beq a 208 || Nat.beq a 210 || Nat.beq a 212 || Nat.beq a 213 || Nat.beq a 216
/-- what the reference's calls with an account of their own may write -/
noncomputable def wsR : List Nat := [1052, 1063, 1080, 1096, 203999, 208999, 209999, 210999, 211999, 212999, 213999, 214999, 215999, 216999, 217999, 218999, 219999, 220999, 236999, 237999, 238999, 239999, 240999, 241999, 242999, 243999, 244999, 248999, 254999, 255999, 256999, 257999, 258999, 259999, 260999, 261999, 262999, 263999]
noncomputable def wsN : List Nat := 1007 :: 204999 :: 205999 :: 206999 :: 207999 :: wsR
noncomputable def wsT : List Nat := 1000 :: wsR
/-- all else stays -/
noncomputable def Sr (h h' : Hp_) : Prop := Fr wsR h h'
noncomputable def Sn (h h' : Hp_) : Prop := Fr wsN h h'
theorem Sr.rf (h : Hp_) : Sr h h := Fr.rf _ h
theorem Sr.tr {h h1 h2 : Hp_} (a : Sr h h1) (b : Sr h1 h2) : Sr h h2 := Fr.tr a b
theorem Sr.im {h0 h : Hp_} {a k : Nat} {x : Int32} (s : Sr h0 h) (o : inw wsR a k = true) : Sr h0 (h_im h a k x) := Fr.im s o
theorem Sr.fr {ws : List Nat} {h h' : Hp_} (f : Fr ws h h') (o : wsub ws wsR = true) : Sr h h' := f.more o
theorem Sr.sn {h h' : Hp_} (s : Sr h h') : Sn h h' := Fr.more (a := wsR) (by decide +kernel) s
theorem Sr.st {h h' : Hp_} (s : Sr h h') : Fr wsT h h' := Fr.more (a := wsR) (by decide +kernel) s
noncomputable def Mo (c : Nat) (h h' : Hp_) : Prop := (∀ a, mrow a = true → ∀ k, k ≠ c → h_i h' a k = h_i h a k) ∧ (∀ k, h_i h' 227 k = h_i h 227 k) ∧ (∀ k, h_i h' 228 k = h_i h 228 k) ∧ (∀ k, (k = 0 ∨ k = 7 ∨ k = 42) → h_i h' 1 k = h_i h 1 k) ∧ Sr h h'
theorem Mo.rf (c : Nat) (h : Hp_) : Mo c h h := ⟨fun _ _ _ _ => rfl, fun _ => rfl, fun _ => rfl, fun _ _ => rfl, Sr.rf _⟩
theorem Mo.tr {c : Nat} {h h1 h2 : Hp_} (a : Mo c h h1) (b : Mo c h1 h2) : Mo c h h2 := ⟨fun r hr k hk => (b.1 r hr k hk).trans (a.1 r hr k hk), fun k => (b.2.1 k).trans (a.2.1 k), fun k => (b.2.2.1 k).trans (a.2.2.1 k), fun k hk => (b.2.2.2.1 k hk).trans (a.2.2.2.1 k hk), a.2.2.2.2.tr b.2.2.2.2⟩
theorem Mo.b42 {c : Nat} {h h' : Hp_} (m : Mo c h h') : h_i h' 1 42 = h_i h 1 42 := m.2.2.2.1 42 (Or.inr (Or.inr rfl))
theorem Mo.sr {c : Nat} {h h' : Hp_} (m : Mo c h h') : Sr h h' := m.2.2.2.2
theorem Mo.im {c : Nat} {h0 h : Hp_} {b k : Nat} {x : Int32} (m : Mo c h0 h) (hb : (Nat.beq b 227 || Nat.beq b 228 || Nat.beq b 1 || !(inw wsR b 999)) = false) (hk : mrow b = true → k = c) : Mo c h0 (h_im h b k x) := by
  rw [Bool.or_eq_false_iff, Bool.or_eq_false_iff, Bool.or_eq_false_iff, Bool.not_eq_false'] at hb
  have n : ∀ {y : Nat}, Nat.beq b y = false → y ≠ b := fun {y} z e => by rw [e, Nat.beq_refl] at z; cases z
  refine ⟨fun r hr j hj => ?_, fun j => ?_, fun j => ?_, fun j hj => ?_, m.2.2.2.2.im (inw_row hb.2 k)⟩
  · rw [h_i_im]
    split
    · rename_i e
      exact absurd (e.2.trans (hk (by rw [← e.1]; exact hr))) hj
    · exact m.1 r hr j hj
  · rw [h_i_im, if_neg (fun e => n hb.1.1.1 e.1)]; exact m.2.1 j
  · rw [h_i_im, if_neg (fun e => n hb.1.1.2 e.1)]; exact m.2.2.1 j
  · rw [h_i_im, if_neg (fun e => n hb.1.2 e.1)]; exact m.2.2.2.1 j hj
theorem Mo.fr {ws : List Nat} {c : Nat} {h h' : Hp_} (f : Fr ws h h') (o : (off ws 208 && off ws 210 && off ws 212 && off ws 213 && off ws 216 && off ws 227 && off ws 228 && (!inw ws 1 0 && !inw ws 1 7 && !inw ws 1 42 && wsub ws wsR)) = true) : Mo c h h' := by
  simp only [Bool.and_eq_true] at o
  obtain ⟨⟨⟨⟨⟨⟨⟨o1, o2⟩, o3⟩, o4⟩, o5⟩, o6⟩, o7⟩, ⟨⟨o8, o9⟩, o10⟩, o11⟩ := o
  rw [Bool.not_eq_true'] at o8 o9 o10
  refine ⟨fun r hr k _ => ?_, fun k => fr_i f o6 k, fun k => fr_i f o7 k, fun k hk => ?_, Sr.fr f o11⟩
  · unfold mrow at hr
    simp only [Bool.or_eq_true] at hr
    rcases hr with (((z | z) | z) | z) | z <;> have z := Nat.eq_of_beq_eq_true z <;> subst z
    · exact fr_i f o1 k
    · exact fr_i f o2 k
    · exact fr_i f o3 k
    · exact fr_i f o4 k
    · exact fr_i f o5 k
  · rcases hk with z | z | z <;> subst z
    · exact (f.2 1 0 o8).1
    · exact (f.2 1 7 o9).1
    · exact (f.2 1 42 o10).1
/-- the man's own: what he does, his beat, his step, his row -/
noncomputable def So (c : Nat) (h h' : Hp_) : Prop := h_i h' 208 c = h_i h 208 c ∧ h_i h' 212 c = h_i h 212 c ∧ h_i h' 213 c = h_i h 213 c ∧ h_i h' 216 c = h_i h 216 c
theorem So.rf (c : Nat) (h : Hp_) : So c h h := ⟨rfl, rfl, rfl, rfl⟩
theorem So.tr {c : Nat} {h h1 h2 : Hp_} (a : So c h h1) (b : So c h1 h2) : So c h h2 := ⟨b.1.trans a.1, b.2.1.trans a.2.1, b.2.2.1.trans a.2.2.1, b.2.2.2.trans a.2.2.2⟩
theorem So.im {c : Nat} {h0 h : Hp_} {b k : Nat} {x : Int32} (m : So c h0 h) (hb : (Nat.beq b 208 || Nat.beq b 212 || Nat.beq b 213 || Nat.beq b 216) = false) : So c h0 (h_im h b k x) := by
  simp only [Bool.or_eq_false_iff] at hb
  have n : ∀ {y : Nat}, Nat.beq b y = false → y ≠ b := fun {y} z e => by rw [e, Nat.beq_refl] at z; cases z
  refine ⟨?_, ?_, ?_, ?_⟩
  · rw [h_i_im, if_neg (fun e => n hb.1.1.1 e.1)]; exact m.1
  · rw [h_i_im, if_neg (fun e => n hb.1.1.2 e.1)]; exact m.2.1
  · rw [h_i_im, if_neg (fun e => n hb.1.2 e.1)]; exact m.2.2.1
  · rw [h_i_im, if_neg (fun e => n hb.2 e.1)]; exact m.2.2.2
theorem So.fr {ws : List Nat} {c : Nat} {h h' : Hp_} (f : Fr ws h h') (o : (off ws 208 && off ws 212 && off ws 213 && off ws 216) = true) : So c h h' := by
  simp only [Bool.and_eq_true] at o
  exact ⟨fr_i f o.1.1.1 c, fr_i f o.1.1.2 c, fr_i f o.1.2 c, fr_i f o.2 c⟩
theorem im_ne {h : Hp_} {a b k j : Nat} {x : Int32} (n : b ≠ a) : h_i (h_im h a k x) b j = h_i h b j := by rw [h_i_im, if_neg (fun e => n e.1)]
theorem im_at {h : Hp_} {a k : Nat} {x : Int32} : h_i (h_im h a k x) a k = x := by rw [h_i_im, if_pos ⟨rfl, rfl⟩]
theorem tr_ (a : Nat) (e : tfa a = some rtop) {h : Hp_} (I : Iv h) (k : Nat) (x : Int32) (n : a ≠ 0) (j : jr a = false) : Iv (h_im h a k x) := I.im (by rw [tfa_tf e]; exact rtop_in _) (jw_jr n j _)
theorem i208 {h : Hp_} (I : Iv h) (k : Nat) (x : Int32) : Iv (h_im h 208 k x) := tr_ 208 (by decide +kernel) I k x (by decide) (by decide)
theorem i211 {h : Hp_} (I : Iv h) (k : Nat) (x : Int32) : Iv (h_im h 211 k x) := tr_ 211 (by decide +kernel) I k x (by decide) (by decide)
theorem i260 {h : Hp_} (I : Iv h) (k : Nat) (x : Int32) : Iv (h_im h 260 k x) := tr_ 260 (by decide +kernel) I k x (by decide) (by decide)
theorem i209 {h : Hp_} (I : Iv h) (k : Nat) {x : Int32} (b : rin x.toInt (-1, 15)) : Iv (h_im h 209 k x) := I.im (by rw [tfa_tf (show tfa 209 = some (-1, 15) by decide +kernel)]; exact b) (jw_jr (by decide) (by decide) _)
theorem i210 {h : Hp_} (I : Iv h) (k : Nat) {x : Int32} (b : rin x.toInt (-1, 15)) : Iv (h_im h 210 k x) := I.im (by rw [tfa_tf (show tfa 210 = some (-1, 15) by decide +kernel)]; exact b) (jw_jr (by decide) (by decide) _)
theorem i213 {h : Hp_} (I : Iv h) (k : Nat) {x : Int32} (b : rin x.toInt (-1, 150)) : Iv (h_im h 213 k x) := I.im (by rw [tfa_tf (show tfa 213 = some (-1, 150) by decide +kernel)]; exact b) (jw_jr (by decide) (by decide) _)
theorem i216 {h : Hp_} (I : Iv h) (k : Nat) {x : Int32} (b : rin x.toInt (0, 400)) : Iv (h_im h 216 k x) := I.im (by rw [tfa_tf (show tfa 216 = some (0, 400) by decide +kernel)]; exact b) (jw_jr (by decide) (by decide) _)
theorem m1_in : rin (-1 : Int32).toInt (-1, 15) := ⟨by decide, by decide⟩
theorem m1_st : rin (-1 : Int32).toInt (-1, 150) := ⟨by decide, by decide⟩
theorem b15 {x : Int32} (b : rin x.toInt (0, 15)) : rin x.toInt (-1, 15) := ⟨by have : 0 ≤ x.toInt := b.1; show (-1 : Int) ≤ _; omega, b.2⟩
/-- not on a beat; free only with no goal -/
noncomputable def Jd (h : Hp_) (c : Nat) : Prop := ¬ h_i h 208 c = 1 ∧ (h_i h 208 c = 0 → h_i h 210 c = -1)
end
section
/-! a man on his beat -/
/-- the points among the steps of the beat b from s on, f of them looked at -/
noncomputable def mP (wh : Nat → Int32) (b : Nat) : Nat → Nat → Nat
  | 0, _ => 0
  | f + 1, s => (if wh (150 * b + s) = 2 then 1 else 0) + mP wh b f (s + 1)
noncomputable abbrev nB (h : Hp_) (c : Nat) : Nat := (h_i h 212 c).toNatClampNeg
noncomputable abbrev nS (h : Hp_) (c : Nat) : Nat := (h_i h 213 c).toNatClampNeg
noncomputable abbrev nZ (h : Hp_) (c : Nat) : Nat := (h_i h 227 (nB h c)).toNatClampNeg
/-- between the calls -/
noncomputable def Jm (h : Hp_) (c : Nat) : Prop := (h_i h 208 c = 0 → h_i h 210 c = -1) ∧ (h_i h 208 c = 1 → 0 ≤ (h_i h 213 c).toInt ∧ nS h c < nZ h c ∧ (h_i h 212 c).toInt < (h_i h 1 42).toInt ∧ (h_i h 216 c).toInt + (mP (h_i h 228) (nB h c) (nZ h c - (nS h c + 1)) (nS h c + 1) : Int) ≤ 400 ∧ (¬ h_i h 210 c = -1 → (h_i h 216 c).toInt + (mP (h_i h 228) (nB h c) (nZ h c - nS h c) (nS h c) : Int) ≤ 400))
theorem Jd.jm {h : Hp_} {c : Nat} (j : Jd h c) : Jm h c := ⟨j.2, fun z => absurd z j.1⟩
theorem Mo.wh {c : Nat} {h h' : Hp_} (m : Mo c h h') : h_i h' 228 = h_i h 228 := funext m.2.2.1
theorem Jm_o {c c' : Nat} {h h' : Hp_} (m : Mo c h h') (n : c' ≠ c) (j : Jm h c') : Jm h' c' := by
  have e := fun (a : Nat) (ha : mrow a = true) => m.1 a ha c' n
  have ez : nZ h' c' = nZ h c' := by show (h_i h' 227 (h_i h' 212 c').toNatClampNeg).toNatClampNeg = _; rw [e 212 rfl, m.2.1]
  have es : nS h' c' = nS h c' := by show (h_i h' 213 c').toNatClampNeg = _; rw [e 213 rfl]
  have eb : nB h' c' = nB h c' := by show (h_i h' 212 c').toNatClampNeg = _; rw [e 212 rfl]
  unfold Jm
  rw [ez, es, eb, e 208 rfl, e 210 rfl, e 212 rfl, e 213 rfl, e 216 rfl, m.wh, m.b42]
  exact j
end
section
/-! goOn of the reference -/
end
section
theorem t_X12_wakeBeat (d : Nat) (h : Hp_) (w : Wf h) (x1 : Int32) (x2 : Int32) (K : Hp_ → Prop) (k : vp_in x1 12 ∧ (vp_in x1 12 ∧ ((x2 = 0 → vp_in ((150 * (h_i h 212 x1.toNatClampNeg)) + (h_i h 213 x1.toNatClampNeg)) 1800 ∧ ((¬ (h_i h 228 (((150 * (h_i h 212 x1.toNatClampNeg)) + (h_i h 213 x1.toNatClampNeg)) : Int32).toNatClampNeg) = 3 → vp_in x1 12 ∧ (vp_in x1 12 ∧ (Cv (m_X12_goOn (d + 3) 0 0) [.ref 1, .int x1] (h_im h 213 x1.toNatClampNeg ((h_i h 213 x1.toNatClampNeg) + 1)) (fun h8 => Wf h8 ∧ (K h8))))) ∧ ((h_i h 228 (((150 * (h_i h 212 x1.toNatClampNeg)) + (h_i h 213 x1.toNatClampNeg)) : Int32).toNatClampNeg) = 3 → Cv (m_X12_see (d + 7) 0 0) [.ref 1, .int x1] h (fun h11 => Wf h11 ∧ (vp_in x1 12 ∧ (vp_in x1 12 ∧ (Cv (m_X12_goOn (d + 3) 0 0) [.ref 1, .int x1] (h_im h11 213 x1.toNatClampNeg ((h_i h11 213 x1.toNatClampNeg) + 1)) (fun h16 => Wf h16 ∧ (K h16))))))))) ∧ (¬ x2 = 0 → vp_in ((150 * (h_i h 212 x1.toNatClampNeg)) + (h_i h 213 x1.toNatClampNeg)) 1800 ∧ ((¬ (h_i h 228 (((150 * (h_i h 212 x1.toNatClampNeg)) + (h_i h 213 x1.toNatClampNeg)) : Int32).toNatClampNeg) = 2 → vp_in x1 12 ∧ (vp_in x1 12 ∧ (Cv (m_X12_goOn (d + 3) 0 0) [.ref 1, .int x1] (h_im h 213 x1.toNatClampNeg ((h_i h 213 x1.toNatClampNeg) + 1)) (fun h23 => Wf h23 ∧ (K h23))))) ∧ ((h_i h 228 (((150 * (h_i h 212 x1.toNatClampNeg)) + (h_i h 213 x1.toNatClampNeg)) : Int32).toNatClampNeg) = 2 → vp_in ((150 * (h_i h 212 x1.toNatClampNeg)) + (h_i h 213 x1.toNatClampNeg)) 1800 ∧ (Ci (m_X12_comes (d + 1) 0 0) [.ref 1, .int x1, .int (h_i h 230 (((150 * (h_i h 212 x1.toNatClampNeg)) + (h_i h 213 x1.toNatClampNeg)) : Int32).toNatClampNeg)] h (fun r29 h27 => Wf h27 ∧ ((r29 = 0 → vp_in x1 12 ∧ (vp_in x1 12 ∧ (Cv (m_X12_goOn (d + 3) 0 0) [.ref 1, .int x1] (h_im h27 213 x1.toNatClampNeg ((h_i h27 213 x1.toNatClampNeg) + 1)) (fun h33 => Wf h33 ∧ (K h33))))) ∧ (¬ r29 = 0 → K h27)))))))))) : Cv (m_X12_wakeBeat (d + 8) 0 0) [.ref 1, .int x1, .int x2] h K := by
  refine Ct.of (fun _ _ _ => trivial) pn_X12 (Nat.le_of_ble_eq_true rfl) ?_
  show AW (m_X12_wakeBeat (d + 8) 0 0) 0 0 0 [(0, .ref 1), (1, .int x1), (2, .int x2)] [] h (kV K)
  refine aw_sipush (v := 150) d_X12_wakeBeat_0 is_150 ?_
  refine aw_aload_n (i := 0) rfl d_X12_wakeBeat_3 0 rfl ?_
  refine aw_getr (k0 := 16) kc_12 (ws_1 w) (Nat.le_of_ble_eq_true rfl) tw_1758 d_X12_wakeBeat_4 rfl (wr_1_16 w) ?_
  refine aw_iload_n (i := 1) rfl d_X12_wakeBeat_7 1 rfl ?_
  obtain ⟨b1, k⟩ := k
  refine aw_iald (ws_212 w) b1 d_X12_wakeBeat_8 ?_
  refine aw_imul d_X12_wakeBeat_9 ?_
  refine aw_aload_n (i := 0) rfl d_X12_wakeBeat_10 0 rfl ?_
  refine aw_getr (k0 := 17) kc_12 (ws_1 w) (Nat.le_of_ble_eq_true rfl) tw_1759 d_X12_wakeBeat_11 rfl (wr_1_17 w) ?_
  refine aw_iload_n (i := 1) rfl d_X12_wakeBeat_14 1 rfl ?_
  obtain ⟨b2, k⟩ := k
  refine aw_iald (ws_213 w) b2 d_X12_wakeBeat_15 ?_
  refine aw_iadd d_X12_wakeBeat_16 ?_
  refine aw_istore_n (i := 3) rfl [(0, .ref 1), (1, .int x1), (2, .int x2), (3, .int ((150 * (h_i h 212 x1.toNatClampNeg)) + (h_i h 213 x1.toNatClampNeg)))] d_X12_wakeBeat_17 (Nat.le_of_ble_eq_true rfl) rfl rfl ?_
  refine aw_iload_n (i := 2) rfl d_X12_wakeBeat_18 2 rfl ?_
  refine aw_if_eq (tgt := 47) d_X12_wakeBeat_19 rfl (fun c3 => ?_) (fun c3 => ?_)
  · have k := k.1 c3
    refine aw_aload_n (i := 0) rfl d_X12_wakeBeat_47 0 rfl ?_
    refine aw_getr (k0 := 39) kc_12 (ws_1 w) (Nat.le_of_ble_eq_true rfl) tw_1781 d_X12_wakeBeat_48 rfl (wr_1_39 w) ?_
    refine aw_iload_n (i := 3) rfl d_X12_wakeBeat_51 3 rfl ?_
    obtain ⟨b4, k⟩ := k
    refine aw_iald (ws_228 w) b4 d_X12_wakeBeat_52 ?_
    refine aw_iconst (v := 3) d_X12_wakeBeat_53 ic_3 ?_
    refine aw_icmp_ne (tgt := 62) d_X12_wakeBeat_54 rfl (fun c5 => ?_) (fun c5 => ?_)
    · have k := k.1 c5
      refine aw_aload_n (i := 0) rfl d_X12_wakeBeat_62 0 rfl ?_
      refine aw_getr (k0 := 17) kc_12 (ws_1 w) (Nat.le_of_ble_eq_true rfl) tw_1759 d_X12_wakeBeat_63 rfl (wr_1_17 w) ?_
      refine aw_iload_n (i := 1) rfl d_X12_wakeBeat_66 1 rfl ?_
      refine aw_dup2 d_X12_wakeBeat_67 ⟨rfl, rfl⟩ ?_
      obtain ⟨b6, k⟩ := k
      refine aw_iald (ws_213 w) b6 d_X12_wakeBeat_68 ?_
      refine aw_iconst (v := 1) d_X12_wakeBeat_69 ic_1 ?_
      refine aw_iadd d_X12_wakeBeat_70 ?_
      obtain ⟨b7, k⟩ := k
      refine aw_iast (ws_213 w) b7 d_X12_wakeBeat_71 ?_
      refine aw_aload_n (i := 0) rfl d_X12_wakeBeat_72 0 rfl ?_
      refine aw_iload_n (i := 1) rfl d_X12_wakeBeat_73 1 rfl ?_
      refine aw_Vv 1 [.int x1] [] d_X12_wakeBeat_74 (cV_X12_goOn (d + 3) 0 0) kc_12 (ws_1 w) tw_2336 rfl (rr0 (Nat.le_of_ble_eq_true rfl) (Nat.le_of_ble_eq_true rfl)) (Nat.le_of_ble_eq_true rfl) xs0 k (fun h8 kk => ?_)
      obtain ⟨w9, k⟩ := kk
      exact aw_vret rfl d_X12_wakeBeat_77 ⟨Nat.le_refl _, Nat.le_refl _⟩ ⟨rfl, k⟩
    · have k := k.2 c5
      refine aw_aload_n (i := 0) rfl d_X12_wakeBeat_57 0 rfl ?_
      refine aw_iload_n (i := 1) rfl d_X12_wakeBeat_58 1 rfl ?_
      refine aw_Vv 1 [.int x1] [] d_X12_wakeBeat_59 (cV_X12_see (d + 7) 0 0) kc_12 (ws_1 w) tw_2392 rfl (rr0 (Nat.le_of_ble_eq_true rfl) (Nat.le_of_ble_eq_true rfl)) (Nat.le_of_ble_eq_true rfl) xs0 k (fun h11 kk => ?_)
      obtain ⟨w12, k⟩ := kk
      refine aw_aload_n (i := 0) rfl d_X12_wakeBeat_62 0 rfl ?_
      refine aw_getr (k0 := 17) kc_12 (ws_1 w12) (Nat.le_of_ble_eq_true rfl) tw_1759 d_X12_wakeBeat_63 rfl (wr_1_17 w12) ?_
      refine aw_iload_n (i := 1) rfl d_X12_wakeBeat_66 1 rfl ?_
      refine aw_dup2 d_X12_wakeBeat_67 ⟨rfl, rfl⟩ ?_
      obtain ⟨b14, k⟩ := k
      refine aw_iald (ws_213 w12) b14 d_X12_wakeBeat_68 ?_
      refine aw_iconst (v := 1) d_X12_wakeBeat_69 ic_1 ?_
      refine aw_iadd d_X12_wakeBeat_70 ?_
      obtain ⟨b15, k⟩ := k
      refine aw_iast (ws_213 w12) b15 d_X12_wakeBeat_71 ?_
      refine aw_aload_n (i := 0) rfl d_X12_wakeBeat_72 0 rfl ?_
      refine aw_iload_n (i := 1) rfl d_X12_wakeBeat_73 1 rfl ?_
      refine aw_Vv 1 [.int x1] [] d_X12_wakeBeat_74 (cV_X12_goOn (d + 3) 0 0) kc_12 (ws_1 w12) tw_2336 rfl (rr0 (Nat.le_of_ble_eq_true rfl) (Nat.le_of_ble_eq_true rfl)) (Nat.le_of_ble_eq_true rfl) xs0 k (fun h16 kk => ?_)
      obtain ⟨w17, k⟩ := kk
      exact aw_vret rfl d_X12_wakeBeat_77 ⟨Nat.le_refl _, Nat.le_refl _⟩ ⟨rfl, k⟩
  · have k := k.2 c3
    refine aw_aload_n (i := 0) rfl d_X12_wakeBeat_22 0 rfl ?_
    refine aw_getr (k0 := 39) kc_12 (ws_1 w) (Nat.le_of_ble_eq_true rfl) tw_1781 d_X12_wakeBeat_23 rfl (wr_1_39 w) ?_
    refine aw_iload_n (i := 3) rfl d_X12_wakeBeat_26 3 rfl ?_
    obtain ⟨b19, k⟩ := k
    refine aw_iald (ws_228 w) b19 d_X12_wakeBeat_27 ?_
    refine aw_iconst (v := 2) d_X12_wakeBeat_28 ic_2 ?_
    refine aw_icmp_ne (tgt := 62) d_X12_wakeBeat_29 rfl (fun c20 => ?_) (fun c20 => ?_)
    · have k := k.1 c20
      refine aw_aload_n (i := 0) rfl d_X12_wakeBeat_62 0 rfl ?_
      refine aw_getr (k0 := 17) kc_12 (ws_1 w) (Nat.le_of_ble_eq_true rfl) tw_1759 d_X12_wakeBeat_63 rfl (wr_1_17 w) ?_
      refine aw_iload_n (i := 1) rfl d_X12_wakeBeat_66 1 rfl ?_
      refine aw_dup2 d_X12_wakeBeat_67 ⟨rfl, rfl⟩ ?_
      obtain ⟨b21, k⟩ := k
      refine aw_iald (ws_213 w) b21 d_X12_wakeBeat_68 ?_
      refine aw_iconst (v := 1) d_X12_wakeBeat_69 ic_1 ?_
      refine aw_iadd d_X12_wakeBeat_70 ?_
      obtain ⟨b22, k⟩ := k
      refine aw_iast (ws_213 w) b22 d_X12_wakeBeat_71 ?_
      refine aw_aload_n (i := 0) rfl d_X12_wakeBeat_72 0 rfl ?_
      refine aw_iload_n (i := 1) rfl d_X12_wakeBeat_73 1 rfl ?_
      refine aw_Vv 1 [.int x1] [] d_X12_wakeBeat_74 (cV_X12_goOn (d + 3) 0 0) kc_12 (ws_1 w) tw_2336 rfl (rr0 (Nat.le_of_ble_eq_true rfl) (Nat.le_of_ble_eq_true rfl)) (Nat.le_of_ble_eq_true rfl) xs0 k (fun h23 kk => ?_)
      obtain ⟨w24, k⟩ := kk
      exact aw_vret rfl d_X12_wakeBeat_77 ⟨Nat.le_refl _, Nat.le_refl _⟩ ⟨rfl, k⟩
    · have k := k.2 c20
      refine aw_aload_n (i := 0) rfl d_X12_wakeBeat_32 0 rfl ?_
      refine aw_iload_n (i := 1) rfl d_X12_wakeBeat_33 1 rfl ?_
      refine aw_aload_n (i := 0) rfl d_X12_wakeBeat_34 0 rfl ?_
      refine aw_getr (k0 := 41) kc_12 (ws_1 w) (Nat.le_of_ble_eq_true rfl) tw_1783 d_X12_wakeBeat_35 rfl (wr_1_41 w) ?_
      refine aw_iload_n (i := 3) rfl d_X12_wakeBeat_38 3 rfl ?_
      obtain ⟨b26, k⟩ := k
      refine aw_iald (ws_230 w) b26 d_X12_wakeBeat_39 ?_
      refine aw_Vi 1 [.int x1, .int (h_i h 230 (((150 * (h_i h 212 x1.toNatClampNeg)) + (h_i h 213 x1.toNatClampNeg)) : Int32).toNatClampNeg)] [] d_X12_wakeBeat_40 (cV_X12_comes (d + 1) 0 0) kc_12 (ws_1 w) tw_2356 rfl (rr0 (Nat.le_of_ble_eq_true rfl) (Nat.le_of_ble_eq_true rfl)) (Nat.le_of_ble_eq_true rfl) xs0 k (fun r29 h27 kk => ?_)
      obtain ⟨w28, k⟩ := kk
      refine aw_if_eq (tgt := 62) d_X12_wakeBeat_43 rfl (fun c30 => ?_) (fun c30 => ?_)
      · have k := k.1 c30
        refine aw_aload_n (i := 0) rfl d_X12_wakeBeat_62 0 rfl ?_
        refine aw_getr (k0 := 17) kc_12 (ws_1 w28) (Nat.le_of_ble_eq_true rfl) tw_1759 d_X12_wakeBeat_63 rfl (wr_1_17 w28) ?_
        refine aw_iload_n (i := 1) rfl d_X12_wakeBeat_66 1 rfl ?_
        refine aw_dup2 d_X12_wakeBeat_67 ⟨rfl, rfl⟩ ?_
        obtain ⟨b31, k⟩ := k
        refine aw_iald (ws_213 w28) b31 d_X12_wakeBeat_68 ?_
        refine aw_iconst (v := 1) d_X12_wakeBeat_69 ic_1 ?_
        refine aw_iadd d_X12_wakeBeat_70 ?_
        obtain ⟨b32, k⟩ := k
        refine aw_iast (ws_213 w28) b32 d_X12_wakeBeat_71 ?_
        refine aw_aload_n (i := 0) rfl d_X12_wakeBeat_72 0 rfl ?_
        refine aw_iload_n (i := 1) rfl d_X12_wakeBeat_73 1 rfl ?_
        refine aw_Vv 1 [.int x1] [] d_X12_wakeBeat_74 (cV_X12_goOn (d + 3) 0 0) kc_12 (ws_1 w28) tw_2336 rfl (rr0 (Nat.le_of_ble_eq_true rfl) (Nat.le_of_ble_eq_true rfl)) (Nat.le_of_ble_eq_true rfl) xs0 k (fun h33 kk => ?_)
        obtain ⟨w34, k⟩ := kk
        exact aw_vret rfl d_X12_wakeBeat_77 ⟨Nat.le_refl _, Nat.le_refl _⟩ ⟨rfl, k⟩
      · have k := k.2 c30
        exact aw_vret rfl d_X12_wakeBeat_46 ⟨Nat.le_refl _, Nat.le_refl _⟩ ⟨rfl, k⟩
theorem t_X12_wake (d : Nat) (h : Hp_) (w : Wf h) (x1 : Int32) (K : Hp_ → Prop) (k : vp_in x1 12 ∧ (((h_i h 211 x1.toNatClampNeg) = (h_i h 1 0) → vp_in x1 12 ∧ (((h_i h 210 x1.toNatClampNeg) = (-1) → AW (m_X12_wake (d + 9) 0 0) 0 0 29 [(0, .ref 1), (1, .int x1)] [.int 0] h (kV K)) ∧ (¬ (h_i h 210 x1.toNatClampNeg) = (-1) → AW (m_X12_wake (d + 9) 0 0) 0 0 29 [(0, .ref 1), (1, .int x1)] [.int 1] h (kV K)))) ∧ (¬ (h_i h 211 x1.toNatClampNeg) = (h_i h 1 0) → K h))) : Cv (m_X12_wake (d + 9) 0 0) [.ref 1, .int x1] h K := by
  refine Ct.of (fun _ _ _ => trivial) pn_X12 (Nat.le_of_ble_eq_true rfl) ?_
  show AW (m_X12_wake (d + 9) 0 0) 0 0 0 [(0, .ref 1), (1, .int x1)] [] h (kV K)
  refine aw_aload_n (i := 0) rfl d_X12_wake_0 0 rfl ?_
  refine aw_getr (k0 := 15) kc_12 (ws_1 w) (Nat.le_of_ble_eq_true rfl) tw_1757 d_X12_wake_1 rfl (wr_1_15 w) ?_
  refine aw_iload_n (i := 1) rfl d_X12_wake_4 1 rfl ?_
  obtain ⟨b1, k⟩ := k
  refine aw_iald (ws_211 w) b1 d_X12_wake_5 ?_
  refine aw_aload_n (i := 0) rfl d_X12_wake_6 0 rfl ?_
  refine aw_geti (k0 := 0) kc_12 (ws_1 w) (Nat.le_of_ble_eq_true rfl) tw_1742 d_X12_wake_7 rfl ?_
  refine aw_icmp_eq (tgt := 14) d_X12_wake_10 rfl (fun c2 => ?_) (fun c2 => ?_)
  · have k := k.1 c2
    refine aw_aload_n (i := 0) rfl d_X12_wake_14 0 rfl ?_
    refine aw_getr (k0 := 14) kc_12 (ws_1 w) (Nat.le_of_ble_eq_true rfl) tw_1756 d_X12_wake_15 rfl (wr_1_14 w) ?_
    refine aw_iload_n (i := 1) rfl d_X12_wake_18 1 rfl ?_
    obtain ⟨b3, k⟩ := k
    refine aw_iald (ws_210 w) b3 d_X12_wake_19 ?_
    refine aw_iconst (v := (-1)) d_X12_wake_20 ic_m1 ?_
    refine aw_icmp_eq (tgt := 28) d_X12_wake_21 rfl (fun c4 => ?_) (fun c4 => ?_)
    · have k := k.1 c4
      refine aw_iconst (v := 0) d_X12_wake_28 ic_0 ?_
      exact k
    · have k := k.2 c4
      refine aw_iconst (v := 1) d_X12_wake_24 ic_1 ?_
      refine aw_goto (tgt := 29) d_X12_wake_25 rfl ?_
      exact k
  · have k := k.2 c2
    exact aw_vret rfl d_X12_wake_13 ⟨Nat.le_refl _, Nat.le_refl _⟩ ⟨rfl, k⟩
theorem t_X12_wake_29 (d : Nat) (h : Hp_) (w : Wf h) (x1 : Int32) (s0 : Int32) (K : Hp_ → Prop) (k : (s0 = 0 → vp_in x1 12 ∧ (vp_in x1 12 ∧ ((¬ (h_i h 208 x1.toNatClampNeg) = 2 → vp_in x1 12 ∧ ((¬ (h_i h 208 x1.toNatClampNeg) = 3 → vp_in x1 12 ∧ ((¬ (h_i h 208 x1.toNatClampNeg) = 1 → K (h_im h 211 x1.toNatClampNeg (-1))) ∧ ((h_i h 208 x1.toNatClampNeg) = 1 → Cv (m_X12_wakeBeat (d + 8) 0 0) [.ref 1, .int x1, .int s0] (h_im h 211 x1.toNatClampNeg (-1)) (fun h13 => Wf h13 ∧ (K h13))))) ∧ ((h_i h 208 x1.toNatClampNeg) = 3 → (¬ s0 = 0 → vp_in x1 12 ∧ (vp_in x1 12 ∧ ((¬ (h_i h 209 x1.toNatClampNeg) = (h_i h 218 x1.toNatClampNeg) → vp_in x1 12 ∧ (Cv (m_X12_goDrawn (d + 4) 0 0) [.ref 1, .int x1] (h_im (h_im h 211 x1.toNatClampNeg (-1)) 248 x1.toNatClampNeg (vp_nar .boolean 1)) (fun h21 => Wf h21 ∧ (K h21)))) ∧ ((h_i h 209 x1.toNatClampNeg) = (h_i h 218 x1.toNatClampNeg) → vp_in x1 12 ∧ (((h_i h 248 x1.toNatClampNeg) = 0 → vp_in x1 12 ∧ (Cv (m_X12_goDrawn (d + 4) 0 0) [.ref 1, .int x1] (h_im (h_im h 211 x1.toNatClampNeg (-1)) 248 x1.toNatClampNeg (vp_nar .boolean 1)) (fun h27 => Wf h27 ∧ (K h27)))) ∧ (¬ (h_i h 248 x1.toNatClampNeg) = 0 → Cv (m_X12_stay (d + 3) 0 0) [.ref 1, .int x1] (h_im h 211 x1.toNatClampNeg (-1)) (fun h30 => Wf h30 ∧ (K h30)))))))) ∧ (s0 = 0 → Cv (m_X12_goHome (d + 2) 0 0) [.ref 1, .int x1] (h_im h 211 x1.toNatClampNeg (-1)) (fun h33 => Wf h33 ∧ (K h33)))))) ∧ ((h_i h 208 x1.toNatClampNeg) = 2 → Cv (m_X12_free (d + 0) 0 0) [.ref 1, .int x1] (h_im h 211 x1.toNatClampNeg (-1)) (fun h36 => Wf h36 ∧ (K h36)))))) ∧ (¬ s0 = 0 → vp_in x1 12 ∧ (vp_in x1 12 ∧ (vp_in x1 12 ∧ (vp_in x1 12 ∧ (vp_in x1 12 ∧ ((¬ (h_i h 208 x1.toNatClampNeg) = 2 → vp_in x1 12 ∧ ((¬ (h_i h 208 x1.toNatClampNeg) = 3 → vp_in x1 12 ∧ ((¬ (h_i h 208 x1.toNatClampNeg) = 1 → K (h_im (h_im (h_im h 209 x1.toNatClampNeg (h_i h 210 x1.toNatClampNeg)) 210 x1.toNatClampNeg (-1)) 211 x1.toNatClampNeg (-1))) ∧ ((h_i h 208 x1.toNatClampNeg) = 1 → Cv (m_X12_wakeBeat (d + 8) 0 0) [.ref 1, .int x1, .int s0] (h_im (h_im (h_im h 209 x1.toNatClampNeg (h_i h 210 x1.toNatClampNeg)) 210 x1.toNatClampNeg (-1)) 211 x1.toNatClampNeg (-1)) (fun h49 => Wf h49 ∧ (K h49))))) ∧ ((h_i h 208 x1.toNatClampNeg) = 3 → (¬ s0 = 0 → vp_in x1 12 ∧ (vp_in x1 12 ∧ ((¬ (h_i h 210 x1.toNatClampNeg) = (h_i h 218 x1.toNatClampNeg) → vp_in x1 12 ∧ (Cv (m_X12_goDrawn (d + 4) 0 0) [.ref 1, .int x1] (h_im (h_im (h_im (h_im h 209 x1.toNatClampNeg (h_i h 210 x1.toNatClampNeg)) 210 x1.toNatClampNeg (-1)) 211 x1.toNatClampNeg (-1)) 248 x1.toNatClampNeg (vp_nar .boolean 1)) (fun h57 => Wf h57 ∧ (K h57)))) ∧ ((h_i h 210 x1.toNatClampNeg) = (h_i h 218 x1.toNatClampNeg) → vp_in x1 12 ∧ (((h_i h 248 x1.toNatClampNeg) = 0 → vp_in x1 12 ∧ (Cv (m_X12_goDrawn (d + 4) 0 0) [.ref 1, .int x1] (h_im (h_im (h_im (h_im h 209 x1.toNatClampNeg (h_i h 210 x1.toNatClampNeg)) 210 x1.toNatClampNeg (-1)) 211 x1.toNatClampNeg (-1)) 248 x1.toNatClampNeg (vp_nar .boolean 1)) (fun h63 => Wf h63 ∧ (K h63)))) ∧ (¬ (h_i h 248 x1.toNatClampNeg) = 0 → Cv (m_X12_stay (d + 3) 0 0) [.ref 1, .int x1] (h_im (h_im (h_im h 209 x1.toNatClampNeg (h_i h 210 x1.toNatClampNeg)) 210 x1.toNatClampNeg (-1)) 211 x1.toNatClampNeg (-1)) (fun h66 => Wf h66 ∧ (K h66)))))))) ∧ (s0 = 0 → Cv (m_X12_goHome (d + 2) 0 0) [.ref 1, .int x1] (h_im (h_im (h_im h 209 x1.toNatClampNeg (h_i h 210 x1.toNatClampNeg)) 210 x1.toNatClampNeg (-1)) 211 x1.toNatClampNeg (-1)) (fun h69 => Wf h69 ∧ (K h69)))))) ∧ ((h_i h 208 x1.toNatClampNeg) = 2 → Cv (m_X12_free (d + 0) 0 0) [.ref 1, .int x1] (h_im (h_im (h_im h 209 x1.toNatClampNeg (h_i h 210 x1.toNatClampNeg)) 210 x1.toNatClampNeg (-1)) 211 x1.toNatClampNeg (-1)) (fun h72 => Wf h72 ∧ (K h72)))))))))) : AW (m_X12_wake (d + 9) 0 0) 0 0 29 [(0, .ref 1), (1, .int x1)] [.int s0] h (kV K) := by
  refine aw_istore_n (i := 2) rfl [(0, .ref 1), (1, .int x1), (2, .int s0)] d_X12_wake_29 (Nat.le_of_ble_eq_true rfl) rfl rfl ?_
  refine aw_iload_n (i := 2) rfl d_X12_wake_30 2 rfl ?_
  refine aw_if_eq (tgt := 53) d_X12_wake_31 rfl (fun c5 => ?_) (fun c5 => ?_)
  · have k := k.1 c5
    refine aw_aload_n (i := 0) rfl d_X12_wake_53 0 rfl ?_
    refine aw_getr (k0 := 15) kc_12 (ws_1 w) (Nat.le_of_ble_eq_true rfl) tw_1757 d_X12_wake_54 rfl (wr_1_15 w) ?_
    refine aw_iload_n (i := 1) rfl d_X12_wake_57 1 rfl ?_
    refine aw_iconst (v := (-1)) d_X12_wake_58 ic_m1 ?_
    obtain ⟨b6, k⟩ := k
    refine aw_iast (ws_211 w) b6 d_X12_wake_59 ?_
    refine aw_aload_n (i := 0) rfl d_X12_wake_60 0 rfl ?_
    refine aw_getr (k0 := 12) kc_12 (ws_1 w) (Nat.le_of_ble_eq_true rfl) tw_1754 d_X12_wake_61 rfl (wr_1_12 w) ?_
    refine aw_iload_n (i := 1) rfl d_X12_wake_64 1 rfl ?_
    obtain ⟨b7, k⟩ := k
    refine aw_iald (ws_208 w) b7 d_X12_wake_65 ?_
    refine aw_vi (v2 := (h_i h 208 x1.toNatClampNeg)) (rfl) ?_
    refine aw_iconst (v := 2) d_X12_wake_66 ic_2 ?_
    refine aw_icmp_ne (tgt := 78) d_X12_wake_67 rfl (fun c8 => ?_) (fun c8 => ?_)
    · have k := k.1 c8
      refine aw_aload_n (i := 0) rfl d_X12_wake_78 0 rfl ?_
      refine aw_getr (k0 := 12) kc_12 (ws_1 w) (Nat.le_of_ble_eq_true rfl) tw_1754 d_X12_wake_79 rfl (wr_1_12 w) ?_
      refine aw_iload_n (i := 1) rfl d_X12_wake_82 1 rfl ?_
      obtain ⟨b9, k⟩ := k
      refine aw_iald (ws_208 w) b9 d_X12_wake_83 ?_
      refine aw_vi (v2 := (h_i h 208 x1.toNatClampNeg)) (rfl) ?_
      refine aw_iconst (v := 3) d_X12_wake_84 ic_3 ?_
      refine aw_icmp_ne (tgt := 147) d_X12_wake_85 rfl (fun c10 => ?_) (fun c10 => ?_)
      · have k := k.1 c10
        refine aw_aload_n (i := 0) rfl d_X12_wake_147 0 rfl ?_
        refine aw_getr (k0 := 12) kc_12 (ws_1 w) (Nat.le_of_ble_eq_true rfl) tw_1754 d_X12_wake_148 rfl (wr_1_12 w) ?_
        refine aw_iload_n (i := 1) rfl d_X12_wake_151 1 rfl ?_
        obtain ⟨b11, k⟩ := k
        refine aw_iald (ws_208 w) b11 d_X12_wake_152 ?_
        refine aw_vi (v2 := (h_i h 208 x1.toNatClampNeg)) (rfl) ?_
        refine aw_iconst (v := 1) d_X12_wake_153 ic_1 ?_
        refine aw_icmp_ne (tgt := 163) d_X12_wake_154 rfl (fun c12 => ?_) (fun c12 => ?_)
        · have k := k.1 c12
          exact aw_vret rfl d_X12_wake_163 ⟨Nat.le_refl _, Nat.le_refl _⟩ ⟨rfl, k⟩
        · have k := k.2 c12
          refine aw_aload_n (i := 0) rfl d_X12_wake_157 0 rfl ?_
          refine aw_iload_n (i := 1) rfl d_X12_wake_158 1 rfl ?_
          refine aw_iload_n (i := 2) rfl d_X12_wake_159 2 rfl ?_
          refine aw_Vv 1 [.int x1, .int s0] [] d_X12_wake_160 (cV_X12_wakeBeat (d + 8) 0 0) kc_12 (ws_1 w) tw_2388 rfl (rr0 (Nat.le_of_ble_eq_true rfl) (Nat.le_of_ble_eq_true rfl)) (Nat.le_of_ble_eq_true rfl) xs0 k (fun h13 kk => ?_)
          obtain ⟨w14, k⟩ := kk
          exact aw_vret rfl d_X12_wake_163 ⟨Nat.le_refl _, Nat.le_refl _⟩ ⟨rfl, k⟩
      · have k := k.2 c10
        refine aw_iload_n (i := 2) rfl d_X12_wake_88 2 rfl ?_
        refine aw_if_ne (tgt := 100) d_X12_wake_89 rfl (fun c16 => ?_) (fun c16 => ?_)
        · have k := k.1 c16
          refine aw_aload_n (i := 0) rfl d_X12_wake_100 0 rfl ?_
          refine aw_getr (k0 := 13) kc_12 (ws_1 w) (Nat.le_of_ble_eq_true rfl) tw_1755 d_X12_wake_101 rfl (wr_1_13 w) ?_
          refine aw_iload_n (i := 1) rfl d_X12_wake_104 1 rfl ?_
          obtain ⟨b17, k⟩ := k
          refine aw_iald (ws_209 w) b17 d_X12_wake_105 ?_
          refine aw_vi (v2 := (h_i h 209 x1.toNatClampNeg)) (rfl) ?_
          refine aw_aload_n (i := 0) rfl d_X12_wake_106 0 rfl ?_
          refine aw_getr (k0 := 22) kc_12 (ws_1 w) (Nat.le_of_ble_eq_true rfl) tw_1764 d_X12_wake_107 rfl (wr_1_22 w) ?_
          refine aw_iload_n (i := 1) rfl d_X12_wake_110 1 rfl ?_
          obtain ⟨b18, k⟩ := k
          refine aw_iald (ws_218 w) b18 d_X12_wake_111 ?_
          refine aw_vi (v2 := (h_i h 218 x1.toNatClampNeg)) (rfl) ?_
          refine aw_icmp_ne (tgt := 132) d_X12_wake_112 rfl (fun c19 => ?_) (fun c19 => ?_)
          · have k := k.1 c19
            refine aw_aload_n (i := 0) rfl d_X12_wake_132 0 rfl ?_
            refine aw_getr (k0 := 65) kc_12 (ws_1 w) (Nat.le_of_ble_eq_true rfl) tw_1807 d_X12_wake_133 rfl (wr_1_65 w) ?_
            refine aw_iload_n (i := 1) rfl d_X12_wake_136 1 rfl ?_
            refine aw_iconst (v := 1) d_X12_wake_137 ic_1 ?_
            obtain ⟨b20, k⟩ := k
            refine aw_zast (ws_248 w) b20 d_X12_wake_138 ?_
            refine aw_aload_n (i := 0) rfl d_X12_wake_139 0 rfl ?_
            refine aw_iload_n (i := 1) rfl d_X12_wake_140 1 rfl ?_
            refine aw_Vv 1 [.int x1] [] d_X12_wake_141 (cV_X12_goDrawn (d + 4) 0 0) kc_12 (ws_1 w) tw_2368 rfl (rr0 (Nat.le_of_ble_eq_true rfl) (Nat.le_of_ble_eq_true rfl)) (Nat.le_of_ble_eq_true rfl) xs0 k (fun h21 kk => ?_)
            obtain ⟨w22, k⟩ := kk
            refine aw_goto (tgt := 163) d_X12_wake_144 rfl ?_
            exact aw_vret rfl d_X12_wake_163 ⟨Nat.le_refl _, Nat.le_refl _⟩ ⟨rfl, k⟩
          · have k := k.2 c19
            refine aw_aload_n (i := 0) rfl d_X12_wake_115 0 rfl ?_
            refine aw_getr (k0 := 65) kc_12 (ws_1 w) (Nat.le_of_ble_eq_true rfl) tw_1807 d_X12_wake_116 rfl (wr_1_65 w) ?_
            refine aw_iload_n (i := 1) rfl d_X12_wake_119 1 rfl ?_
            obtain ⟨b24, k⟩ := k
            refine aw_zald (ws_248 w) b24 d_X12_wake_120 ?_
            refine aw_vi (v2 := (h_i h 248 x1.toNatClampNeg)) (rfl) ?_
            refine aw_if_eq (tgt := 132) d_X12_wake_121 rfl (fun c25 => ?_) (fun c25 => ?_)
            · have k := k.1 c25
              refine aw_aload_n (i := 0) rfl d_X12_wake_132 0 rfl ?_
              refine aw_getr (k0 := 65) kc_12 (ws_1 w) (Nat.le_of_ble_eq_true rfl) tw_1807 d_X12_wake_133 rfl (wr_1_65 w) ?_
              refine aw_iload_n (i := 1) rfl d_X12_wake_136 1 rfl ?_
              refine aw_iconst (v := 1) d_X12_wake_137 ic_1 ?_
              obtain ⟨b26, k⟩ := k
              refine aw_zast (ws_248 w) b26 d_X12_wake_138 ?_
              refine aw_aload_n (i := 0) rfl d_X12_wake_139 0 rfl ?_
              refine aw_iload_n (i := 1) rfl d_X12_wake_140 1 rfl ?_
              refine aw_Vv 1 [.int x1] [] d_X12_wake_141 (cV_X12_goDrawn (d + 4) 0 0) kc_12 (ws_1 w) tw_2368 rfl (rr0 (Nat.le_of_ble_eq_true rfl) (Nat.le_of_ble_eq_true rfl)) (Nat.le_of_ble_eq_true rfl) xs0 k (fun h27 kk => ?_)
              obtain ⟨w28, k⟩ := kk
              refine aw_goto (tgt := 163) d_X12_wake_144 rfl ?_
              exact aw_vret rfl d_X12_wake_163 ⟨Nat.le_refl _, Nat.le_refl _⟩ ⟨rfl, k⟩
            · have k := k.2 c25
              refine aw_aload_n (i := 0) rfl d_X12_wake_124 0 rfl ?_
              refine aw_iload_n (i := 1) rfl d_X12_wake_125 1 rfl ?_
              refine aw_Vv 1 [.int x1] [] d_X12_wake_126 (cV_X12_stay (d + 3) 0 0) kc_12 (ws_1 w) tw_2372 rfl (rr0 (Nat.le_of_ble_eq_true rfl) (Nat.le_of_ble_eq_true rfl)) (Nat.le_of_ble_eq_true rfl) xs0 k (fun h30 kk => ?_)
              obtain ⟨w31, k⟩ := kk
              refine aw_goto (tgt := 163) d_X12_wake_129 rfl ?_
              exact aw_vret rfl d_X12_wake_163 ⟨Nat.le_refl _, Nat.le_refl _⟩ ⟨rfl, k⟩
        · have k := k.2 c16
          refine aw_aload_n (i := 0) rfl d_X12_wake_92 0 rfl ?_
          refine aw_iload_n (i := 1) rfl d_X12_wake_93 1 rfl ?_
          refine aw_Vv 1 [.int x1] [] d_X12_wake_94 (cV_X12_goHome (d + 2) 0 0) kc_12 (ws_1 w) tw_2340 rfl (rr0 (Nat.le_of_ble_eq_true rfl) (Nat.le_of_ble_eq_true rfl)) (Nat.le_of_ble_eq_true rfl) xs0 k (fun h33 kk => ?_)
          obtain ⟨w34, k⟩ := kk
          refine aw_goto (tgt := 163) d_X12_wake_97 rfl ?_
          exact aw_vret rfl d_X12_wake_163 ⟨Nat.le_refl _, Nat.le_refl _⟩ ⟨rfl, k⟩
    · have k := k.2 c8
      refine aw_aload_n (i := 0) rfl d_X12_wake_70 0 rfl ?_
      refine aw_iload_n (i := 1) rfl d_X12_wake_71 1 rfl ?_
      refine aw_Vv 1 [.int x1] [] d_X12_wake_72 (cV_X12_free (d + 0) 0 0) kc_12 (ws_1 w) tw_2344 rfl (rr0 (Nat.le_of_ble_eq_true rfl) (Nat.le_of_ble_eq_true rfl)) (Nat.le_of_ble_eq_true rfl) xs0 k (fun h36 kk => ?_)
      obtain ⟨w37, k⟩ := kk
      refine aw_goto (tgt := 163) d_X12_wake_75 rfl ?_
      exact aw_vret rfl d_X12_wake_163 ⟨Nat.le_refl _, Nat.le_refl _⟩ ⟨rfl, k⟩
  · have k := k.2 c5
    refine aw_aload_n (i := 0) rfl d_X12_wake_34 0 rfl ?_
    refine aw_getr (k0 := 13) kc_12 (ws_1 w) (Nat.le_of_ble_eq_true rfl) tw_1755 d_X12_wake_35 rfl (wr_1_13 w) ?_
    refine aw_iload_n (i := 1) rfl d_X12_wake_38 1 rfl ?_
    refine aw_aload_n (i := 0) rfl d_X12_wake_39 0 rfl ?_
    refine aw_getr (k0 := 14) kc_12 (ws_1 w) (Nat.le_of_ble_eq_true rfl) tw_1756 d_X12_wake_40 rfl (wr_1_14 w) ?_
    refine aw_iload_n (i := 1) rfl d_X12_wake_43 1 rfl ?_
    obtain ⟨b39, k⟩ := k
    refine aw_iald (ws_210 w) b39 d_X12_wake_44 ?_
    obtain ⟨b40, k⟩ := k
    refine aw_iast (ws_209 w) b40 d_X12_wake_45 ?_
    refine aw_aload_n (i := 0) rfl d_X12_wake_46 0 rfl ?_
    refine aw_getr (k0 := 14) kc_12 (ws_1 w) (Nat.le_of_ble_eq_true rfl) tw_1756 d_X12_wake_47 rfl (wr_1_14 w) ?_
    refine aw_iload_n (i := 1) rfl d_X12_wake_50 1 rfl ?_
    refine aw_iconst (v := (-1)) d_X12_wake_51 ic_m1 ?_
    obtain ⟨b41, k⟩ := k
    refine aw_iast (ws_210 w) b41 d_X12_wake_52 ?_
    refine aw_aload_n (i := 0) rfl d_X12_wake_53 0 rfl ?_
    refine aw_getr (k0 := 15) kc_12 (ws_1 w) (Nat.le_of_ble_eq_true rfl) tw_1757 d_X12_wake_54 rfl (wr_1_15 w) ?_
    refine aw_iload_n (i := 1) rfl d_X12_wake_57 1 rfl ?_
    refine aw_iconst (v := (-1)) d_X12_wake_58 ic_m1 ?_
    obtain ⟨b42, k⟩ := k
    refine aw_iast (ws_211 w) b42 d_X12_wake_59 ?_
    refine aw_aload_n (i := 0) rfl d_X12_wake_60 0 rfl ?_
    refine aw_getr (k0 := 12) kc_12 (ws_1 w) (Nat.le_of_ble_eq_true rfl) tw_1754 d_X12_wake_61 rfl (wr_1_12 w) ?_
    refine aw_iload_n (i := 1) rfl d_X12_wake_64 1 rfl ?_
    obtain ⟨b43, k⟩ := k
    refine aw_iald (ws_208 w) b43 d_X12_wake_65 ?_
    refine aw_vi (v2 := (h_i h 208 x1.toNatClampNeg)) (rfl) ?_
    refine aw_iconst (v := 2) d_X12_wake_66 ic_2 ?_
    refine aw_icmp_ne (tgt := 78) d_X12_wake_67 rfl (fun c44 => ?_) (fun c44 => ?_)
    · have k := k.1 c44
      refine aw_aload_n (i := 0) rfl d_X12_wake_78 0 rfl ?_
      refine aw_getr (k0 := 12) kc_12 (ws_1 w) (Nat.le_of_ble_eq_true rfl) tw_1754 d_X12_wake_79 rfl (wr_1_12 w) ?_
      refine aw_iload_n (i := 1) rfl d_X12_wake_82 1 rfl ?_
      obtain ⟨b45, k⟩ := k
      refine aw_iald (ws_208 w) b45 d_X12_wake_83 ?_
      refine aw_vi (v2 := (h_i h 208 x1.toNatClampNeg)) (rfl) ?_
      refine aw_iconst (v := 3) d_X12_wake_84 ic_3 ?_
      refine aw_icmp_ne (tgt := 147) d_X12_wake_85 rfl (fun c46 => ?_) (fun c46 => ?_)
      · have k := k.1 c46
        refine aw_aload_n (i := 0) rfl d_X12_wake_147 0 rfl ?_
        refine aw_getr (k0 := 12) kc_12 (ws_1 w) (Nat.le_of_ble_eq_true rfl) tw_1754 d_X12_wake_148 rfl (wr_1_12 w) ?_
        refine aw_iload_n (i := 1) rfl d_X12_wake_151 1 rfl ?_
        obtain ⟨b47, k⟩ := k
        refine aw_iald (ws_208 w) b47 d_X12_wake_152 ?_
        refine aw_vi (v2 := (h_i h 208 x1.toNatClampNeg)) (rfl) ?_
        refine aw_iconst (v := 1) d_X12_wake_153 ic_1 ?_
        refine aw_icmp_ne (tgt := 163) d_X12_wake_154 rfl (fun c48 => ?_) (fun c48 => ?_)
        · have k := k.1 c48
          exact aw_vret rfl d_X12_wake_163 ⟨Nat.le_refl _, Nat.le_refl _⟩ ⟨rfl, k⟩
        · have k := k.2 c48
          refine aw_aload_n (i := 0) rfl d_X12_wake_157 0 rfl ?_
          refine aw_iload_n (i := 1) rfl d_X12_wake_158 1 rfl ?_
          refine aw_iload_n (i := 2) rfl d_X12_wake_159 2 rfl ?_
          refine aw_Vv 1 [.int x1, .int s0] [] d_X12_wake_160 (cV_X12_wakeBeat (d + 8) 0 0) kc_12 (ws_1 w) tw_2388 rfl (rr0 (Nat.le_of_ble_eq_true rfl) (Nat.le_of_ble_eq_true rfl)) (Nat.le_of_ble_eq_true rfl) xs0 k (fun h49 kk => ?_)
          obtain ⟨w50, k⟩ := kk
          exact aw_vret rfl d_X12_wake_163 ⟨Nat.le_refl _, Nat.le_refl _⟩ ⟨rfl, k⟩
      · have k := k.2 c46
        refine aw_iload_n (i := 2) rfl d_X12_wake_88 2 rfl ?_
        refine aw_if_ne (tgt := 100) d_X12_wake_89 rfl (fun c52 => ?_) (fun c52 => ?_)
        · have k := k.1 c52
          refine aw_aload_n (i := 0) rfl d_X12_wake_100 0 rfl ?_
          refine aw_getr (k0 := 13) kc_12 (ws_1 w) (Nat.le_of_ble_eq_true rfl) tw_1755 d_X12_wake_101 rfl (wr_1_13 w) ?_
          refine aw_iload_n (i := 1) rfl d_X12_wake_104 1 rfl ?_
          obtain ⟨b53, k⟩ := k
          refine aw_iald (ws_209 w) b53 d_X12_wake_105 ?_
          refine aw_vi (v2 := (h_i h 210 x1.toNatClampNeg)) (hi_s h 209 x1.toNatClampNeg (h_i h 210 x1.toNatClampNeg)) ?_
          refine aw_aload_n (i := 0) rfl d_X12_wake_106 0 rfl ?_
          refine aw_getr (k0 := 22) kc_12 (ws_1 w) (Nat.le_of_ble_eq_true rfl) tw_1764 d_X12_wake_107 rfl (wr_1_22 w) ?_
          refine aw_iload_n (i := 1) rfl d_X12_wake_110 1 rfl ?_
          obtain ⟨b54, k⟩ := k
          refine aw_iald (ws_218 w) b54 d_X12_wake_111 ?_
          refine aw_vi (v2 := (h_i h 218 x1.toNatClampNeg)) (rfl) ?_
          refine aw_icmp_ne (tgt := 132) d_X12_wake_112 rfl (fun c55 => ?_) (fun c55 => ?_)
          · have k := k.1 c55
            refine aw_aload_n (i := 0) rfl d_X12_wake_132 0 rfl ?_
            refine aw_getr (k0 := 65) kc_12 (ws_1 w) (Nat.le_of_ble_eq_true rfl) tw_1807 d_X12_wake_133 rfl (wr_1_65 w) ?_
            refine aw_iload_n (i := 1) rfl d_X12_wake_136 1 rfl ?_
            refine aw_iconst (v := 1) d_X12_wake_137 ic_1 ?_
            obtain ⟨b56, k⟩ := k
            refine aw_zast (ws_248 w) b56 d_X12_wake_138 ?_
            refine aw_aload_n (i := 0) rfl d_X12_wake_139 0 rfl ?_
            refine aw_iload_n (i := 1) rfl d_X12_wake_140 1 rfl ?_
            refine aw_Vv 1 [.int x1] [] d_X12_wake_141 (cV_X12_goDrawn (d + 4) 0 0) kc_12 (ws_1 w) tw_2368 rfl (rr0 (Nat.le_of_ble_eq_true rfl) (Nat.le_of_ble_eq_true rfl)) (Nat.le_of_ble_eq_true rfl) xs0 k (fun h57 kk => ?_)
            obtain ⟨w58, k⟩ := kk
            refine aw_goto (tgt := 163) d_X12_wake_144 rfl ?_
            exact aw_vret rfl d_X12_wake_163 ⟨Nat.le_refl _, Nat.le_refl _⟩ ⟨rfl, k⟩
          · have k := k.2 c55
            refine aw_aload_n (i := 0) rfl d_X12_wake_115 0 rfl ?_
            refine aw_getr (k0 := 65) kc_12 (ws_1 w) (Nat.le_of_ble_eq_true rfl) tw_1807 d_X12_wake_116 rfl (wr_1_65 w) ?_
            refine aw_iload_n (i := 1) rfl d_X12_wake_119 1 rfl ?_
            obtain ⟨b60, k⟩ := k
            refine aw_zald (ws_248 w) b60 d_X12_wake_120 ?_
            refine aw_vi (v2 := (h_i h 248 x1.toNatClampNeg)) (rfl) ?_
            refine aw_if_eq (tgt := 132) d_X12_wake_121 rfl (fun c61 => ?_) (fun c61 => ?_)
            · have k := k.1 c61
              refine aw_aload_n (i := 0) rfl d_X12_wake_132 0 rfl ?_
              refine aw_getr (k0 := 65) kc_12 (ws_1 w) (Nat.le_of_ble_eq_true rfl) tw_1807 d_X12_wake_133 rfl (wr_1_65 w) ?_
              refine aw_iload_n (i := 1) rfl d_X12_wake_136 1 rfl ?_
              refine aw_iconst (v := 1) d_X12_wake_137 ic_1 ?_
              obtain ⟨b62, k⟩ := k
              refine aw_zast (ws_248 w) b62 d_X12_wake_138 ?_
              refine aw_aload_n (i := 0) rfl d_X12_wake_139 0 rfl ?_
              refine aw_iload_n (i := 1) rfl d_X12_wake_140 1 rfl ?_
              refine aw_Vv 1 [.int x1] [] d_X12_wake_141 (cV_X12_goDrawn (d + 4) 0 0) kc_12 (ws_1 w) tw_2368 rfl (rr0 (Nat.le_of_ble_eq_true rfl) (Nat.le_of_ble_eq_true rfl)) (Nat.le_of_ble_eq_true rfl) xs0 k (fun h63 kk => ?_)
              obtain ⟨w64, k⟩ := kk
              refine aw_goto (tgt := 163) d_X12_wake_144 rfl ?_
              exact aw_vret rfl d_X12_wake_163 ⟨Nat.le_refl _, Nat.le_refl _⟩ ⟨rfl, k⟩
            · have k := k.2 c61
              refine aw_aload_n (i := 0) rfl d_X12_wake_124 0 rfl ?_
              refine aw_iload_n (i := 1) rfl d_X12_wake_125 1 rfl ?_
              refine aw_Vv 1 [.int x1] [] d_X12_wake_126 (cV_X12_stay (d + 3) 0 0) kc_12 (ws_1 w) tw_2372 rfl (rr0 (Nat.le_of_ble_eq_true rfl) (Nat.le_of_ble_eq_true rfl)) (Nat.le_of_ble_eq_true rfl) xs0 k (fun h66 kk => ?_)
              obtain ⟨w67, k⟩ := kk
              refine aw_goto (tgt := 163) d_X12_wake_129 rfl ?_
              exact aw_vret rfl d_X12_wake_163 ⟨Nat.le_refl _, Nat.le_refl _⟩ ⟨rfl, k⟩
        · have k := k.2 c52
          refine aw_aload_n (i := 0) rfl d_X12_wake_92 0 rfl ?_
          refine aw_iload_n (i := 1) rfl d_X12_wake_93 1 rfl ?_
          refine aw_Vv 1 [.int x1] [] d_X12_wake_94 (cV_X12_goHome (d + 2) 0 0) kc_12 (ws_1 w) tw_2340 rfl (rr0 (Nat.le_of_ble_eq_true rfl) (Nat.le_of_ble_eq_true rfl)) (Nat.le_of_ble_eq_true rfl) xs0 k (fun h69 kk => ?_)
          obtain ⟨w70, k⟩ := kk
          refine aw_goto (tgt := 163) d_X12_wake_97 rfl ?_
          exact aw_vret rfl d_X12_wake_163 ⟨Nat.le_refl _, Nat.le_refl _⟩ ⟨rfl, k⟩
    · have k := k.2 c44
      refine aw_aload_n (i := 0) rfl d_X12_wake_70 0 rfl ?_
      refine aw_iload_n (i := 1) rfl d_X12_wake_71 1 rfl ?_
      refine aw_Vv 1 [.int x1] [] d_X12_wake_72 (cV_X12_free (d + 0) 0 0) kc_12 (ws_1 w) tw_2344 rfl (rr0 (Nat.le_of_ble_eq_true rfl) (Nat.le_of_ble_eq_true rfl)) (Nat.le_of_ble_eq_true rfl) xs0 k (fun h72 kk => ?_)
      obtain ⟨w73, k⟩ := kk
      refine aw_goto (tgt := 163) d_X12_wake_75 rfl ?_
      exact aw_vret rfl d_X12_wake_163 ⟨Nat.le_refl _, Nat.le_refl _⟩ ⟨rfl, k⟩
theorem t_X12_tick (d : Nat) (h : Hp_) (w : Wf h) (x1 : Int32) (K : Int32 → Hp_ → Prop) (k : (¬ (0 ≤ x1 ∧ x1 ≤ 1500) → K (-1) h) ∧ ((0 ≤ x1 ∧ x1 ≤ 1500) → (((h_i h 1 0) + x1) ≤ 20000 → AW (m_X12_tick (d + 10) 0 0) 0 0 27 [(0, .ref 1), (1, .int x1), (2, .int 0)] [] h (kI K)) ∧ (¬ ((h_i h 1 0) + x1) ≤ 20000 → K (-1) h))) : Ci (m_X12_tick (d + 10) 0 0) [.ref 1, .int x1] h K := by
  refine Ct.of (fun _ _ _ => trivial) pn_X12 (Nat.le_of_ble_eq_true rfl) ?_
  show AW (m_X12_tick (d + 10) 0 0) 0 0 0 [(0, .ref 1), (1, .int x1)] [] h (kI K)
  refine aw_iload_n (i := 1) rfl d_X12_tick_0 1 rfl ?_
  refine aw_iconst (v := 0) d_X12_tick_1 ic_0 ?_
  refine aw_sipush (v := 1500) d_X12_tick_2 is_1500 ?_
  refine aw_Si [.int x1, .int 0, .int 1500] [] d_X12_tick_5 (cS_X12_in (d + 0) 0 0) tw_2143 rfl (rr0 (Nat.le_of_ble_eq_true rfl) (Nat.le_of_ble_eq_true rfl)) (Nat.le_of_ble_eq_true rfl) xs0 (s_X12_in _ _ x1 0 1500) (fun _ _ kk => ?_)
  obtain ⟨e1, e2⟩ := kk
  rw [e1, e2]
  refine aw_ifb_eq (tgt := 23) d_X12_tick_8 rfl (fun c3 => ?_) (fun c3 => ?_)
  · have k := k.1 c3
    refine aw_iconst (v := (-1)) d_X12_tick_23 ic_m1 ?_
    exact aw_iret rfl d_X12_tick_24 ⟨Nat.le_refl _, Nat.le_refl _⟩ ⟨_, rfl, k⟩
  · have k := k.2 c3
    refine aw_aload_n (i := 0) rfl d_X12_tick_11 0 rfl ?_
    refine aw_geti (k0 := 0) kc_12 (ws_1 w) (Nat.le_of_ble_eq_true rfl) tw_1742 d_X12_tick_12 rfl ?_
    refine aw_iload_n (i := 1) rfl d_X12_tick_15 1 rfl ?_
    refine aw_iadd d_X12_tick_16 ?_
    refine aw_sipush (v := 20000) d_X12_tick_17 is_20000 ?_
    refine aw_icmp_le (tgt := 25) d_X12_tick_20 rfl (fun c4 => ?_) (fun c4 => ?_)
    · have k := k.1 c4
      refine aw_iconst (v := 0) d_X12_tick_25 ic_0 ?_
      refine aw_istore_n (i := 2) rfl [(0, .ref 1), (1, .int x1), (2, .int 0)] d_X12_tick_26 (Nat.le_of_ble_eq_true rfl) rfl rfl ?_
      exact k
    · have k := k.2 c4
      refine aw_iconst (v := (-1)) d_X12_tick_23 ic_m1 ?_
      exact aw_iret rfl d_X12_tick_24 ⟨Nat.le_refl _, Nat.le_refl _⟩ ⟨_, rfl, k⟩
theorem t_X12_tick_27 (d : Nat) (h : Hp_) (w : Wf h) (x1 : Int32) (x2 : Int32) (K : Int32 → Hp_ → Prop) (k : (x1 ≤ x2 → K (h_i h 1 0) h) ∧ (¬ x1 ≤ x2 → AW (m_X12_tick (d + 10) 0 0) 0 0 34 [(0, .ref 1), (1, .int x1), (2, .int x2), (3, .int 0)] [] h (kI K))) : AW (m_X12_tick (d + 10) 0 0) 0 0 27 [(0, .ref 1), (1, .int x1), (2, .int x2)] [] h (kI K) := by
  refine aw_iload_n (i := 2) rfl d_X12_tick_27 2 rfl ?_
  refine aw_iload_n (i := 1) rfl d_X12_tick_28 1 rfl ?_
  refine aw_icmp_ge (tgt := 107) d_X12_tick_29 rfl (fun c5 => ?_) (fun c5 => ?_)
  · have k := k.1 c5
    refine aw_aload_n (i := 0) rfl d_X12_tick_107 0 rfl ?_
    refine aw_geti (k0 := 0) kc_12 (ws_1 w) (Nat.le_of_ble_eq_true rfl) tw_1742 d_X12_tick_108 rfl ?_
    exact aw_iret rfl d_X12_tick_111 ⟨Nat.le_refl _, Nat.le_refl _⟩ ⟨_, rfl, k⟩
  · have k := k.2 c5
    refine aw_iconst (v := 0) d_X12_tick_32 ic_0 ?_
    refine aw_istore_n (i := 3) rfl [(0, .ref 1), (1, .int x1), (2, .int x2), (3, .int 0)] d_X12_tick_33 (Nat.le_of_ble_eq_true rfl) rfl rfl ?_
    exact k
theorem t_X12_tick_34 (d : Nat) (h : Hp_) (w : Wf h) (x1 : Int32) (x2 : Int32) (x3 : Int32) (K : Int32 → Hp_ → Prop) (k : ((h_i h 1 7) ≤ x3 → AW (m_X12_tick (d + 10) 0 0) 0 0 82 [(0, .ref 1), (1, .int x1), (2, .int x2), (3, .int 0)] [] (h_im h 1 0 ((h_i h 1 0) + 1)) (kI K)) ∧ (¬ (h_i h 1 7) ≤ x3 → vp_in x3 12 ∧ (vp_in ((20001 * x3) + (h_i h 1 0)) 240012 ∧ (AW (m_X12_tick (d + 10) 0 0) 0 0 34 [(0, .ref 1), (1, .int x1), (2, .int x2), (3, .int (x3 + 1))] [] (h_im h 220 (((20001 * x3) + (h_i h 1 0)) : Int32).toNatClampNeg (vp_nar .byte (((h_i h 209 x3.toNatClampNeg) : Int32).toInt8.toInt32))) (kI K))))) : AW (m_X12_tick (d + 10) 0 0) 0 0 34 [(0, .ref 1), (1, .int x1), (2, .int x2), (3, .int x3)] [] h (kI K) := by
  refine aw_iload_n (i := 3) rfl d_X12_tick_34 3 rfl ?_
  refine aw_aload_n (i := 0) rfl d_X12_tick_35 0 rfl ?_
  refine aw_geti (k0 := 7) kc_12 (ws_1 w) (Nat.le_of_ble_eq_true rfl) tw_1749 d_X12_tick_36 rfl ?_
  refine aw_icmp_ge (tgt := 70) d_X12_tick_39 rfl (fun c6 => ?_) (fun c6 => ?_)
  · have k := k.1 c6
    refine aw_aload_n (i := 0) rfl d_X12_tick_70 0 rfl ?_
    refine aw_dup d_X12_tick_71 rfl ?_
    refine aw_geti (k0 := 0) kc_12 (ws_1 w) (Nat.le_of_ble_eq_true rfl) tw_1742 d_X12_tick_72 rfl ?_
    refine aw_iconst (v := 1) d_X12_tick_75 ic_1 ?_
    refine aw_iadd d_X12_tick_76 ?_
    refine aw_puti (k0 := 0) kc_12 (ws_1 w) (Nat.le_of_ble_eq_true rfl) tw_1742 d_X12_tick_77 rfl rfl nf_i ?_
    refine aw_iconst (v := 0) d_X12_tick_80 ic_0 ?_
    refine aw_istore_n (i := 3) rfl [(0, .ref 1), (1, .int x1), (2, .int x2), (3, .int 0)] d_X12_tick_81 (Nat.le_of_ble_eq_true rfl) rfl rfl ?_
    exact k
  · have k := k.2 c6
    refine aw_aload_n (i := 0) rfl d_X12_tick_42 0 rfl ?_
    refine aw_getr (k0 := 24) kc_12 (ws_1 w) (Nat.le_of_ble_eq_true rfl) tw_1766 d_X12_tick_43 rfl (wr_1_24 w) ?_
    refine aw_sipush (v := 20001) d_X12_tick_46 is_20001 ?_
    refine aw_iload_n (i := 3) rfl d_X12_tick_49 3 rfl ?_
    refine aw_imul d_X12_tick_50 ?_
    refine aw_aload_n (i := 0) rfl d_X12_tick_51 0 rfl ?_
    refine aw_geti (k0 := 0) kc_12 (ws_1 w) (Nat.le_of_ble_eq_true rfl) tw_1742 d_X12_tick_52 rfl ?_
    refine aw_iadd d_X12_tick_55 ?_
    refine aw_aload_n (i := 0) rfl d_X12_tick_56 0 rfl ?_
    refine aw_getr (k0 := 13) kc_12 (ws_1 w) (Nat.le_of_ble_eq_true rfl) tw_1755 d_X12_tick_57 rfl (wr_1_13 w) ?_
    refine aw_iload_n (i := 3) rfl d_X12_tick_60 3 rfl ?_
    obtain ⟨b7, k⟩ := k
    refine aw_iald (ws_209 w) b7 d_X12_tick_61 ?_
    refine aw_i2b d_X12_tick_62 ?_
    obtain ⟨b8, k⟩ := k
    refine aw_bast (ws_220 w) b8 d_X12_tick_63 ?_
    refine aw_iinc (v := (x3 + 1)) [(0, .ref 1), (1, .int x1), (2, .int x2), (3, .int (x3 + 1))] d_X12_tick_64 3 rfl rfl (Nat.le_of_ble_eq_true rfl) rfl rfl ?_
    refine aw_goto (tgt := 34) d_X12_tick_67 rfl ?_
    exact k
theorem t_X12_tick_82 (d : Nat) (h : Hp_) (w : Wf h) (x1 : Int32) (x2 : Int32) (x3 : Int32) (K : Int32 → Hp_ → Prop) (k : ((h_i h 1 7) ≤ x3 → AW (m_X12_tick (d + 10) 0 0) 0 0 27 [(0, .ref 1), (1, .int x1), (2, .int (x2 + 1))] [] h (kI K)) ∧ (¬ (h_i h 1 7) ≤ x3 → Cv (m_X12_wake (d + 9) 0 0) [.ref 1, .int x3] h (fun h10 => Wf h10 ∧ (AW (m_X12_tick (d + 10) 0 0) 0 0 82 [(0, .ref 1), (1, .int x1), (2, .int x2), (3, .int (x3 + 1))] [] h10 (kI K))))) : AW (m_X12_tick (d + 10) 0 0) 0 0 82 [(0, .ref 1), (1, .int x1), (2, .int x2), (3, .int x3)] [] h (kI K) := by
  refine aw_iload_n (i := 3) rfl d_X12_tick_82 3 rfl ?_
  refine aw_aload_n (i := 0) rfl d_X12_tick_83 0 rfl ?_
  refine aw_geti (k0 := 7) kc_12 (ws_1 w) (Nat.le_of_ble_eq_true rfl) tw_1749 d_X12_tick_84 rfl ?_
  refine aw_icmp_ge (tgt := 101) d_X12_tick_87 rfl (fun c9 => ?_) (fun c9 => ?_)
  · have k := k.1 c9
    refine aw_iinc (v := (x2 + 1)) [(0, .ref 1), (1, .int x1), (2, .int (x2 + 1)), (3, .int x3)] d_X12_tick_101 2 rfl rfl (Nat.le_of_ble_eq_true rfl) rfl rfl ?_
    refine aw_goto (tgt := 27) d_X12_tick_104 rfl ?_
    exact aw_lvp [0, 1, 2] [(0, .ref 1), (1, .int x1), (2, .int (x2 + 1))] rfl k
  · have k := k.2 c9
    refine aw_aload_n (i := 0) rfl d_X12_tick_90 0 rfl ?_
    refine aw_iload_n (i := 3) rfl d_X12_tick_91 3 rfl ?_
    refine aw_Vv 1 [.int x3] [] d_X12_tick_92 (cV_X12_wake (d + 9) 0 0) kc_12 (ws_1 w) tw_2384 rfl (rr0 (Nat.le_of_ble_eq_true rfl) (Nat.le_of_ble_eq_true rfl)) (Nat.le_of_ble_eq_true rfl) xs0 k (fun h10 kk => ?_)
    obtain ⟨w11, k⟩ := kk
    refine aw_iinc (v := (x3 + 1)) [(0, .ref 1), (1, .int x1), (2, .int x2), (3, .int (x3 + 1))] d_X12_tick_95 3 rfl rfl (Nat.le_of_ble_eq_true rfl) rfl rfl ?_
    refine aw_goto (tgt := 82) d_X12_tick_98 rfl ?_
    exact k
end
section
theorem t_X12_pointsOf (d : Nat) (h : Hp_) (x1 : Int32) (K : Int32 → Hp_ → Prop) (k : AW (m_X12_pointsOf (d + 0) 0 0) 0 0 8 [(0, .ref 1), (1, .int x1), (2, .int 0), (3, .int (150 * x1))] [] h (kI K)) : Ci (m_X12_pointsOf (d + 0) 0 0) [.ref 1, .int x1] h K := by
  refine Ct.of (fun _ _ _ => trivial) pn_X12 (Nat.le_of_ble_eq_true rfl) ?_
  show AW (m_X12_pointsOf (d + 0) 0 0) 0 0 0 [(0, .ref 1), (1, .int x1)] [] h (kI K)
  refine aw_iconst (v := 0) d_X12_pointsOf_0 ic_0 ?_
  refine aw_istore_n (i := 2) rfl [(0, .ref 1), (1, .int x1), (2, .int 0)] d_X12_pointsOf_1 (Nat.le_of_ble_eq_true rfl) rfl rfl ?_
  refine aw_sipush (v := 150) d_X12_pointsOf_2 is_150 ?_
  refine aw_iload_n (i := 1) rfl d_X12_pointsOf_5 1 rfl ?_
  refine aw_imul d_X12_pointsOf_6 ?_
  refine aw_istore_n (i := 3) rfl [(0, .ref 1), (1, .int x1), (2, .int 0), (3, .int (150 * x1))] d_X12_pointsOf_7 (Nat.le_of_ble_eq_true rfl) rfl rfl ?_
  exact k
theorem t_X12_pointsOf_8 (d : Nat) (h : Hp_) (w : Wf h) (x1 : Int32) (x2 : Int32) (x3 : Int32) (K : Int32 → Hp_ → Prop) (k : vp_in x1 12 ∧ ((((150 * x1) + (h_i h 227 x1.toNatClampNeg)) ≤ x3 → K x2 h) ∧ (¬ ((150 * x1) + (h_i h 227 x1.toNatClampNeg)) ≤ x3 → vp_in x3 1800 ∧ ((¬ (h_i h 228 x3.toNatClampNeg) = 2 → AW (m_X12_pointsOf (d + 0) 0 0) 0 0 8 [(0, .ref 1), (1, .int x1), (2, .int (x2 + 0)), (3, .int (x3 + 1))] [] h (kI K)) ∧ ((h_i h 228 x3.toNatClampNeg) = 2 → AW (m_X12_pointsOf (d + 0) 0 0) 0 0 8 [(0, .ref 1), (1, .int x1), (2, .int (x2 + 1)), (3, .int (x3 + 1))] [] h (kI K)))))) : AW (m_X12_pointsOf (d + 0) 0 0) 0 0 8 [(0, .ref 1), (1, .int x1), (2, .int x2), (3, .int x3)] [] h (kI K) := by
  refine aw_iload_n (i := 3) rfl d_X12_pointsOf_8 3 rfl ?_
  refine aw_sipush (v := 150) d_X12_pointsOf_9 is_150 ?_
  refine aw_iload_n (i := 1) rfl d_X12_pointsOf_12 1 rfl ?_
  refine aw_imul d_X12_pointsOf_13 ?_
  refine aw_aload_n (i := 0) rfl d_X12_pointsOf_14 0 rfl ?_
  refine aw_getr (k0 := 38) kc_12 (ws_1 w) (Nat.le_of_ble_eq_true rfl) tw_1780 d_X12_pointsOf_15 rfl (wr_1_38 w) ?_
  refine aw_iload_n (i := 1) rfl d_X12_pointsOf_18 1 rfl ?_
  obtain ⟨b1, k⟩ := k
  refine aw_iald (ws_227 w) b1 d_X12_pointsOf_19 ?_
  refine aw_iadd d_X12_pointsOf_20 ?_
  refine aw_icmp_ge (tgt := 48) d_X12_pointsOf_21 rfl (fun c2 => ?_) (fun c2 => ?_)
  · have k := k.1 c2
    refine aw_iload_n (i := 2) rfl d_X12_pointsOf_48 2 rfl ?_
    exact aw_iret rfl d_X12_pointsOf_49 ⟨Nat.le_refl _, Nat.le_refl _⟩ ⟨_, rfl, k⟩
  · have k := k.2 c2
    refine aw_iload_n (i := 2) rfl d_X12_pointsOf_24 2 rfl ?_
    refine aw_aload_n (i := 0) rfl d_X12_pointsOf_25 0 rfl ?_
    refine aw_getr (k0 := 39) kc_12 (ws_1 w) (Nat.le_of_ble_eq_true rfl) tw_1781 d_X12_pointsOf_26 rfl (wr_1_39 w) ?_
    refine aw_iload_n (i := 3) rfl d_X12_pointsOf_29 3 rfl ?_
    obtain ⟨b3, k⟩ := k
    refine aw_iald (ws_228 w) b3 d_X12_pointsOf_30 ?_
    refine aw_iconst (v := 2) d_X12_pointsOf_31 ic_2 ?_
    refine aw_icmp_ne (tgt := 39) d_X12_pointsOf_32 rfl (fun c4 => ?_) (fun c4 => ?_)
    · have k := k.1 c4
      refine aw_iconst (v := 0) d_X12_pointsOf_39 ic_0 ?_
      refine aw_iadd d_X12_pointsOf_40 ?_
      refine aw_istore_n (i := 2) rfl [(0, .ref 1), (1, .int x1), (2, .int (x2 + 0)), (3, .int x3)] d_X12_pointsOf_41 (Nat.le_of_ble_eq_true rfl) rfl rfl ?_
      refine aw_iinc (v := (x3 + 1)) [(0, .ref 1), (1, .int x1), (2, .int (x2 + 0)), (3, .int (x3 + 1))] d_X12_pointsOf_42 3 rfl rfl (Nat.le_of_ble_eq_true rfl) rfl rfl ?_
      refine aw_goto (tgt := 8) d_X12_pointsOf_45 rfl ?_
      exact k
    · have k := k.2 c4
      refine aw_iconst (v := 1) d_X12_pointsOf_35 ic_1 ?_
      refine aw_goto (tgt := 40) d_X12_pointsOf_36 rfl ?_
      refine aw_iadd d_X12_pointsOf_40 ?_
      refine aw_istore_n (i := 2) rfl [(0, .ref 1), (1, .int x1), (2, .int (x2 + 1)), (3, .int x3)] d_X12_pointsOf_41 (Nat.le_of_ble_eq_true rfl) rfl rfl ?_
      refine aw_iinc (v := (x3 + 1)) [(0, .ref 1), (1, .int x1), (2, .int (x2 + 1)), (3, .int (x3 + 1))] d_X12_pointsOf_42 3 rfl rfl (Nat.le_of_ble_eq_true rfl) rfl rfl ?_
      refine aw_goto (tgt := 8) d_X12_pointsOf_45 rfl ?_
      exact k
theorem t_X12_begin (d : Nat) (h : Hp_) (w : Wf h) (x1 : Int32) (x2 : Int32) (K : Int32 → Hp_ → Prop) (k : (¬ (0 ≤ x1 ∧ x1 ≤ (h_i h 1 7) - 1) → K 0 h) ∧ ((0 ≤ x1 ∧ x1 ≤ (h_i h 1 7) - 1) → (¬ (0 ≤ x2 ∧ x2 ≤ ((h_i h 1 42) - 1)) → K 0 h) ∧ ((0 ≤ x2 ∧ x2 ≤ ((h_i h 1 42) - 1)) → vp_in x1 12 ∧ ((¬ (h_i h 208 x1.toNatClampNeg) = 0 → K 0 h) ∧ ((h_i h 208 x1.toNatClampNeg) = 0 → Ci (m_X12_pointsOf (d + 0) 0 0) [.ref 1, .int x2] h (fun r11 h9 => Wf h9 ∧ ((((h_i h 1 63) + r11) ≤ 400 → vp_in x1 12 ∧ (vp_in x1 12 ∧ (vp_in x1 12 ∧ (vp_in x1 12 ∧ (vp_in x1 12 ∧ (vp_in x1 12 ∧ (AW (m_X12_begin (d + 4) 0 0) 0 0 106 [(0, .ref 1), (1, .int x1), (2, .int x2), (3, .int (150 * x2))] [] (h_im (h_im (h_im (h_im (h_im (h_im h9 208 x1.toNatClampNeg 1) 212 x1.toNatClampNeg x2) 213 x1.toNatClampNeg 0) 214 x1.toNatClampNeg (h_i h9 1 0)) 215 x1.toNatClampNeg (h_i h9 1 63)) 216 x1.toNatClampNeg (h_i h9 1 63)) (kI K)))))))) ∧ (¬ ((h_i h 1 63) + r11) ≤ 400 → K 0 h9)))))))) : Ci (m_X12_begin (d + 4) 0 0) [.ref 1, .int x1, .int x2] h K := by
  refine Ct.of (fun _ _ _ => trivial) pn_X12 (Nat.le_of_ble_eq_true rfl) ?_
  show AW (m_X12_begin (d + 4) 0 0) 0 0 0 [(0, .ref 1), (1, .int x1), (2, .int x2)] [] h (kI K)
  refine aw_aload_n (i := 0) rfl d_X12_begin_0 0 rfl ?_
  refine aw_iload_n (i := 1) rfl d_X12_begin_1 1 rfl ?_
  refine aw_Vi 1 [.int x1] [] d_X12_begin_2 (cV_X12_isMan (d + 1) 0 0) kc_12 (ws_1 w) tw_2163 rfl (rr0 (Nat.le_of_ble_eq_true rfl) (Nat.le_of_ble_eq_true rfl)) (Nat.le_of_ble_eq_true rfl) xs0 (s_X12_isMan _ _ w x1) (fun _ _ kk => ?_)
  obtain ⟨e1, e2⟩ := kk
  rw [e1, e2]
  refine aw_ifb_eq (tgt := 47) d_X12_begin_5 rfl (fun c3 => ?_) (fun c3 => ?_)
  · have k := k.1 c3
    refine aw_iconst (v := 0) d_X12_begin_47 ic_0 ?_
    exact aw_zret rfl rfl d_X12_begin_48 ⟨Nat.le_refl _, Nat.le_refl _⟩ ⟨_, rfl, k⟩
  · have k := k.2 c3
    refine aw_iload_n (i := 2) rfl d_X12_begin_8 2 rfl ?_
    refine aw_iconst (v := 0) d_X12_begin_9 ic_0 ?_
    refine aw_aload_n (i := 0) rfl d_X12_begin_10 0 rfl ?_
    refine aw_geti (k0 := 42) kc_12 (ws_1 w) (Nat.le_of_ble_eq_true rfl) tw_1784 d_X12_begin_11 rfl ?_
    refine aw_iconst (v := 1) d_X12_begin_14 ic_1 ?_
    refine aw_isub d_X12_begin_15 ?_
    refine aw_Si [.int x2, .int 0, .int ((h_i h 1 42) - 1)] [] d_X12_begin_16 (cS_X12_in (d + 0) 0 0) tw_2143 rfl (rr0 (Nat.le_of_ble_eq_true rfl) (Nat.le_of_ble_eq_true rfl)) (Nat.le_of_ble_eq_true rfl) xs0 (s_X12_in _ _ x2 0 ((h_i h 1 42) - 1)) (fun _ _ kk => ?_)
    obtain ⟨e4, e5⟩ := kk
    rw [e4, e5]
    refine aw_ifb_eq (tgt := 47) d_X12_begin_19 rfl (fun c6 => ?_) (fun c6 => ?_)
    · have k := k.1 c6
      refine aw_iconst (v := 0) d_X12_begin_47 ic_0 ?_
      exact aw_zret rfl rfl d_X12_begin_48 ⟨Nat.le_refl _, Nat.le_refl _⟩ ⟨_, rfl, k⟩
    · have k := k.2 c6
      refine aw_aload_n (i := 0) rfl d_X12_begin_22 0 rfl ?_
      refine aw_getr (k0 := 12) kc_12 (ws_1 w) (Nat.le_of_ble_eq_true rfl) tw_1754 d_X12_begin_23 rfl (wr_1_12 w) ?_
      refine aw_iload_n (i := 1) rfl d_X12_begin_26 1 rfl ?_
      obtain ⟨b7, k⟩ := k
      refine aw_iald (ws_208 w) b7 d_X12_begin_27 ?_
      refine aw_if_ne (tgt := 47) d_X12_begin_28 rfl (fun c8 => ?_) (fun c8 => ?_)
      · have k := k.1 c8
        refine aw_iconst (v := 0) d_X12_begin_47 ic_0 ?_
        exact aw_zret rfl rfl d_X12_begin_48 ⟨Nat.le_refl _, Nat.le_refl _⟩ ⟨_, rfl, k⟩
      · have k := k.2 c8
        refine aw_aload_n (i := 0) rfl d_X12_begin_31 0 rfl ?_
        refine aw_geti (k0 := 63) kc_12 (ws_1 w) (Nat.le_of_ble_eq_true rfl) tw_1805 d_X12_begin_32 rfl ?_
        refine aw_aload_n (i := 0) rfl d_X12_begin_35 0 rfl ?_
        refine aw_iload_n (i := 2) rfl d_X12_begin_36 2 rfl ?_
        refine aw_Vi 1 [.int x2] [.int (h_i h 1 63)] d_X12_begin_37 (cV_X12_pointsOf (d + 0) 0 0) kc_12 (ws_1 w) tw_2287 rfl (rr0 (Nat.le_of_ble_eq_true rfl) (Nat.le_of_ble_eq_true rfl)) (Nat.le_of_ble_eq_true rfl) xs0 k (fun r11 h9 kk => ?_)
        obtain ⟨w10, k⟩ := kk
        refine aw_iadd d_X12_begin_40 ?_
        refine aw_sipush (v := 400) d_X12_begin_41 is_400 ?_
        refine aw_icmp_le (tgt := 49) d_X12_begin_44 rfl (fun c12 => ?_) (fun c12 => ?_)
        · have k := k.1 c12
          refine aw_aload_n (i := 0) rfl d_X12_begin_49 0 rfl ?_
          refine aw_getr (k0 := 12) kc_12 (ws_1 w10) (Nat.le_of_ble_eq_true rfl) tw_1754 d_X12_begin_50 rfl (wr_1_12 w10) ?_
          refine aw_iload_n (i := 1) rfl d_X12_begin_53 1 rfl ?_
          refine aw_iconst (v := 1) d_X12_begin_54 ic_1 ?_
          obtain ⟨b13, k⟩ := k
          refine aw_iast (ws_208 w10) b13 d_X12_begin_55 ?_
          refine aw_aload_n (i := 0) rfl d_X12_begin_56 0 rfl ?_
          refine aw_getr (k0 := 16) kc_12 (ws_1 w10) (Nat.le_of_ble_eq_true rfl) tw_1758 d_X12_begin_57 rfl (wr_1_16 w10) ?_
          refine aw_iload_n (i := 1) rfl d_X12_begin_60 1 rfl ?_
          refine aw_iload_n (i := 2) rfl d_X12_begin_61 2 rfl ?_
          obtain ⟨b14, k⟩ := k
          refine aw_iast (ws_212 w10) b14 d_X12_begin_62 ?_
          refine aw_aload_n (i := 0) rfl d_X12_begin_63 0 rfl ?_
          refine aw_getr (k0 := 17) kc_12 (ws_1 w10) (Nat.le_of_ble_eq_true rfl) tw_1759 d_X12_begin_64 rfl (wr_1_17 w10) ?_
          refine aw_iload_n (i := 1) rfl d_X12_begin_67 1 rfl ?_
          refine aw_iconst (v := 0) d_X12_begin_68 ic_0 ?_
          obtain ⟨b15, k⟩ := k
          refine aw_iast (ws_213 w10) b15 d_X12_begin_69 ?_
          refine aw_aload_n (i := 0) rfl d_X12_begin_70 0 rfl ?_
          refine aw_getr (k0 := 18) kc_12 (ws_1 w10) (Nat.le_of_ble_eq_true rfl) tw_1760 d_X12_begin_71 rfl (wr_1_18 w10) ?_
          refine aw_iload_n (i := 1) rfl d_X12_begin_74 1 rfl ?_
          refine aw_aload_n (i := 0) rfl d_X12_begin_75 0 rfl ?_
          refine aw_geti (k0 := 0) kc_12 (ws_1 w10) (Nat.le_of_ble_eq_true rfl) tw_1742 d_X12_begin_76 rfl ?_
          refine aw_vi (v2 := (h_i h9 1 0)) (rfl) ?_
          obtain ⟨b16, k⟩ := k
          refine aw_iast (ws_214 w10) b16 d_X12_begin_79 ?_
          refine aw_aload_n (i := 0) rfl d_X12_begin_80 0 rfl ?_
          refine aw_getr (k0 := 19) kc_12 (ws_1 w10) (Nat.le_of_ble_eq_true rfl) tw_1761 d_X12_begin_81 rfl (wr_1_19 w10) ?_
          refine aw_iload_n (i := 1) rfl d_X12_begin_84 1 rfl ?_
          refine aw_aload_n (i := 0) rfl d_X12_begin_85 0 rfl ?_
          refine aw_geti (k0 := 63) kc_12 (ws_1 w10) (Nat.le_of_ble_eq_true rfl) tw_1805 d_X12_begin_86 rfl ?_
          refine aw_vi (v2 := (h_i h9 1 63)) (rfl) ?_
          obtain ⟨b17, k⟩ := k
          refine aw_iast (ws_215 w10) b17 d_X12_begin_89 ?_
          refine aw_aload_n (i := 0) rfl d_X12_begin_90 0 rfl ?_
          refine aw_getr (k0 := 20) kc_12 (ws_1 w10) (Nat.le_of_ble_eq_true rfl) tw_1762 d_X12_begin_91 rfl (wr_1_20 w10) ?_
          refine aw_iload_n (i := 1) rfl d_X12_begin_94 1 rfl ?_
          refine aw_aload_n (i := 0) rfl d_X12_begin_95 0 rfl ?_
          refine aw_geti (k0 := 63) kc_12 (ws_1 w10) (Nat.le_of_ble_eq_true rfl) tw_1805 d_X12_begin_96 rfl ?_
          refine aw_vi (v2 := (h_i h9 1 63)) (rfl) ?_
          obtain ⟨b18, k⟩ := k
          refine aw_iast (ws_216 w10) b18 d_X12_begin_99 ?_
          refine aw_sipush (v := 150) d_X12_begin_100 is_150 ?_
          refine aw_iload_n (i := 2) rfl d_X12_begin_103 2 rfl ?_
          refine aw_imul d_X12_begin_104 ?_
          refine aw_istore_n (i := 3) rfl [(0, .ref 1), (1, .int x1), (2, .int x2), (3, .int (150 * x2))] d_X12_begin_105 (Nat.le_of_ble_eq_true rfl) rfl rfl ?_
          exact k
        · have k := k.2 c12
          refine aw_iconst (v := 0) d_X12_begin_47 ic_0 ?_
          exact aw_zret rfl rfl d_X12_begin_48 ⟨Nat.le_refl _, Nat.le_refl _⟩ ⟨_, rfl, k⟩
theorem t_X12_begin_106 (d : Nat) (h : Hp_) (w : Wf h) (x1 : Int32) (x2 : Int32) (x3 : Int32) (K : Int32 → Hp_ → Prop) (k : vp_in x2 12 ∧ ((((150 * x2) + (h_i h 227 x2.toNatClampNeg)) ≤ x3 → vp_in x1 12 ∧ (Cv (m_X12_goOn (d + 3) 0 0) [.ref 1, .int x1] (h_im h 217 x1.toNatClampNeg (h_i h 1 63)) (fun h22 => Wf h22 ∧ (K 1 h22)))) ∧ (¬ ((150 * x2) + (h_i h 227 x2.toNatClampNeg)) ≤ x3 → vp_in x3 1800 ∧ ((¬ (h_i h 228 x3.toNatClampNeg) = 2 → AW (m_X12_begin (d + 4) 0 0) 0 0 106 [(0, .ref 1), (1, .int x1), (2, .int x2), (3, .int (x3 + 1))] [] h (kI K)) ∧ ((h_i h 228 x3.toNatClampNeg) = 2 → vp_in (h_i h 1 63) 400 ∧ (vp_in x3 1800 ∧ (vp_in (h_i h 1 63) 400 ∧ (vp_in x3 1800 ∧ (vp_in (h_i h 1 63) 400 ∧ (vp_in (h_i h 1 63) 400 ∧ (vp_in (h_i h 1 63) 400 ∧ (vp_in (h_i h 1 63) 400 ∧ (AW (m_X12_begin (d + 4) 0 0) 0 0 106 [(0, .ref 1), (1, .int x1), (2, .int x2), (3, .int (x3 + 1))] [] (h_im (h_im (h_im (h_im (h_im (h_im (h_im h 238 ((h_i h 1 63) : Int32).toNatClampNeg x1) 239 ((h_i h 1 63) : Int32).toNatClampNeg (h_i h 229 x3.toNatClampNeg)) 240 ((h_i h 1 63) : Int32).toNatClampNeg ((h_i h 1 0) + (h_i h 230 x3.toNatClampNeg))) 241 ((h_i h 1 63) : Int32).toNatClampNeg (-1)) 242 ((h_i h 1 63) : Int32).toNatClampNeg (-1)) 244 ((h_i h 1 63) : Int32).toNatClampNeg (h_i h 1 0)) 1 63 ((h_i h 1 63) + 1)) (kI K)))))))))))))) : AW (m_X12_begin (d + 4) 0 0) 0 0 106 [(0, .ref 1), (1, .int x1), (2, .int x2), (3, .int x3)] [] h (kI K) := by
  refine aw_iload_n (i := 3) rfl d_X12_begin_106 3 rfl ?_
  refine aw_sipush (v := 150) d_X12_begin_107 is_150 ?_
  refine aw_iload_n (i := 2) rfl d_X12_begin_110 2 rfl ?_
  refine aw_imul d_X12_begin_111 ?_
  refine aw_aload_n (i := 0) rfl d_X12_begin_112 0 rfl ?_
  refine aw_getr (k0 := 38) kc_12 (ws_1 w) (Nat.le_of_ble_eq_true rfl) tw_1780 d_X12_begin_113 rfl (wr_1_38 w) ?_
  refine aw_iload_n (i := 2) rfl d_X12_begin_116 2 rfl ?_
  obtain ⟨b19, k⟩ := k
  refine aw_iald (ws_227 w) b19 d_X12_begin_117 ?_
  refine aw_iadd d_X12_begin_118 ?_
  refine aw_icmp_ge (tgt := 226) d_X12_begin_119 rfl (fun c20 => ?_) (fun c20 => ?_)
  · have k := k.1 c20
    refine aw_aload_n (i := 0) rfl d_X12_begin_226 0 rfl ?_
    refine aw_getr (k0 := 21) kc_12 (ws_1 w) (Nat.le_of_ble_eq_true rfl) tw_1763 d_X12_begin_227 rfl (wr_1_21 w) ?_
    refine aw_iload_n (i := 1) rfl d_X12_begin_230 1 rfl ?_
    refine aw_aload_n (i := 0) rfl d_X12_begin_231 0 rfl ?_
    refine aw_geti (k0 := 63) kc_12 (ws_1 w) (Nat.le_of_ble_eq_true rfl) tw_1805 d_X12_begin_232 rfl ?_
    obtain ⟨b21, k⟩ := k
    refine aw_iast (ws_217 w) b21 d_X12_begin_235 ?_
    refine aw_aload_n (i := 0) rfl d_X12_begin_236 0 rfl ?_
    refine aw_iload_n (i := 1) rfl d_X12_begin_237 1 rfl ?_
    refine aw_Vv 1 [.int x1] [] d_X12_begin_238 (cV_X12_goOn (d + 3) 0 0) kc_12 (ws_1 w) tw_2336 rfl (rr0 (Nat.le_of_ble_eq_true rfl) (Nat.le_of_ble_eq_true rfl)) (Nat.le_of_ble_eq_true rfl) xs0 k (fun h22 kk => ?_)
    obtain ⟨w23, k⟩ := kk
    refine aw_iconst (v := 1) d_X12_begin_241 ic_1 ?_
    exact aw_zret rfl rfl d_X12_begin_242 ⟨Nat.le_refl _, Nat.le_refl _⟩ ⟨_, rfl, k⟩
  · have k := k.2 c20
    refine aw_aload_n (i := 0) rfl d_X12_begin_122 0 rfl ?_
    refine aw_getr (k0 := 39) kc_12 (ws_1 w) (Nat.le_of_ble_eq_true rfl) tw_1781 d_X12_begin_123 rfl (wr_1_39 w) ?_
    refine aw_iload_n (i := 3) rfl d_X12_begin_126 3 rfl ?_
    obtain ⟨b25, k⟩ := k
    refine aw_iald (ws_228 w) b25 d_X12_begin_127 ?_
    refine aw_iconst (v := 2) d_X12_begin_128 ic_2 ?_
    refine aw_icmp_ne (tgt := 220) d_X12_begin_129 rfl (fun c26 => ?_) (fun c26 => ?_)
    · have k := k.1 c26
      refine aw_iinc (v := (x3 + 1)) [(0, .ref 1), (1, .int x1), (2, .int x2), (3, .int (x3 + 1))] d_X12_begin_220 3 rfl rfl (Nat.le_of_ble_eq_true rfl) rfl rfl ?_
      refine aw_goto (tgt := 106) d_X12_begin_223 rfl ?_
      exact k
    · have k := k.2 c26
      refine aw_aload_n (i := 0) rfl d_X12_begin_132 0 rfl ?_
      refine aw_getr (k0 := 53) kc_12 (ws_1 w) (Nat.le_of_ble_eq_true rfl) tw_1795 d_X12_begin_133 rfl (wr_1_53 w) ?_
      refine aw_aload_n (i := 0) rfl d_X12_begin_136 0 rfl ?_
      refine aw_geti (k0 := 63) kc_12 (ws_1 w) (Nat.le_of_ble_eq_true rfl) tw_1805 d_X12_begin_137 rfl ?_
      refine aw_iload_n (i := 1) rfl d_X12_begin_140 1 rfl ?_
      obtain ⟨b27, k⟩ := k
      refine aw_iast (ws_238 w) b27 d_X12_begin_141 ?_
      refine aw_aload_n (i := 0) rfl d_X12_begin_142 0 rfl ?_
      refine aw_getr (k0 := 54) kc_12 (ws_1 w) (Nat.le_of_ble_eq_true rfl) tw_1796 d_X12_begin_143 rfl (wr_1_54 w) ?_
      refine aw_aload_n (i := 0) rfl d_X12_begin_146 0 rfl ?_
      refine aw_geti (k0 := 63) kc_12 (ws_1 w) (Nat.le_of_ble_eq_true rfl) tw_1805 d_X12_begin_147 rfl ?_
      refine aw_vi (v2 := (h_i h 1 63)) (rfl) ?_
      refine aw_aload_n (i := 0) rfl d_X12_begin_150 0 rfl ?_
      refine aw_getr (k0 := 40) kc_12 (ws_1 w) (Nat.le_of_ble_eq_true rfl) tw_1782 d_X12_begin_151 rfl (wr_1_40 w) ?_
      refine aw_iload_n (i := 3) rfl d_X12_begin_154 3 rfl ?_
      obtain ⟨b28, k⟩ := k
      refine aw_iald (ws_229 w) b28 d_X12_begin_155 ?_
      refine aw_vi (v2 := (h_i h 229 x3.toNatClampNeg)) (rfl) ?_
      obtain ⟨b29, k⟩ := k
      refine aw_iast (ws_239 w) b29 d_X12_begin_156 ?_
      refine aw_aload_n (i := 0) rfl d_X12_begin_157 0 rfl ?_
      refine aw_getr (k0 := 55) kc_12 (ws_1 w) (Nat.le_of_ble_eq_true rfl) tw_1797 d_X12_begin_158 rfl (wr_1_55 w) ?_
      refine aw_aload_n (i := 0) rfl d_X12_begin_161 0 rfl ?_
      refine aw_geti (k0 := 63) kc_12 (ws_1 w) (Nat.le_of_ble_eq_true rfl) tw_1805 d_X12_begin_162 rfl ?_
      refine aw_vi (v2 := (h_i h 1 63)) (rfl) ?_
      refine aw_aload_n (i := 0) rfl d_X12_begin_165 0 rfl ?_
      refine aw_geti (k0 := 0) kc_12 (ws_1 w) (Nat.le_of_ble_eq_true rfl) tw_1742 d_X12_begin_166 rfl ?_
      refine aw_vi (v2 := (h_i h 1 0)) (rfl) ?_
      refine aw_aload_n (i := 0) rfl d_X12_begin_169 0 rfl ?_
      refine aw_getr (k0 := 41) kc_12 (ws_1 w) (Nat.le_of_ble_eq_true rfl) tw_1783 d_X12_begin_170 rfl (wr_1_41 w) ?_
      refine aw_iload_n (i := 3) rfl d_X12_begin_173 3 rfl ?_
      obtain ⟨b30, k⟩ := k
      refine aw_iald (ws_230 w) b30 d_X12_begin_174 ?_
      refine aw_vi (v2 := (h_i h 230 x3.toNatClampNeg)) (rfl) ?_
      refine aw_iadd d_X12_begin_175 ?_
      obtain ⟨b31, k⟩ := k
      refine aw_iast (ws_240 w) b31 d_X12_begin_176 ?_
      refine aw_aload_n (i := 0) rfl d_X12_begin_177 0 rfl ?_
      refine aw_getr (k0 := 56) kc_12 (ws_1 w) (Nat.le_of_ble_eq_true rfl) tw_1798 d_X12_begin_178 rfl (wr_1_56 w) ?_
      refine aw_aload_n (i := 0) rfl d_X12_begin_181 0 rfl ?_
      refine aw_geti (k0 := 63) kc_12 (ws_1 w) (Nat.le_of_ble_eq_true rfl) tw_1805 d_X12_begin_182 rfl ?_
      refine aw_vi (v2 := (h_i h 1 63)) (rfl) ?_
      refine aw_iconst (v := (-1)) d_X12_begin_185 ic_m1 ?_
      obtain ⟨b32, k⟩ := k
      refine aw_iast (ws_241 w) b32 d_X12_begin_186 ?_
      refine aw_aload_n (i := 0) rfl d_X12_begin_187 0 rfl ?_
      refine aw_getr (k0 := 57) kc_12 (ws_1 w) (Nat.le_of_ble_eq_true rfl) tw_1799 d_X12_begin_188 rfl (wr_1_57 w) ?_
      refine aw_aload_n (i := 0) rfl d_X12_begin_191 0 rfl ?_
      refine aw_geti (k0 := 63) kc_12 (ws_1 w) (Nat.le_of_ble_eq_true rfl) tw_1805 d_X12_begin_192 rfl ?_
      refine aw_vi (v2 := (h_i h 1 63)) (rfl) ?_
      refine aw_iconst (v := (-1)) d_X12_begin_195 ic_m1 ?_
      obtain ⟨b33, k⟩ := k
      refine aw_iast (ws_242 w) b33 d_X12_begin_196 ?_
      refine aw_aload_n (i := 0) rfl d_X12_begin_197 0 rfl ?_
      refine aw_getr (k0 := 59) kc_12 (ws_1 w) (Nat.le_of_ble_eq_true rfl) tw_1801 d_X12_begin_198 rfl (wr_1_59 w) ?_
      refine aw_aload_n (i := 0) rfl d_X12_begin_201 0 rfl ?_
      refine aw_geti (k0 := 63) kc_12 (ws_1 w) (Nat.le_of_ble_eq_true rfl) tw_1805 d_X12_begin_202 rfl ?_
      refine aw_vi (v2 := (h_i h 1 63)) (rfl) ?_
      refine aw_aload_n (i := 0) rfl d_X12_begin_205 0 rfl ?_
      refine aw_geti (k0 := 0) kc_12 (ws_1 w) (Nat.le_of_ble_eq_true rfl) tw_1742 d_X12_begin_206 rfl ?_
      refine aw_vi (v2 := (h_i h 1 0)) (rfl) ?_
      obtain ⟨b34, k⟩ := k
      refine aw_iast (ws_244 w) b34 d_X12_begin_209 ?_
      refine aw_aload_n (i := 0) rfl d_X12_begin_210 0 rfl ?_
      refine aw_dup d_X12_begin_211 rfl ?_
      refine aw_geti (k0 := 63) kc_12 (ws_1 w) (Nat.le_of_ble_eq_true rfl) tw_1805 d_X12_begin_212 rfl ?_
      refine aw_vi (v2 := (h_i h 1 63)) (rfl) ?_
      refine aw_iconst (v := 1) d_X12_begin_215 ic_1 ?_
      refine aw_iadd d_X12_begin_216 ?_
      refine aw_puti (k0 := 63) kc_12 (ws_1 w) (Nat.le_of_ble_eq_true rfl) tw_1805 d_X12_begin_217 rfl rfl nf_i ?_
      refine aw_iinc (v := (x3 + 1)) [(0, .ref 1), (1, .int x1), (2, .int x2), (3, .int (x3 + 1))] d_X12_begin_220 3 rfl rfl (Nat.le_of_ble_eq_true rfl) rfl rfl ?_
      refine aw_goto (tgt := 106) d_X12_begin_223 rfl ?_
      exact k
theorem t_X12_draw (d : Nat) (h : Hp_) (w : Wf h) (x1 : Int32) (x2 : Int32) (x3 : Int32) (K : Int32 → Hp_ → Prop) (k : (¬ (0 ≤ x1 ∧ x1 ≤ (h_i h 1 7) - 1) → K 0 h) ∧ ((0 ≤ x1 ∧ x1 ≤ (h_i h 1 7) - 1) → (¬ (0 ≤ x2 ∧ x2 ≤ 15) → K 0 h) ∧ ((0 ≤ x2 ∧ x2 ≤ 15) → (¬ ((h_i h 1 0) ≤ x3 ∧ x3 ≤ 30000) → K 0 h) ∧ (((h_i h 1 0) ≤ x3 ∧ x3 ≤ 30000) → vp_in x1 12 ∧ (Ci (m_X12_walkOf (d + 0) 0 0) [.ref 1, .int (h_i h 206 x1.toNatClampNeg), .int x2] h (fun r13 h11 => Wf h11 ∧ ((r13 = (-1) → K 0 h11) ∧ (¬ r13 = (-1) → vp_in x1 12 ∧ (((h_i h11 208 x1.toNatClampNeg) = 3 → K 0 h11) ∧ (¬ (h_i h11 208 x1.toNatClampNeg) = 3 → vp_in x1 12 ∧ ((¬ (h_i h11 208 x1.toNatClampNeg) = 4 → vp_in x1 12 ∧ ((¬ (h_i h11 208 x1.toNatClampNeg) = 1 → vp_in x1 12 ∧ (vp_in x1 12 ∧ (vp_in x1 12 ∧ (vp_in x1 12 ∧ (vp_in x1 12 ∧ ((¬ (h_i h11 210 x1.toNatClampNeg) = (-1) → vp_in x1 12 ∧ (vp_in x1 12 ∧ ((¬ (h_i h11 210 x1.toNatClampNeg) = (-1) → K 1 (h_im (h_im (h_im (h_im (h_im h11 213 x1.toNatClampNeg (-1)) 208 x1.toNatClampNeg 3) 218 x1.toNatClampNeg x2) 219 x1.toNatClampNeg x3) 248 x1.toNatClampNeg (vp_nar .boolean 0))) ∧ ((h_i h11 210 x1.toNatClampNeg) = (-1) → Cv (m_X12_goDrawn (d + 4) 0 0) [.ref 1, .int x1] (h_im (h_im (h_im (h_im (h_im h11 213 x1.toNatClampNeg (-1)) 208 x1.toNatClampNeg 3) 218 x1.toNatClampNeg x2) 219 x1.toNatClampNeg x3) 248 x1.toNatClampNeg (vp_nar .boolean 0)) (fun h30 => Wf h30 ∧ (K 1 h30)))))) ∧ ((h_i h11 210 x1.toNatClampNeg) = (-1) → vp_in x1 12 ∧ (vp_in x1 12 ∧ ((¬ (h_i h11 210 x1.toNatClampNeg) = (-1) → K 1 (h_im (h_im (h_im (h_im (h_im h11 213 x1.toNatClampNeg (-1)) 208 x1.toNatClampNeg 3) 218 x1.toNatClampNeg x2) 219 x1.toNatClampNeg x3) 248 x1.toNatClampNeg (vp_nar .boolean 1))) ∧ ((h_i h11 210 x1.toNatClampNeg) = (-1) → Cv (m_X12_goDrawn (d + 4) 0 0) [.ref 1, .int x1] (h_im (h_im (h_im (h_im (h_im h11 213 x1.toNatClampNeg (-1)) 208 x1.toNatClampNeg 3) 218 x1.toNatClampNeg x2) 219 x1.toNatClampNeg x3) 248 x1.toNatClampNeg (vp_nar .boolean 1)) (fun h36 => Wf h36 ∧ (K 1 h36)))))))))))) ∧ ((h_i h11 208 x1.toNatClampNeg) = 1 → Cv (m_X12_drop (d + 1) 0 0) [.ref 1, .int x1, .int 3] h11 (fun h39 => Wf h39 ∧ (vp_in x1 12 ∧ (vp_in x1 12 ∧ (vp_in x1 12 ∧ (vp_in x1 12 ∧ (vp_in x1 12 ∧ ((¬ (h_i h39 210 x1.toNatClampNeg) = (-1) → vp_in x1 12 ∧ (vp_in x1 12 ∧ ((¬ (h_i h39 210 x1.toNatClampNeg) = (-1) → K 1 (h_im (h_im (h_im (h_im (h_im h39 213 x1.toNatClampNeg (-1)) 208 x1.toNatClampNeg 3) 218 x1.toNatClampNeg x2) 219 x1.toNatClampNeg x3) 248 x1.toNatClampNeg (vp_nar .boolean 0))) ∧ ((h_i h39 210 x1.toNatClampNeg) = (-1) → Cv (m_X12_goDrawn (d + 4) 0 0) [.ref 1, .int x1] (h_im (h_im (h_im (h_im (h_im h39 213 x1.toNatClampNeg (-1)) 208 x1.toNatClampNeg 3) 218 x1.toNatClampNeg x2) 219 x1.toNatClampNeg x3) 248 x1.toNatClampNeg (vp_nar .boolean 0)) (fun h51 => Wf h51 ∧ (K 1 h51)))))) ∧ ((h_i h39 210 x1.toNatClampNeg) = (-1) → vp_in x1 12 ∧ (vp_in x1 12 ∧ ((¬ (h_i h39 210 x1.toNatClampNeg) = (-1) → K 1 (h_im (h_im (h_im (h_im (h_im h39 213 x1.toNatClampNeg (-1)) 208 x1.toNatClampNeg 3) 218 x1.toNatClampNeg x2) 219 x1.toNatClampNeg x3) 248 x1.toNatClampNeg (vp_nar .boolean 1))) ∧ ((h_i h39 210 x1.toNatClampNeg) = (-1) → Cv (m_X12_goDrawn (d + 4) 0 0) [.ref 1, .int x1] (h_im (h_im (h_im (h_im (h_im h39 213 x1.toNatClampNeg (-1)) 208 x1.toNatClampNeg 3) 218 x1.toNatClampNeg x2) 219 x1.toNatClampNeg x3) 248 x1.toNatClampNeg (vp_nar .boolean 1)) (fun h57 => Wf h57 ∧ (K 1 h57)))))))))))))))) ∧ ((h_i h11 208 x1.toNatClampNeg) = 4 → K 0 h11)))))))))))) : Ci (m_X12_draw (d + 5) 0 0) [.ref 1, .int x1, .int x2, .int x3] h K := by
  refine Ct.of (fun _ _ _ => trivial) pn_X12 (Nat.le_of_ble_eq_true rfl) ?_
  show AW (m_X12_draw (d + 5) 0 0) 0 0 0 [(0, .ref 1), (1, .int x1), (2, .int x2), (3, .int x3)] [] h (kI K)
  refine aw_aload_n (i := 0) rfl d_X12_draw_0 0 rfl ?_
  refine aw_iload_n (i := 1) rfl d_X12_draw_1 1 rfl ?_
  refine aw_Vi 1 [.int x1] [] d_X12_draw_2 (cV_X12_isMan (d + 1) 0 0) kc_12 (ws_1 w) tw_2163 rfl (rr0 (Nat.le_of_ble_eq_true rfl) (Nat.le_of_ble_eq_true rfl)) (Nat.le_of_ble_eq_true rfl) xs0 (s_X12_isMan _ _ w x1) (fun _ _ kk => ?_)
  obtain ⟨e1, e2⟩ := kk
  rw [e1, e2]
  refine aw_ifb_eq (tgt := 64) d_X12_draw_5 rfl (fun c3 => ?_) (fun c3 => ?_)
  · have k := k.1 c3
    refine aw_iconst (v := 0) d_X12_draw_64 ic_0 ?_
    exact aw_zret rfl rfl d_X12_draw_65 ⟨Nat.le_refl _, Nat.le_refl _⟩ ⟨_, rfl, k⟩
  · have k := k.2 c3
    refine aw_iload_n (i := 2) rfl d_X12_draw_8 2 rfl ?_
    refine aw_Si [.int x2] [] d_X12_draw_9 (cS_X12_isPlace (d + 1) 0 0) tw_2140 rfl (rr0 (Nat.le_of_ble_eq_true rfl) (Nat.le_of_ble_eq_true rfl)) (Nat.le_of_ble_eq_true rfl) xs0 (s_X12_isPlace _ _ x2) (fun _ _ kk => ?_)
    obtain ⟨e4, e5⟩ := kk
    rw [e4, e5]
    refine aw_ifb_eq (tgt := 64) d_X12_draw_12 rfl (fun c6 => ?_) (fun c6 => ?_)
    · have k := k.1 c6
      refine aw_iconst (v := 0) d_X12_draw_64 ic_0 ?_
      exact aw_zret rfl rfl d_X12_draw_65 ⟨Nat.le_refl _, Nat.le_refl _⟩ ⟨_, rfl, k⟩
    · have k := k.2 c6
      refine aw_iload_n (i := 3) rfl d_X12_draw_15 3 rfl ?_
      refine aw_aload_n (i := 0) rfl d_X12_draw_16 0 rfl ?_
      refine aw_geti (k0 := 0) kc_12 (ws_1 w) (Nat.le_of_ble_eq_true rfl) tw_1742 d_X12_draw_17 rfl ?_
      refine aw_sipush (v := 30000) d_X12_draw_20 is_30000 ?_
      refine aw_Si [.int x3, .int (h_i h 1 0), .int 30000] [] d_X12_draw_23 (cS_X12_in (d + 0) 0 0) tw_2143 rfl (rr0 (Nat.le_of_ble_eq_true rfl) (Nat.le_of_ble_eq_true rfl)) (Nat.le_of_ble_eq_true rfl) xs0 (s_X12_in _ _ x3 (h_i h 1 0) 30000) (fun _ _ kk => ?_)
      obtain ⟨e7, e8⟩ := kk
      rw [e7, e8]
      refine aw_ifb_eq (tgt := 64) d_X12_draw_26 rfl (fun c9 => ?_) (fun c9 => ?_)
      · have k := k.1 c9
        refine aw_iconst (v := 0) d_X12_draw_64 ic_0 ?_
        exact aw_zret rfl rfl d_X12_draw_65 ⟨Nat.le_refl _, Nat.le_refl _⟩ ⟨_, rfl, k⟩
      · have k := k.2 c9
        refine aw_aload_n (i := 0) rfl d_X12_draw_29 0 rfl ?_
        refine aw_aload_n (i := 0) rfl d_X12_draw_30 0 rfl ?_
        refine aw_getr (k0 := 10) kc_12 (ws_1 w) (Nat.le_of_ble_eq_true rfl) tw_1752 d_X12_draw_31 rfl (wr_1_10 w) ?_
        refine aw_iload_n (i := 1) rfl d_X12_draw_34 1 rfl ?_
        obtain ⟨b10, k⟩ := k
        refine aw_iald (ws_206 w) b10 d_X12_draw_35 ?_
        refine aw_iload_n (i := 2) rfl d_X12_draw_36 2 rfl ?_
        refine aw_Vi 1 [.int (h_i h 206 x1.toNatClampNeg), .int x2] [] d_X12_draw_37 (cV_X12_walkOf (d + 0) 0 0) kc_12 (ws_1 w) tw_2150 rfl (rr0 (Nat.le_of_ble_eq_true rfl) (Nat.le_of_ble_eq_true rfl)) (Nat.le_of_ble_eq_true rfl) xs0 k (fun r13 h11 kk => ?_)
        obtain ⟨w12, k⟩ := kk
        refine aw_iconst (v := (-1)) d_X12_draw_40 ic_m1 ?_
        refine aw_icmp_eq (tgt := 64) d_X12_draw_41 rfl (fun c14 => ?_) (fun c14 => ?_)
        · have k := k.1 c14
          refine aw_iconst (v := 0) d_X12_draw_64 ic_0 ?_
          exact aw_zret rfl rfl d_X12_draw_65 ⟨Nat.le_refl _, Nat.le_refl _⟩ ⟨_, rfl, k⟩
        · have k := k.2 c14
          refine aw_aload_n (i := 0) rfl d_X12_draw_44 0 rfl ?_
          refine aw_getr (k0 := 12) kc_12 (ws_1 w12) (Nat.le_of_ble_eq_true rfl) tw_1754 d_X12_draw_45 rfl (wr_1_12 w12) ?_
          refine aw_iload_n (i := 1) rfl d_X12_draw_48 1 rfl ?_
          obtain ⟨b15, k⟩ := k
          refine aw_iald (ws_208 w12) b15 d_X12_draw_49 ?_
          refine aw_iconst (v := 3) d_X12_draw_50 ic_3 ?_
          refine aw_icmp_eq (tgt := 64) d_X12_draw_51 rfl (fun c16 => ?_) (fun c16 => ?_)
          · have k := k.1 c16
            refine aw_iconst (v := 0) d_X12_draw_64 ic_0 ?_
            exact aw_zret rfl rfl d_X12_draw_65 ⟨Nat.le_refl _, Nat.le_refl _⟩ ⟨_, rfl, k⟩
          · have k := k.2 c16
            refine aw_aload_n (i := 0) rfl d_X12_draw_54 0 rfl ?_
            refine aw_getr (k0 := 12) kc_12 (ws_1 w12) (Nat.le_of_ble_eq_true rfl) tw_1754 d_X12_draw_55 rfl (wr_1_12 w12) ?_
            refine aw_iload_n (i := 1) rfl d_X12_draw_58 1 rfl ?_
            obtain ⟨b17, k⟩ := k
            refine aw_iald (ws_208 w12) b17 d_X12_draw_59 ?_
            refine aw_iconst (v := 4) d_X12_draw_60 ic_4 ?_
            refine aw_icmp_ne (tgt := 66) d_X12_draw_61 rfl (fun c18 => ?_) (fun c18 => ?_)
            · have k := k.1 c18
              refine aw_aload_n (i := 0) rfl d_X12_draw_66 0 rfl ?_
              refine aw_getr (k0 := 12) kc_12 (ws_1 w12) (Nat.le_of_ble_eq_true rfl) tw_1754 d_X12_draw_67 rfl (wr_1_12 w12) ?_
              refine aw_iload_n (i := 1) rfl d_X12_draw_70 1 rfl ?_
              obtain ⟨b19, k⟩ := k
              refine aw_iald (ws_208 w12) b19 d_X12_draw_71 ?_
              refine aw_iconst (v := 1) d_X12_draw_72 ic_1 ?_
              refine aw_icmp_ne (tgt := 82) d_X12_draw_73 rfl (fun c20 => ?_) (fun c20 => ?_)
              · have k := k.1 c20
                refine aw_aload_n (i := 0) rfl d_X12_draw_82 0 rfl ?_
                refine aw_getr (k0 := 17) kc_12 (ws_1 w12) (Nat.le_of_ble_eq_true rfl) tw_1759 d_X12_draw_83 rfl (wr_1_17 w12) ?_
                refine aw_iload_n (i := 1) rfl d_X12_draw_86 1 rfl ?_
                refine aw_iconst (v := (-1)) d_X12_draw_87 ic_m1 ?_
                obtain ⟨b21, k⟩ := k
                refine aw_iast (ws_213 w12) b21 d_X12_draw_88 ?_
                refine aw_aload_n (i := 0) rfl d_X12_draw_89 0 rfl ?_
                refine aw_getr (k0 := 12) kc_12 (ws_1 w12) (Nat.le_of_ble_eq_true rfl) tw_1754 d_X12_draw_90 rfl (wr_1_12 w12) ?_
                refine aw_iload_n (i := 1) rfl d_X12_draw_93 1 rfl ?_
                refine aw_iconst (v := 3) d_X12_draw_94 ic_3 ?_
                obtain ⟨b22, k⟩ := k
                refine aw_iast (ws_208 w12) b22 d_X12_draw_95 ?_
                refine aw_aload_n (i := 0) rfl d_X12_draw_96 0 rfl ?_
                refine aw_getr (k0 := 22) kc_12 (ws_1 w12) (Nat.le_of_ble_eq_true rfl) tw_1764 d_X12_draw_97 rfl (wr_1_22 w12) ?_
                refine aw_iload_n (i := 1) rfl d_X12_draw_100 1 rfl ?_
                refine aw_iload_n (i := 2) rfl d_X12_draw_101 2 rfl ?_
                obtain ⟨b23, k⟩ := k
                refine aw_iast (ws_218 w12) b23 d_X12_draw_102 ?_
                refine aw_aload_n (i := 0) rfl d_X12_draw_103 0 rfl ?_
                refine aw_getr (k0 := 23) kc_12 (ws_1 w12) (Nat.le_of_ble_eq_true rfl) tw_1765 d_X12_draw_104 rfl (wr_1_23 w12) ?_
                refine aw_iload_n (i := 1) rfl d_X12_draw_107 1 rfl ?_
                refine aw_iload_n (i := 3) rfl d_X12_draw_108 3 rfl ?_
                obtain ⟨b24, k⟩ := k
                refine aw_iast (ws_219 w12) b24 d_X12_draw_109 ?_
                refine aw_aload_n (i := 0) rfl d_X12_draw_110 0 rfl ?_
                refine aw_getr (k0 := 65) kc_12 (ws_1 w12) (Nat.le_of_ble_eq_true rfl) tw_1807 d_X12_draw_111 rfl (wr_1_65 w12) ?_
                refine aw_iload_n (i := 1) rfl d_X12_draw_114 1 rfl ?_
                refine aw_aload_n (i := 0) rfl d_X12_draw_115 0 rfl ?_
                refine aw_getr (k0 := 14) kc_12 (ws_1 w12) (Nat.le_of_ble_eq_true rfl) tw_1756 d_X12_draw_116 rfl (wr_1_14 w12) ?_
                refine aw_iload_n (i := 1) rfl d_X12_draw_119 1 rfl ?_
                obtain ⟨b25, k⟩ := k
                refine aw_iald (ws_210 w12) b25 d_X12_draw_120 ?_
                refine aw_vi (v2 := (h_i h11 210 x1.toNatClampNeg)) (rfl) ?_
                refine aw_iconst (v := (-1)) d_X12_draw_121 ic_m1 ?_
                refine aw_icmp_ne (tgt := 129) d_X12_draw_122 rfl (fun c26 => ?_) (fun c26 => ?_)
                · have k := k.1 c26
                  refine aw_iconst (v := 0) d_X12_draw_129 ic_0 ?_
                  obtain ⟨b27, k⟩ := k
                  refine aw_zast (ws_248 w12) b27 d_X12_draw_130 ?_
                  refine aw_aload_n (i := 0) rfl d_X12_draw_131 0 rfl ?_
                  refine aw_getr (k0 := 14) kc_12 (ws_1 w12) (Nat.le_of_ble_eq_true rfl) tw_1756 d_X12_draw_132 rfl (wr_1_14 w12) ?_
                  refine aw_iload_n (i := 1) rfl d_X12_draw_135 1 rfl ?_
                  obtain ⟨b28, k⟩ := k
                  refine aw_iald (ws_210 w12) b28 d_X12_draw_136 ?_
                  refine aw_vi (v2 := (h_i h11 210 x1.toNatClampNeg)) (rfl) ?_
                  refine aw_iconst (v := (-1)) d_X12_draw_137 ic_m1 ?_
                  refine aw_icmp_ne (tgt := 146) d_X12_draw_138 rfl (fun c29 => ?_) (fun c29 => ?_)
                  · have k := k.1 c29
                    refine aw_iconst (v := 1) d_X12_draw_146 ic_1 ?_
                    exact aw_zret rfl rfl d_X12_draw_147 ⟨Nat.le_refl _, Nat.le_refl _⟩ ⟨_, rfl, k⟩
                  · have k := k.2 c29
                    refine aw_aload_n (i := 0) rfl d_X12_draw_141 0 rfl ?_
                    refine aw_iload_n (i := 1) rfl d_X12_draw_142 1 rfl ?_
                    refine aw_Vv 1 [.int x1] [] d_X12_draw_143 (cV_X12_goDrawn (d + 4) 0 0) kc_12 (ws_1 w12) tw_2368 rfl (rr0 (Nat.le_of_ble_eq_true rfl) (Nat.le_of_ble_eq_true rfl)) (Nat.le_of_ble_eq_true rfl) xs0 k (fun h30 kk => ?_)
                    obtain ⟨w31, k⟩ := kk
                    refine aw_iconst (v := 1) d_X12_draw_146 ic_1 ?_
                    exact aw_zret rfl rfl d_X12_draw_147 ⟨Nat.le_refl _, Nat.le_refl _⟩ ⟨_, rfl, k⟩
                · have k := k.2 c26
                  refine aw_iconst (v := 1) d_X12_draw_125 ic_1 ?_
                  refine aw_goto (tgt := 130) d_X12_draw_126 rfl ?_
                  obtain ⟨b33, k⟩ := k
                  refine aw_zast (ws_248 w12) b33 d_X12_draw_130 ?_
                  refine aw_aload_n (i := 0) rfl d_X12_draw_131 0 rfl ?_
                  refine aw_getr (k0 := 14) kc_12 (ws_1 w12) (Nat.le_of_ble_eq_true rfl) tw_1756 d_X12_draw_132 rfl (wr_1_14 w12) ?_
                  refine aw_iload_n (i := 1) rfl d_X12_draw_135 1 rfl ?_
                  obtain ⟨b34, k⟩ := k
                  refine aw_iald (ws_210 w12) b34 d_X12_draw_136 ?_
                  refine aw_vi (v2 := (h_i h11 210 x1.toNatClampNeg)) (rfl) ?_
                  refine aw_iconst (v := (-1)) d_X12_draw_137 ic_m1 ?_
                  refine aw_icmp_ne (tgt := 146) d_X12_draw_138 rfl (fun c35 => ?_) (fun c35 => ?_)
                  · have k := k.1 c35
                    refine aw_iconst (v := 1) d_X12_draw_146 ic_1 ?_
                    exact aw_zret rfl rfl d_X12_draw_147 ⟨Nat.le_refl _, Nat.le_refl _⟩ ⟨_, rfl, k⟩
                  · have k := k.2 c35
                    refine aw_aload_n (i := 0) rfl d_X12_draw_141 0 rfl ?_
                    refine aw_iload_n (i := 1) rfl d_X12_draw_142 1 rfl ?_
                    refine aw_Vv 1 [.int x1] [] d_X12_draw_143 (cV_X12_goDrawn (d + 4) 0 0) kc_12 (ws_1 w12) tw_2368 rfl (rr0 (Nat.le_of_ble_eq_true rfl) (Nat.le_of_ble_eq_true rfl)) (Nat.le_of_ble_eq_true rfl) xs0 k (fun h36 kk => ?_)
                    obtain ⟨w37, k⟩ := kk
                    refine aw_iconst (v := 1) d_X12_draw_146 ic_1 ?_
                    exact aw_zret rfl rfl d_X12_draw_147 ⟨Nat.le_refl _, Nat.le_refl _⟩ ⟨_, rfl, k⟩
              · have k := k.2 c20
                refine aw_aload_n (i := 0) rfl d_X12_draw_76 0 rfl ?_
                refine aw_iload_n (i := 1) rfl d_X12_draw_77 1 rfl ?_
                refine aw_iconst (v := 3) d_X12_draw_78 ic_3 ?_
                refine aw_Vv 1 [.int x1, .int 3] [] d_X12_draw_79 (cV_X12_drop (d + 1) 0 0) kc_12 (ws_1 w12) tw_2364 rfl (rr0 (Nat.le_of_ble_eq_true rfl) (Nat.le_of_ble_eq_true rfl)) (Nat.le_of_ble_eq_true rfl) xs0 k (fun h39 kk => ?_)
                obtain ⟨w40, k⟩ := kk
                refine aw_aload_n (i := 0) rfl d_X12_draw_82 0 rfl ?_
                refine aw_getr (k0 := 17) kc_12 (ws_1 w40) (Nat.le_of_ble_eq_true rfl) tw_1759 d_X12_draw_83 rfl (wr_1_17 w40) ?_
                refine aw_iload_n (i := 1) rfl d_X12_draw_86 1 rfl ?_
                refine aw_iconst (v := (-1)) d_X12_draw_87 ic_m1 ?_
                obtain ⟨b42, k⟩ := k
                refine aw_iast (ws_213 w40) b42 d_X12_draw_88 ?_
                refine aw_aload_n (i := 0) rfl d_X12_draw_89 0 rfl ?_
                refine aw_getr (k0 := 12) kc_12 (ws_1 w40) (Nat.le_of_ble_eq_true rfl) tw_1754 d_X12_draw_90 rfl (wr_1_12 w40) ?_
                refine aw_iload_n (i := 1) rfl d_X12_draw_93 1 rfl ?_
                refine aw_iconst (v := 3) d_X12_draw_94 ic_3 ?_
                obtain ⟨b43, k⟩ := k
                refine aw_iast (ws_208 w40) b43 d_X12_draw_95 ?_
                refine aw_aload_n (i := 0) rfl d_X12_draw_96 0 rfl ?_
                refine aw_getr (k0 := 22) kc_12 (ws_1 w40) (Nat.le_of_ble_eq_true rfl) tw_1764 d_X12_draw_97 rfl (wr_1_22 w40) ?_
                refine aw_iload_n (i := 1) rfl d_X12_draw_100 1 rfl ?_
                refine aw_iload_n (i := 2) rfl d_X12_draw_101 2 rfl ?_
                obtain ⟨b44, k⟩ := k
                refine aw_iast (ws_218 w40) b44 d_X12_draw_102 ?_
                refine aw_aload_n (i := 0) rfl d_X12_draw_103 0 rfl ?_
                refine aw_getr (k0 := 23) kc_12 (ws_1 w40) (Nat.le_of_ble_eq_true rfl) tw_1765 d_X12_draw_104 rfl (wr_1_23 w40) ?_
                refine aw_iload_n (i := 1) rfl d_X12_draw_107 1 rfl ?_
                refine aw_iload_n (i := 3) rfl d_X12_draw_108 3 rfl ?_
                obtain ⟨b45, k⟩ := k
                refine aw_iast (ws_219 w40) b45 d_X12_draw_109 ?_
                refine aw_aload_n (i := 0) rfl d_X12_draw_110 0 rfl ?_
                refine aw_getr (k0 := 65) kc_12 (ws_1 w40) (Nat.le_of_ble_eq_true rfl) tw_1807 d_X12_draw_111 rfl (wr_1_65 w40) ?_
                refine aw_iload_n (i := 1) rfl d_X12_draw_114 1 rfl ?_
                refine aw_aload_n (i := 0) rfl d_X12_draw_115 0 rfl ?_
                refine aw_getr (k0 := 14) kc_12 (ws_1 w40) (Nat.le_of_ble_eq_true rfl) tw_1756 d_X12_draw_116 rfl (wr_1_14 w40) ?_
                refine aw_iload_n (i := 1) rfl d_X12_draw_119 1 rfl ?_
                obtain ⟨b46, k⟩ := k
                refine aw_iald (ws_210 w40) b46 d_X12_draw_120 ?_
                refine aw_vi (v2 := (h_i h39 210 x1.toNatClampNeg)) (rfl) ?_
                refine aw_iconst (v := (-1)) d_X12_draw_121 ic_m1 ?_
                refine aw_icmp_ne (tgt := 129) d_X12_draw_122 rfl (fun c47 => ?_) (fun c47 => ?_)
                · have k := k.1 c47
                  refine aw_iconst (v := 0) d_X12_draw_129 ic_0 ?_
                  obtain ⟨b48, k⟩ := k
                  refine aw_zast (ws_248 w40) b48 d_X12_draw_130 ?_
                  refine aw_aload_n (i := 0) rfl d_X12_draw_131 0 rfl ?_
                  refine aw_getr (k0 := 14) kc_12 (ws_1 w40) (Nat.le_of_ble_eq_true rfl) tw_1756 d_X12_draw_132 rfl (wr_1_14 w40) ?_
                  refine aw_iload_n (i := 1) rfl d_X12_draw_135 1 rfl ?_
                  obtain ⟨b49, k⟩ := k
                  refine aw_iald (ws_210 w40) b49 d_X12_draw_136 ?_
                  refine aw_vi (v2 := (h_i h39 210 x1.toNatClampNeg)) (rfl) ?_
                  refine aw_iconst (v := (-1)) d_X12_draw_137 ic_m1 ?_
                  refine aw_icmp_ne (tgt := 146) d_X12_draw_138 rfl (fun c50 => ?_) (fun c50 => ?_)
                  · have k := k.1 c50
                    refine aw_iconst (v := 1) d_X12_draw_146 ic_1 ?_
                    exact aw_zret rfl rfl d_X12_draw_147 ⟨Nat.le_refl _, Nat.le_refl _⟩ ⟨_, rfl, k⟩
                  · have k := k.2 c50
                    refine aw_aload_n (i := 0) rfl d_X12_draw_141 0 rfl ?_
                    refine aw_iload_n (i := 1) rfl d_X12_draw_142 1 rfl ?_
                    refine aw_Vv 1 [.int x1] [] d_X12_draw_143 (cV_X12_goDrawn (d + 4) 0 0) kc_12 (ws_1 w40) tw_2368 rfl (rr0 (Nat.le_of_ble_eq_true rfl) (Nat.le_of_ble_eq_true rfl)) (Nat.le_of_ble_eq_true rfl) xs0 k (fun h51 kk => ?_)
                    obtain ⟨w52, k⟩ := kk
                    refine aw_iconst (v := 1) d_X12_draw_146 ic_1 ?_
                    exact aw_zret rfl rfl d_X12_draw_147 ⟨Nat.le_refl _, Nat.le_refl _⟩ ⟨_, rfl, k⟩
                · have k := k.2 c47
                  refine aw_iconst (v := 1) d_X12_draw_125 ic_1 ?_
                  refine aw_goto (tgt := 130) d_X12_draw_126 rfl ?_
                  obtain ⟨b54, k⟩ := k
                  refine aw_zast (ws_248 w40) b54 d_X12_draw_130 ?_
                  refine aw_aload_n (i := 0) rfl d_X12_draw_131 0 rfl ?_
                  refine aw_getr (k0 := 14) kc_12 (ws_1 w40) (Nat.le_of_ble_eq_true rfl) tw_1756 d_X12_draw_132 rfl (wr_1_14 w40) ?_
                  refine aw_iload_n (i := 1) rfl d_X12_draw_135 1 rfl ?_
                  obtain ⟨b55, k⟩ := k
                  refine aw_iald (ws_210 w40) b55 d_X12_draw_136 ?_
                  refine aw_vi (v2 := (h_i h39 210 x1.toNatClampNeg)) (rfl) ?_
                  refine aw_iconst (v := (-1)) d_X12_draw_137 ic_m1 ?_
                  refine aw_icmp_ne (tgt := 146) d_X12_draw_138 rfl (fun c56 => ?_) (fun c56 => ?_)
                  · have k := k.1 c56
                    refine aw_iconst (v := 1) d_X12_draw_146 ic_1 ?_
                    exact aw_zret rfl rfl d_X12_draw_147 ⟨Nat.le_refl _, Nat.le_refl _⟩ ⟨_, rfl, k⟩
                  · have k := k.2 c56
                    refine aw_aload_n (i := 0) rfl d_X12_draw_141 0 rfl ?_
                    refine aw_iload_n (i := 1) rfl d_X12_draw_142 1 rfl ?_
                    refine aw_Vv 1 [.int x1] [] d_X12_draw_143 (cV_X12_goDrawn (d + 4) 0 0) kc_12 (ws_1 w40) tw_2368 rfl (rr0 (Nat.le_of_ble_eq_true rfl) (Nat.le_of_ble_eq_true rfl)) (Nat.le_of_ble_eq_true rfl) xs0 k (fun h57 kk => ?_)
                    obtain ⟨w58, k⟩ := kk
                    refine aw_iconst (v := 1) d_X12_draw_146 ic_1 ?_
                    exact aw_zret rfl rfl d_X12_draw_147 ⟨Nat.le_refl _, Nat.le_refl _⟩ ⟨_, rfl, k⟩
            · have k := k.2 c18
              refine aw_iconst (v := 0) d_X12_draw_64 ic_0 ?_
              exact aw_zret rfl rfl d_X12_draw_65 ⟨Nat.le_refl _, Nat.le_refl _⟩ ⟨_, rfl, k⟩
theorem t_X12_ill (d : Nat) (h : Hp_) (w : Wf h) (x1 : Int32) (x2 : Int32) (K : Int32 → Hp_ → Prop) (k : (¬ (0 ≤ x1 ∧ x1 ≤ (h_i h 1 7) - 1) → K 0 h) ∧ ((0 ≤ x1 ∧ x1 ≤ (h_i h 1 7) - 1) → vp_in x1 12 ∧ ((¬ (h_i h 208 x1.toNatClampNeg) = 4 → (¬ 0 = x2 → (¬ x2 = 0 → vp_in x1 12 ∧ ((¬ (h_i h 208 x1.toNatClampNeg) = 1 → vp_in x1 12 ∧ (vp_in x1 12 ∧ (vp_in x1 12 ∧ (vp_in x1 12 ∧ (vp_in x1 12 ∧ (vp_in x1 12 ∧ (K 1 (h_im (h_im (h_im (h_im (h_im h 208 x1.toNatClampNeg 4) 209 x1.toNatClampNeg (h_i h 206 x1.toNatClampNeg)) 210 x1.toNatClampNeg (-1)) 211 x1.toNatClampNeg (-1)) 213 x1.toNatClampNeg (-1))))))))) ∧ ((h_i h 208 x1.toNatClampNeg) = 1 → Cv (m_X12_drop (d + 1) 0 0) [.ref 1, .int x1, .int 4] h (fun h16 => Wf h16 ∧ (vp_in x1 12 ∧ (vp_in x1 12 ∧ (vp_in x1 12 ∧ (vp_in x1 12 ∧ (vp_in x1 12 ∧ (vp_in x1 12 ∧ (K 1 (h_im (h_im (h_im (h_im (h_im h16 208 x1.toNatClampNeg 4) 209 x1.toNatClampNeg (h_i h16 206 x1.toNatClampNeg)) 210 x1.toNatClampNeg (-1)) 211 x1.toNatClampNeg (-1)) 213 x1.toNatClampNeg (-1))))))))))))) ∧ (x2 = 0 → Cv (m_X12_free (d + 0) 0 0) [.ref 1, .int x1] h (fun h25 => Wf h25 ∧ (K 1 h25)))) ∧ (0 = x2 → K 0 h)) ∧ ((h_i h 208 x1.toNatClampNeg) = 4 → (¬ 1 = x2 → (¬ x2 = 0 → vp_in x1 12 ∧ ((¬ (h_i h 208 x1.toNatClampNeg) = 1 → vp_in x1 12 ∧ (vp_in x1 12 ∧ (vp_in x1 12 ∧ (vp_in x1 12 ∧ (vp_in x1 12 ∧ (vp_in x1 12 ∧ (K 1 (h_im (h_im (h_im (h_im (h_im h 208 x1.toNatClampNeg 4) 209 x1.toNatClampNeg (h_i h 206 x1.toNatClampNeg)) 210 x1.toNatClampNeg (-1)) 211 x1.toNatClampNeg (-1)) 213 x1.toNatClampNeg (-1))))))))) ∧ ((h_i h 208 x1.toNatClampNeg) = 1 → Cv (m_X12_drop (d + 1) 0 0) [.ref 1, .int x1, .int 4] h (fun h38 => Wf h38 ∧ (vp_in x1 12 ∧ (vp_in x1 12 ∧ (vp_in x1 12 ∧ (vp_in x1 12 ∧ (vp_in x1 12 ∧ (vp_in x1 12 ∧ (K 1 (h_im (h_im (h_im (h_im (h_im h38 208 x1.toNatClampNeg 4) 209 x1.toNatClampNeg (h_i h38 206 x1.toNatClampNeg)) 210 x1.toNatClampNeg (-1)) 211 x1.toNatClampNeg (-1)) 213 x1.toNatClampNeg (-1))))))))))))) ∧ (x2 = 0 → Cv (m_X12_free (d + 0) 0 0) [.ref 1, .int x1] h (fun h47 => Wf h47 ∧ (K 1 h47)))) ∧ (1 = x2 → K 0 h))))) : Ci (m_X12_ill (d + 2) 0 0) [.ref 1, .int x1, .int x2] h K := by
  refine Ct.of (fun _ _ _ => trivial) pn_X12 (Nat.le_of_ble_eq_true rfl) ?_
  show AW (m_X12_ill (d + 2) 0 0) 0 0 0 [(0, .ref 1), (1, .int x1), (2, .int x2)] [] h (kI K)
  refine aw_aload_n (i := 0) rfl d_X12_ill_0 0 rfl ?_
  refine aw_iload_n (i := 1) rfl d_X12_ill_1 1 rfl ?_
  refine aw_Vi 1 [.int x1] [] d_X12_ill_2 (cV_X12_isMan (d + 1) 0 0) kc_12 (ws_1 w) tw_2163 rfl (rr0 (Nat.le_of_ble_eq_true rfl) (Nat.le_of_ble_eq_true rfl)) (Nat.le_of_ble_eq_true rfl) xs0 (s_X12_isMan _ _ w x1) (fun _ _ kk => ?_)
  obtain ⟨e1, e2⟩ := kk
  rw [e1, e2]
  refine aw_ifb_eq (tgt := 27) d_X12_ill_5 rfl (fun c3 => ?_) (fun c3 => ?_)
  · have k := k.1 c3
    refine aw_iconst (v := 0) d_X12_ill_27 ic_0 ?_
    exact aw_zret rfl rfl d_X12_ill_28 ⟨Nat.le_refl _, Nat.le_refl _⟩ ⟨_, rfl, k⟩
  · have k := k.2 c3
    refine aw_aload_n (i := 0) rfl d_X12_ill_8 0 rfl ?_
    refine aw_getr (k0 := 12) kc_12 (ws_1 w) (Nat.le_of_ble_eq_true rfl) tw_1754 d_X12_ill_9 rfl (wr_1_12 w) ?_
    refine aw_iload_n (i := 1) rfl d_X12_ill_12 1 rfl ?_
    obtain ⟨b4, k⟩ := k
    refine aw_iald (ws_208 w) b4 d_X12_ill_13 ?_
    refine aw_iconst (v := 4) d_X12_ill_14 ic_4 ?_
    refine aw_icmp_ne (tgt := 22) d_X12_ill_15 rfl (fun c5 => ?_) (fun c5 => ?_)
    · have k := k.1 c5
      refine aw_iconst (v := 0) d_X12_ill_22 ic_0 ?_
      refine aw_iload_n (i := 2) rfl d_X12_ill_23 2 rfl ?_
      refine aw_icmp_ne (tgt := 29) d_X12_ill_24 rfl (fun c6 => ?_) (fun c6 => ?_)
      · have k := k.1 c6
        refine aw_iload_n (i := 2) rfl d_X12_ill_29 2 rfl ?_
        refine aw_if_ne (tgt := 40) d_X12_ill_30 rfl (fun c7 => ?_) (fun c7 => ?_)
        · have k := k.1 c7
          refine aw_aload_n (i := 0) rfl d_X12_ill_40 0 rfl ?_
          refine aw_getr (k0 := 12) kc_12 (ws_1 w) (Nat.le_of_ble_eq_true rfl) tw_1754 d_X12_ill_41 rfl (wr_1_12 w) ?_
          refine aw_iload_n (i := 1) rfl d_X12_ill_44 1 rfl ?_
          obtain ⟨b8, k⟩ := k
          refine aw_iald (ws_208 w) b8 d_X12_ill_45 ?_
          refine aw_iconst (v := 1) d_X12_ill_46 ic_1 ?_
          refine aw_icmp_ne (tgt := 56) d_X12_ill_47 rfl (fun c9 => ?_) (fun c9 => ?_)
          · have k := k.1 c9
            refine aw_aload_n (i := 0) rfl d_X12_ill_56 0 rfl ?_
            refine aw_getr (k0 := 12) kc_12 (ws_1 w) (Nat.le_of_ble_eq_true rfl) tw_1754 d_X12_ill_57 rfl (wr_1_12 w) ?_
            refine aw_iload_n (i := 1) rfl d_X12_ill_60 1 rfl ?_
            refine aw_iconst (v := 4) d_X12_ill_61 ic_4 ?_
            obtain ⟨b10, k⟩ := k
            refine aw_iast (ws_208 w) b10 d_X12_ill_62 ?_
            refine aw_aload_n (i := 0) rfl d_X12_ill_63 0 rfl ?_
            refine aw_getr (k0 := 13) kc_12 (ws_1 w) (Nat.le_of_ble_eq_true rfl) tw_1755 d_X12_ill_64 rfl (wr_1_13 w) ?_
            refine aw_iload_n (i := 1) rfl d_X12_ill_67 1 rfl ?_
            refine aw_aload_n (i := 0) rfl d_X12_ill_68 0 rfl ?_
            refine aw_getr (k0 := 10) kc_12 (ws_1 w) (Nat.le_of_ble_eq_true rfl) tw_1752 d_X12_ill_69 rfl (wr_1_10 w) ?_
            refine aw_iload_n (i := 1) rfl d_X12_ill_72 1 rfl ?_
            obtain ⟨b11, k⟩ := k
            refine aw_iald (ws_206 w) b11 d_X12_ill_73 ?_
            refine aw_vi (v2 := (h_i h 206 x1.toNatClampNeg)) (rfl) ?_
            obtain ⟨b12, k⟩ := k
            refine aw_iast (ws_209 w) b12 d_X12_ill_74 ?_
            refine aw_aload_n (i := 0) rfl d_X12_ill_75 0 rfl ?_
            refine aw_getr (k0 := 14) kc_12 (ws_1 w) (Nat.le_of_ble_eq_true rfl) tw_1756 d_X12_ill_76 rfl (wr_1_14 w) ?_
            refine aw_iload_n (i := 1) rfl d_X12_ill_79 1 rfl ?_
            refine aw_iconst (v := (-1)) d_X12_ill_80 ic_m1 ?_
            obtain ⟨b13, k⟩ := k
            refine aw_iast (ws_210 w) b13 d_X12_ill_81 ?_
            refine aw_aload_n (i := 0) rfl d_X12_ill_82 0 rfl ?_
            refine aw_getr (k0 := 15) kc_12 (ws_1 w) (Nat.le_of_ble_eq_true rfl) tw_1757 d_X12_ill_83 rfl (wr_1_15 w) ?_
            refine aw_iload_n (i := 1) rfl d_X12_ill_86 1 rfl ?_
            refine aw_iconst (v := (-1)) d_X12_ill_87 ic_m1 ?_
            obtain ⟨b14, k⟩ := k
            refine aw_iast (ws_211 w) b14 d_X12_ill_88 ?_
            refine aw_aload_n (i := 0) rfl d_X12_ill_89 0 rfl ?_
            refine aw_getr (k0 := 17) kc_12 (ws_1 w) (Nat.le_of_ble_eq_true rfl) tw_1759 d_X12_ill_90 rfl (wr_1_17 w) ?_
            refine aw_iload_n (i := 1) rfl d_X12_ill_93 1 rfl ?_
            refine aw_iconst (v := (-1)) d_X12_ill_94 ic_m1 ?_
            obtain ⟨b15, k⟩ := k
            refine aw_iast (ws_213 w) b15 d_X12_ill_95 ?_
            refine aw_iconst (v := 1) d_X12_ill_96 ic_1 ?_
            exact aw_zret rfl rfl d_X12_ill_97 ⟨Nat.le_refl _, Nat.le_refl _⟩ ⟨_, rfl, k⟩
          · have k := k.2 c9
            refine aw_aload_n (i := 0) rfl d_X12_ill_50 0 rfl ?_
            refine aw_iload_n (i := 1) rfl d_X12_ill_51 1 rfl ?_
            refine aw_iconst (v := 4) d_X12_ill_52 ic_4 ?_
            refine aw_Vv 1 [.int x1, .int 4] [] d_X12_ill_53 (cV_X12_drop (d + 1) 0 0) kc_12 (ws_1 w) tw_2364 rfl (rr0 (Nat.le_of_ble_eq_true rfl) (Nat.le_of_ble_eq_true rfl)) (Nat.le_of_ble_eq_true rfl) xs0 k (fun h16 kk => ?_)
            obtain ⟨w17, k⟩ := kk
            refine aw_aload_n (i := 0) rfl d_X12_ill_56 0 rfl ?_
            refine aw_getr (k0 := 12) kc_12 (ws_1 w17) (Nat.le_of_ble_eq_true rfl) tw_1754 d_X12_ill_57 rfl (wr_1_12 w17) ?_
            refine aw_iload_n (i := 1) rfl d_X12_ill_60 1 rfl ?_
            refine aw_iconst (v := 4) d_X12_ill_61 ic_4 ?_
            obtain ⟨b19, k⟩ := k
            refine aw_iast (ws_208 w17) b19 d_X12_ill_62 ?_
            refine aw_aload_n (i := 0) rfl d_X12_ill_63 0 rfl ?_
            refine aw_getr (k0 := 13) kc_12 (ws_1 w17) (Nat.le_of_ble_eq_true rfl) tw_1755 d_X12_ill_64 rfl (wr_1_13 w17) ?_
            refine aw_iload_n (i := 1) rfl d_X12_ill_67 1 rfl ?_
            refine aw_aload_n (i := 0) rfl d_X12_ill_68 0 rfl ?_
            refine aw_getr (k0 := 10) kc_12 (ws_1 w17) (Nat.le_of_ble_eq_true rfl) tw_1752 d_X12_ill_69 rfl (wr_1_10 w17) ?_
            refine aw_iload_n (i := 1) rfl d_X12_ill_72 1 rfl ?_
            obtain ⟨b20, k⟩ := k
            refine aw_iald (ws_206 w17) b20 d_X12_ill_73 ?_
            refine aw_vi (v2 := (h_i h16 206 x1.toNatClampNeg)) (rfl) ?_
            obtain ⟨b21, k⟩ := k
            refine aw_iast (ws_209 w17) b21 d_X12_ill_74 ?_
            refine aw_aload_n (i := 0) rfl d_X12_ill_75 0 rfl ?_
            refine aw_getr (k0 := 14) kc_12 (ws_1 w17) (Nat.le_of_ble_eq_true rfl) tw_1756 d_X12_ill_76 rfl (wr_1_14 w17) ?_
            refine aw_iload_n (i := 1) rfl d_X12_ill_79 1 rfl ?_
            refine aw_iconst (v := (-1)) d_X12_ill_80 ic_m1 ?_
            obtain ⟨b22, k⟩ := k
            refine aw_iast (ws_210 w17) b22 d_X12_ill_81 ?_
            refine aw_aload_n (i := 0) rfl d_X12_ill_82 0 rfl ?_
            refine aw_getr (k0 := 15) kc_12 (ws_1 w17) (Nat.le_of_ble_eq_true rfl) tw_1757 d_X12_ill_83 rfl (wr_1_15 w17) ?_
            refine aw_iload_n (i := 1) rfl d_X12_ill_86 1 rfl ?_
            refine aw_iconst (v := (-1)) d_X12_ill_87 ic_m1 ?_
            obtain ⟨b23, k⟩ := k
            refine aw_iast (ws_211 w17) b23 d_X12_ill_88 ?_
            refine aw_aload_n (i := 0) rfl d_X12_ill_89 0 rfl ?_
            refine aw_getr (k0 := 17) kc_12 (ws_1 w17) (Nat.le_of_ble_eq_true rfl) tw_1759 d_X12_ill_90 rfl (wr_1_17 w17) ?_
            refine aw_iload_n (i := 1) rfl d_X12_ill_93 1 rfl ?_
            refine aw_iconst (v := (-1)) d_X12_ill_94 ic_m1 ?_
            obtain ⟨b24, k⟩ := k
            refine aw_iast (ws_213 w17) b24 d_X12_ill_95 ?_
            refine aw_iconst (v := 1) d_X12_ill_96 ic_1 ?_
            exact aw_zret rfl rfl d_X12_ill_97 ⟨Nat.le_refl _, Nat.le_refl _⟩ ⟨_, rfl, k⟩
        · have k := k.2 c7
          refine aw_aload_n (i := 0) rfl d_X12_ill_33 0 rfl ?_
          refine aw_iload_n (i := 1) rfl d_X12_ill_34 1 rfl ?_
          refine aw_Vv 1 [.int x1] [] d_X12_ill_35 (cV_X12_free (d + 0) 0 0) kc_12 (ws_1 w) tw_2344 rfl (rr0 (Nat.le_of_ble_eq_true rfl) (Nat.le_of_ble_eq_true rfl)) (Nat.le_of_ble_eq_true rfl) xs0 k (fun h25 kk => ?_)
          obtain ⟨w26, k⟩ := kk
          refine aw_iconst (v := 1) d_X12_ill_38 ic_1 ?_
          exact aw_zret rfl rfl d_X12_ill_39 ⟨Nat.le_refl _, Nat.le_refl _⟩ ⟨_, rfl, k⟩
      · have k := k.2 c6
        refine aw_iconst (v := 0) d_X12_ill_27 ic_0 ?_
        exact aw_zret rfl rfl d_X12_ill_28 ⟨Nat.le_refl _, Nat.le_refl _⟩ ⟨_, rfl, k⟩
    · have k := k.2 c5
      refine aw_iconst (v := 1) d_X12_ill_18 ic_1 ?_
      refine aw_goto (tgt := 23) d_X12_ill_19 rfl ?_
      refine aw_iload_n (i := 2) rfl d_X12_ill_23 2 rfl ?_
      refine aw_icmp_ne (tgt := 29) d_X12_ill_24 rfl (fun c28 => ?_) (fun c28 => ?_)
      · have k := k.1 c28
        refine aw_iload_n (i := 2) rfl d_X12_ill_29 2 rfl ?_
        refine aw_if_ne (tgt := 40) d_X12_ill_30 rfl (fun c29 => ?_) (fun c29 => ?_)
        · have k := k.1 c29
          refine aw_aload_n (i := 0) rfl d_X12_ill_40 0 rfl ?_
          refine aw_getr (k0 := 12) kc_12 (ws_1 w) (Nat.le_of_ble_eq_true rfl) tw_1754 d_X12_ill_41 rfl (wr_1_12 w) ?_
          refine aw_iload_n (i := 1) rfl d_X12_ill_44 1 rfl ?_
          obtain ⟨b30, k⟩ := k
          refine aw_iald (ws_208 w) b30 d_X12_ill_45 ?_
          refine aw_iconst (v := 1) d_X12_ill_46 ic_1 ?_
          refine aw_icmp_ne (tgt := 56) d_X12_ill_47 rfl (fun c31 => ?_) (fun c31 => ?_)
          · have k := k.1 c31
            refine aw_aload_n (i := 0) rfl d_X12_ill_56 0 rfl ?_
            refine aw_getr (k0 := 12) kc_12 (ws_1 w) (Nat.le_of_ble_eq_true rfl) tw_1754 d_X12_ill_57 rfl (wr_1_12 w) ?_
            refine aw_iload_n (i := 1) rfl d_X12_ill_60 1 rfl ?_
            refine aw_iconst (v := 4) d_X12_ill_61 ic_4 ?_
            obtain ⟨b32, k⟩ := k
            refine aw_iast (ws_208 w) b32 d_X12_ill_62 ?_
            refine aw_aload_n (i := 0) rfl d_X12_ill_63 0 rfl ?_
            refine aw_getr (k0 := 13) kc_12 (ws_1 w) (Nat.le_of_ble_eq_true rfl) tw_1755 d_X12_ill_64 rfl (wr_1_13 w) ?_
            refine aw_iload_n (i := 1) rfl d_X12_ill_67 1 rfl ?_
            refine aw_aload_n (i := 0) rfl d_X12_ill_68 0 rfl ?_
            refine aw_getr (k0 := 10) kc_12 (ws_1 w) (Nat.le_of_ble_eq_true rfl) tw_1752 d_X12_ill_69 rfl (wr_1_10 w) ?_
            refine aw_iload_n (i := 1) rfl d_X12_ill_72 1 rfl ?_
            obtain ⟨b33, k⟩ := k
            refine aw_iald (ws_206 w) b33 d_X12_ill_73 ?_
            refine aw_vi (v2 := (h_i h 206 x1.toNatClampNeg)) (rfl) ?_
            obtain ⟨b34, k⟩ := k
            refine aw_iast (ws_209 w) b34 d_X12_ill_74 ?_
            refine aw_aload_n (i := 0) rfl d_X12_ill_75 0 rfl ?_
            refine aw_getr (k0 := 14) kc_12 (ws_1 w) (Nat.le_of_ble_eq_true rfl) tw_1756 d_X12_ill_76 rfl (wr_1_14 w) ?_
            refine aw_iload_n (i := 1) rfl d_X12_ill_79 1 rfl ?_
            refine aw_iconst (v := (-1)) d_X12_ill_80 ic_m1 ?_
            obtain ⟨b35, k⟩ := k
            refine aw_iast (ws_210 w) b35 d_X12_ill_81 ?_
            refine aw_aload_n (i := 0) rfl d_X12_ill_82 0 rfl ?_
            refine aw_getr (k0 := 15) kc_12 (ws_1 w) (Nat.le_of_ble_eq_true rfl) tw_1757 d_X12_ill_83 rfl (wr_1_15 w) ?_
            refine aw_iload_n (i := 1) rfl d_X12_ill_86 1 rfl ?_
            refine aw_iconst (v := (-1)) d_X12_ill_87 ic_m1 ?_
            obtain ⟨b36, k⟩ := k
            refine aw_iast (ws_211 w) b36 d_X12_ill_88 ?_
            refine aw_aload_n (i := 0) rfl d_X12_ill_89 0 rfl ?_
            refine aw_getr (k0 := 17) kc_12 (ws_1 w) (Nat.le_of_ble_eq_true rfl) tw_1759 d_X12_ill_90 rfl (wr_1_17 w) ?_
            refine aw_iload_n (i := 1) rfl d_X12_ill_93 1 rfl ?_
            refine aw_iconst (v := (-1)) d_X12_ill_94 ic_m1 ?_
            obtain ⟨b37, k⟩ := k
            refine aw_iast (ws_213 w) b37 d_X12_ill_95 ?_
            refine aw_iconst (v := 1) d_X12_ill_96 ic_1 ?_
            exact aw_zret rfl rfl d_X12_ill_97 ⟨Nat.le_refl _, Nat.le_refl _⟩ ⟨_, rfl, k⟩
          · have k := k.2 c31
            refine aw_aload_n (i := 0) rfl d_X12_ill_50 0 rfl ?_
            refine aw_iload_n (i := 1) rfl d_X12_ill_51 1 rfl ?_
            refine aw_iconst (v := 4) d_X12_ill_52 ic_4 ?_
            refine aw_Vv 1 [.int x1, .int 4] [] d_X12_ill_53 (cV_X12_drop (d + 1) 0 0) kc_12 (ws_1 w) tw_2364 rfl (rr0 (Nat.le_of_ble_eq_true rfl) (Nat.le_of_ble_eq_true rfl)) (Nat.le_of_ble_eq_true rfl) xs0 k (fun h38 kk => ?_)
            obtain ⟨w39, k⟩ := kk
            refine aw_aload_n (i := 0) rfl d_X12_ill_56 0 rfl ?_
            refine aw_getr (k0 := 12) kc_12 (ws_1 w39) (Nat.le_of_ble_eq_true rfl) tw_1754 d_X12_ill_57 rfl (wr_1_12 w39) ?_
            refine aw_iload_n (i := 1) rfl d_X12_ill_60 1 rfl ?_
            refine aw_iconst (v := 4) d_X12_ill_61 ic_4 ?_
            obtain ⟨b41, k⟩ := k
            refine aw_iast (ws_208 w39) b41 d_X12_ill_62 ?_
            refine aw_aload_n (i := 0) rfl d_X12_ill_63 0 rfl ?_
            refine aw_getr (k0 := 13) kc_12 (ws_1 w39) (Nat.le_of_ble_eq_true rfl) tw_1755 d_X12_ill_64 rfl (wr_1_13 w39) ?_
            refine aw_iload_n (i := 1) rfl d_X12_ill_67 1 rfl ?_
            refine aw_aload_n (i := 0) rfl d_X12_ill_68 0 rfl ?_
            refine aw_getr (k0 := 10) kc_12 (ws_1 w39) (Nat.le_of_ble_eq_true rfl) tw_1752 d_X12_ill_69 rfl (wr_1_10 w39) ?_
            refine aw_iload_n (i := 1) rfl d_X12_ill_72 1 rfl ?_
            obtain ⟨b42, k⟩ := k
            refine aw_iald (ws_206 w39) b42 d_X12_ill_73 ?_
            refine aw_vi (v2 := (h_i h38 206 x1.toNatClampNeg)) (rfl) ?_
            obtain ⟨b43, k⟩ := k
            refine aw_iast (ws_209 w39) b43 d_X12_ill_74 ?_
            refine aw_aload_n (i := 0) rfl d_X12_ill_75 0 rfl ?_
            refine aw_getr (k0 := 14) kc_12 (ws_1 w39) (Nat.le_of_ble_eq_true rfl) tw_1756 d_X12_ill_76 rfl (wr_1_14 w39) ?_
            refine aw_iload_n (i := 1) rfl d_X12_ill_79 1 rfl ?_
            refine aw_iconst (v := (-1)) d_X12_ill_80 ic_m1 ?_
            obtain ⟨b44, k⟩ := k
            refine aw_iast (ws_210 w39) b44 d_X12_ill_81 ?_
            refine aw_aload_n (i := 0) rfl d_X12_ill_82 0 rfl ?_
            refine aw_getr (k0 := 15) kc_12 (ws_1 w39) (Nat.le_of_ble_eq_true rfl) tw_1757 d_X12_ill_83 rfl (wr_1_15 w39) ?_
            refine aw_iload_n (i := 1) rfl d_X12_ill_86 1 rfl ?_
            refine aw_iconst (v := (-1)) d_X12_ill_87 ic_m1 ?_
            obtain ⟨b45, k⟩ := k
            refine aw_iast (ws_211 w39) b45 d_X12_ill_88 ?_
            refine aw_aload_n (i := 0) rfl d_X12_ill_89 0 rfl ?_
            refine aw_getr (k0 := 17) kc_12 (ws_1 w39) (Nat.le_of_ble_eq_true rfl) tw_1759 d_X12_ill_90 rfl (wr_1_17 w39) ?_
            refine aw_iload_n (i := 1) rfl d_X12_ill_93 1 rfl ?_
            refine aw_iconst (v := (-1)) d_X12_ill_94 ic_m1 ?_
            obtain ⟨b46, k⟩ := k
            refine aw_iast (ws_213 w39) b46 d_X12_ill_95 ?_
            refine aw_iconst (v := 1) d_X12_ill_96 ic_1 ?_
            exact aw_zret rfl rfl d_X12_ill_97 ⟨Nat.le_refl _, Nat.le_refl _⟩ ⟨_, rfl, k⟩
        · have k := k.2 c29
          refine aw_aload_n (i := 0) rfl d_X12_ill_33 0 rfl ?_
          refine aw_iload_n (i := 1) rfl d_X12_ill_34 1 rfl ?_
          refine aw_Vv 1 [.int x1] [] d_X12_ill_35 (cV_X12_free (d + 0) 0 0) kc_12 (ws_1 w) tw_2344 rfl (rr0 (Nat.le_of_ble_eq_true rfl) (Nat.le_of_ble_eq_true rfl)) (Nat.le_of_ble_eq_true rfl) xs0 k (fun h47 kk => ?_)
          obtain ⟨w48, k⟩ := kk
          refine aw_iconst (v := 1) d_X12_ill_38 ic_1 ?_
          exact aw_zret rfl rfl d_X12_ill_39 ⟨Nat.le_refl _, Nat.le_refl _⟩ ⟨_, rfl, k⟩
      · have k := k.2 c28
        refine aw_iconst (v := 0) d_X12_ill_27 ic_0 ?_
        exact aw_zret rfl rfl d_X12_ill_28 ⟨Nat.le_refl _, Nat.le_refl _⟩ ⟨_, rfl, k⟩
theorem t_X12_constable (d : Nat) (h : Hp_) (w : Wf h) (x1 : Int32) (x2 : Int32) (x3 : Int32) (K : Int32 → Hp_ → Prop) (k : (¬ (1 ≤ x1 ∧ x1 ≤ 4) → K (-1) h) ∧ ((1 ≤ x1 ∧ x1 ≤ 4) → (¬ (0 ≤ x2 ∧ x2 ≤ 40) → K (-1) h) ∧ ((0 ≤ x2 ∧ x2 ≤ 40) → (¬ (0 ≤ x3 ∧ x3 ≤ 15) → K (-1) h) ∧ ((0 ≤ x3 ∧ x3 ≤ 15) → (¬ (h_i h 1 7) = 12 → vp_in (h_i h 1 7) 12 ∧ (vp_in (h_i h 1 7) 12 ∧ (vp_in (h_i h 1 7) 12 ∧ (vp_in (h_i h 1 7) 12 ∧ (vp_in (h_i h 1 7) 12 ∧ (vp_in (h_i h 1 7) 12 ∧ (vp_in (h_i h 1 7) 12 ∧ (vp_in (h_i h 1 7) 12 ∧ (vp_in (h_i h 1 7) 12 ∧ (vp_in (h_i h 1 7) 12 ∧ (vp_in (h_i h 1 7) 12 ∧ (vp_in (h_i h 1 7) 12 ∧ (K (((h_i h 1 7) + 1) - 1) (h_im (h_im (h_im (h_im (h_im (h_im (h_im (h_im (h_im (h_im (h_im (h_im (h_im h 204 ((h_i h 1 7) : Int32).toNatClampNeg x1) 205 ((h_i h 1 7) : Int32).toNatClampNeg x2) 206 ((h_i h 1 7) : Int32).toNatClampNeg x3) 207 ((h_i h 1 7) : Int32).toNatClampNeg (h_i h 1 0)) 208 ((h_i h 1 7) : Int32).toNatClampNeg 0) 209 ((h_i h 1 7) : Int32).toNatClampNeg x3) 210 ((h_i h 1 7) : Int32).toNatClampNeg (-1)) 211 ((h_i h 1 7) : Int32).toNatClampNeg (-1)) 213 ((h_i h 1 7) : Int32).toNatClampNeg (-1)) 215 ((h_i h 1 7) : Int32).toNatClampNeg 0) 216 ((h_i h 1 7) : Int32).toNatClampNeg 0) 217 ((h_i h 1 7) : Int32).toNatClampNeg 0) 1 7 ((h_i h 1 7) + 1))))))))))))))) ∧ ((h_i h 1 7) = 12 → K (-1) h))))) : Ci (m_X12_constable (d + 2) 0 0) [.ref 1, .int x1, .int x2, .int x3] h K := by
  refine Ct.of (fun _ _ _ => trivial) pn_X12 (Nat.le_of_ble_eq_true rfl) ?_
  show AW (m_X12_constable (d + 2) 0 0) 0 0 0 [(0, .ref 1), (1, .int x1), (2, .int x2), (3, .int x3)] [] h (kI K)
  refine aw_iload_n (i := 1) rfl d_X12_constable_0 1 rfl ?_
  refine aw_iconst (v := 1) d_X12_constable_1 ic_1 ?_
  refine aw_iconst (v := 4) d_X12_constable_2 ic_4 ?_
  refine aw_Si [.int x1, .int 1, .int 4] [] d_X12_constable_3 (cS_X12_in (d + 0) 0 0) tw_2143 rfl (rr0 (Nat.le_of_ble_eq_true rfl) (Nat.le_of_ble_eq_true rfl)) (Nat.le_of_ble_eq_true rfl) xs0 (s_X12_in _ _ x1 1 4) (fun _ _ kk => ?_)
  obtain ⟨e1, e2⟩ := kk
  rw [e1, e2]
  refine aw_ifb_eq (tgt := 35) d_X12_constable_6 rfl (fun c3 => ?_) (fun c3 => ?_)
  · have k := k.1 c3
    refine aw_iconst (v := (-1)) d_X12_constable_35 ic_m1 ?_
    exact aw_iret rfl d_X12_constable_36 ⟨Nat.le_refl _, Nat.le_refl _⟩ ⟨_, rfl, k⟩
  · have k := k.2 c3
    refine aw_iload_n (i := 2) rfl d_X12_constable_9 2 rfl ?_
    refine aw_iconst (v := 0) d_X12_constable_10 ic_0 ?_
    refine aw_bipush (v := 40) d_X12_constable_11 ib_40 ?_
    refine aw_Si [.int x2, .int 0, .int 40] [] d_X12_constable_13 (cS_X12_in (d + 0) 0 0) tw_2143 rfl (rr0 (Nat.le_of_ble_eq_true rfl) (Nat.le_of_ble_eq_true rfl)) (Nat.le_of_ble_eq_true rfl) xs0 (s_X12_in _ _ x2 0 40) (fun _ _ kk => ?_)
    obtain ⟨e4, e5⟩ := kk
    rw [e4, e5]
    refine aw_ifb_eq (tgt := 35) d_X12_constable_16 rfl (fun c6 => ?_) (fun c6 => ?_)
    · have k := k.1 c6
      refine aw_iconst (v := (-1)) d_X12_constable_35 ic_m1 ?_
      exact aw_iret rfl d_X12_constable_36 ⟨Nat.le_refl _, Nat.le_refl _⟩ ⟨_, rfl, k⟩
    · have k := k.2 c6
      refine aw_iload_n (i := 3) rfl d_X12_constable_19 3 rfl ?_
      refine aw_Si [.int x3] [] d_X12_constable_20 (cS_X12_isPlace (d + 1) 0 0) tw_2140 rfl (rr0 (Nat.le_of_ble_eq_true rfl) (Nat.le_of_ble_eq_true rfl)) (Nat.le_of_ble_eq_true rfl) xs0 (s_X12_isPlace _ _ x3) (fun _ _ kk => ?_)
      obtain ⟨e7, e8⟩ := kk
      rw [e7, e8]
      refine aw_ifb_eq (tgt := 35) d_X12_constable_23 rfl (fun c9 => ?_) (fun c9 => ?_)
      · have k := k.1 c9
        refine aw_iconst (v := (-1)) d_X12_constable_35 ic_m1 ?_
        exact aw_iret rfl d_X12_constable_36 ⟨Nat.le_refl _, Nat.le_refl _⟩ ⟨_, rfl, k⟩
      · have k := k.2 c9
        refine aw_aload_n (i := 0) rfl d_X12_constable_26 0 rfl ?_
        refine aw_geti (k0 := 7) kc_12 (ws_1 w) (Nat.le_of_ble_eq_true rfl) tw_1749 d_X12_constable_27 rfl ?_
        refine aw_bipush (v := 12) d_X12_constable_30 ib_12 ?_
        refine aw_icmp_ne (tgt := 37) d_X12_constable_32 rfl (fun c10 => ?_) (fun c10 => ?_)
        · have k := k.1 c10
          refine aw_aload_n (i := 0) rfl d_X12_constable_37 0 rfl ?_
          refine aw_getr (k0 := 8) kc_12 (ws_1 w) (Nat.le_of_ble_eq_true rfl) tw_1750 d_X12_constable_38 rfl (wr_1_8 w) ?_
          refine aw_aload_n (i := 0) rfl d_X12_constable_41 0 rfl ?_
          refine aw_geti (k0 := 7) kc_12 (ws_1 w) (Nat.le_of_ble_eq_true rfl) tw_1749 d_X12_constable_42 rfl ?_
          refine aw_iload_n (i := 1) rfl d_X12_constable_45 1 rfl ?_
          obtain ⟨b11, k⟩ := k
          refine aw_iast (ws_204 w) b11 d_X12_constable_46 ?_
          refine aw_aload_n (i := 0) rfl d_X12_constable_47 0 rfl ?_
          refine aw_getr (k0 := 9) kc_12 (ws_1 w) (Nat.le_of_ble_eq_true rfl) tw_1751 d_X12_constable_48 rfl (wr_1_9 w) ?_
          refine aw_aload_n (i := 0) rfl d_X12_constable_51 0 rfl ?_
          refine aw_geti (k0 := 7) kc_12 (ws_1 w) (Nat.le_of_ble_eq_true rfl) tw_1749 d_X12_constable_52 rfl ?_
          refine aw_vi (v2 := (h_i h 1 7)) (rfl) ?_
          refine aw_iload_n (i := 2) rfl d_X12_constable_55 2 rfl ?_
          obtain ⟨b12, k⟩ := k
          refine aw_iast (ws_205 w) b12 d_X12_constable_56 ?_
          refine aw_aload_n (i := 0) rfl d_X12_constable_57 0 rfl ?_
          refine aw_getr (k0 := 10) kc_12 (ws_1 w) (Nat.le_of_ble_eq_true rfl) tw_1752 d_X12_constable_58 rfl (wr_1_10 w) ?_
          refine aw_aload_n (i := 0) rfl d_X12_constable_61 0 rfl ?_
          refine aw_geti (k0 := 7) kc_12 (ws_1 w) (Nat.le_of_ble_eq_true rfl) tw_1749 d_X12_constable_62 rfl ?_
          refine aw_vi (v2 := (h_i h 1 7)) (rfl) ?_
          refine aw_iload_n (i := 3) rfl d_X12_constable_65 3 rfl ?_
          obtain ⟨b13, k⟩ := k
          refine aw_iast (ws_206 w) b13 d_X12_constable_66 ?_
          refine aw_aload_n (i := 0) rfl d_X12_constable_67 0 rfl ?_
          refine aw_getr (k0 := 11) kc_12 (ws_1 w) (Nat.le_of_ble_eq_true rfl) tw_1753 d_X12_constable_68 rfl (wr_1_11 w) ?_
          refine aw_aload_n (i := 0) rfl d_X12_constable_71 0 rfl ?_
          refine aw_geti (k0 := 7) kc_12 (ws_1 w) (Nat.le_of_ble_eq_true rfl) tw_1749 d_X12_constable_72 rfl ?_
          refine aw_vi (v2 := (h_i h 1 7)) (rfl) ?_
          refine aw_aload_n (i := 0) rfl d_X12_constable_75 0 rfl ?_
          refine aw_geti (k0 := 0) kc_12 (ws_1 w) (Nat.le_of_ble_eq_true rfl) tw_1742 d_X12_constable_76 rfl ?_
          refine aw_vi (v2 := (h_i h 1 0)) (rfl) ?_
          obtain ⟨b14, k⟩ := k
          refine aw_iast (ws_207 w) b14 d_X12_constable_79 ?_
          refine aw_aload_n (i := 0) rfl d_X12_constable_80 0 rfl ?_
          refine aw_getr (k0 := 12) kc_12 (ws_1 w) (Nat.le_of_ble_eq_true rfl) tw_1754 d_X12_constable_81 rfl (wr_1_12 w) ?_
          refine aw_aload_n (i := 0) rfl d_X12_constable_84 0 rfl ?_
          refine aw_geti (k0 := 7) kc_12 (ws_1 w) (Nat.le_of_ble_eq_true rfl) tw_1749 d_X12_constable_85 rfl ?_
          refine aw_vi (v2 := (h_i h 1 7)) (rfl) ?_
          refine aw_iconst (v := 0) d_X12_constable_88 ic_0 ?_
          obtain ⟨b15, k⟩ := k
          refine aw_iast (ws_208 w) b15 d_X12_constable_89 ?_
          refine aw_aload_n (i := 0) rfl d_X12_constable_90 0 rfl ?_
          refine aw_getr (k0 := 13) kc_12 (ws_1 w) (Nat.le_of_ble_eq_true rfl) tw_1755 d_X12_constable_91 rfl (wr_1_13 w) ?_
          refine aw_aload_n (i := 0) rfl d_X12_constable_94 0 rfl ?_
          refine aw_geti (k0 := 7) kc_12 (ws_1 w) (Nat.le_of_ble_eq_true rfl) tw_1749 d_X12_constable_95 rfl ?_
          refine aw_vi (v2 := (h_i h 1 7)) (rfl) ?_
          refine aw_iload_n (i := 3) rfl d_X12_constable_98 3 rfl ?_
          obtain ⟨b16, k⟩ := k
          refine aw_iast (ws_209 w) b16 d_X12_constable_99 ?_
          refine aw_aload_n (i := 0) rfl d_X12_constable_100 0 rfl ?_
          refine aw_getr (k0 := 14) kc_12 (ws_1 w) (Nat.le_of_ble_eq_true rfl) tw_1756 d_X12_constable_101 rfl (wr_1_14 w) ?_
          refine aw_aload_n (i := 0) rfl d_X12_constable_104 0 rfl ?_
          refine aw_geti (k0 := 7) kc_12 (ws_1 w) (Nat.le_of_ble_eq_true rfl) tw_1749 d_X12_constable_105 rfl ?_
          refine aw_vi (v2 := (h_i h 1 7)) (rfl) ?_
          refine aw_iconst (v := (-1)) d_X12_constable_108 ic_m1 ?_
          obtain ⟨b17, k⟩ := k
          refine aw_iast (ws_210 w) b17 d_X12_constable_109 ?_
          refine aw_aload_n (i := 0) rfl d_X12_constable_110 0 rfl ?_
          refine aw_getr (k0 := 15) kc_12 (ws_1 w) (Nat.le_of_ble_eq_true rfl) tw_1757 d_X12_constable_111 rfl (wr_1_15 w) ?_
          refine aw_aload_n (i := 0) rfl d_X12_constable_114 0 rfl ?_
          refine aw_geti (k0 := 7) kc_12 (ws_1 w) (Nat.le_of_ble_eq_true rfl) tw_1749 d_X12_constable_115 rfl ?_
          refine aw_vi (v2 := (h_i h 1 7)) (rfl) ?_
          refine aw_iconst (v := (-1)) d_X12_constable_118 ic_m1 ?_
          obtain ⟨b18, k⟩ := k
          refine aw_iast (ws_211 w) b18 d_X12_constable_119 ?_
          refine aw_aload_n (i := 0) rfl d_X12_constable_120 0 rfl ?_
          refine aw_getr (k0 := 17) kc_12 (ws_1 w) (Nat.le_of_ble_eq_true rfl) tw_1759 d_X12_constable_121 rfl (wr_1_17 w) ?_
          refine aw_aload_n (i := 0) rfl d_X12_constable_124 0 rfl ?_
          refine aw_geti (k0 := 7) kc_12 (ws_1 w) (Nat.le_of_ble_eq_true rfl) tw_1749 d_X12_constable_125 rfl ?_
          refine aw_vi (v2 := (h_i h 1 7)) (rfl) ?_
          refine aw_iconst (v := (-1)) d_X12_constable_128 ic_m1 ?_
          obtain ⟨b19, k⟩ := k
          refine aw_iast (ws_213 w) b19 d_X12_constable_129 ?_
          refine aw_aload_n (i := 0) rfl d_X12_constable_130 0 rfl ?_
          refine aw_getr (k0 := 19) kc_12 (ws_1 w) (Nat.le_of_ble_eq_true rfl) tw_1761 d_X12_constable_131 rfl (wr_1_19 w) ?_
          refine aw_aload_n (i := 0) rfl d_X12_constable_134 0 rfl ?_
          refine aw_geti (k0 := 7) kc_12 (ws_1 w) (Nat.le_of_ble_eq_true rfl) tw_1749 d_X12_constable_135 rfl ?_
          refine aw_vi (v2 := (h_i h 1 7)) (rfl) ?_
          refine aw_iconst (v := 0) d_X12_constable_138 ic_0 ?_
          obtain ⟨b20, k⟩ := k
          refine aw_iast (ws_215 w) b20 d_X12_constable_139 ?_
          refine aw_aload_n (i := 0) rfl d_X12_constable_140 0 rfl ?_
          refine aw_getr (k0 := 20) kc_12 (ws_1 w) (Nat.le_of_ble_eq_true rfl) tw_1762 d_X12_constable_141 rfl (wr_1_20 w) ?_
          refine aw_aload_n (i := 0) rfl d_X12_constable_144 0 rfl ?_
          refine aw_geti (k0 := 7) kc_12 (ws_1 w) (Nat.le_of_ble_eq_true rfl) tw_1749 d_X12_constable_145 rfl ?_
          refine aw_vi (v2 := (h_i h 1 7)) (rfl) ?_
          refine aw_iconst (v := 0) d_X12_constable_148 ic_0 ?_
          obtain ⟨b21, k⟩ := k
          refine aw_iast (ws_216 w) b21 d_X12_constable_149 ?_
          refine aw_aload_n (i := 0) rfl d_X12_constable_150 0 rfl ?_
          refine aw_getr (k0 := 21) kc_12 (ws_1 w) (Nat.le_of_ble_eq_true rfl) tw_1763 d_X12_constable_151 rfl (wr_1_21 w) ?_
          refine aw_aload_n (i := 0) rfl d_X12_constable_154 0 rfl ?_
          refine aw_geti (k0 := 7) kc_12 (ws_1 w) (Nat.le_of_ble_eq_true rfl) tw_1749 d_X12_constable_155 rfl ?_
          refine aw_vi (v2 := (h_i h 1 7)) (rfl) ?_
          refine aw_iconst (v := 0) d_X12_constable_158 ic_0 ?_
          obtain ⟨b22, k⟩ := k
          refine aw_iast (ws_217 w) b22 d_X12_constable_159 ?_
          refine aw_aload_n (i := 0) rfl d_X12_constable_160 0 rfl ?_
          refine aw_dup d_X12_constable_161 rfl ?_
          refine aw_geti (k0 := 7) kc_12 (ws_1 w) (Nat.le_of_ble_eq_true rfl) tw_1749 d_X12_constable_162 rfl ?_
          refine aw_vi (v2 := (h_i h 1 7)) (rfl) ?_
          refine aw_iconst (v := 1) d_X12_constable_165 ic_1 ?_
          refine aw_iadd d_X12_constable_166 ?_
          refine aw_puti (k0 := 7) kc_12 (ws_1 w) (Nat.le_of_ble_eq_true rfl) tw_1749 d_X12_constable_167 rfl rfl nf_i ?_
          refine aw_aload_n (i := 0) rfl d_X12_constable_170 0 rfl ?_
          refine aw_geti (k0 := 7) kc_12 (ws_1 w) (Nat.le_of_ble_eq_true rfl) tw_1749 d_X12_constable_171 rfl ?_
          refine aw_vi (v2 := ((h_i h 1 7) + 1)) (rfl) ?_
          refine aw_iconst (v := 1) d_X12_constable_174 ic_1 ?_
          refine aw_isub d_X12_constable_175 ?_
          exact aw_iret rfl d_X12_constable_176 ⟨Nat.le_refl _, Nat.le_refl _⟩ ⟨_, rfl, k⟩
        · have k := k.2 c10
          refine aw_iconst (v := (-1)) d_X12_constable_35 ic_m1 ?_
          exact aw_iret rfl d_X12_constable_36 ⟨Nat.le_refl _, Nat.le_refl _⟩ ⟨_, rfl, k⟩
end
section
/-! wake and tick of the reference -/
end
section
/-! tick of the reference -/
noncomputable def J2 (h : Hp_) : Prop := ∀ c : Nat, c < 12 → (c : Int) < (h_i h 1 7).toInt → Jm h c
theorem J2_o {c : Nat} {h h' : Hp_} (m : Mo c h h') (J : J2 h) (j : Jm h' c) : J2 h' := fun k hk hm => by
  by_cases e : k = c
  · rw [e]; exact j
  · exact Jm_o m e (J k hk (by rw [← m.2.2.2.1 7 (Or.inr (Or.inl rfl))]; exact hm))
/-- what Jm looks at stays -/
noncomputable def Jz (h h' : Hp_) : Prop := (∀ a, mrow a = true → ∀ k, h_i h' a k = h_i h a k) ∧ (∀ k, h_i h' 227 k = h_i h 227 k) ∧ (∀ k, h_i h' 228 k = h_i h 228 k) ∧ h_i h' 1 42 = h_i h 1 42
theorem Jm_z {h h' : Hp_} {c : Nat} (e : Jz h h') (J : Jm h c) : Jm h' c := by
  have f := fun (a : Nat) (ha : mrow a = true) => e.1 a ha c
  have ez : nZ h' c = nZ h c := by show (h_i h' 227 (h_i h' 212 c).toNatClampNeg).toNatClampNeg = _; rw [f 212 rfl, e.2.1]
  have es : nS h' c = nS h c := by show (h_i h' 213 c).toNatClampNeg = _; rw [f 213 rfl]
  have eb : nB h' c = nB h c := by show (h_i h' 212 c).toNatClampNeg = _; rw [f 212 rfl]
  have w : h_i h' 228 = h_i h 228 := funext e.2.2.1
  unfold Jm
  rw [ez, es, eb, f 208 rfl, f 210 rfl, f 212 rfl, f 213 rfl, f 216 rfl, w, e.2.2.2]
  exact J
/-- what J2 looks at stays -/
noncomputable def Js (h h' : Hp_) : Prop := Jz h h' ∧ h_i h' 1 7 = h_i h 1 7
theorem J2_s {h h' : Hp_} (e : Js h h') (J : J2 h) : J2 h' := fun c hc hm => Jm_z e.1 (J c hc (by rw [← e.2]; exact hm))
theorem Jz.im {h : Hp_} {a k : Nat} {x : Int32} (n : (mrow a || Nat.beq a 227 || Nat.beq a 228) = false) (n1 : ¬ (a = 1 ∧ k = 42)) : Jz h (h_im h a k x) := by
  simp only [Bool.or_eq_false_iff] at n
  have b : ∀ {y : Nat}, Nat.beq a y = false → y ≠ a := fun {y} z e => by rw [e, Nat.beq_refl] at z; cases z
  refine ⟨fun r hr j => im_ne (fun e => by rw [e, n.1.1] at hr; cases hr), fun j => im_ne (b n.1.2), fun j => im_ne (b n.2), ?_⟩
  rw [h_i_im, if_neg (fun e => n1 ⟨e.1.symm, e.2.symm⟩)]
theorem Js.im {h : Hp_} {a k : Nat} {x : Int32} (n : (mrow a || Nat.beq a 227 || Nat.beq a 228) = false) (n1 : ¬ (a = 1 ∧ (k = 42 ∨ k = 7))) : Js h (h_im h a k x) := ⟨Jz.im n (fun e => n1 ⟨e.1, Or.inl e.2⟩), by rw [h_i_im, if_neg (fun e => n1 ⟨e.1.symm, Or.inr e.2.symm⟩)]⟩
theorem men_in {h : Hp_} (I : Iv h) : rin (h_i h 1 7).toInt (0, 12) := by
  have := I.2.1 1 7
  rwa [show tf 1 7 = (0, 12) by decide +kernel] at this
theorem i220 {h : Hp_} (I : Iv h) (k : Nat) (x : Int32) : Iv (h_im h 220 k (vp_nar .byte x.toInt8.toInt32)) := I.im (by rw [tfa_tf (show tfa 220 = some (-128, 127) by decide +kernel)]; exact ok_b _ rtop (rtop_in _)) (jw_jr (by decide) (by decide) _)
end
section
/-! begin of the reference -/
theorem bt_ix {h : Hp_} (I : Iv h) {x : Int32} (bx : rin x.toInt (0, 11)) {s : Nat} {y : Int32} (ey : y.toInt = 150 * x.toInt + s) (hs : s ≤ 150) : (150 * x + h_i h 227 x.toNatClampNeg).toInt = 150 * x.toInt + ((h_i h 227 x.toNatClampNeg).toNatClampNeg : Int) ∧ (h_i h 227 x.toNatClampNeg).toNatClampNeg ≤ 150 ∧ y.toNatClampNeg = 150 * x.toNatClampNeg + s := by
  have t150 : (150 : Int32).toInt = 150 := rfl
  have c0 : 0 ≤ x.toInt := bx.1
  have c1 : x.toInt ≤ 11 := bx.2
  have zz := dp_rg I 227 x.toNatClampNeg (show tfa 227 = some (0, 150) by decide +kernel)
  have nz := n_nat (x := h_i h 227 x.toNatClampNeg) zz.1
  have z0 : 0 ≤ (h_i h 227 x.toNatClampNeg).toInt := zz.1
  have z1 : (h_i h 227 x.toNatClampNeg).toInt ≤ 150 := zz.2
  have m1 : (150 * x).toInt = 150 * x.toInt := by rw [tx_mul (by rw [t150]; omega) (by rw [t150]; omega), t150]
  have nx := n_nat (x := x) c0
  have ny := n_nat (x := y) (by omega)
  exact ⟨by rw [tx_add (by omega) (by omega), m1]; omega, by omega, by omega⟩
theorem c_pointsOf (d : Nat) {h : Hp_} (I : Iv h) (x1 : Int32) (b1 : rin x1.toInt (0, 11)) : Ci (m_X12_pointsOf (d + 0) 0 0) [.ref 1, .int x1] h (fun r h' => h' = h ∧ r.toInt = (mP (h_i h 228) x1.toNatClampNeg (h_i h 227 x1.toNatClampNeg).toNatClampNeg 0 : Int)) := by
  have v1 := dp_in b1 (n := 12) (by decide) (by decide)
  have c0 : 0 ≤ x1.toInt := b1.1
  have c1 : x1.toInt ≤ 11 := b1.2
  have t0 : (0 : Int32).toInt = 0 := rfl
  have t1 : (1 : Int32).toInt = 1 := rfl
  have t150 : (150 : Int32).toInt = 150 := rfl
  have m1 : (150 * x1).toInt = 150 * x1.toInt := by rw [tx_mul (by rw [t150]; omega) (by rw [t150]; omega), t150]
  have lp : ∀ (r s : Nat) (x2 x3 : Int32), x3.toInt = 150 * x1.toInt + s → s + r = (h_i h 227 x1.toNatClampNeg).toNatClampNeg → 0 ≤ x2.toInt → x2.toInt ≤ s → x2.toInt + (mP (h_i h 228) x1.toNatClampNeg r s : Int) = (mP (h_i h 228) x1.toNatClampNeg (h_i h 227 x1.toNatClampNeg).toNatClampNeg 0 : Int) →
      AW (m_X12_pointsOf (d + 0) 0 0) 0 0 8 [(0, .ref 1), (1, .int x1), (2, .int x2), (3, .int x3)] [] h (kI (fun r h' => h' = h ∧ r.toInt = (mP (h_i h 228) x1.toNatClampNeg (h_i h 227 x1.toNatClampNeg).toNatClampNeg 0 : Int))) := by
    intro r
    induction r with
    | zero =>
      intro s x2 x3 e3 es p2 q2 e2
      have zb := (bt_ix I b1 (s := 0) (y := 150 * x1) (by rw [m1]; omega) (by omega)).2.1
      obtain ⟨k1, k2, k3⟩ := bt_ix I b1 e3 (by omega)
      refine t_X12_pointsOf_8 d h I.1 x1 x2 x3 _ ⟨v1, fun _ => ⟨rfl, by rw [← e2]; show _ = x2.toInt + ((0 : Nat) : Int); omega⟩, fun z => ?_⟩
      have z := q_nle z
      omega
    | succ r ih =>
      intro s x2 x3 e3 es p2 q2 e2
      have zb := (bt_ix I b1 (s := 0) (y := 150 * x1) (by rw [m1]; omega) (by omega)).2.1
      obtain ⟨k1, k2, k3⟩ := bt_ix I b1 e3 (by omega)
      have ex : (x3 + 1).toInt = 150 * x1.toInt + ((s + 1 : Nat) : Int) := by rw [tx_add (by rw [t1]; omega) (by rw [t1]; omega), t1, e3]; omega
      have ea : (x2 + 0).toInt = x2.toInt := by rw [tx_add (by rw [t0]; omega) (by rw [t0]; omega), t0]; omega
      have eb : (x2 + 1).toInt = x2.toInt + 1 := tx_add (by rw [t1]; omega) (by rw [t1]; omega)
      have e2' : x2.toInt + (((if h_i h 228 (150 * x1.toNatClampNeg + s) = 2 then 1 else 0) + mP (h_i h 228) x1.toNatClampNeg r (s + 1) : Nat) : Int) = (mP (h_i h 228) x1.toNatClampNeg (h_i h 227 x1.toNatClampNeg).toNatClampNeg 0 : Int) := e2
      refine t_X12_pointsOf_8 d h I.1 x1 x2 x3 _ ⟨v1, fun z => ?_, fun _ => ⟨dp_in (lo := 0) (hi := 1799) ⟨by show (0 : Int) ≤ _; omega, by show _ ≤ (1799 : Int); omega⟩ (by decide) (by decide), fun z => ?_, fun z => ?_⟩⟩
      · have z := q_le.mp z
        omega
      · rw [k3] at z
        rw [if_neg z] at e2'
        exact ih (s + 1) (x2 + 0) (x3 + 1) ex (by omega) (by omega) (by omega) (by rw [ea]; omega)
      · rw [k3] at z
        rw [if_pos z] at e2'
        exact ih (s + 1) (x2 + 1) (x3 + 1) ex (by omega) (by omega) (by omega) (by rw [eb]; omega)
  exact t_X12_pointsOf d h x1 _ (lp (h_i h 227 x1.toNatClampNeg).toNatClampNeg 0 0 (150 * x1) (by rw [m1]; omega) (by omega) (by decide) (by decide) (by rw [t0]; omega))
end
section
/-! begin of the reference, whole -/
theorem rows_in {h : Hp_} (I : Iv h) : rin (h_i h 1 63).toInt (0, 400) := by
  have := I.2.1 1 63
  rwa [show tf 1 63 = (0, 400) by decide +kernel] at this
theorem i2xx (a : Nat) (e : tfa a = some rtop) (n : a ≠ 0) (j : jr a = false) {h : Hp_} (I : Iv h) (k : Nat) (x : Int32) : Iv (h_im h a k x) := tr_ a e I k x n j
/-- while the rows are laid: what stands of the man -/
noncomputable def Bg (h0 : Hp_) (c : Nat) (x2 : Int32) (N : Nat) (h : Hp_) : Prop := Iv h ∧ Mo c h0 h ∧ h_i h 208 c = 1 ∧ h_i h 212 c = x2 ∧ h_i h 213 c = 0 ∧ h_i h 210 c = -1 ∧ (h_i h 216 c).toInt + (N : Int) ≤ 400
theorem Bg.im {h0 : Hp_} {c : Nat} {x2 : Int32} {N : Nat} {h : Hp_} {a k : Nat} {x : Int32} (B : Bg h0 c x2 N h) (I : Iv (h_im h a k x)) (n : (mrow a || Nat.beq a 227 || Nat.beq a 228 || Nat.beq a 1 || !(inw wsR a 999)) = false) : Bg h0 c x2 N (h_im h a k x) := by
  simp only [Bool.or_eq_false_iff] at n
  have ne : ∀ {y : Nat}, mrow y = true → y ≠ a := fun {y} z e => by rw [e, n.1.1.1.1] at z; cases z
  refine ⟨I, B.2.1.im (by rw [n.1.1.1.2, n.1.1.2, n.1.2, n.2]; rfl) (fun z => by rw [n.1.1.1.1] at z; cases z), ?_, ?_, ?_, ?_, ?_⟩
  · rw [im_ne (ne rfl)]; exact B.2.2.1
  · rw [im_ne (ne rfl)]; exact B.2.2.2.1
  · rw [im_ne (ne rfl)]; exact B.2.2.2.2.1
  · rw [im_ne (ne rfl)]; exact B.2.2.2.2.2.1
  · rw [im_ne (ne rfl)]; exact B.2.2.2.2.2.2
theorem i215 {h : Hp_} (I : Iv h) (k : Nat) {x : Int32} (b : rin x.toInt (0, 400)) : Iv (h_im h 215 k x) := I.im (by rw [tfa_tf (show tfa 215 = some (0, 400) by decide +kernel)]; exact b) (jw_jr (by decide) (by decide) _)
end
section
theorem t_X12_drop_0 (d : Nat) (h : Hp_) (w : Wf h) (x1 : Int32) (x2 : Int32) (K : Hp_ → Prop) (k : vp_in x1 12 ∧ (vp_in x1 12 ∧ (((h_i h 217 x1.toNatClampNeg) ≤ (h_i h 216 x1.toNatClampNeg) → vp_in x1 12 ∧ (K (h_im h 213 x1.toNatClampNeg (-1)))) ∧ (¬ (h_i h 217 x1.toNatClampNeg) ≤ (h_i h 216 x1.toNatClampNeg) → vp_in x1 12 ∧ (vp_in (h_i h 216 x1.toNatClampNeg) 400 ∧ ((¬ (h_i h 241 ((h_i h 216 x1.toNatClampNeg) : Int32).toNatClampNeg) = (-1) → vp_in x1 12 ∧ (vp_in x1 12 ∧ (AW (m_X12_drop (d + 1) 0 0) 0 0 0 [(0, .ref 1), (1, .int x1), (2, .int x2)] [] (h_im h 216 x1.toNatClampNeg ((h_i h 216 x1.toNatClampNeg) + 1)) (kV K)))) ∧ ((h_i h 241 ((h_i h 216 x1.toNatClampNeg) : Int32).toNatClampNeg) = (-1) → vp_in x1 12 ∧ (vp_in (h_i h 216 x1.toNatClampNeg) 400 ∧ ((¬ (h_i h 242 ((h_i h 216 x1.toNatClampNeg) : Int32).toNatClampNeg) = (-1) → vp_in x1 12 ∧ (vp_in x1 12 ∧ (AW (m_X12_drop (d + 1) 0 0) 0 0 0 [(0, .ref 1), (1, .int x1), (2, .int x2)] [] (h_im h 216 x1.toNatClampNeg ((h_i h 216 x1.toNatClampNeg) + 1)) (kV K)))) ∧ ((h_i h 242 ((h_i h 216 x1.toNatClampNeg) : Int32).toNatClampNeg) = (-1) → vp_in x1 12 ∧ (Cv (m_X12_miss (d + 0) 0 0) [.ref 1, .int (h_i h 216 x1.toNatClampNeg), .int x2] h (fun h36 => Wf h36 ∧ (vp_in x1 12 ∧ (vp_in x1 12 ∧ (AW (m_X12_drop (d + 1) 0 0) 0 0 0 [(0, .ref 1), (1, .int x1), (2, .int x2)] [] (h_im h36 216 x1.toNatClampNeg ((h_i h36 216 x1.toNatClampNeg) + 1)) (kV K)))))))))))))))) : AW (m_X12_drop (d + 1) 0 0) 0 0 0 [(0, .ref 1), (1, .int x1), (2, .int x2)] [] h (kV K) := by
  refine aw_aload_n (i := 0) rfl d_X12_drop_0 0 rfl ?_
  refine aw_getr (k0 := 20) kc_12 (ws_1 w) (Nat.le_of_ble_eq_true rfl) tw_1762 d_X12_drop_1 rfl (wr_1_20 w) ?_
  refine aw_iload_n (i := 1) rfl d_X12_drop_4 1 rfl ?_
  obtain ⟨b21, k⟩ := k
  refine aw_iald (ws_216 w) b21 d_X12_drop_5 ?_
  refine aw_aload_n (i := 0) rfl d_X12_drop_6 0 rfl ?_
  refine aw_getr (k0 := 21) kc_12 (ws_1 w) (Nat.le_of_ble_eq_true rfl) tw_1763 d_X12_drop_7 rfl (wr_1_21 w) ?_
  refine aw_iload_n (i := 1) rfl d_X12_drop_10 1 rfl ?_
  obtain ⟨b22, k⟩ := k
  refine aw_iald (ws_217 w) b22 d_X12_drop_11 ?_
  refine aw_icmp_ge (tgt := 69) d_X12_drop_12 rfl (fun c23 => ?_) (fun c23 => ?_)
  · have k := k.1 c23
    refine aw_aload_n (i := 0) rfl d_X12_drop_69 0 rfl ?_
    refine aw_getr (k0 := 17) kc_12 (ws_1 w) (Nat.le_of_ble_eq_true rfl) tw_1759 d_X12_drop_70 rfl (wr_1_17 w) ?_
    refine aw_iload_n (i := 1) rfl d_X12_drop_73 1 rfl ?_
    refine aw_iconst (v := (-1)) d_X12_drop_74 ic_m1 ?_
    obtain ⟨b24, k⟩ := k
    refine aw_iast (ws_213 w) b24 d_X12_drop_75 ?_
    exact aw_vret rfl d_X12_drop_76 ⟨Nat.le_refl _, Nat.le_refl _⟩ ⟨rfl, k⟩
  · have k := k.2 c23
    refine aw_aload_n (i := 0) rfl d_X12_drop_15 0 rfl ?_
    refine aw_getr (k0 := 56) kc_12 (ws_1 w) (Nat.le_of_ble_eq_true rfl) tw_1798 d_X12_drop_16 rfl (wr_1_56 w) ?_
    refine aw_aload_n (i := 0) rfl d_X12_drop_19 0 rfl ?_
    refine aw_getr (k0 := 20) kc_12 (ws_1 w) (Nat.le_of_ble_eq_true rfl) tw_1762 d_X12_drop_20 rfl (wr_1_20 w) ?_
    refine aw_iload_n (i := 1) rfl d_X12_drop_23 1 rfl ?_
    obtain ⟨b25, k⟩ := k
    refine aw_iald (ws_216 w) b25 d_X12_drop_24 ?_
    obtain ⟨b26, k⟩ := k
    refine aw_iald (ws_241 w) b26 d_X12_drop_25 ?_
    refine aw_iconst (v := (-1)) d_X12_drop_26 ic_m1 ?_
    refine aw_icmp_ne (tgt := 56) d_X12_drop_27 rfl (fun c27 => ?_) (fun c27 => ?_)
    · have k := k.1 c27
      refine aw_aload_n (i := 0) rfl d_X12_drop_56 0 rfl ?_
      refine aw_getr (k0 := 20) kc_12 (ws_1 w) (Nat.le_of_ble_eq_true rfl) tw_1762 d_X12_drop_57 rfl (wr_1_20 w) ?_
      refine aw_iload_n (i := 1) rfl d_X12_drop_60 1 rfl ?_
      refine aw_dup2 d_X12_drop_61 ⟨rfl, rfl⟩ ?_
      obtain ⟨b28, k⟩ := k
      refine aw_iald (ws_216 w) b28 d_X12_drop_62 ?_
      refine aw_iconst (v := 1) d_X12_drop_63 ic_1 ?_
      refine aw_iadd d_X12_drop_64 ?_
      obtain ⟨b29, k⟩ := k
      refine aw_iast (ws_216 w) b29 d_X12_drop_65 ?_
      refine aw_goto (tgt := 0) d_X12_drop_66 rfl ?_
      exact k
    · have k := k.2 c27
      refine aw_aload_n (i := 0) rfl d_X12_drop_30 0 rfl ?_
      refine aw_getr (k0 := 57) kc_12 (ws_1 w) (Nat.le_of_ble_eq_true rfl) tw_1799 d_X12_drop_31 rfl (wr_1_57 w) ?_
      refine aw_aload_n (i := 0) rfl d_X12_drop_34 0 rfl ?_
      refine aw_getr (k0 := 20) kc_12 (ws_1 w) (Nat.le_of_ble_eq_true rfl) tw_1762 d_X12_drop_35 rfl (wr_1_20 w) ?_
      refine aw_iload_n (i := 1) rfl d_X12_drop_38 1 rfl ?_
      obtain ⟨b30, k⟩ := k
      refine aw_iald (ws_216 w) b30 d_X12_drop_39 ?_
      obtain ⟨b31, k⟩ := k
      refine aw_iald (ws_242 w) b31 d_X12_drop_40 ?_
      refine aw_iconst (v := (-1)) d_X12_drop_41 ic_m1 ?_
      refine aw_icmp_ne (tgt := 56) d_X12_drop_42 rfl (fun c32 => ?_) (fun c32 => ?_)
      · have k := k.1 c32
        refine aw_aload_n (i := 0) rfl d_X12_drop_56 0 rfl ?_
        refine aw_getr (k0 := 20) kc_12 (ws_1 w) (Nat.le_of_ble_eq_true rfl) tw_1762 d_X12_drop_57 rfl (wr_1_20 w) ?_
        refine aw_iload_n (i := 1) rfl d_X12_drop_60 1 rfl ?_
        refine aw_dup2 d_X12_drop_61 ⟨rfl, rfl⟩ ?_
        obtain ⟨b33, k⟩ := k
        refine aw_iald (ws_216 w) b33 d_X12_drop_62 ?_
        refine aw_iconst (v := 1) d_X12_drop_63 ic_1 ?_
        refine aw_iadd d_X12_drop_64 ?_
        obtain ⟨b34, k⟩ := k
        refine aw_iast (ws_216 w) b34 d_X12_drop_65 ?_
        refine aw_goto (tgt := 0) d_X12_drop_66 rfl ?_
        exact k
      · have k := k.2 c32
        refine aw_aload_n (i := 0) rfl d_X12_drop_45 0 rfl ?_
        refine aw_aload_n (i := 0) rfl d_X12_drop_46 0 rfl ?_
        refine aw_getr (k0 := 20) kc_12 (ws_1 w) (Nat.le_of_ble_eq_true rfl) tw_1762 d_X12_drop_47 rfl (wr_1_20 w) ?_
        refine aw_iload_n (i := 1) rfl d_X12_drop_50 1 rfl ?_
        obtain ⟨b35, k⟩ := k
        refine aw_iald (ws_216 w) b35 d_X12_drop_51 ?_
        refine aw_iload_n (i := 2) rfl d_X12_drop_52 2 rfl ?_
        refine aw_Vv 1 [.int (h_i h 216 x1.toNatClampNeg), .int x2] [] d_X12_drop_53 (cV_X12_miss (d + 0) 0 0) kc_12 (ws_1 w) tw_2352 rfl (rr0 (Nat.le_of_ble_eq_true rfl) (Nat.le_of_ble_eq_true rfl)) (Nat.le_of_ble_eq_true rfl) xs0 k (fun h36 kk => ?_)
        obtain ⟨w37, k⟩ := kk
        refine aw_aload_n (i := 0) rfl d_X12_drop_56 0 rfl ?_
        refine aw_getr (k0 := 20) kc_12 (ws_1 w37) (Nat.le_of_ble_eq_true rfl) tw_1762 d_X12_drop_57 rfl (wr_1_20 w37) ?_
        refine aw_iload_n (i := 1) rfl d_X12_drop_60 1 rfl ?_
        refine aw_dup2 d_X12_drop_61 ⟨rfl, rfl⟩ ?_
        obtain ⟨b39, k⟩ := k
        refine aw_iald (ws_216 w37) b39 d_X12_drop_62 ?_
        refine aw_iconst (v := 1) d_X12_drop_63 ic_1 ?_
        refine aw_iadd d_X12_drop_64 ?_
        obtain ⟨b40, k⟩ := k
        refine aw_iast (ws_216 w37) b40 d_X12_drop_65 ?_
        refine aw_goto (tgt := 0) d_X12_drop_66 rfl ?_
        exact k
end
section
/-! draw, ill and constable of the reference -/
end
section
/-! constable of the reference; what every other call leaves of the men -/
noncomputable def okm (m x1 x2 x3 : Int32) : Prop := (1 ≤ x1 ∧ x1 ≤ 4) ∧ (0 ≤ x2 ∧ x2 ≤ 40) ∧ (0 ≤ x3 ∧ x3 ≤ 15) ∧ ¬ m = 12
noncomputable def ocm (m x1 x2 x3 r m' : Int32) : Prop := (okm m x1 x2 x3 ∧ r = m ∧ m' = m + 1) ∨ (¬ okm m x1 x2 x3 ∧ r = -1 ∧ m' = m)
noncomputable def Cw (ok : Prop) (m x1 : Int32) (h h' : Hp_) : Prop := (ok → h_i h' 204 m.toNatClampNeg = x1) ∧ ∀ k, (k ≠ m.toNatClampNeg ∨ ¬ ok) → h_i h' 204 k = h_i h 204 k
theorem tx_back (x : Int32) : x + 1 - 1 = x := Int32.add_sub_cancel x 1
/-- a call that writes nothing that the men's account looks at -/
noncomputable def jso (ws : List Nat) : Bool := off ws 208 && off ws 210 && off ws 212 && off ws 213 && off ws 216 && off ws 227 && off ws 228 && !inw ws 1 42 && !inw ws 1 7
theorem Js.fr {ws : List Nat} {h h' : Hp_} (f : Fr ws h h') (o : jso ws = true) : Js h h' := by
  unfold jso at o
  simp only [Bool.and_eq_true] at o
  obtain ⟨⟨⟨⟨⟨⟨⟨⟨o1, o2⟩, o3⟩, o4⟩, o5⟩, o6⟩, o7⟩, o8⟩, o9⟩ := o
  rw [Bool.not_eq_true'] at o8 o9
  refine ⟨⟨fun r hr k => ?_, fun k => fr_i f o6 k, fun k => fr_i f o7 k, (f.2 1 42 o8).1⟩, (f.2 1 7 o9).1⟩
  unfold mrow at hr
  simp only [Bool.or_eq_true] at hr
  rcases hr with (((z | z) | z) | z) | z <;> have z := Nat.eq_of_beq_eq_true z <;> subst z
  · exact fr_i f o1 k
  · exact fr_i f o2 k
  · exact fr_i f o3 k
  · exact fr_i f o4 k
  · exact fr_i f o5 k
theorem Mf.js {W : List Nat} {h h' : Hp_} (m : Mf W h h') : Js h h' := by
  refine ⟨⟨fun r hr k => ?_, fun k => m.2.1 227 (by decide) (by decide) k, fun k => m.2.1 228 (by decide) (by decide) k, m.1 42⟩, m.1 7⟩
  unfold mrow at hr
  simp only [Bool.or_eq_true] at hr
  rcases hr with (((z | z) | z) | z) | z <;> have z := Nat.eq_of_beq_eq_true z <;> subst z <;> exact m.2.1 _ (by decide) (by decide) k
end
section
theorem t_X12_look_0 (d : Nat) (h : Hp_) (w : Wf h)  (K : Int32 → Hp_ → Prop) (k : ((h_i h 1 32) ≤ (h_i h 1 33) → ((h_i h 1 32) ≤ (h_i h 1 33) → K (-1) h) ∧ (¬ (h_i h 1 32) ≤ (h_i h 1 33) → vp_in (h_i h 1 33) 160 ∧ (K (h_i h 225 ((h_i h 1 33) : Int32).toNatClampNeg) h))) ∧ (¬ (h_i h 1 32) ≤ (h_i h 1 33) → vp_in (h_i h 1 33) 160 ∧ ((¬ (h_i h 225 ((h_i h 1 33) : Int32).toNatClampNeg) = 32 → ((h_i h 1 32) ≤ (h_i h 1 33) → K (-1) h) ∧ (¬ (h_i h 1 32) ≤ (h_i h 1 33) → vp_in (h_i h 1 33) 160 ∧ (K (h_i h 225 ((h_i h 1 33) : Int32).toNatClampNeg) h))) ∧ ((h_i h 225 ((h_i h 1 33) : Int32).toNatClampNeg) = 32 → AW (m_X12_look (d + 0) 0 0) 0 0 0 [(0, .ref 1)] [] (h_im h 1 33 ((h_i h 1 33) + 1)) (kI K))))) : AW (m_X12_look (d + 0) 0 0) 0 0 0 [(0, .ref 1)] [] h (kI K) := by
  refine aw_aload_n (i := 0) rfl d_X12_look_0 0 rfl ?_
  refine aw_geti (k0 := 33) kc_12 (ws_1 w) (Nat.le_of_ble_eq_true rfl) tw_1775 d_X12_look_1 rfl ?_
  refine aw_aload_n (i := 0) rfl d_X12_look_4 0 rfl ?_
  refine aw_geti (k0 := 32) kc_12 (ws_1 w) (Nat.le_of_ble_eq_true rfl) tw_1774 d_X12_look_5 rfl ?_
  refine aw_icmp_ge (tgt := 38) d_X12_look_8 rfl (fun c8 => ?_) (fun c8 => ?_)
  · have k := k.1 c8
    refine aw_aload_n (i := 0) rfl d_X12_look_38 0 rfl ?_
    refine aw_geti (k0 := 33) kc_12 (ws_1 w) (Nat.le_of_ble_eq_true rfl) tw_1775 d_X12_look_39 rfl ?_
    refine aw_aload_n (i := 0) rfl d_X12_look_42 0 rfl ?_
    refine aw_geti (k0 := 32) kc_12 (ws_1 w) (Nat.le_of_ble_eq_true rfl) tw_1774 d_X12_look_43 rfl ?_
    refine aw_icmp_ge (tgt := 61) d_X12_look_46 rfl (fun c9 => ?_) (fun c9 => ?_)
    · have k := k.1 c9
      refine aw_iconst (v := (-1)) d_X12_look_61 ic_m1 ?_
      exact aw_iret rfl d_X12_look_62 ⟨Nat.le_refl _, Nat.le_refl _⟩ ⟨_, rfl, k⟩
    · have k := k.2 c9
      refine aw_aload_n (i := 0) rfl d_X12_look_49 0 rfl ?_
      refine aw_getr (k0 := 30) kc_12 (ws_1 w) (Nat.le_of_ble_eq_true rfl) tw_1772 d_X12_look_50 rfl (wr_1_30 w) ?_
      refine aw_aload_n (i := 0) rfl d_X12_look_53 0 rfl ?_
      refine aw_geti (k0 := 33) kc_12 (ws_1 w) (Nat.le_of_ble_eq_true rfl) tw_1775 d_X12_look_54 rfl ?_
      obtain ⟨b10, k⟩ := k
      refine aw_iald (ws_225 w) b10 d_X12_look_57 ?_
      refine aw_goto (tgt := 62) d_X12_look_58 rfl ?_
      exact aw_iret rfl d_X12_look_62 ⟨Nat.le_refl _, Nat.le_refl _⟩ ⟨_, rfl, k⟩
  · have k := k.2 c8
    refine aw_aload_n (i := 0) rfl d_X12_look_11 0 rfl ?_
    refine aw_getr (k0 := 30) kc_12 (ws_1 w) (Nat.le_of_ble_eq_true rfl) tw_1772 d_X12_look_12 rfl (wr_1_30 w) ?_
    refine aw_aload_n (i := 0) rfl d_X12_look_15 0 rfl ?_
    refine aw_geti (k0 := 33) kc_12 (ws_1 w) (Nat.le_of_ble_eq_true rfl) tw_1775 d_X12_look_16 rfl ?_
    obtain ⟨b11, k⟩ := k
    refine aw_iald (ws_225 w) b11 d_X12_look_19 ?_
    refine aw_bipush (v := 32) d_X12_look_20 ib_32 ?_
    refine aw_icmp_ne (tgt := 38) d_X12_look_22 rfl (fun c12 => ?_) (fun c12 => ?_)
    · have k := k.1 c12
      refine aw_aload_n (i := 0) rfl d_X12_look_38 0 rfl ?_
      refine aw_geti (k0 := 33) kc_12 (ws_1 w) (Nat.le_of_ble_eq_true rfl) tw_1775 d_X12_look_39 rfl ?_
      refine aw_aload_n (i := 0) rfl d_X12_look_42 0 rfl ?_
      refine aw_geti (k0 := 32) kc_12 (ws_1 w) (Nat.le_of_ble_eq_true rfl) tw_1774 d_X12_look_43 rfl ?_
      refine aw_icmp_ge (tgt := 61) d_X12_look_46 rfl (fun c13 => ?_) (fun c13 => ?_)
      · have k := k.1 c13
        refine aw_iconst (v := (-1)) d_X12_look_61 ic_m1 ?_
        exact aw_iret rfl d_X12_look_62 ⟨Nat.le_refl _, Nat.le_refl _⟩ ⟨_, rfl, k⟩
      · have k := k.2 c13
        refine aw_aload_n (i := 0) rfl d_X12_look_49 0 rfl ?_
        refine aw_getr (k0 := 30) kc_12 (ws_1 w) (Nat.le_of_ble_eq_true rfl) tw_1772 d_X12_look_50 rfl (wr_1_30 w) ?_
        refine aw_aload_n (i := 0) rfl d_X12_look_53 0 rfl ?_
        refine aw_geti (k0 := 33) kc_12 (ws_1 w) (Nat.le_of_ble_eq_true rfl) tw_1775 d_X12_look_54 rfl ?_
        obtain ⟨b14, k⟩ := k
        refine aw_iald (ws_225 w) b14 d_X12_look_57 ?_
        refine aw_goto (tgt := 62) d_X12_look_58 rfl ?_
        exact aw_iret rfl d_X12_look_62 ⟨Nat.le_refl _, Nat.le_refl _⟩ ⟨_, rfl, k⟩
    · have k := k.2 c12
      refine aw_aload_n (i := 0) rfl d_X12_look_25 0 rfl ?_
      refine aw_dup d_X12_look_26 rfl ?_
      refine aw_geti (k0 := 33) kc_12 (ws_1 w) (Nat.le_of_ble_eq_true rfl) tw_1775 d_X12_look_27 rfl ?_
      refine aw_iconst (v := 1) d_X12_look_30 ic_1 ?_
      refine aw_iadd d_X12_look_31 ?_
      refine aw_puti (k0 := 33) kc_12 (ws_1 w) (Nat.le_of_ble_eq_true rfl) tw_1775 d_X12_look_32 rfl rfl nf_i ?_
      refine aw_goto (tgt := 0) d_X12_look_35 rfl ?_
      exact k
theorem t_X12_bad (d : Nat) (h : Hp_) (w : Wf h)  (K : Hp_ → Prop) (k : (¬ (h_i h 1 34) = (-1) → K (h_im h 1 34 (h_i h 1 34))) ∧ ((h_i h 1 34) = (-1) → K (h_im h 1 34 (h_i h 1 33)))) : Cv (m_X12_bad (d + 0) 0 0) [.ref 1] h K := by
  refine Ct.of (fun _ _ _ => trivial) pn_X12 (Nat.le_of_ble_eq_true rfl) ?_
  show AW (m_X12_bad (d + 0) 0 0) 0 0 0 [(0, .ref 1)] [] h (kV K)
  refine aw_aload_n (i := 0) rfl d_X12_bad_0 0 rfl ?_
  refine aw_aload_n (i := 0) rfl d_X12_bad_1 0 rfl ?_
  refine aw_geti (k0 := 34) kc_12 (ws_1 w) (Nat.le_of_ble_eq_true rfl) tw_1776 d_X12_bad_2 rfl ?_
  refine aw_iconst (v := (-1)) d_X12_bad_5 ic_m1 ?_
  refine aw_icmp_ne (tgt := 16) d_X12_bad_6 rfl (fun c1 => ?_) (fun c1 => ?_)
  · have k := k.1 c1
    refine aw_aload_n (i := 0) rfl d_X12_bad_16 0 rfl ?_
    refine aw_geti (k0 := 34) kc_12 (ws_1 w) (Nat.le_of_ble_eq_true rfl) tw_1776 d_X12_bad_17 rfl ?_
    refine aw_puti (k0 := 34) kc_12 (ws_1 w) (Nat.le_of_ble_eq_true rfl) tw_1776 d_X12_bad_20 rfl rfl nf_i ?_
    exact aw_vret rfl d_X12_bad_23 ⟨Nat.le_refl _, Nat.le_refl _⟩ ⟨rfl, k⟩
  · have k := k.2 c1
    refine aw_aload_n (i := 0) rfl d_X12_bad_9 0 rfl ?_
    refine aw_geti (k0 := 33) kc_12 (ws_1 w) (Nat.le_of_ble_eq_true rfl) tw_1775 d_X12_bad_10 rfl ?_
    refine aw_goto (tgt := 20) d_X12_bad_13 rfl ?_
    refine aw_puti (k0 := 34) kc_12 (ws_1 w) (Nat.le_of_ble_eq_true rfl) tw_1776 d_X12_bad_20 rfl rfl nf_i ?_
    exact aw_vret rfl d_X12_bad_23 ⟨Nat.le_refl _, Nat.le_refl _⟩ ⟨rfl, k⟩
theorem t_X12_say (d : Nat) (h : Hp_) (w : Wf h) (x1 : Int32) (K : Hp_ → Prop) (k : vp_in (h_i h 1 36) 560 ∧ (K (h_im (h_im h 226 ((h_i h 1 36) : Int32).toNatClampNeg x1) 1 36 ((h_i h 1 36) + 1)))) : Cv (m_X12_say (d + 0) 0 0) [.ref 1, .int x1] h K := by
  refine Ct.of (fun _ _ _ => trivial) pn_X12 (Nat.le_of_ble_eq_true rfl) ?_
  show AW (m_X12_say (d + 0) 0 0) 0 0 0 [(0, .ref 1), (1, .int x1)] [] h (kV K)
  refine aw_aload_n (i := 0) rfl d_X12_say_0 0 rfl ?_
  refine aw_getr (k0 := 31) kc_12 (ws_1 w) (Nat.le_of_ble_eq_true rfl) tw_1773 d_X12_say_1 rfl (wr_1_31 w) ?_
  refine aw_aload_n (i := 0) rfl d_X12_say_4 0 rfl ?_
  refine aw_geti (k0 := 36) kc_12 (ws_1 w) (Nat.le_of_ble_eq_true rfl) tw_1778 d_X12_say_5 rfl ?_
  refine aw_iload_n (i := 1) rfl d_X12_say_8 1 rfl ?_
  obtain ⟨b1, k⟩ := k
  refine aw_iast (ws_226 w) b1 d_X12_say_9 ?_
  refine aw_aload_n (i := 0) rfl d_X12_say_10 0 rfl ?_
  refine aw_dup d_X12_say_11 rfl ?_
  refine aw_geti (k0 := 36) kc_12 (ws_1 w) (Nat.le_of_ble_eq_true rfl) tw_1778 d_X12_say_12 rfl ?_
  refine aw_vi (v2 := (h_i h 1 36)) (rfl) ?_
  refine aw_iconst (v := 1) d_X12_say_15 ic_1 ?_
  refine aw_iadd d_X12_say_16 ?_
  refine aw_puti (k0 := 36) kc_12 (ws_1 w) (Nat.le_of_ble_eq_true rfl) tw_1778 d_X12_say_17 rfl rfl nf_i ?_
  exact aw_vret rfl d_X12_say_20 ⟨Nat.le_refl _, Nat.le_refl _⟩ ⟨rfl, k⟩
theorem t_X12_number (d : Nat) (h : Hp_) (w : Wf h)  (K : Int32 → Hp_ → Prop) (k : Ci (m_X12_look (d + 0) 0 0) [.ref 1] h (fun r3 h1 => Wf h1 ∧ (Ci (m_X12_isDigit (d + 0) 0 0) [.int r3] h1 (fun r6 h4 => Wf h4 ∧ ((¬ r6 = 0 → AW (m_X12_number (d + 1) 0 0) 0 0 20 [(0, .ref 1), (1, .int 0), (2, .int 0)] [] h4 (kI K)) ∧ (r6 = 0 → Cv (m_X12_bad (d + 0) 0 0) [.ref 1] h4 (fun h8 => Wf h8 ∧ (K (-1) h8)))))))) : Ci (m_X12_number (d + 1) 0 0) [.ref 1] h K := by
  refine Ct.of (fun _ _ _ => trivial) pn_X12 (Nat.le_of_ble_eq_true rfl) ?_
  show AW (m_X12_number (d + 1) 0 0) 0 0 0 [(0, .ref 1)] [] h (kI K)
  refine aw_aload_n (i := 0) rfl d_X12_number_0 0 rfl ?_
  refine aw_Vi 1 [] [] d_X12_number_1 (cV_X12_look (d + 0) 0 0) kc_12 (ws_1 w) tw_2206 rfl (rr0 (Nat.le_of_ble_eq_true rfl) (Nat.le_of_ble_eq_true rfl)) (Nat.le_of_ble_eq_true rfl) xs0 k (fun r3 h1 kk => ?_)
  obtain ⟨w2, k⟩ := kk
  refine aw_Si [.int r3] [] d_X12_number_4 (cS_X12_isDigit (d + 0) 0 0) tw_2222 rfl (rr0 (Nat.le_of_ble_eq_true rfl) (Nat.le_of_ble_eq_true rfl)) (Nat.le_of_ble_eq_true rfl) xs0 k (fun r6 h4 kk => ?_)
  obtain ⟨w5, k⟩ := kk
  refine aw_if_ne (tgt := 16) d_X12_number_7 rfl (fun c7 => ?_) (fun c7 => ?_)
  · have k := k.1 c7
    refine aw_iconst (v := 0) d_X12_number_16 ic_0 ?_
    refine aw_istore_n (i := 1) rfl [(0, .ref 1), (1, .int 0)] d_X12_number_17 (Nat.le_of_ble_eq_true rfl) rfl rfl ?_
    refine aw_iconst (v := 0) d_X12_number_18 ic_0 ?_
    refine aw_istore_n (i := 2) rfl [(0, .ref 1), (1, .int 0), (2, .int 0)] d_X12_number_19 (Nat.le_of_ble_eq_true rfl) rfl rfl ?_
    exact k
  · have k := k.2 c7
    refine aw_aload_n (i := 0) rfl d_X12_number_10 0 rfl ?_
    refine aw_Vv 1 [] [] d_X12_number_11 (cV_X12_bad (d + 0) 0 0) kc_12 (ws_1 w5) tw_2225 rfl (rr0 (Nat.le_of_ble_eq_true rfl) (Nat.le_of_ble_eq_true rfl)) (Nat.le_of_ble_eq_true rfl) xs0 k (fun h8 kk => ?_)
    obtain ⟨w9, k⟩ := kk
    refine aw_iconst (v := (-1)) d_X12_number_14 ic_m1 ?_
    exact aw_iret rfl d_X12_number_15 ⟨Nat.le_refl _, Nat.le_refl _⟩ ⟨_, rfl, k⟩
theorem t_X12_number_20 (d : Nat) (h : Hp_) (w : Wf h) (x1 : Int32) (x2 : Int32) (K : Int32 → Hp_ → Prop) (k : ((h_i h 1 32) ≤ (h_i h 1 33) → K x1 h) ∧ (¬ (h_i h 1 32) ≤ (h_i h 1 33) → vp_in (h_i h 1 33) 160 ∧ (Ci (m_X12_isDigit (d + 0) 0 0) [.int (h_i h 225 ((h_i h 1 33) : Int32).toNatClampNeg)] h (fun r15 h13 => Wf h13 ∧ ((r15 = 0 → K x1 h13) ∧ (¬ r15 = 0 → (¬ x2 = 4 → vp_in (h_i h13 1 33) 160 ∧ (AW (m_X12_number (d + 1) 0 0) 0 0 20 [(0, .ref 1), (1, .int (((10 * x1) + (h_i h13 225 ((h_i h13 1 33) : Int32).toNatClampNeg)) - 48)), (2, .int (x2 + 1))] [] (h_im h13 1 33 ((h_i h13 1 33) + 1)) (kI K))) ∧ (x2 = 4 → Cv (m_X12_bad (d + 0) 0 0) [.ref 1] h13 (fun h19 => Wf h19 ∧ (K (-1) h19))))))))) : AW (m_X12_number (d + 1) 0 0) 0 0 20 [(0, .ref 1), (1, .int x1), (2, .int x2)] [] h (kI K) := by
  refine aw_aload_n (i := 0) rfl d_X12_number_20 0 rfl ?_
  refine aw_geti (k0 := 33) kc_12 (ws_1 w) (Nat.le_of_ble_eq_true rfl) tw_1775 d_X12_number_21 rfl ?_
  refine aw_aload_n (i := 0) rfl d_X12_number_24 0 rfl ?_
  refine aw_geti (k0 := 32) kc_12 (ws_1 w) (Nat.le_of_ble_eq_true rfl) tw_1774 d_X12_number_25 rfl ?_
  refine aw_icmp_ge (tgt := 91) d_X12_number_28 rfl (fun c11 => ?_) (fun c11 => ?_)
  · have k := k.1 c11
    refine aw_iload_n (i := 1) rfl d_X12_number_91 1 rfl ?_
    exact aw_iret rfl d_X12_number_92 ⟨Nat.le_refl _, Nat.le_refl _⟩ ⟨_, rfl, k⟩
  · have k := k.2 c11
    refine aw_aload_n (i := 0) rfl d_X12_number_31 0 rfl ?_
    refine aw_getr (k0 := 30) kc_12 (ws_1 w) (Nat.le_of_ble_eq_true rfl) tw_1772 d_X12_number_32 rfl (wr_1_30 w) ?_
    refine aw_aload_n (i := 0) rfl d_X12_number_35 0 rfl ?_
    refine aw_geti (k0 := 33) kc_12 (ws_1 w) (Nat.le_of_ble_eq_true rfl) tw_1775 d_X12_number_36 rfl ?_
    obtain ⟨b12, k⟩ := k
    refine aw_iald (ws_225 w) b12 d_X12_number_39 ?_
    refine aw_Si [.int (h_i h 225 ((h_i h 1 33) : Int32).toNatClampNeg)] [] d_X12_number_40 (cS_X12_isDigit (d + 0) 0 0) tw_2222 rfl (rr0 (Nat.le_of_ble_eq_true rfl) (Nat.le_of_ble_eq_true rfl)) (Nat.le_of_ble_eq_true rfl) xs0 k (fun r15 h13 kk => ?_)
    obtain ⟨w14, k⟩ := kk
    refine aw_if_eq (tgt := 91) d_X12_number_43 rfl (fun c16 => ?_) (fun c16 => ?_)
    · have k := k.1 c16
      refine aw_iload_n (i := 1) rfl d_X12_number_91 1 rfl ?_
      exact aw_iret rfl d_X12_number_92 ⟨Nat.le_refl _, Nat.le_refl _⟩ ⟨_, rfl, k⟩
    · have k := k.2 c16
      refine aw_iload_n (i := 2) rfl d_X12_number_46 2 rfl ?_
      refine aw_iconst (v := 4) d_X12_number_47 ic_4 ?_
      refine aw_icmp_ne (tgt := 57) d_X12_number_48 rfl (fun c17 => ?_) (fun c17 => ?_)
      · have k := k.1 c17
        refine aw_bipush (v := 10) d_X12_number_57 ib_10 ?_
        refine aw_iload_n (i := 1) rfl d_X12_number_59 1 rfl ?_
        refine aw_imul d_X12_number_60 ?_
        refine aw_aload_n (i := 0) rfl d_X12_number_61 0 rfl ?_
        refine aw_getr (k0 := 30) kc_12 (ws_1 w14) (Nat.le_of_ble_eq_true rfl) tw_1772 d_X12_number_62 rfl (wr_1_30 w14) ?_
        refine aw_aload_n (i := 0) rfl d_X12_number_65 0 rfl ?_
        refine aw_geti (k0 := 33) kc_12 (ws_1 w14) (Nat.le_of_ble_eq_true rfl) tw_1775 d_X12_number_66 rfl ?_
        obtain ⟨b18, k⟩ := k
        refine aw_iald (ws_225 w14) b18 d_X12_number_69 ?_
        refine aw_iadd d_X12_number_70 ?_
        refine aw_bipush (v := 48) d_X12_number_71 ib_48 ?_
        refine aw_isub d_X12_number_73 ?_
        refine aw_istore_n (i := 1) rfl [(0, .ref 1), (1, .int (((10 * x1) + (h_i h13 225 ((h_i h13 1 33) : Int32).toNatClampNeg)) - 48)), (2, .int x2)] d_X12_number_74 (Nat.le_of_ble_eq_true rfl) rfl rfl ?_
        refine aw_iinc (v := (x2 + 1)) [(0, .ref 1), (1, .int (((10 * x1) + (h_i h13 225 ((h_i h13 1 33) : Int32).toNatClampNeg)) - 48)), (2, .int (x2 + 1))] d_X12_number_75 2 rfl rfl (Nat.le_of_ble_eq_true rfl) rfl rfl ?_
        refine aw_aload_n (i := 0) rfl d_X12_number_78 0 rfl ?_
        refine aw_dup d_X12_number_79 rfl ?_
        refine aw_geti (k0 := 33) kc_12 (ws_1 w14) (Nat.le_of_ble_eq_true rfl) tw_1775 d_X12_number_80 rfl ?_
        refine aw_iconst (v := 1) d_X12_number_83 ic_1 ?_
        refine aw_iadd d_X12_number_84 ?_
        refine aw_puti (k0 := 33) kc_12 (ws_1 w14) (Nat.le_of_ble_eq_true rfl) tw_1775 d_X12_number_85 rfl rfl nf_i ?_
        refine aw_goto (tgt := 20) d_X12_number_88 rfl ?_
        exact k
      · have k := k.2 c17
        refine aw_aload_n (i := 0) rfl d_X12_number_51 0 rfl ?_
        refine aw_Vv 1 [] [] d_X12_number_52 (cV_X12_bad (d + 0) 0 0) kc_12 (ws_1 w14) tw_2225 rfl (rr0 (Nat.le_of_ble_eq_true rfl) (Nat.le_of_ble_eq_true rfl)) (Nat.le_of_ble_eq_true rfl) xs0 k (fun h19 kk => ?_)
        obtain ⟨w20, k⟩ := kk
        refine aw_iconst (v := (-1)) d_X12_number_55 ic_m1 ?_
        exact aw_iret rfl d_X12_number_56 ⟨Nat.le_refl _, Nat.le_refl _⟩ ⟨_, rfl, k⟩
theorem t_X12_within (d : Nat) (h : Hp_) (w : Wf h) (x1 : Int32) (x2 : Int32) (K : Int32 → Hp_ → Prop) (k : Ci (m_X12_number (d + 1) 0 0) [.ref 1] h (fun r3 h1 => Wf h1 ∧ ((¬ (h_i h1 1 34) = (-1) → K r3 h1) ∧ ((h_i h1 1 34) = (-1) → ((x1 ≤ r3 ∧ r3 ≤ x2) → K r3 h1) ∧ (¬ (x1 ≤ r3 ∧ r3 ≤ x2) → K r3 (h_im h1 1 34 ((h_i h1 1 33) - 1))))))) : Ci (m_X12_within (d + 2) 0 0) [.ref 1, .int x1, .int x2] h K := by
  refine Ct.of (fun _ _ _ => trivial) pn_X12 (Nat.le_of_ble_eq_true rfl) ?_
  show AW (m_X12_within (d + 2) 0 0) 0 0 0 [(0, .ref 1), (1, .int x1), (2, .int x2)] [] h (kI K)
  refine aw_aload_n (i := 0) rfl d_X12_within_0 0 rfl ?_
  refine aw_Vi 1 [] [] d_X12_within_1 (cV_X12_number (d + 1) 0 0) kc_12 (ws_1 w) tw_2218 rfl (rr0 (Nat.le_of_ble_eq_true rfl) (Nat.le_of_ble_eq_true rfl)) (Nat.le_of_ble_eq_true rfl) xs0 k (fun r3 h1 kk => ?_)
  obtain ⟨w2, k⟩ := kk
  refine aw_istore_n (i := 3) rfl [(0, .ref 1), (1, .int x1), (2, .int x2), (3, .int r3)] d_X12_within_4 (Nat.le_of_ble_eq_true rfl) rfl rfl ?_
  refine aw_aload_n (i := 0) rfl d_X12_within_5 0 rfl ?_
  refine aw_geti (k0 := 34) kc_12 (ws_1 w2) (Nat.le_of_ble_eq_true rfl) tw_1776 d_X12_within_6 rfl ?_
  refine aw_iconst (v := (-1)) d_X12_within_9 ic_m1 ?_
  refine aw_icmp_ne (tgt := 32) d_X12_within_10 rfl (fun c4 => ?_) (fun c4 => ?_)
  · have k := k.1 c4
    refine aw_iload_n (i := 3) rfl d_X12_within_32 3 rfl ?_
    exact aw_iret rfl d_X12_within_33 ⟨Nat.le_refl _, Nat.le_refl _⟩ ⟨_, rfl, k⟩
  · have k := k.2 c4
    refine aw_iload_n (i := 3) rfl d_X12_within_13 3 rfl ?_
    refine aw_iload_n (i := 1) rfl d_X12_within_14 1 rfl ?_
    refine aw_iload_n (i := 2) rfl d_X12_within_15 2 rfl ?_
    refine aw_Si [.int r3, .int x1, .int x2] [] d_X12_within_16 (cS_X12_in (d + 0) 0 0) tw_2143 rfl (rr0 (Nat.le_of_ble_eq_true rfl) (Nat.le_of_ble_eq_true rfl)) (Nat.le_of_ble_eq_true rfl) xs0 (s_X12_in _ _ r3 x1 x2) (fun _ _ kk => ?_)
    obtain ⟨e5, e6⟩ := kk
    rw [e5, e6]
    refine aw_ifb_ne (tgt := 32) d_X12_within_19 rfl (fun c7 => ?_) (fun c7 => ?_)
    · have k := k.1 c7
      refine aw_iload_n (i := 3) rfl d_X12_within_32 3 rfl ?_
      exact aw_iret rfl d_X12_within_33 ⟨Nat.le_refl _, Nat.le_refl _⟩ ⟨_, rfl, k⟩
    · have k := k.2 c7
      refine aw_aload_n (i := 0) rfl d_X12_within_22 0 rfl ?_
      refine aw_aload_n (i := 0) rfl d_X12_within_23 0 rfl ?_
      refine aw_geti (k0 := 33) kc_12 (ws_1 w2) (Nat.le_of_ble_eq_true rfl) tw_1775 d_X12_within_24 rfl ?_
      refine aw_iconst (v := 1) d_X12_within_27 ic_1 ?_
      refine aw_isub d_X12_within_28 ?_
      refine aw_puti (k0 := 34) kc_12 (ws_1 w2) (Nat.le_of_ble_eq_true rfl) tw_1776 d_X12_within_29 rfl rfl nf_i ?_
      refine aw_iload_n (i := 3) rfl d_X12_within_32 3 rfl ?_
      exact aw_iret rfl d_X12_within_33 ⟨Nat.le_refl _, Nat.le_refl _⟩ ⟨_, rfl, k⟩
theorem t_X12_isDigit (d : Nat) (h : Hp_) (x0 : Int32) (K : Int32 → Hp_ → Prop) (k : (x0 < 48 → K 0 h) ∧ (¬ x0 < 48 → (57 < x0 → K 0 h) ∧ (¬ 57 < x0 → K 1 h))) : Ci (m_X12_isDigit (d + 0) 0 0) [.int x0] h K := by
  refine Ct.of (fun _ _ _ => trivial) pn_X12 (Nat.le_of_ble_eq_true rfl) ?_
  show AW (m_X12_isDigit (d + 0) 0 0) 0 0 0 [(0, .int x0)] [] h (kI K)
  refine aw_iload_n (i := 0) rfl d_X12_isDigit_0 0 rfl ?_
  refine aw_bipush (v := 48) d_X12_isDigit_1 ib_48 ?_
  refine aw_icmp_lt (tgt := 16) d_X12_isDigit_3 rfl (fun c1 => ?_) (fun c1 => ?_)
  · have k := k.1 c1
    refine aw_iconst (v := 0) d_X12_isDigit_16 ic_0 ?_
    exact aw_zret rfl rfl d_X12_isDigit_17 ⟨Nat.le_refl _, Nat.le_refl _⟩ ⟨_, rfl, k⟩
  · have k := k.2 c1
    refine aw_iload_n (i := 0) rfl d_X12_isDigit_6 0 rfl ?_
    refine aw_bipush (v := 57) d_X12_isDigit_7 ib_57 ?_
    refine aw_icmp_gt (tgt := 16) d_X12_isDigit_9 rfl (fun c2 => ?_) (fun c2 => ?_)
    · have k := k.1 c2
      refine aw_iconst (v := 0) d_X12_isDigit_16 ic_0 ?_
      exact aw_zret rfl rfl d_X12_isDigit_17 ⟨Nat.le_refl _, Nat.le_refl _⟩ ⟨_, rfl, k⟩
    · have k := k.2 c2
      refine aw_iconst (v := 1) d_X12_isDigit_12 ic_1 ?_
      refine aw_goto (tgt := 17) d_X12_isDigit_13 rfl ?_
      exact aw_zret rfl rfl d_X12_isDigit_17 ⟨Nat.le_refl _, Nat.le_refl _⟩ ⟨_, rfl, k⟩
theorem t_X12_opens (d : Nat) (h : Hp_) (w : Wf h)  (K : Int32 → Hp_ → Prop) (k : (¬ (h_i h 1 35) = 6 → K 1 (h_im (h_im h 1 35 ((h_i h 1 35) + 1)) 1 33 ((h_i h 1 33) + 1))) ∧ ((h_i h 1 35) = 6 → Cv (m_X12_bad (d + 0) 0 0) [.ref 1] h (fun h2 => Wf h2 ∧ (K 0 h2)))) : Ci (m_X12_opens (d + 1) 0 0) [.ref 1] h K := by
  refine Ct.of (fun _ _ _ => trivial) pn_X12 (Nat.le_of_ble_eq_true rfl) ?_
  show AW (m_X12_opens (d + 1) 0 0) 0 0 0 [(0, .ref 1)] [] h (kI K)
  refine aw_aload_n (i := 0) rfl d_X12_opens_0 0 rfl ?_
  refine aw_geti (k0 := 35) kc_12 (ws_1 w) (Nat.le_of_ble_eq_true rfl) tw_1777 d_X12_opens_1 rfl ?_
  refine aw_bipush (v := 6) d_X12_opens_4 ib_6 ?_
  refine aw_icmp_ne (tgt := 15) d_X12_opens_6 rfl (fun c1 => ?_) (fun c1 => ?_)
  · have k := k.1 c1
    refine aw_aload_n (i := 0) rfl d_X12_opens_15 0 rfl ?_
    refine aw_dup d_X12_opens_16 rfl ?_
    refine aw_geti (k0 := 35) kc_12 (ws_1 w) (Nat.le_of_ble_eq_true rfl) tw_1777 d_X12_opens_17 rfl ?_
    refine aw_iconst (v := 1) d_X12_opens_20 ic_1 ?_
    refine aw_iadd d_X12_opens_21 ?_
    refine aw_puti (k0 := 35) kc_12 (ws_1 w) (Nat.le_of_ble_eq_true rfl) tw_1777 d_X12_opens_22 rfl rfl nf_i ?_
    refine aw_aload_n (i := 0) rfl d_X12_opens_25 0 rfl ?_
    refine aw_dup d_X12_opens_26 rfl ?_
    refine aw_geti (k0 := 33) kc_12 (ws_1 w) (Nat.le_of_ble_eq_true rfl) tw_1775 d_X12_opens_27 rfl ?_
    refine aw_vi (v2 := (h_i h 1 33)) (rfl) ?_
    refine aw_iconst (v := 1) d_X12_opens_30 ic_1 ?_
    refine aw_iadd d_X12_opens_31 ?_
    refine aw_puti (k0 := 33) kc_12 (ws_1 w) (Nat.le_of_ble_eq_true rfl) tw_1775 d_X12_opens_32 rfl rfl nf_i ?_
    refine aw_iconst (v := 1) d_X12_opens_35 ic_1 ?_
    exact aw_zret rfl rfl d_X12_opens_36 ⟨Nat.le_refl _, Nat.le_refl _⟩ ⟨_, rfl, k⟩
  · have k := k.2 c1
    refine aw_aload_n (i := 0) rfl d_X12_opens_9 0 rfl ?_
    refine aw_Vv 1 [] [] d_X12_opens_10 (cV_X12_bad (d + 0) 0 0) kc_12 (ws_1 w) tw_2225 rfl (rr0 (Nat.le_of_ble_eq_true rfl) (Nat.le_of_ble_eq_true rfl)) (Nat.le_of_ble_eq_true rfl) xs0 k (fun h2 kk => ?_)
    obtain ⟨w3, k⟩ := kk
    refine aw_iconst (v := 0) d_X12_opens_13 ic_0 ?_
    exact aw_zret rfl rfl d_X12_opens_14 ⟨Nat.le_refl _, Nat.le_refl _⟩ ⟨_, rfl, k⟩
theorem t_X12_closes (d : Nat) (h : Hp_) (w : Wf h) (x1 : Int32) (K : Hp_ → Prop) (k : (¬ (h_i h 1 34) = (-1) → K (h_im (h_im h 1 33 ((h_i h 1 33) + 1)) 1 35 ((h_i h 1 35) - 1))) ∧ ((h_i h 1 34) = (-1) → Ci (m_X12_look (d + 0) 0 0) [.ref 1] h (fun r4 h2 => Wf h2 ∧ ((r4 = x1 → K (h_im (h_im h2 1 33 ((h_i h2 1 33) + 1)) 1 35 ((h_i h2 1 35) - 1))) ∧ (¬ r4 = x1 → Cv (m_X12_bad (d + 0) 0 0) [.ref 1] h2 (fun h6 => Wf h6 ∧ (K (h_im (h_im h6 1 33 ((h_i h6 1 33) + 1)) 1 35 ((h_i h6 1 35) - 1))))))))) : Cv (m_X12_closes (d + 1) 0 0) [.ref 1, .int x1] h K := by
  refine Ct.of (fun _ _ _ => trivial) pn_X12 (Nat.le_of_ble_eq_true rfl) ?_
  show AW (m_X12_closes (d + 1) 0 0) 0 0 0 [(0, .ref 1), (1, .int x1)] [] h (kV K)
  refine aw_aload_n (i := 0) rfl d_X12_closes_0 0 rfl ?_
  refine aw_geti (k0 := 34) kc_12 (ws_1 w) (Nat.le_of_ble_eq_true rfl) tw_1776 d_X12_closes_1 rfl ?_
  refine aw_iconst (v := (-1)) d_X12_closes_4 ic_m1 ?_
  refine aw_icmp_ne (tgt := 20) d_X12_closes_5 rfl (fun c1 => ?_) (fun c1 => ?_)
  · have k := k.1 c1
    refine aw_aload_n (i := 0) rfl d_X12_closes_20 0 rfl ?_
    refine aw_dup d_X12_closes_21 rfl ?_
    refine aw_geti (k0 := 33) kc_12 (ws_1 w) (Nat.le_of_ble_eq_true rfl) tw_1775 d_X12_closes_22 rfl ?_
    refine aw_iconst (v := 1) d_X12_closes_25 ic_1 ?_
    refine aw_iadd d_X12_closes_26 ?_
    refine aw_puti (k0 := 33) kc_12 (ws_1 w) (Nat.le_of_ble_eq_true rfl) tw_1775 d_X12_closes_27 rfl rfl nf_i ?_
    refine aw_aload_n (i := 0) rfl d_X12_closes_30 0 rfl ?_
    refine aw_dup d_X12_closes_31 rfl ?_
    refine aw_geti (k0 := 35) kc_12 (ws_1 w) (Nat.le_of_ble_eq_true rfl) tw_1777 d_X12_closes_32 rfl ?_
    refine aw_vi (v2 := (h_i h 1 35)) (rfl) ?_
    refine aw_iconst (v := 1) d_X12_closes_35 ic_1 ?_
    refine aw_isub d_X12_closes_36 ?_
    refine aw_puti (k0 := 35) kc_12 (ws_1 w) (Nat.le_of_ble_eq_true rfl) tw_1777 d_X12_closes_37 rfl rfl nf_i ?_
    exact aw_vret rfl d_X12_closes_40 ⟨Nat.le_refl _, Nat.le_refl _⟩ ⟨rfl, k⟩
  · have k := k.2 c1
    refine aw_aload_n (i := 0) rfl d_X12_closes_8 0 rfl ?_
    refine aw_Vi 1 [] [] d_X12_closes_9 (cV_X12_look (d + 0) 0 0) kc_12 (ws_1 w) tw_2206 rfl (rr0 (Nat.le_of_ble_eq_true rfl) (Nat.le_of_ble_eq_true rfl)) (Nat.le_of_ble_eq_true rfl) xs0 k (fun r4 h2 kk => ?_)
    obtain ⟨w3, k⟩ := kk
    refine aw_iload_n (i := 1) rfl d_X12_closes_12 1 rfl ?_
    refine aw_icmp_eq (tgt := 20) d_X12_closes_13 rfl (fun c5 => ?_) (fun c5 => ?_)
    · have k := k.1 c5
      refine aw_aload_n (i := 0) rfl d_X12_closes_20 0 rfl ?_
      refine aw_dup d_X12_closes_21 rfl ?_
      refine aw_geti (k0 := 33) kc_12 (ws_1 w3) (Nat.le_of_ble_eq_true rfl) tw_1775 d_X12_closes_22 rfl ?_
      refine aw_iconst (v := 1) d_X12_closes_25 ic_1 ?_
      refine aw_iadd d_X12_closes_26 ?_
      refine aw_puti (k0 := 33) kc_12 (ws_1 w3) (Nat.le_of_ble_eq_true rfl) tw_1775 d_X12_closes_27 rfl rfl nf_i ?_
      refine aw_aload_n (i := 0) rfl d_X12_closes_30 0 rfl ?_
      refine aw_dup d_X12_closes_31 rfl ?_
      refine aw_geti (k0 := 35) kc_12 (ws_1 w3) (Nat.le_of_ble_eq_true rfl) tw_1777 d_X12_closes_32 rfl ?_
      refine aw_vi (v2 := (h_i h2 1 35)) (rfl) ?_
      refine aw_iconst (v := 1) d_X12_closes_35 ic_1 ?_
      refine aw_isub d_X12_closes_36 ?_
      refine aw_puti (k0 := 35) kc_12 (ws_1 w3) (Nat.le_of_ble_eq_true rfl) tw_1777 d_X12_closes_37 rfl rfl nf_i ?_
      exact aw_vret rfl d_X12_closes_40 ⟨Nat.le_refl _, Nat.le_refl _⟩ ⟨rfl, k⟩
    · have k := k.2 c5
      refine aw_aload_n (i := 0) rfl d_X12_closes_16 0 rfl ?_
      refine aw_Vv 1 [] [] d_X12_closes_17 (cV_X12_bad (d + 0) 0 0) kc_12 (ws_1 w3) tw_2225 rfl (rr0 (Nat.le_of_ble_eq_true rfl) (Nat.le_of_ble_eq_true rfl)) (Nat.le_of_ble_eq_true rfl) xs0 k (fun h6 kk => ?_)
      obtain ⟨w7, k⟩ := kk
      refine aw_aload_n (i := 0) rfl d_X12_closes_20 0 rfl ?_
      refine aw_dup d_X12_closes_21 rfl ?_
      refine aw_geti (k0 := 33) kc_12 (ws_1 w7) (Nat.le_of_ble_eq_true rfl) tw_1775 d_X12_closes_22 rfl ?_
      refine aw_iconst (v := 1) d_X12_closes_25 ic_1 ?_
      refine aw_iadd d_X12_closes_26 ?_
      refine aw_puti (k0 := 33) kc_12 (ws_1 w7) (Nat.le_of_ble_eq_true rfl) tw_1775 d_X12_closes_27 rfl rfl nf_i ?_
      refine aw_aload_n (i := 0) rfl d_X12_closes_30 0 rfl ?_
      refine aw_dup d_X12_closes_31 rfl ?_
      refine aw_geti (k0 := 35) kc_12 (ws_1 w7) (Nat.le_of_ble_eq_true rfl) tw_1777 d_X12_closes_32 rfl ?_
      refine aw_vi (v2 := (h_i h6 1 35)) (rfl) ?_
      refine aw_iconst (v := 1) d_X12_closes_35 ic_1 ?_
      refine aw_isub d_X12_closes_36 ?_
      refine aw_puti (k0 := 35) kc_12 (ws_1 w7) (Nat.le_of_ble_eq_true rfl) tw_1777 d_X12_closes_37 rfl rfl nf_i ?_
      exact aw_vret rfl d_X12_closes_40 ⟨Nat.le_refl _, Nat.le_refl _⟩ ⟨rfl, k⟩
theorem t_X12_isLetter (d : Nat) (h : Hp_) (x0 : Int32) (x1 : Int32) (K : Int32 → Hp_ → Prop) (k : (x0 = 97 → (¬ x1 = 2 → K 0 h) ∧ (x1 = 2 → K 1 h)) ∧ ((x0 = 99 → K 1 h) ∧ ((x0 = 100 → (¬ x1 = 1 → K 0 h) ∧ (x1 = 1 → K 1 h)) ∧ ((x0 = 101 → (¬ x1 = 1 → K 0 h) ∧ (x1 = 1 → K 1 h)) ∧ ((x0 = 104 → (¬ x1 = 1 → K 0 h) ∧ (x1 = 1 → K 1 h)) ∧ ((x0 = 107 → (¬ x1 = 1 → K 0 h) ∧ (x1 = 1 → K 1 h)) ∧ ((x0 = 109 → (¬ x1 = 2 → K 0 h) ∧ (x1 = 2 → K 1 h)) ∧ ((x0 = 110 → (¬ x1 = 1 → K 0 h) ∧ (x1 = 1 → K 1 h)) ∧ ((x0 = 112 → (¬ x1 = 1 → K 0 h) ∧ (x1 = 1 → K 1 h)) ∧ ((x0 = 116 → K 1 h) ∧ ((x0 = 119 → (¬ x1 = 1 → K 0 h) ∧ (x1 = 1 → K 1 h)) ∧ ((x0 = 120 → (¬ x1 = 2 → K 0 h) ∧ (x1 = 2 → K 1 h)) ∧ ((x0 = 121 → (¬ x1 = 2 → K 0 h) ∧ (x1 = 2 → K 1 h)) ∧ ((¬ x0 = 97 ∧ ¬ x0 = 99 ∧ ¬ x0 = 100 ∧ ¬ x0 = 101 ∧ ¬ x0 = 104 ∧ ¬ x0 = 107 ∧ ¬ x0 = 109 ∧ ¬ x0 = 110 ∧ ¬ x0 = 112 ∧ ¬ x0 = 116 ∧ ¬ x0 = 119 ∧ ¬ x0 = 120 ∧ ¬ x0 = 121 → K 0 h))))))))))))))) : Ci (m_X12_isLetter (d + 0) 0 0) [.int x0, .int x1] h K := by
  refine Ct.of (fun _ _ _ => trivial) pn_X12 (Nat.le_of_ble_eq_true rfl) ?_
  show AW (m_X12_isLetter (d + 0) 0 0) 0 0 0 [(0, .int x0), (1, .int x1)] [] h (kI K)
  refine aw_iload_n (i := 0) rfl d_X12_isLetter_0 0 rfl ?_
  by_cases e1 : x0 = 97
  · refine aw_tableIn (off := 128) (tgt := 129) d_X12_isLetter_1 (by rw [e1]; decide) (by rw [e1]; decide) (by rw [e1]; decide) rfl ?_
    have k := k.1 e1
    refine aw_iload_n (i := 1) rfl d_X12_isLetter_129 1 rfl ?_
    refine aw_iconst (v := 2) d_X12_isLetter_130 ic_2 ?_
    refine aw_icmp_ne (tgt := 138) d_X12_isLetter_131 rfl (fun c2 => ?_) (fun c2 => ?_)
    · have k := k.1 c2
      refine aw_iconst (v := 0) d_X12_isLetter_138 ic_0 ?_
      exact aw_zret rfl rfl d_X12_isLetter_139 ⟨Nat.le_refl _, Nat.le_refl _⟩ ⟨_, rfl, k⟩
    · have k := k.2 c2
      refine aw_iconst (v := 1) d_X12_isLetter_134 ic_1 ?_
      refine aw_goto (tgt := 139) d_X12_isLetter_135 rfl ?_
      exact aw_zret rfl rfl d_X12_isLetter_139 ⟨Nat.le_refl _, Nat.le_refl _⟩ ⟨_, rfl, k⟩
  · have k := k.2
    by_cases e3 : x0 = 99
    · refine aw_tableIn (off := 115) (tgt := 116) d_X12_isLetter_1 (by rw [e3]; decide) (by rw [e3]; decide) (by rw [e3]; decide) rfl ?_
      have k := k.1 e3
      refine aw_iconst (v := 1) d_X12_isLetter_116 ic_1 ?_
      exact aw_zret rfl rfl d_X12_isLetter_117 ⟨Nat.le_refl _, Nat.le_refl _⟩ ⟨_, rfl, k⟩
    · have k := k.2
      by_cases e4 : x0 = 100
      · refine aw_tableIn (off := 117) (tgt := 118) d_X12_isLetter_1 (by rw [e4]; decide) (by rw [e4]; decide) (by rw [e4]; decide) rfl ?_
        have k := k.1 e4
        refine aw_iload_n (i := 1) rfl d_X12_isLetter_118 1 rfl ?_
        refine aw_iconst (v := 1) d_X12_isLetter_119 ic_1 ?_
        refine aw_icmp_ne (tgt := 127) d_X12_isLetter_120 rfl (fun c5 => ?_) (fun c5 => ?_)
        · have k := k.1 c5
          refine aw_iconst (v := 0) d_X12_isLetter_127 ic_0 ?_
          exact aw_zret rfl rfl d_X12_isLetter_128 ⟨Nat.le_refl _, Nat.le_refl _⟩ ⟨_, rfl, k⟩
        · have k := k.2 c5
          refine aw_iconst (v := 1) d_X12_isLetter_123 ic_1 ?_
          refine aw_goto (tgt := 128) d_X12_isLetter_124 rfl ?_
          exact aw_zret rfl rfl d_X12_isLetter_128 ⟨Nat.le_refl _, Nat.le_refl _⟩ ⟨_, rfl, k⟩
      · have k := k.2
        by_cases e6 : x0 = 101
        · refine aw_tableIn (off := 117) (tgt := 118) d_X12_isLetter_1 (by rw [e6]; decide) (by rw [e6]; decide) (by rw [e6]; decide) rfl ?_
          have k := k.1 e6
          refine aw_iload_n (i := 1) rfl d_X12_isLetter_118 1 rfl ?_
          refine aw_iconst (v := 1) d_X12_isLetter_119 ic_1 ?_
          refine aw_icmp_ne (tgt := 127) d_X12_isLetter_120 rfl (fun c7 => ?_) (fun c7 => ?_)
          · have k := k.1 c7
            refine aw_iconst (v := 0) d_X12_isLetter_127 ic_0 ?_
            exact aw_zret rfl rfl d_X12_isLetter_128 ⟨Nat.le_refl _, Nat.le_refl _⟩ ⟨_, rfl, k⟩
          · have k := k.2 c7
            refine aw_iconst (v := 1) d_X12_isLetter_123 ic_1 ?_
            refine aw_goto (tgt := 128) d_X12_isLetter_124 rfl ?_
            exact aw_zret rfl rfl d_X12_isLetter_128 ⟨Nat.le_refl _, Nat.le_refl _⟩ ⟨_, rfl, k⟩
        · have k := k.2
          by_cases e8 : x0 = 104
          · refine aw_tableIn (off := 117) (tgt := 118) d_X12_isLetter_1 (by rw [e8]; decide) (by rw [e8]; decide) (by rw [e8]; decide) rfl ?_
            have k := k.1 e8
            refine aw_iload_n (i := 1) rfl d_X12_isLetter_118 1 rfl ?_
            refine aw_iconst (v := 1) d_X12_isLetter_119 ic_1 ?_
            refine aw_icmp_ne (tgt := 127) d_X12_isLetter_120 rfl (fun c9 => ?_) (fun c9 => ?_)
            · have k := k.1 c9
              refine aw_iconst (v := 0) d_X12_isLetter_127 ic_0 ?_
              exact aw_zret rfl rfl d_X12_isLetter_128 ⟨Nat.le_refl _, Nat.le_refl _⟩ ⟨_, rfl, k⟩
            · have k := k.2 c9
              refine aw_iconst (v := 1) d_X12_isLetter_123 ic_1 ?_
              refine aw_goto (tgt := 128) d_X12_isLetter_124 rfl ?_
              exact aw_zret rfl rfl d_X12_isLetter_128 ⟨Nat.le_refl _, Nat.le_refl _⟩ ⟨_, rfl, k⟩
          · have k := k.2
            by_cases e10 : x0 = 107
            · refine aw_tableIn (off := 117) (tgt := 118) d_X12_isLetter_1 (by rw [e10]; decide) (by rw [e10]; decide) (by rw [e10]; decide) rfl ?_
              have k := k.1 e10
              refine aw_iload_n (i := 1) rfl d_X12_isLetter_118 1 rfl ?_
              refine aw_iconst (v := 1) d_X12_isLetter_119 ic_1 ?_
              refine aw_icmp_ne (tgt := 127) d_X12_isLetter_120 rfl (fun c11 => ?_) (fun c11 => ?_)
              · have k := k.1 c11
                refine aw_iconst (v := 0) d_X12_isLetter_127 ic_0 ?_
                exact aw_zret rfl rfl d_X12_isLetter_128 ⟨Nat.le_refl _, Nat.le_refl _⟩ ⟨_, rfl, k⟩
              · have k := k.2 c11
                refine aw_iconst (v := 1) d_X12_isLetter_123 ic_1 ?_
                refine aw_goto (tgt := 128) d_X12_isLetter_124 rfl ?_
                exact aw_zret rfl rfl d_X12_isLetter_128 ⟨Nat.le_refl _, Nat.le_refl _⟩ ⟨_, rfl, k⟩
            · have k := k.2
              by_cases e12 : x0 = 109
              · refine aw_tableIn (off := 128) (tgt := 129) d_X12_isLetter_1 (by rw [e12]; decide) (by rw [e12]; decide) (by rw [e12]; decide) rfl ?_
                have k := k.1 e12
                refine aw_iload_n (i := 1) rfl d_X12_isLetter_129 1 rfl ?_
                refine aw_iconst (v := 2) d_X12_isLetter_130 ic_2 ?_
                refine aw_icmp_ne (tgt := 138) d_X12_isLetter_131 rfl (fun c13 => ?_) (fun c13 => ?_)
                · have k := k.1 c13
                  refine aw_iconst (v := 0) d_X12_isLetter_138 ic_0 ?_
                  exact aw_zret rfl rfl d_X12_isLetter_139 ⟨Nat.le_refl _, Nat.le_refl _⟩ ⟨_, rfl, k⟩
                · have k := k.2 c13
                  refine aw_iconst (v := 1) d_X12_isLetter_134 ic_1 ?_
                  refine aw_goto (tgt := 139) d_X12_isLetter_135 rfl ?_
                  exact aw_zret rfl rfl d_X12_isLetter_139 ⟨Nat.le_refl _, Nat.le_refl _⟩ ⟨_, rfl, k⟩
              · have k := k.2
                by_cases e14 : x0 = 110
                · refine aw_tableIn (off := 117) (tgt := 118) d_X12_isLetter_1 (by rw [e14]; decide) (by rw [e14]; decide) (by rw [e14]; decide) rfl ?_
                  have k := k.1 e14
                  refine aw_iload_n (i := 1) rfl d_X12_isLetter_118 1 rfl ?_
                  refine aw_iconst (v := 1) d_X12_isLetter_119 ic_1 ?_
                  refine aw_icmp_ne (tgt := 127) d_X12_isLetter_120 rfl (fun c15 => ?_) (fun c15 => ?_)
                  · have k := k.1 c15
                    refine aw_iconst (v := 0) d_X12_isLetter_127 ic_0 ?_
                    exact aw_zret rfl rfl d_X12_isLetter_128 ⟨Nat.le_refl _, Nat.le_refl _⟩ ⟨_, rfl, k⟩
                  · have k := k.2 c15
                    refine aw_iconst (v := 1) d_X12_isLetter_123 ic_1 ?_
                    refine aw_goto (tgt := 128) d_X12_isLetter_124 rfl ?_
                    exact aw_zret rfl rfl d_X12_isLetter_128 ⟨Nat.le_refl _, Nat.le_refl _⟩ ⟨_, rfl, k⟩
                · have k := k.2
                  by_cases e16 : x0 = 112
                  · refine aw_tableIn (off := 117) (tgt := 118) d_X12_isLetter_1 (by rw [e16]; decide) (by rw [e16]; decide) (by rw [e16]; decide) rfl ?_
                    have k := k.1 e16
                    refine aw_iload_n (i := 1) rfl d_X12_isLetter_118 1 rfl ?_
                    refine aw_iconst (v := 1) d_X12_isLetter_119 ic_1 ?_
                    refine aw_icmp_ne (tgt := 127) d_X12_isLetter_120 rfl (fun c17 => ?_) (fun c17 => ?_)
                    · have k := k.1 c17
                      refine aw_iconst (v := 0) d_X12_isLetter_127 ic_0 ?_
                      exact aw_zret rfl rfl d_X12_isLetter_128 ⟨Nat.le_refl _, Nat.le_refl _⟩ ⟨_, rfl, k⟩
                    · have k := k.2 c17
                      refine aw_iconst (v := 1) d_X12_isLetter_123 ic_1 ?_
                      refine aw_goto (tgt := 128) d_X12_isLetter_124 rfl ?_
                      exact aw_zret rfl rfl d_X12_isLetter_128 ⟨Nat.le_refl _, Nat.le_refl _⟩ ⟨_, rfl, k⟩
                  · have k := k.2
                    by_cases e18 : x0 = 116
                    · refine aw_tableIn (off := 115) (tgt := 116) d_X12_isLetter_1 (by rw [e18]; decide) (by rw [e18]; decide) (by rw [e18]; decide) rfl ?_
                      have k := k.1 e18
                      refine aw_iconst (v := 1) d_X12_isLetter_116 ic_1 ?_
                      exact aw_zret rfl rfl d_X12_isLetter_117 ⟨Nat.le_refl _, Nat.le_refl _⟩ ⟨_, rfl, k⟩
                    · have k := k.2
                      by_cases e19 : x0 = 119
                      · refine aw_tableIn (off := 117) (tgt := 118) d_X12_isLetter_1 (by rw [e19]; decide) (by rw [e19]; decide) (by rw [e19]; decide) rfl ?_
                        have k := k.1 e19
                        refine aw_iload_n (i := 1) rfl d_X12_isLetter_118 1 rfl ?_
                        refine aw_iconst (v := 1) d_X12_isLetter_119 ic_1 ?_
                        refine aw_icmp_ne (tgt := 127) d_X12_isLetter_120 rfl (fun c20 => ?_) (fun c20 => ?_)
                        · have k := k.1 c20
                          refine aw_iconst (v := 0) d_X12_isLetter_127 ic_0 ?_
                          exact aw_zret rfl rfl d_X12_isLetter_128 ⟨Nat.le_refl _, Nat.le_refl _⟩ ⟨_, rfl, k⟩
                        · have k := k.2 c20
                          refine aw_iconst (v := 1) d_X12_isLetter_123 ic_1 ?_
                          refine aw_goto (tgt := 128) d_X12_isLetter_124 rfl ?_
                          exact aw_zret rfl rfl d_X12_isLetter_128 ⟨Nat.le_refl _, Nat.le_refl _⟩ ⟨_, rfl, k⟩
                      · have k := k.2
                        by_cases e21 : x0 = 120
                        · refine aw_tableIn (off := 128) (tgt := 129) d_X12_isLetter_1 (by rw [e21]; decide) (by rw [e21]; decide) (by rw [e21]; decide) rfl ?_
                          have k := k.1 e21
                          refine aw_iload_n (i := 1) rfl d_X12_isLetter_129 1 rfl ?_
                          refine aw_iconst (v := 2) d_X12_isLetter_130 ic_2 ?_
                          refine aw_icmp_ne (tgt := 138) d_X12_isLetter_131 rfl (fun c22 => ?_) (fun c22 => ?_)
                          · have k := k.1 c22
                            refine aw_iconst (v := 0) d_X12_isLetter_138 ic_0 ?_
                            exact aw_zret rfl rfl d_X12_isLetter_139 ⟨Nat.le_refl _, Nat.le_refl _⟩ ⟨_, rfl, k⟩
                          · have k := k.2 c22
                            refine aw_iconst (v := 1) d_X12_isLetter_134 ic_1 ?_
                            refine aw_goto (tgt := 139) d_X12_isLetter_135 rfl ?_
                            exact aw_zret rfl rfl d_X12_isLetter_139 ⟨Nat.le_refl _, Nat.le_refl _⟩ ⟨_, rfl, k⟩
                        · have k := k.2
                          by_cases e23 : x0 = 121
                          · refine aw_tableIn (off := 128) (tgt := 129) d_X12_isLetter_1 (by rw [e23]; decide) (by rw [e23]; decide) (by rw [e23]; decide) rfl ?_
                            have k := k.1 e23
                            refine aw_iload_n (i := 1) rfl d_X12_isLetter_129 1 rfl ?_
                            refine aw_iconst (v := 2) d_X12_isLetter_130 ic_2 ?_
                            refine aw_icmp_ne (tgt := 138) d_X12_isLetter_131 rfl (fun c24 => ?_) (fun c24 => ?_)
                            · have k := k.1 c24
                              refine aw_iconst (v := 0) d_X12_isLetter_138 ic_0 ?_
                              exact aw_zret rfl rfl d_X12_isLetter_139 ⟨Nat.le_refl _, Nat.le_refl _⟩ ⟨_, rfl, k⟩
                            · have k := k.2 c24
                              refine aw_iconst (v := 1) d_X12_isLetter_134 ic_1 ?_
                              refine aw_goto (tgt := 139) d_X12_isLetter_135 rfl ?_
                              exact aw_zret rfl rfl d_X12_isLetter_139 ⟨Nat.le_refl _, Nat.le_refl _⟩ ⟨_, rfl, k⟩
                          · have k := k.2
                            have k := k ⟨e1, e3, e4, e6, e8, e10, e12, e14, e16, e18, e19, e21, e23⟩
                            have n25 := sw_ne (97) (by decide) e1
                            have n26 := sw_ne (99) (by decide) e3
                            have n27 := sw_ne (100) (by decide) e4
                            have n28 := sw_ne (101) (by decide) e6
                            have n29 := sw_ne (104) (by decide) e8
                            have n30 := sw_ne (107) (by decide) e10
                            have n31 := sw_ne (109) (by decide) e12
                            have n32 := sw_ne (110) (by decide) e14
                            have n33 := sw_ne (112) (by decide) e16
                            have n34 := sw_ne (116) (by decide) e18
                            have n35 := sw_ne (119) (by decide) e19
                            have n36 := sw_ne (120) (by decide) e21
                            have n37 := sw_ne (121) (by decide) e23
                            refine aw_tableD (tgt := 140) d_X12_isLetter_1 (by
                              rcases (show (x0 : Int32).toInt < 97 ∨ 121 < (x0 : Int32).toInt ∨ (x0 : Int32).toInt = 98 ∨ (x0 : Int32).toInt = 102 ∨ (x0 : Int32).toInt = 103 ∨ (x0 : Int32).toInt = 105 ∨ (x0 : Int32).toInt = 106 ∨ (x0 : Int32).toInt = 108 ∨ (x0 : Int32).toInt = 111 ∨ (x0 : Int32).toInt = 113 ∨ (x0 : Int32).toInt = 114 ∨ (x0 : Int32).toInt = 115 ∨ (x0 : Int32).toInt = 117 ∨ (x0 : Int32).toInt = 118 by omega) with e | e | e | e | e | e | e | e | e | e | e | e | e | e
                              · exact Or.inl e
                              · exact Or.inr (Or.inl e)
                              · exact Or.inr (Or.inr (by rw [e]; decide))
                              · exact Or.inr (Or.inr (by rw [e]; decide))
                              · exact Or.inr (Or.inr (by rw [e]; decide))
                              · exact Or.inr (Or.inr (by rw [e]; decide))
                              · exact Or.inr (Or.inr (by rw [e]; decide))
                              · exact Or.inr (Or.inr (by rw [e]; decide))
                              · exact Or.inr (Or.inr (by rw [e]; decide))
                              · exact Or.inr (Or.inr (by rw [e]; decide))
                              · exact Or.inr (Or.inr (by rw [e]; decide))
                              · exact Or.inr (Or.inr (by rw [e]; decide))
                              · exact Or.inr (Or.inr (by rw [e]; decide))
                              · exact Or.inr (Or.inr (by rw [e]; decide))) rfl ?_
                            refine aw_iconst (v := 0) d_X12_isLetter_140 ic_0 ?_
                            exact aw_zret rfl rfl d_X12_isLetter_141 ⟨Nat.le_refl _, Nat.le_refl _⟩ ⟨_, rfl, k⟩
theorem t_X12_isSign (d : Nat) (h : Hp_) (x0 : Int32) (K : Int32 → Hp_ → Prop) (k : (x0 = 61 → K 1 h) ∧ (¬ x0 = 61 → (x0 = 60 → K 1 h) ∧ (¬ x0 = 60 → (¬ x0 = 62 → K 0 h) ∧ (x0 = 62 → K 1 h)))) : Ci (m_X12_isSign (d + 0) 0 0) [.int x0] h K := by
  refine Ct.of (fun _ _ _ => trivial) pn_X12 (Nat.le_of_ble_eq_true rfl) ?_
  show AW (m_X12_isSign (d + 0) 0 0) 0 0 0 [(0, .int x0)] [] h (kI K)
  refine aw_iload_n (i := 0) rfl d_X12_isSign_0 0 rfl ?_
  refine aw_bipush (v := 61) d_X12_isSign_1 ib_61 ?_
  refine aw_icmp_eq (tgt := 18) d_X12_isSign_3 rfl (fun c1 => ?_) (fun c1 => ?_)
  · have k := k.1 c1
    refine aw_iconst (v := 1) d_X12_isSign_18 ic_1 ?_
    refine aw_goto (tgt := 23) d_X12_isSign_19 rfl ?_
    exact aw_zret rfl rfl d_X12_isSign_23 ⟨Nat.le_refl _, Nat.le_refl _⟩ ⟨_, rfl, k⟩
  · have k := k.2 c1
    refine aw_iload_n (i := 0) rfl d_X12_isSign_6 0 rfl ?_
    refine aw_bipush (v := 60) d_X12_isSign_7 ib_60 ?_
    refine aw_icmp_eq (tgt := 18) d_X12_isSign_9 rfl (fun c2 => ?_) (fun c2 => ?_)
    · have k := k.1 c2
      refine aw_iconst (v := 1) d_X12_isSign_18 ic_1 ?_
      refine aw_goto (tgt := 23) d_X12_isSign_19 rfl ?_
      exact aw_zret rfl rfl d_X12_isSign_23 ⟨Nat.le_refl _, Nat.le_refl _⟩ ⟨_, rfl, k⟩
    · have k := k.2 c2
      refine aw_iload_n (i := 0) rfl d_X12_isSign_12 0 rfl ?_
      refine aw_bipush (v := 62) d_X12_isSign_13 ib_62 ?_
      refine aw_icmp_ne (tgt := 22) d_X12_isSign_15 rfl (fun c3 => ?_) (fun c3 => ?_)
      · have k := k.1 c3
        refine aw_iconst (v := 0) d_X12_isSign_22 ic_0 ?_
        exact aw_zret rfl rfl d_X12_isSign_23 ⟨Nat.le_refl _, Nat.le_refl _⟩ ⟨_, rfl, k⟩
      · have k := k.2 c3
        refine aw_iconst (v := 1) d_X12_isSign_18 ic_1 ?_
        refine aw_goto (tgt := 23) d_X12_isSign_19 rfl ?_
        exact aw_zret rfl rfl d_X12_isSign_23 ⟨Nat.le_refl _, Nat.le_refl _⟩ ⟨_, rfl, k⟩
theorem t_X12_ask (d : Nat) (h : Hp_) (w : Wf h)  (K : Hp_ → Prop) (k : (¬ (h_i h 1 34) = (-1) → Cv (m_X12_say (d + 0) 0 0) [.ref 1, .int 2] (h_im h 1 33 ((h_i h 1 33) + 1)) (fun h2 => Wf h2 ∧ (K h2))) ∧ ((h_i h 1 34) = (-1) → Ci (m_X12_look (d + 0) 0 0) [.ref 1] h (fun r7 h5 => Wf h5 ∧ ((r7 = 63 → Cv (m_X12_say (d + 0) 0 0) [.ref 1, .int 2] (h_im h5 1 33 ((h_i h5 1 33) + 1)) (fun h9 => Wf h9 ∧ (K h9))) ∧ (¬ r7 = 63 → Cv (m_X12_bad (d + 0) 0 0) [.ref 1] h5 (fun h12 => Wf h12 ∧ (Cv (m_X12_say (d + 0) 0 0) [.ref 1, .int 2] (h_im h12 1 33 ((h_i h12 1 33) + 1)) (fun h15 => Wf h15 ∧ (K h15))))))))) : Cv (m_X12_ask (d + 1) 0 0) [.ref 1] h K := by
  refine Ct.of (fun _ _ _ => trivial) pn_X12 (Nat.le_of_ble_eq_true rfl) ?_
  show AW (m_X12_ask (d + 1) 0 0) 0 0 0 [(0, .ref 1)] [] h (kV K)
  refine aw_aload_n (i := 0) rfl d_X12_ask_0 0 rfl ?_
  refine aw_geti (k0 := 34) kc_12 (ws_1 w) (Nat.le_of_ble_eq_true rfl) tw_1776 d_X12_ask_1 rfl ?_
  refine aw_iconst (v := (-1)) d_X12_ask_4 ic_m1 ?_
  refine aw_icmp_ne (tgt := 21) d_X12_ask_5 rfl (fun c1 => ?_) (fun c1 => ?_)
  · have k := k.1 c1
    refine aw_aload_n (i := 0) rfl d_X12_ask_21 0 rfl ?_
    refine aw_dup d_X12_ask_22 rfl ?_
    refine aw_geti (k0 := 33) kc_12 (ws_1 w) (Nat.le_of_ble_eq_true rfl) tw_1775 d_X12_ask_23 rfl ?_
    refine aw_iconst (v := 1) d_X12_ask_26 ic_1 ?_
    refine aw_iadd d_X12_ask_27 ?_
    refine aw_puti (k0 := 33) kc_12 (ws_1 w) (Nat.le_of_ble_eq_true rfl) tw_1775 d_X12_ask_28 rfl rfl nf_i ?_
    refine aw_aload_n (i := 0) rfl d_X12_ask_31 0 rfl ?_
    refine aw_iconst (v := 2) d_X12_ask_32 ic_2 ?_
    refine aw_Vv 1 [.int 2] [] d_X12_ask_33 (cV_X12_say (d + 0) 0 0) kc_12 (ws_1 w) tw_2210 rfl (rr0 (Nat.le_of_ble_eq_true rfl) (Nat.le_of_ble_eq_true rfl)) (Nat.le_of_ble_eq_true rfl) xs0 k (fun h2 kk => ?_)
    obtain ⟨w3, k⟩ := kk
    exact aw_vret rfl d_X12_ask_36 ⟨Nat.le_refl _, Nat.le_refl _⟩ ⟨rfl, k⟩
  · have k := k.2 c1
    refine aw_aload_n (i := 0) rfl d_X12_ask_8 0 rfl ?_
    refine aw_Vi 1 [] [] d_X12_ask_9 (cV_X12_look (d + 0) 0 0) kc_12 (ws_1 w) tw_2206 rfl (rr0 (Nat.le_of_ble_eq_true rfl) (Nat.le_of_ble_eq_true rfl)) (Nat.le_of_ble_eq_true rfl) xs0 k (fun r7 h5 kk => ?_)
    obtain ⟨w6, k⟩ := kk
    refine aw_bipush (v := 63) d_X12_ask_12 ib_63 ?_
    refine aw_icmp_eq (tgt := 21) d_X12_ask_14 rfl (fun c8 => ?_) (fun c8 => ?_)
    · have k := k.1 c8
      refine aw_aload_n (i := 0) rfl d_X12_ask_21 0 rfl ?_
      refine aw_dup d_X12_ask_22 rfl ?_
      refine aw_geti (k0 := 33) kc_12 (ws_1 w6) (Nat.le_of_ble_eq_true rfl) tw_1775 d_X12_ask_23 rfl ?_
      refine aw_iconst (v := 1) d_X12_ask_26 ic_1 ?_
      refine aw_iadd d_X12_ask_27 ?_
      refine aw_puti (k0 := 33) kc_12 (ws_1 w6) (Nat.le_of_ble_eq_true rfl) tw_1775 d_X12_ask_28 rfl rfl nf_i ?_
      refine aw_aload_n (i := 0) rfl d_X12_ask_31 0 rfl ?_
      refine aw_iconst (v := 2) d_X12_ask_32 ic_2 ?_
      refine aw_Vv 1 [.int 2] [] d_X12_ask_33 (cV_X12_say (d + 0) 0 0) kc_12 (ws_1 w6) tw_2210 rfl (rr0 (Nat.le_of_ble_eq_true rfl) (Nat.le_of_ble_eq_true rfl)) (Nat.le_of_ble_eq_true rfl) xs0 k (fun h9 kk => ?_)
      obtain ⟨w10, k⟩ := kk
      exact aw_vret rfl d_X12_ask_36 ⟨Nat.le_refl _, Nat.le_refl _⟩ ⟨rfl, k⟩
    · have k := k.2 c8
      refine aw_aload_n (i := 0) rfl d_X12_ask_17 0 rfl ?_
      refine aw_Vv 1 [] [] d_X12_ask_18 (cV_X12_bad (d + 0) 0 0) kc_12 (ws_1 w6) tw_2225 rfl (rr0 (Nat.le_of_ble_eq_true rfl) (Nat.le_of_ble_eq_true rfl)) (Nat.le_of_ble_eq_true rfl) xs0 k (fun h12 kk => ?_)
      obtain ⟨w13, k⟩ := kk
      refine aw_aload_n (i := 0) rfl d_X12_ask_21 0 rfl ?_
      refine aw_dup d_X12_ask_22 rfl ?_
      refine aw_geti (k0 := 33) kc_12 (ws_1 w13) (Nat.le_of_ble_eq_true rfl) tw_1775 d_X12_ask_23 rfl ?_
      refine aw_iconst (v := 1) d_X12_ask_26 ic_1 ?_
      refine aw_iadd d_X12_ask_27 ?_
      refine aw_puti (k0 := 33) kc_12 (ws_1 w13) (Nat.le_of_ble_eq_true rfl) tw_1775 d_X12_ask_28 rfl rfl nf_i ?_
      refine aw_aload_n (i := 0) rfl d_X12_ask_31 0 rfl ?_
      refine aw_iconst (v := 2) d_X12_ask_32 ic_2 ?_
      refine aw_Vv 1 [.int 2] [] d_X12_ask_33 (cV_X12_say (d + 0) 0 0) kc_12 (ws_1 w13) tw_2210 rfl (rr0 (Nat.le_of_ble_eq_true rfl) (Nat.le_of_ble_eq_true rfl)) (Nat.le_of_ble_eq_true rfl) xs0 k (fun h15 kk => ?_)
      obtain ⟨w16, k⟩ := kk
      exact aw_vret rfl d_X12_ask_36 ⟨Nat.le_refl _, Nat.le_refl _⟩ ⟨rfl, k⟩
end
section
/-! the reference's reader: its small methods -/
noncomputable def wzp : List Nat := [1033, 1034, 1035, 1036, 226999]
noncomputable abbrev pa (h : Hp_) : Int := (h_i h 1 33).toInt
noncomputable abbrev pz (h : Hp_) : Int := (h_i h 1 32).toInt
theorem pz_in {h : Hp_} (I : Iv h) : rin (pz h) (0, 160) := by
  have := I.2.1 1 32
  rwa [show tf 1 32 = (0, 160) by decide +kernel] at this
theorem pa_in {h : Hp_} (I : Iv h) : rin (pa h) (0, 180) := by
  have := I.2.1 1 33
  rwa [show tf 1 33 = (0, 180) by decide +kernel] at this
theorem i33 {h : Hp_} (I : Iv h) {x : Int32} (b : rin x.toInt (0, 180)) : Iv (h_im h 1 33 x) := I.im (by rw [show tf 1 33 = (0, 180) by decide +kernel]; exact b) (by decide)
theorem i34 {h : Hp_} (I : Iv h) (x : Int32) : Iv (h_im h 1 34 x) := I.im (by rw [show tf 1 34 = rtop by decide +kernel]; exact rtop_in _) (by decide)
theorem i36 {h : Hp_} (I : Iv h) {x : Int32} (b : rin x.toInt (0, 559)) : Iv (h_im h 1 36 x) := I.im (by rw [show tf 1 36 = (0, 559) by decide +kernel]; exact b) (by decide)
theorem i226 {h : Hp_} (I : Iv h) (k : Nat) (x : Int32) : Iv (h_im h 226 k x) := tr_ 226 (by decide +kernel) I k x (by decide) (by decide)
theorem f_ne {h : Hp_} {k j : Nat} {x : Int32} (n : j ≠ k) : h_i (h_im h 1 k x) 1 j = h_i h 1 j := by rw [h_i_im, if_neg (fun e => n e.2)]
/-- what look leaves: only the place may have moved on, over blanks -/
noncomputable def Lk (h : Hp_) (r : Int32) (h' : Hp_) : Prop := Iv h' ∧ Fr [1033] h h' ∧ pa h ≤ pa h' ∧ (pa h' ≤ pa h ∨ pa h' ≤ pz h) ∧ ((r = -1 ∧ pz h ≤ pa h') ∨ (pa h' < pz h ∧ r = h_i h 225 (h_i h' 1 33).toNatClampNeg))
theorem c_look (d : Nat) {h : Hp_} (I : Iv h) : Ci (m_X12_look (d + 0) 0 0) [.ref 1] h (fun r h' => Lk h r h') := by
  have t1 : (1 : Int32).toInt = 1 := rfl
  have lp : ∀ (q : Nat) (h2 : Hp_), Iv h2 → Fr [1033] h h2 → pa h ≤ pa h2 → (pa h2 ≤ pa h ∨ pa h2 ≤ pz h) → pz h - pa h2 ≤ q → AW (m_X12_look (d + 0) 0 0) 0 0 0 [(0, .ref 1)] [] h2 (kI (fun r h' => Lk h r h')) := by
    intro q
    induction q with
    | zero =>
      intro h2 I2 F2 l1 l2 m
      have ez : h_i h2 1 32 = h_i h 1 32 := (F2.2 1 32 (by decide +kernel)).1
      have fin : Lk h (-1) h2 := ⟨I2, F2, l1, l2, Or.inl ⟨rfl, by omega⟩⟩
      refine t_X12_look_0 d h2 I2.1 _ ⟨fun y => ⟨fun _ => fin, fun z => absurd y z⟩, fun z => ?_⟩
      rw [ez] at z
      have z := q_nle z
      have m' : (h_i h 1 32).toInt - (h_i h2 1 33).toInt ≤ 0 := m
      omega
    | succ q ih =>
      intro h2 I2 F2 l1 l2 m
      have ez : h_i h2 1 32 = h_i h 1 32 := (F2.2 1 32 (by decide +kernel)).1
      have et : ∀ k, h_i h2 225 k = h_i h 225 k := fun k => fr_i F2 (by decide +kernel) k
      have p0 : 0 ≤ (h_i h2 1 33).toInt := (pa_in I2).1
      have z1 : (h_i h 1 32).toInt ≤ 160 := (pz_in I).2
      have m' : (h_i h 1 32).toInt - (h_i h2 1 33).toInt ≤ (q + 1 : Nat) := m
      have fin1 : h_i h2 1 32 ≤ h_i h2 1 33 → Lk h (-1) h2 := fun y => ⟨I2, F2, l1, l2, Or.inl ⟨rfl, by rw [ez] at y; exact q_le.mp y⟩⟩
      have fin2 : ¬ h_i h2 1 32 ≤ h_i h2 1 33 → Lk h (h_i h2 225 (h_i h2 1 33).toNatClampNeg) h2 := fun y => ⟨I2, F2, l1, l2, Or.inr ⟨by rw [ez] at y; exact q_nle y, et _⟩⟩
      refine t_X12_look_0 d h2 I2.1 _ ⟨fun y => ⟨fun _ => fin1 y, fun z => absurd y z⟩, fun z => ?_⟩
      have z' := z
      rw [ez] at z'
      have z' := q_nle z'
      have v : vp_in (h_i h2 1 33) 160 := dp_in (lo := 0) (hi := 159) ⟨p0, by show _ ≤ (159 : Int); omega⟩ (by decide) (by decide)
      refine ⟨v, fun _ => ⟨fun y => absurd y z, fun _ => ⟨v, fin2 z⟩⟩, fun _ => ?_⟩
      have ex : (h_i h2 1 33 + 1).toInt = (h_i h2 1 33).toInt + 1 := tx_add (by rw [t1]; omega) (by rw [t1]; omega)
      have l1' : (h_i h 1 33).toInt ≤ (h_i h2 1 33).toInt := l1
      refine ih _ (i33 I2 ⟨by show (0 : Int) ≤ _; omega, by show _ ≤ (180 : Int); omega⟩) (F2.im (by decide +kernel)) ?_ ?_ ?_
      · show (h_i h 1 33).toInt ≤ (h_i (h_im h2 1 33 _) 1 33).toInt
        rw [im_at]; omega
      · right
        show (h_i (h_im h2 1 33 _) 1 33).toInt ≤ (h_i h 1 32).toInt
        rw [im_at]; omega
      · show (h_i h 1 32).toInt - (h_i (h_im h2 1 33 _) 1 33).toInt ≤ _
        rw [im_at]; omega
  refine Ct.of (fun _ _ _ => trivial) pn_X12 (Nat.le_of_ble_eq_true rfl) ?_
  have z0 : 0 ≤ (h_i h 1 32).toInt := (pz_in I).1
  have p0 : 0 ≤ (h_i h 1 33).toInt := (pa_in I).1
  have z1 : (h_i h 1 32).toInt ≤ 160 := (pz_in I).2
  exact lp 160 h I (Fr.rf _ _) (Int.le_refl _) (Or.inl (Int.le_refl _)) (by show (h_i h 1 32).toInt - (h_i h 1 33).toInt ≤ 160; omega)
theorem c_bad (d : Nat) {h : Hp_} (I : Iv h) : Cv (m_X12_bad (d + 0) 0 0) [.ref 1] h (fun h' => Iv h' ∧ Fr [1034] h h' ∧ ¬ h_i h' 1 34 = -1) := by
  have p0 : 0 ≤ (h_i h 1 33).toInt := (pa_in I).1
  refine t_X12_bad d h I.1 _ ⟨fun z => ⟨i34 I _, (Fr.rf _ _).im (by decide +kernel), by rw [im_at]; exact z⟩, fun _ => ⟨i34 I _, (Fr.rf _ _).im (by decide +kernel), ?_⟩⟩
  rw [im_at]
  intro e
  rw [e] at p0
  exact absurd p0 (by decide)
theorem c_say (d : Nat) {h : Hp_} (I : Iv h) (x : Int32) (l : (h_i h 1 36).toInt ≤ 558) : Cv (m_X12_say (d + 0) 0 0) [.ref 1, .int x] h (fun h' => Iv h' ∧ Fr [1036, 226999] h h' ∧ (h_i h' 1 36).toInt = (h_i h 1 36).toInt + 1 ∧ h_i h' 226 (h_i h 1 36).toNatClampNeg = x ∧ ∀ k, k ≠ (h_i h 1 36).toNatClampNeg → h_i h' 226 k = h_i h 226 k) := by
  have t1 : (1 : Int32).toInt = 1 := rfl
  have sr := I.2.1 1 36
  rw [show tf 1 36 = (0, 559) by decide +kernel] at sr
  have s0 : 0 ≤ (h_i h 1 36).toInt := sr.1
  have ex : (h_i h 1 36 + 1).toInt = (h_i h 1 36).toInt + 1 := tx_add (by rw [t1]; omega) (by rw [t1]; omega)
  refine t_X12_say d h I.1 x _ ⟨dp_in (lo := 0) (hi := 559) ⟨s0, by show _ ≤ (559 : Int); omega⟩ (by decide) (by decide), i36 (i226 I _ _) ⟨by show (0 : Int) ≤ _; omega, by show _ ≤ (559 : Int); omega⟩, ((Fr.rf _ _).im (inw_row (by decide +kernel) _)).im (by decide +kernel), by rw [im_at]; exact ex, by rw [im_ne (by decide), im_at], fun k hk => ?_⟩
  rw [im_ne (by decide), h_i_im, if_neg (fun e => hk e.2)]
end
section
/-! a number read -/
noncomputable def Nu (h : Hp_) (h' : Hp_) : Prop := Iv h' ∧ Fr [1033, 1034] h h' ∧ pa h ≤ pa h' ∧ pa h' ≤ pz h ∧ (h_i h' 1 34 = -1 → pa h < pa h')
theorem c_isDigit (d : Nat) (h : Hp_) (x : Int32) : Ci (m_X12_isDigit (d + 0) 0 0) [.int x] h (fun r h' => h' = h ∧ ((r = 1 ∧ ¬ x < 48 ∧ ¬ 57 < x) ∨ (r = 0 ∧ ¬ (¬ x < 48 ∧ ¬ 57 < x)))) :=
  t_X12_isDigit d h x _ ⟨fun z => ⟨rfl, Or.inr ⟨rfl, fun y => y.1 z⟩⟩, fun z => ⟨fun y => ⟨rfl, Or.inr ⟨rfl, fun u => u.2 y⟩⟩, fun y => ⟨rfl, Or.inl ⟨rfl, z, y⟩⟩⟩⟩
theorem nu_loop (d : Nat) (h : Hp_) (I : Iv h) : ∀ (q : Nat) (x1 x2 : Int32) (h2 : Hp_), Iv h2 → Fr [1033, 1034] h h2 → h_i h2 1 34 = -1 → pa h ≤ pa h2 → pa h2 ≤ pz h → pz h - pa h2 ≤ q → (pa h < pa h2 ∨ (x2 = 0 ∧ pa h2 < pz h ∧ (¬ h_i h2 225 (h_i h2 1 33).toNatClampNeg < 48 ∧ ¬ 57 < h_i h2 225 (h_i h2 1 33).toNatClampNeg))) →
    AW (m_X12_number (d + 1) 0 0) 0 0 20 [(0, .ref 1), (1, .int x1), (2, .int x2)] [] h2 (kI (fun _ h' => Nu h h')) := by
  have t1 : (1 : Int32).toInt = 1 := rfl
  have z1 : (h_i h 1 32).toInt ≤ 160 := (pz_in I).2
  intro q
  induction q with
  | zero =>
    intro x1 x2 h2 I2 F2 w l1 l2 m c
    have ez : h_i h2 1 32 = h_i h 1 32 := (F2.2 1 32 (by decide +kernel)).1
    have m' : (h_i h 1 32).toInt - (h_i h2 1 33).toInt ≤ 0 := m
    refine t_X12_number_20 d h2 I2.1 x1 x2 _ ⟨fun _ => ⟨I2, F2, l1, l2, fun _ => ?_⟩, fun z => ?_⟩
    · rcases c with c | c
      · exact c
      · have c2 : (h_i h2 1 33).toInt < (h_i h 1 32).toInt := c.2.1
        omega
    · rw [ez] at z
      have z := q_nle z
      omega
  | succ q ih =>
    intro x1 x2 h2 I2 F2 w l1 l2 m c
    have ez : h_i h2 1 32 = h_i h 1 32 := (F2.2 1 32 (by decide +kernel)).1
    have m' : (h_i h 1 32).toInt - (h_i h2 1 33).toInt ≤ (q + 1 : Nat) := m
    have p0 : 0 ≤ (h_i h2 1 33).toInt := (pa_in I2).1
    have l1' : (h_i h 1 33).toInt ≤ (h_i h2 1 33).toInt := l1
    refine t_X12_number_20 d h2 I2.1 x1 x2 _ ⟨fun z => ⟨I2, F2, l1, l2, fun _ => ?_⟩, fun z => ?_⟩
    · rcases c with c | c
      · exact c
      · rw [ez] at z
        have z := q_le.mp z
        have c2 : (h_i h2 1 33).toInt < (h_i h 1 32).toInt := c.2.1
        omega
    · rw [ez] at z
      have z := q_nle z
      have v : vp_in (h_i h2 1 33) 160 := dp_in (lo := 0) (hi := 159) ⟨p0, by show _ ≤ (159 : Int); omega⟩ (by decide) (by decide)
      refine ⟨v, Ci.mono (c_isDigit d h2 _) (fun r h3 k => ?_)⟩
      obtain ⟨e3, k⟩ := k
      subst e3
      refine ⟨I2.1, fun r0 => ⟨I2, F2, l1, l2, fun _ => ?_⟩, fun r1 => ⟨fun n4 => ⟨v, ?_⟩, fun e4 => ?_⟩⟩
      · rcases c with c | c
        · exact c
        · rcases k with k | k
          · rw [r0] at k; exact absurd k.1 (by decide)
          · exact absurd c.2.2 k.2
      · have ex : (h_i h3 1 33 + 1).toInt = (h_i h3 1 33).toInt + 1 := tx_add (by rw [t1]; omega) (by rw [t1]; omega)
        refine ih _ _ _ (i33 I2 ⟨by show (0 : Int) ≤ _; omega, by show _ ≤ (180 : Int); omega⟩) (F2.im (by decide +kernel)) (by rw [f_ne (by decide)]; exact w) ?_ ?_ ?_ (Or.inl ?_)
        · show (h_i h 1 33).toInt ≤ (h_i (h_im h3 1 33 _) 1 33).toInt
          rw [im_at]; omega
        · show (h_i (h_im h3 1 33 _) 1 33).toInt ≤ (h_i h 1 32).toInt
          rw [im_at]; omega
        · show (h_i h 1 32).toInt - (h_i (h_im h3 1 33 _) 1 33).toInt ≤ _
          rw [im_at]; omega
        · show (h_i h 1 33).toInt < (h_i (h_im h3 1 33 _) 1 33).toInt
          rw [im_at]; omega
      · refine Cv.mono (c_bad d I2) (fun h4 k4 => ⟨k4.1.1, k4.1, F2.tr (k4.2.1.more (by decide +kernel)), ?_, ?_, fun y => absurd y k4.2.2⟩)
        · show (h_i h 1 33).toInt ≤ (h_i h4 1 33).toInt
          rw [(k4.2.1.2 1 33 (by decide +kernel)).1]; exact l1'
        · show (h_i h4 1 33).toInt ≤ (h_i h 1 32).toInt
          rw [(k4.2.1.2 1 33 (by decide +kernel)).1]; exact l2
theorem c_number (d : Nat) {h : Hp_} (I : Iv h) (w : h_i h 1 34 = -1) (l : pa h ≤ pz h) : Ci (m_X12_number (d + 1) 0 0) [.ref 1] h (fun _ h' => Nu h h') := by
  have z1 : (h_i h 1 32).toInt ≤ 160 := (pz_in I).2
  have p0 : 0 ≤ (h_i h 1 33).toInt := (pa_in I).1
  refine t_X12_number d h I.1 _ (Ci.mono (c_look d I) (fun r h2 L => ?_))
  obtain ⟨I2, F2, l1, l2, lr⟩ := L
  have l1' : (h_i h 1 33).toInt ≤ (h_i h2 1 33).toInt := l1
  have l2' : (h_i h2 1 33).toInt ≤ (h_i h 1 32).toInt := by
    have l' : (h_i h 1 33).toInt ≤ (h_i h 1 32).toInt := l
    rcases l2 with u | u
    · have u' : (h_i h2 1 33).toInt ≤ (h_i h 1 33).toInt := u
      omega
    · exact u
  have F2' : Fr [1033, 1034] h h2 := F2.more (by decide +kernel)
  have w2 : h_i h2 1 34 = -1 := by rw [(F2.2 1 34 (by decide +kernel)).1]; exact w
  refine ⟨I2.1, Ci.mono (c_isDigit d h2 r) (fun r6 h4 k => ?_)⟩
  obtain ⟨e4, k⟩ := k
  subst e4
  refine ⟨I2.1, fun n0 => ?_, fun _ => ?_⟩
  · rcases k with k | k
    · rcases lr with u | u
      · rw [u.1] at k; exact absurd (by decide) k.2.1
      · refine nu_loop d h I 160 0 0 h4 I2 F2' w2 l1 l2' (by show (h_i h 1 32).toInt - (h_i h4 1 33).toInt ≤ 160; omega) (Or.inr ⟨rfl, u.1, ?_⟩)
        rw [fr_i F2 (a := 225) (by decide +kernel), ← u.2]
        exact k.2
    · exact absurd k.1 n0
  · refine Cv.mono (c_bad d I2) (fun h5 k5 => ⟨k5.1.1, k5.1, F2'.tr (k5.2.1.more (by decide +kernel)), ?_, ?_, fun y => absurd y k5.2.2⟩)
    · show (h_i h 1 33).toInt ≤ (h_i h5 1 33).toInt
      rw [(k5.2.1.2 1 33 (by decide +kernel)).1]; exact l1'
    · show (h_i h5 1 33).toInt ≤ (h_i h 1 32).toInt
      rw [(k5.2.1.2 1 33 (by decide +kernel)).1]; exact l2'
end
section
/-! a number within bounds; brackets opened and closed -/
noncomputable def Wi (h : Hp_) (x1 x2 r : Int32) (h' : Hp_) : Prop := Nu h h' ∧ (h_i h' 1 34 = -1 → x1 ≤ r ∧ r ≤ x2)
theorem c_within (d : Nat) {h : Hp_} (I : Iv h) (w : h_i h 1 34 = -1) (l : pa h ≤ pz h) (x1 x2 : Int32) : Ci (m_X12_within (d + 2) 0 0) [.ref 1, .int x1, .int x2] h (fun r h' => Wi h x1 x2 r h') := by
  have p0 : 0 ≤ (h_i h 1 33).toInt := (pa_in I).1
  have t1 : (1 : Int32).toInt = 1 := rfl
  refine t_X12_within d h I.1 x1 x2 _ (Ci.mono (c_number d I w l) (fun r h2 N => ?_))
  have I2 := N.1
  refine ⟨I2.1, fun n => ⟨N, fun y => absurd y n⟩, fun e => ⟨fun b => ⟨N, fun _ => b⟩, fun _ => ?_⟩⟩
  have g : (h_i h 1 33).toInt < (h_i h2 1 33).toInt := N.2.2.2.2 e
  have u : (h_i h2 1 33).toInt ≤ 180 := (pa_in I2).2
  have em : (h_i h2 1 33 - 1).toInt = (h_i h2 1 33).toInt - 1 := by rw [tx_sub (by rw [t1]; omega) (by rw [t1]; omega), t1]
  have ne : ¬ h_i (h_im h2 1 34 (h_i h2 1 33 - 1)) 1 34 = -1 := by
    rw [im_at]
    intro y
    have y := congrArg Int32.toInt y
    rw [em, show (-1 : Int32).toInt = -1 from rfl] at y
    omega
  refine ⟨⟨i34 I2 _, N.2.1.im (by decide +kernel), ?_, ?_, fun y => absurd y ne⟩, fun y => absurd y ne⟩
  · show (h_i h 1 33).toInt ≤ (h_i (h_im h2 1 34 _) 1 33).toInt
    rw [f_ne (by decide)]; exact N.2.2.1
  · show (h_i (h_im h2 1 34 _) 1 33).toInt ≤ (h_i h 1 32).toInt
    rw [f_ne (by decide)]; exact N.2.2.2.1
theorem dp_in7 {h : Hp_} (I : Iv h) : rin (h_i h 1 35).toInt (0, 7) := by
  have := I.2.1 1 35
  rwa [show tf 1 35 = (0, 7) by decide +kernel] at this
theorem i35 {h : Hp_} (I : Iv h) {x : Int32} (b : rin x.toInt (0, 7)) : Iv (h_im h 1 35 x) := I.im (by rw [show tf 1 35 = (0, 7) by decide +kernel]; exact b) (by decide)
/-- a bracket opened: one deeper, one further; or wrong -/
theorem c_opens (d : Nat) {h : Hp_} (I : Iv h) (l : pa h < pz h) (dl : (h_i h 1 35).toInt ≤ 6) : Ci (m_X12_opens (d + 1) 0 0) [.ref 1] h (fun r h' => Iv h' ∧ Fr [1033, 1034, 1035] h h' ∧ ((r = 1 ∧ h_i h' 1 34 = h_i h 1 34 ∧ pa h' = pa h + 1 ∧ (h_i h' 1 35).toInt = (h_i h 1 35).toInt + 1 ∧ (h_i h 1 35).toInt ≤ 5) ∨ (r = 0 ∧ ¬ h_i h' 1 34 = -1 ∧ h_i h' 1 33 = h_i h 1 33 ∧ h_i h' 1 35 = h_i h 1 35))) := by
  have t1 : (1 : Int32).toInt = 1 := rfl
  have t6 : (6 : Int32).toInt = 6 := rfl
  have p0 : 0 ≤ (h_i h 1 33).toInt := (pa_in I).1
  have z1 : (h_i h 1 32).toInt ≤ 160 := (pz_in I).2
  have l' : (h_i h 1 33).toInt < (h_i h 1 32).toInt := l
  have d0 : 0 ≤ (h_i h 1 35).toInt := (dp_in7 I).1
  have e33 : (h_i h 1 33 + 1).toInt = (h_i h 1 33).toInt + 1 := tx_add (by rw [t1]; omega) (by rw [t1]; omega)
  have e35 : (h_i h 1 35 + 1).toInt = (h_i h 1 35).toInt + 1 := tx_add (by rw [t1]; omega) (by rw [t1]; omega)
  refine t_X12_opens d h I.1 _ ⟨fun n => ?_, fun _ => ?_⟩
  · have d5 : (h_i h 1 35).toInt ≤ 5 := by
      rcases Int.lt_or_le (h_i h 1 35).toInt 6 with u | u
      · omega
      · exact absurd (Int32.toInt_inj.mp (by rw [t6]; omega)) n
    refine ⟨i33 (i35 I ⟨by show (0 : Int) ≤ _; omega, by show _ ≤ (7 : Int); omega⟩) ⟨by show (0 : Int) ≤ _; omega, by show _ ≤ (180 : Int); omega⟩, ((Fr.rf _ _).im (by decide +kernel)).im (by decide +kernel), Or.inl ⟨rfl, ?_, ?_, ?_, d5⟩⟩
    · rw [f_ne (by decide), f_ne (by decide)]
    · show (h_i (h_im _ 1 33 _) 1 33).toInt = _
      rw [im_at]; exact e33
    · rw [f_ne (by decide), im_at]; exact e35
  · exact Cv.mono (c_bad d I) (fun h2 k => ⟨k.1.1, k.1, k.2.1.more (by decide +kernel), Or.inr ⟨rfl, k.2.2, (k.2.1.2 1 33 (by decide +kernel)).1, (k.2.1.2 1 35 (by decide +kernel)).1⟩⟩)
/-- a bracket closed: one less deep; the place one further, wherever it was -/
theorem c_closes (d : Nat) {h : Hp_} (I : Iv h) (x : Int32) (l : (h_i h 1 34 = -1 → pa h ≤ pz h) ∧ pa h ≤ 179) (hx : ¬ x = -1) (dl : 1 ≤ (h_i h 1 35).toInt) : Cv (m_X12_closes (d + 1) 0 0) [.ref 1, .int x] h (fun h' => Iv h' ∧ Fr [1033, 1034, 1035] h h' ∧ (h_i h' 1 35).toInt = (h_i h 1 35).toInt - 1 ∧ pa h + 1 ≤ pa h' ∧ (¬ h_i h 1 34 = -1 → h_i h' 1 34 = h_i h 1 34 ∧ pa h' = pa h + 1) ∧ (h_i h 1 34 = -1 → pa h' ≤ pz h + 1 ∧ (h_i h' 1 34 = -1 → pa h' ≤ pz h))) := by
  have t1 : (1 : Int32).toInt = 1 := rfl
  have p0 : 0 ≤ (h_i h 1 33).toInt := (pa_in I).1
  have z1 : (h_i h 1 32).toInt ≤ 160 := (pz_in I).2
  have d7 : (h_i h 1 35).toInt ≤ 7 := (dp_in7 I).2
  have st : ∀ h2, Iv h2 → Fr [1033, 1034, 1035] h h2 → h_i h2 1 35 = h_i h 1 35 → 0 ≤ pa h2 → pa h2 ≤ 179 → Iv (h_im (h_im h2 1 33 ((h_i h2 1 33) + 1)) 1 35 ((h_i h2 1 35) - 1)) ∧ Fr [1033, 1034, 1035] h (h_im (h_im h2 1 33 ((h_i h2 1 33) + 1)) 1 35 ((h_i h2 1 35) - 1)) ∧ (h_i (h_im (h_im h2 1 33 ((h_i h2 1 33) + 1)) 1 35 ((h_i h2 1 35) - 1)) 1 35).toInt = (h_i h 1 35).toInt - 1 ∧ pa (h_im (h_im h2 1 33 ((h_i h2 1 33) + 1)) 1 35 ((h_i h2 1 35) - 1)) = pa h2 + 1 ∧ h_i (h_im (h_im h2 1 33 ((h_i h2 1 33) + 1)) 1 35 ((h_i h2 1 35) - 1)) 1 34 = h_i h2 1 34 := by
    intro h2 I2 F2 e5 a0 a1
    have a0' : 0 ≤ (h_i h2 1 33).toInt := a0
    have a1' : (h_i h2 1 33).toInt ≤ 179 := a1
    have e33 : (h_i h2 1 33 + 1).toInt = (h_i h2 1 33).toInt + 1 := tx_add (by rw [t1]; omega) (by rw [t1]; omega)
    have e35 : (h_i h2 1 35 - 1).toInt = (h_i h 1 35).toInt - 1 := by rw [e5, tx_sub (by rw [t1]; omega) (by rw [t1]; omega), t1]
    refine ⟨i35 (i33 I2 ⟨by show (0 : Int) ≤ _; omega, by show _ ≤ (180 : Int); omega⟩) ⟨by show (0 : Int) ≤ _; omega, by show _ ≤ (7 : Int); omega⟩, (F2.im (by decide +kernel)).im (by decide +kernel), by rw [im_at]; exact e35, ?_, by rw [f_ne (by decide), f_ne (by decide)]⟩
    show (h_i (h_im (h_im h2 1 33 _) 1 35 _) 1 33).toInt = _
    rw [f_ne (by decide), im_at]; exact e33
  refine t_X12_closes d h I.1 x _ ⟨fun n => ?_, fun e => ?_⟩
  · obtain ⟨s1, s2, s3, s4, s5⟩ := st h I (Fr.rf _ _) rfl p0 l.2
    exact ⟨s1, s2, s3, by omega, fun _ => ⟨s5, s4⟩, fun y => absurd y n⟩
  · have lw : (h_i h 1 33).toInt ≤ (h_i h 1 32).toInt := l.1 e
    refine Ci.mono (c_look d I) (fun r h2 L => ?_)
    obtain ⟨I2, F2, l1, l2, lr⟩ := L
    have F2' : Fr [1033, 1034, 1035] h h2 := F2.more (by decide +kernel)
    have e5 : h_i h2 1 35 = h_i h 1 35 := (F2.2 1 35 (by decide +kernel)).1
    have e4 : h_i h2 1 34 = h_i h 1 34 := (F2.2 1 34 (by decide +kernel)).1
    have l1' : (h_i h 1 33).toInt ≤ (h_i h2 1 33).toInt := l1
    have l2' : (h_i h2 1 33).toInt ≤ (h_i h 1 32).toInt := by
      rcases l2 with u | u
      · have u' : (h_i h2 1 33).toInt ≤ (h_i h 1 33).toInt := u
        omega
      · exact u
    refine ⟨I2.1, fun er => ?_, fun _ => ?_⟩
    · have at2 : (h_i h2 1 33).toInt < (h_i h 1 32).toInt := by
        rcases lr with u | u
        · exact absurd (er.symm.trans u.1) hx
        · exact u.1
      obtain ⟨s1, s2, s3, s4, s5⟩ := st h2 I2 F2' e5 (by show 0 ≤ (h_i h2 1 33).toInt; omega) (by show (h_i h2 1 33).toInt ≤ 179; omega)
      refine ⟨s1, s2, s3, ?_, fun y => absurd e y, fun _ => ⟨?_, fun _ => ?_⟩⟩
      · rw [s4]; show (h_i h 1 33).toInt + 1 ≤ (h_i h2 1 33).toInt + 1; omega
      · rw [s4]; show (h_i h2 1 33).toInt + 1 ≤ (h_i h 1 32).toInt + 1; omega
      · rw [s4]; show (h_i h2 1 33).toInt + 1 ≤ (h_i h 1 32).toInt; omega
    · refine Cv.mono (c_bad d I2) (fun h3 k => ?_)
      have f3 : h_i h3 1 33 = h_i h2 1 33 := (k.2.1.2 1 33 (by decide +kernel)).1
      have f5 : h_i h3 1 35 = h_i h 1 35 := (k.2.1.2 1 35 (by decide +kernel)).1.trans e5
      obtain ⟨s1, s2, s3, s4, s5⟩ := st h3 k.1 (F2'.tr (k.2.1.more (by decide +kernel))) f5 (by show 0 ≤ (h_i h3 1 33).toInt; rw [f3]; omega) (by show (h_i h3 1 33).toInt ≤ 179; rw [f3]; omega)
      refine ⟨k.1.1, s1, s2, s3, ?_, fun y => absurd e y, fun _ => ⟨?_, fun y => absurd (s5.symm.trans y) k.2.2⟩⟩
      · rw [s4]; show (h_i h 1 33).toInt + 1 ≤ (h_i h3 1 33).toInt + 1; rw [f3]; omega
      · rw [s4]; show (h_i h3 1 33).toInt + 1 ≤ (h_i h 1 32).toInt + 1; rw [f3]; omega
end
section
/-! codes of told sums: put together -/
theorem prun_cat {s : Nat} {cd : Nat → Int32} : ∀ {f i n j m g k l : Nat}, prun s cd f i n j m → prun s cd g j m k l → prun s cd (f + g) i n k l
  | 0, i, n, j, m, g, k, l, a, b => by
    obtain ⟨e1, e2⟩ := a
    subst e1 e2
    rw [Nat.zero_add]; exact b
  | f + 1, i, n, j, m, g, k, l, a, b => by
    obtain ⟨i', n', h1, h2⟩ := a
    rw [Nat.add_right_comm]
    exact ⟨i', n', h1, prun_cat h2 b⟩
/-- from i to j the codes raise the pile by one, by k at most between -/
noncomputable def PR (s : Nat) (cd : Nat → Int32) (i j k : Nat) : Prop := ∃ g, ∀ n, n + k ≤ 199 → prun s cd g i n j (n + 1)
theorem PR.num {s : Nat} {cd : Nat → Int32} {i : Nat} (h : cd i = 0) : PR s cd i (i + 2) 1 := ⟨1, fun n hn => ⟨i + 2, n + 1, by unfold pst; rw [if_pos h, if_pos (by omega)], rfl, rfl⟩⟩
theorem PR.let_ {s : Nat} {cd : Nat → Int32} {i : Nat} (h : cd i = 1) (o : okl s (cd (i + 1)) = true) : PR s cd i (i + 2) 1 := ⟨1, fun n hn => ⟨i + 2, n + 1, by unfold pst; rw [if_neg (by rw [h]; decide), if_pos h, if_pos ⟨by omega, o⟩], rfl, rfl⟩⟩
theorem PR.not_ {s : Nat} {cd : Nat → Int32} {i j k : Nat} (a : PR s cd i j k) (h : cd j = 33) : PR s cd i (j + 1) k := by
  obtain ⟨g, hg⟩ := a
  refine ⟨g + 1, fun n hn => prun_cat (hg n hn) ⟨j + 1, n + 1, ?_, rfl, rfl⟩⟩
  unfold pst
  rw [if_neg (by rw [h]; decide), if_neg (by rw [h]; decide), if_pos h, if_pos (by omega)]
noncomputable def opc (c : Int32) : Bool := !(decide (c = 0) || decide (c = 1) || decide (c = 33) || decide (c = 2) || decide (c = 3))
theorem PR.bin {s : Nat} {cd : Nat → Int32} {i j m k1 k2 K : Nat} (a : PR s cd i j k1) (b : PR s cd j m k2) (h : opc (cd m) = true) (l1 : k1 ≤ K) (l2 : k2 + 1 ≤ K) : PR s cd i (m + 1) K := by
  obtain ⟨g1, h1⟩ := a
  obtain ⟨g2, h2⟩ := b
  refine ⟨g1 + g2 + 1, fun n hn => prun_cat (prun_cat (h1 n (by omega)) (h2 (n + 1) (by omega))) ⟨m + 1, n + 1, ?_, rfl, rfl⟩⟩
  unfold opc at h
  rw [Bool.not_eq_true', Bool.or_eq_false_iff, Bool.or_eq_false_iff, Bool.or_eq_false_iff, Bool.or_eq_false_iff, decide_eq_false_iff_not, decide_eq_false_iff_not, decide_eq_false_iff_not, decide_eq_false_iff_not, decide_eq_false_iff_not] at h
  unfold pst
  rw [if_neg h.1.1.1.1, if_neg h.1.1.1.2, if_neg h.1.1.2, if_neg (fun z => z.elim h.1.2 h.2), if_pos (by omega)]
  rfl
theorem PR.more {s : Nat} {cd : Nat → Int32} {i j k K : Nat} (a : PR s cd i j k) (l : k ≤ K) : PR s cd i j K := by
  obtain ⟨g, hg⟩ := a
  exact ⟨g, fun n hn => hg n (by omega)⟩
theorem pst_sh {s : Nat} {cd cd' : Nat → Int32} {i n t : Nat} {q : Nat × Nat} (e0 : cd' (i + t) = cd i) (e1 : cd i = 1 → cd' (i + t + 1) = cd (i + 1)) (h : pst s cd i n = some q) : pst s cd' (i + t) n = some (q.1 + t, q.2) := by
  obtain ⟨i', n'⟩ := q
  rcases pst_0 h with ⟨c, q1, q2, q3⟩ | ⟨c, q1, qk, q2, q3⟩ | ⟨c, q1, q2, q3⟩ | ⟨c, q1, q2, q3⟩
  · subst q2 q3
    unfold pst
    rw [e0, if_pos c, if_pos q1, Nat.add_right_comm]
  · subst q2 q3
    unfold pst
    rw [e0, e1 c, if_neg (by rw [c]; decide), if_pos c, if_pos ⟨q1, qk⟩, Nat.add_right_comm]
  · subst q2 q3
    unfold pst
    rw [e0, if_neg (by rw [c]; decide), if_neg (by rw [c]; decide), if_pos c, if_pos q1, Nat.add_right_comm]
  · subst q2 q3
    unfold pst
    rw [e0, if_neg c.1, if_neg c.2.1, if_neg c.2.2.1, if_neg (fun z => z.elim c.2.2.2.1 c.2.2.2.2), if_pos q1, Nat.add_right_comm]
theorem pst_1 {s : Nat} {cd : Nat → Int32} {i n i' n' : Nat} (h : pst s cd i n = some (i', n')) (c : cd i = 1) : i' = i + 2 := by
  rcases pst_0 h with ⟨q, _⟩ | ⟨_, _, _, q2, _⟩ | ⟨q, _⟩ | ⟨q, _⟩
  · rw [c] at q; exact absurd q (by decide)
  · exact q2
  · rw [c] at q; exact absurd q (by decide)
  · exact absurd c q.2.1
theorem prun_sh {s : Nat} {cd cd' : Nat → Int32} {t : Nat} : ∀ {g i n j m : Nat}, (∀ x, i ≤ x → x < j → cd' (x + t) = cd x) → prun s cd g i n j m → prun s cd' g (i + t) n (j + t) m
  | 0, _, _, _, _, _, h => ⟨by rw [h.1], h.2⟩
  | g + 1, i, n, j, m, e, h => by
    obtain ⟨i', n', h1, h2⟩ := h
    have l1 := pst_le h1
    have l2 := prun_le h2
    refine ⟨i' + t, n', ?_, prun_sh (fun x a b => e x (by omega) b) h2⟩
    refine pst_sh (q := (i', n')) (e i (Nat.le_refl _) (by omega)) (fun c => ?_) h1
    have := pst_1 h1 c
    rw [show i + t + 1 = (i + 1) + t by omega]
    exact e (i + 1) (by omega) (by omega)
theorem PR.sh {s : Nat} {cd cd' : Nat → Int32} {t i j k : Nat} (e : ∀ x, i ≤ x → x < j → cd' (x + t) = cd x) (a : PR s cd i j k) : PR s cd' (i + t) (j + t) k := by
  obtain ⟨g, hg⟩ := a
  exact ⟨g, fun n hn => prun_sh e (hg n hn)⟩
theorem PR.same {s : Nat} {cd cd' : Nat → Int32} {i j k : Nat} (e : ∀ x, i ≤ x → x < j → cd' x = cd x) (a : PR s cd i j k) : PR s cd' i j k := PR.sh (t := 0) e a
theorem PR.ex {s : Nat} {cd : Nat → Int32} {i j k : Nat} (a : PR s cd i j k) (l : k ≤ 199) : ∃ g, prun s cd g i 0 j 1 := by
  obtain ⟨g, hg⟩ := a
  exact ⟨g, hg 0 (by omega)⟩
end
section
theorem t_X12_atom (d : Nat) (h : Hp_) (w : Wf h)  (K : Hp_ → Prop) (k : Ci (m_X12_look (d + 0) 0 0) [.ref 1] h (fun r3 h1 => Wf h1 ∧ ((¬ r3 = 91 → Ci (m_X12_isLetter (d + 0) 0 0) [.int r3, .int (h_i h1 1 37)] h1 (fun r7 h5 => Wf h5 ∧ ((r7 = 0 → Ci (m_X12_number (d + 1) 0 0) [.ref 1] h5 (fun r11 h9 => Wf h9 ∧ (Cv (m_X12_say (d + 0) 0 0) [.ref 1, .int 0] h9 (fun h12 => Wf h12 ∧ (Cv (m_X12_say (d + 0) 0 0) [.ref 1, .int r11] h12 (fun h15 => Wf h15 ∧ (K h15))))))) ∧ (¬ r7 = 0 → Cv (m_X12_say (d + 0) 0 0) [.ref 1, .int 1] (h_im h5 1 33 ((h_i h5 1 33) + 1)) (fun h18 => Wf h18 ∧ (Cv (m_X12_say (d + 0) 0 0) [.ref 1, .int r3] h18 (fun h21 => Wf h21 ∧ (K h21)))))))) ∧ (r3 = 91 → Ci (m_X12_opens (d + 1) 0 0) [.ref 1] h1 (fun r26 h24 => Wf h24 ∧ ((r26 = 0 → K h24) ∧ (¬ r26 = 0 → Cv (m_X12_sum (d + 53) 0 0) [.ref 1] h24 (fun h28 => Wf h28 ∧ (Cv (m_X12_closes (d + 1) 0 0) [.ref 1, .int 93] h28 (fun h31 => Wf h31 ∧ (K h31))))))))))) : Cv (m_X12_atom (d + 61) 0 0) [.ref 1] h K := by
  refine Ct.of (fun _ _ _ => trivial) pn_X12 (Nat.le_of_ble_eq_true rfl) ?_
  show AW (m_X12_atom (d + 61) 0 0) 0 0 0 [(0, .ref 1)] [] h (kV K)
  refine aw_aload_n (i := 0) rfl d_X12_atom_0 0 rfl ?_
  refine aw_Vi 1 [] [] d_X12_atom_1 (cV_X12_look (d + 0) 0 0) kc_12 (ws_1 w) tw_2206 rfl (rr0 (Nat.le_of_ble_eq_true rfl) (Nat.le_of_ble_eq_true rfl)) (Nat.le_of_ble_eq_true rfl) xs0 k (fun r3 h1 kk => ?_)
  obtain ⟨w2, k⟩ := kk
  refine aw_istore_n (i := 1) rfl [(0, .ref 1), (1, .int r3)] d_X12_atom_4 (Nat.le_of_ble_eq_true rfl) rfl rfl ?_
  refine aw_iload_n (i := 1) rfl d_X12_atom_5 1 rfl ?_
  refine aw_bipush (v := 91) d_X12_atom_6 ib_91 ?_
  refine aw_icmp_ne (tgt := 31) d_X12_atom_8 rfl (fun c4 => ?_) (fun c4 => ?_)
  · have k := k.1 c4
    refine aw_iload_n (i := 1) rfl d_X12_atom_31 1 rfl ?_
    refine aw_aload_n (i := 0) rfl d_X12_atom_32 0 rfl ?_
    refine aw_geti (k0 := 37) kc_12 (ws_1 w2) (Nat.le_of_ble_eq_true rfl) tw_1779 d_X12_atom_33 rfl ?_
    refine aw_Si [.int r3, .int (h_i h1 1 37)] [] d_X12_atom_36 (cS_X12_isLetter (d + 0) 0 0) tw_2268 rfl (rr0 (Nat.le_of_ble_eq_true rfl) (Nat.le_of_ble_eq_true rfl)) (Nat.le_of_ble_eq_true rfl) xs0 k (fun r7 h5 kk => ?_)
    obtain ⟨w6, k⟩ := kk
    refine aw_if_eq (tgt := 65) d_X12_atom_39 rfl (fun c8 => ?_) (fun c8 => ?_)
    · have k := k.1 c8
      refine aw_aload_n (i := 0) rfl d_X12_atom_65 0 rfl ?_
      refine aw_Vi 1 [] [] d_X12_atom_66 (cV_X12_number (d + 1) 0 0) kc_12 (ws_1 w6) tw_2218 rfl (rr0 (Nat.le_of_ble_eq_true rfl) (Nat.le_of_ble_eq_true rfl)) (Nat.le_of_ble_eq_true rfl) xs0 k (fun r11 h9 kk => ?_)
      obtain ⟨w10, k⟩ := kk
      refine aw_istore_n (i := 2) rfl [(0, .ref 1), (1, .int r3), (2, .int r11)] d_X12_atom_69 (Nat.le_of_ble_eq_true rfl) rfl rfl ?_
      refine aw_aload_n (i := 0) rfl d_X12_atom_70 0 rfl ?_
      refine aw_iconst (v := 0) d_X12_atom_71 ic_0 ?_
      refine aw_Vv 1 [.int 0] [] d_X12_atom_72 (cV_X12_say (d + 0) 0 0) kc_12 (ws_1 w10) tw_2210 rfl (rr0 (Nat.le_of_ble_eq_true rfl) (Nat.le_of_ble_eq_true rfl)) (Nat.le_of_ble_eq_true rfl) xs0 k (fun h12 kk => ?_)
      obtain ⟨w13, k⟩ := kk
      refine aw_aload_n (i := 0) rfl d_X12_atom_75 0 rfl ?_
      refine aw_iload_n (i := 2) rfl d_X12_atom_76 2 rfl ?_
      refine aw_Vv 1 [.int r11] [] d_X12_atom_77 (cV_X12_say (d + 0) 0 0) kc_12 (ws_1 w13) tw_2210 rfl (rr0 (Nat.le_of_ble_eq_true rfl) (Nat.le_of_ble_eq_true rfl)) (Nat.le_of_ble_eq_true rfl) xs0 k (fun h15 kk => ?_)
      obtain ⟨w16, k⟩ := kk
      exact aw_vret rfl d_X12_atom_80 ⟨Nat.le_refl _, Nat.le_refl _⟩ ⟨rfl, k⟩
    · have k := k.2 c8
      refine aw_aload_n (i := 0) rfl d_X12_atom_42 0 rfl ?_
      refine aw_dup d_X12_atom_43 rfl ?_
      refine aw_geti (k0 := 33) kc_12 (ws_1 w6) (Nat.le_of_ble_eq_true rfl) tw_1775 d_X12_atom_44 rfl ?_
      refine aw_iconst (v := 1) d_X12_atom_47 ic_1 ?_
      refine aw_iadd d_X12_atom_48 ?_
      refine aw_puti (k0 := 33) kc_12 (ws_1 w6) (Nat.le_of_ble_eq_true rfl) tw_1775 d_X12_atom_49 rfl rfl nf_i ?_
      refine aw_aload_n (i := 0) rfl d_X12_atom_52 0 rfl ?_
      refine aw_iconst (v := 1) d_X12_atom_53 ic_1 ?_
      refine aw_Vv 1 [.int 1] [] d_X12_atom_54 (cV_X12_say (d + 0) 0 0) kc_12 (ws_1 w6) tw_2210 rfl (rr0 (Nat.le_of_ble_eq_true rfl) (Nat.le_of_ble_eq_true rfl)) (Nat.le_of_ble_eq_true rfl) xs0 k (fun h18 kk => ?_)
      obtain ⟨w19, k⟩ := kk
      refine aw_aload_n (i := 0) rfl d_X12_atom_57 0 rfl ?_
      refine aw_iload_n (i := 1) rfl d_X12_atom_58 1 rfl ?_
      refine aw_Vv 1 [.int r3] [] d_X12_atom_59 (cV_X12_say (d + 0) 0 0) kc_12 (ws_1 w19) tw_2210 rfl (rr0 (Nat.le_of_ble_eq_true rfl) (Nat.le_of_ble_eq_true rfl)) (Nat.le_of_ble_eq_true rfl) xs0 k (fun h21 kk => ?_)
      obtain ⟨w22, k⟩ := kk
      refine aw_goto (tgt := 80) d_X12_atom_62 rfl ?_
      exact aw_vret rfl d_X12_atom_80 ⟨Nat.le_refl _, Nat.le_refl _⟩ ⟨rfl, k⟩
  · have k := k.2 c4
    refine aw_aload_n (i := 0) rfl d_X12_atom_11 0 rfl ?_
    refine aw_Vi 1 [] [] d_X12_atom_12 (cV_X12_opens (d + 1) 0 0) kc_12 (ws_1 w2) tw_2260 rfl (rr0 (Nat.le_of_ble_eq_true rfl) (Nat.le_of_ble_eq_true rfl)) (Nat.le_of_ble_eq_true rfl) xs0 k (fun r26 h24 kk => ?_)
    obtain ⟨w25, k⟩ := kk
    refine aw_if_eq (tgt := 80) d_X12_atom_15 rfl (fun c27 => ?_) (fun c27 => ?_)
    · have k := k.1 c27
      exact aw_vret rfl d_X12_atom_80 ⟨Nat.le_refl _, Nat.le_refl _⟩ ⟨rfl, k⟩
    · have k := k.2 c27
      refine aw_aload_n (i := 0) rfl d_X12_atom_18 0 rfl ?_
      refine aw_Vv 1 [] [] d_X12_atom_19 (cV_X12_sum (d + 53) 0 0) kc_12 (ws_1 w25) tw_2248 rfl (rr0 (Nat.le_of_ble_eq_true rfl) (Nat.le_of_ble_eq_true rfl)) (Nat.le_of_ble_eq_true rfl) xs0 k (fun h28 kk => ?_)
      obtain ⟨w29, k⟩ := kk
      refine aw_aload_n (i := 0) rfl d_X12_atom_22 0 rfl ?_
      refine aw_bipush (v := 93) d_X12_atom_23 ib_93 ?_
      refine aw_Vv 1 [.int 93] [] d_X12_atom_25 (cV_X12_closes (d + 1) 0 0) kc_12 (ws_1 w29) tw_2264 rfl (rr0 (Nat.le_of_ble_eq_true rfl) (Nat.le_of_ble_eq_true rfl)) (Nat.le_of_ble_eq_true rfl) xs0 k (fun h31 kk => ?_)
      obtain ⟨w32, k⟩ := kk
      refine aw_goto (tgt := 80) d_X12_atom_28 rfl ?_
      exact aw_vret rfl d_X12_atom_80 ⟨Nat.le_refl _, Nat.le_refl _⟩ ⟨rfl, k⟩
theorem t_X12_term (d : Nat) (h : Hp_) (w : Wf h)  (K : Hp_ → Prop) (k : Cv (m_X12_atom (d + 51) 0 0) [.ref 1] h (fun h1 => Wf h1 ∧ (AW (m_X12_term (d + 52) 0 0) 0 0 4 [(0, .ref 1)] [] h1 (kV K)))) : Cv (m_X12_term (d + 52) 0 0) [.ref 1] h K := by
  refine Ct.of (fun _ _ _ => trivial) pn_X12 (Nat.le_of_ble_eq_true rfl) ?_
  show AW (m_X12_term (d + 52) 0 0) 0 0 0 [(0, .ref 1)] [] h (kV K)
  refine aw_aload_n (i := 0) rfl d_X12_term_0 0 rfl ?_
  refine aw_Vv 1 [] [] d_X12_term_1 (cV_X12_atom (d + 51) 0 0) kc_12 (ws_1 w) tw_2256 rfl (rr0 (Nat.le_of_ble_eq_true rfl) (Nat.le_of_ble_eq_true rfl)) (Nat.le_of_ble_eq_true rfl) xs0 k (fun h1 kk => ?_)
  obtain ⟨w2, k⟩ := kk
  exact k
theorem t_X12_term_4 (d : Nat) (h : Hp_) (w : Wf h)  (K : Hp_ → Prop) (k : (¬ (h_i h 1 34) = (-1) → K h) ∧ ((h_i h 1 34) = (-1) → Ci (m_X12_look (d + 0) 0 0) [.ref 1] h (fun r7 h5 => Wf h5 ∧ ((¬ r7 = 42 → K h5) ∧ (r7 = 42 → Cv (m_X12_atom (d + 51) 0 0) [.ref 1] (h_im h5 1 33 ((h_i h5 1 33) + 1)) (fun h9 => Wf h9 ∧ (Cv (m_X12_say (d + 0) 0 0) [.ref 1, .int 42] h9 (fun h12 => Wf h12 ∧ (AW (m_X12_term (d + 52) 0 0) 0 0 4 [(0, .ref 1)] [] h12 (kV K)))))))))) : AW (m_X12_term (d + 52) 0 0) 0 0 4 [(0, .ref 1)] [] h (kV K) := by
  refine aw_aload_n (i := 0) rfl d_X12_term_4 0 rfl ?_
  refine aw_geti (k0 := 34) kc_12 (ws_1 w) (Nat.le_of_ble_eq_true rfl) tw_1776 d_X12_term_5 rfl ?_
  refine aw_iconst (v := (-1)) d_X12_term_8 ic_m1 ?_
  refine aw_icmp_ne (tgt := 44) d_X12_term_9 rfl (fun c4 => ?_) (fun c4 => ?_)
  · have k := k.1 c4
    exact aw_vret rfl d_X12_term_44 ⟨Nat.le_refl _, Nat.le_refl _⟩ ⟨rfl, k⟩
  · have k := k.2 c4
    refine aw_aload_n (i := 0) rfl d_X12_term_12 0 rfl ?_
    refine aw_Vi 1 [] [] d_X12_term_13 (cV_X12_look (d + 0) 0 0) kc_12 (ws_1 w) tw_2206 rfl (rr0 (Nat.le_of_ble_eq_true rfl) (Nat.le_of_ble_eq_true rfl)) (Nat.le_of_ble_eq_true rfl) xs0 k (fun r7 h5 kk => ?_)
    obtain ⟨w6, k⟩ := kk
    refine aw_bipush (v := 42) d_X12_term_16 ib_42 ?_
    refine aw_icmp_ne (tgt := 44) d_X12_term_18 rfl (fun c8 => ?_) (fun c8 => ?_)
    · have k := k.1 c8
      exact aw_vret rfl d_X12_term_44 ⟨Nat.le_refl _, Nat.le_refl _⟩ ⟨rfl, k⟩
    · have k := k.2 c8
      refine aw_aload_n (i := 0) rfl d_X12_term_21 0 rfl ?_
      refine aw_dup d_X12_term_22 rfl ?_
      refine aw_geti (k0 := 33) kc_12 (ws_1 w6) (Nat.le_of_ble_eq_true rfl) tw_1775 d_X12_term_23 rfl ?_
      refine aw_iconst (v := 1) d_X12_term_26 ic_1 ?_
      refine aw_iadd d_X12_term_27 ?_
      refine aw_puti (k0 := 33) kc_12 (ws_1 w6) (Nat.le_of_ble_eq_true rfl) tw_1775 d_X12_term_28 rfl rfl nf_i ?_
      refine aw_aload_n (i := 0) rfl d_X12_term_31 0 rfl ?_
      refine aw_Vv 1 [] [] d_X12_term_32 (cV_X12_atom (d + 51) 0 0) kc_12 (ws_1 w6) tw_2256 rfl (rr0 (Nat.le_of_ble_eq_true rfl) (Nat.le_of_ble_eq_true rfl)) (Nat.le_of_ble_eq_true rfl) xs0 k (fun h9 kk => ?_)
      obtain ⟨w10, k⟩ := kk
      refine aw_aload_n (i := 0) rfl d_X12_term_35 0 rfl ?_
      refine aw_bipush (v := 42) d_X12_term_36 ib_42 ?_
      refine aw_Vv 1 [.int 42] [] d_X12_term_38 (cV_X12_say (d + 0) 0 0) kc_12 (ws_1 w10) tw_2210 rfl (rr0 (Nat.le_of_ble_eq_true rfl) (Nat.le_of_ble_eq_true rfl)) (Nat.le_of_ble_eq_true rfl) xs0 k (fun h12 kk => ?_)
      obtain ⟨w13, k⟩ := kk
      refine aw_goto (tgt := 4) d_X12_term_41 rfl ?_
      exact k
theorem t_X12_sum (d : Nat) (h : Hp_) (w : Wf h)  (K : Hp_ → Prop) (k : Cv (m_X12_term (d + 52) 0 0) [.ref 1] h (fun h1 => Wf h1 ∧ (Ci (m_X12_look (d + 0) 0 0) [.ref 1] h1 (fun r6 h4 => Wf h4 ∧ (AW (m_X12_sum (d + 53) 0 0) 0 0 9 [(0, .ref 1), (1, .int r6)] [] h4 (kV K)))))) : Cv (m_X12_sum (d + 53) 0 0) [.ref 1] h K := by
  refine Ct.of (fun _ _ _ => trivial) pn_X12 (Nat.le_of_ble_eq_true rfl) ?_
  show AW (m_X12_sum (d + 53) 0 0) 0 0 0 [(0, .ref 1)] [] h (kV K)
  refine aw_aload_n (i := 0) rfl d_X12_sum_0 0 rfl ?_
  refine aw_Vv 1 [] [] d_X12_sum_1 (cV_X12_term (d + 52) 0 0) kc_12 (ws_1 w) tw_2252 rfl (rr0 (Nat.le_of_ble_eq_true rfl) (Nat.le_of_ble_eq_true rfl)) (Nat.le_of_ble_eq_true rfl) xs0 k (fun h1 kk => ?_)
  obtain ⟨w2, k⟩ := kk
  refine aw_aload_n (i := 0) rfl d_X12_sum_4 0 rfl ?_
  refine aw_Vi 1 [] [] d_X12_sum_5 (cV_X12_look (d + 0) 0 0) kc_12 (ws_1 w2) tw_2206 rfl (rr0 (Nat.le_of_ble_eq_true rfl) (Nat.le_of_ble_eq_true rfl)) (Nat.le_of_ble_eq_true rfl) xs0 k (fun r6 h4 kk => ?_)
  obtain ⟨w5, k⟩ := kk
  refine aw_istore_n (i := 1) rfl [(0, .ref 1), (1, .int r6)] d_X12_sum_8 (Nat.le_of_ble_eq_true rfl) rfl rfl ?_
  exact k
theorem t_X12_sum_9 (d : Nat) (h : Hp_) (w : Wf h) (x1 : Int32) (K : Hp_ → Prop) (k : (¬ (h_i h 1 34) = (-1) → K h) ∧ ((h_i h 1 34) = (-1) → (x1 = 43 → Cv (m_X12_term (d + 52) 0 0) [.ref 1] (h_im h 1 33 ((h_i h 1 33) + 1)) (fun h9 => Wf h9 ∧ (Cv (m_X12_say (d + 0) 0 0) [.ref 1, .int x1] h9 (fun h12 => Wf h12 ∧ (Ci (m_X12_look (d + 0) 0 0) [.ref 1] h12 (fun r17 h15 => Wf h15 ∧ (AW (m_X12_sum (d + 53) 0 0) 0 0 9 [(0, .ref 1), (1, .int r17)] [] h15 (kV K)))))))) ∧ (¬ x1 = 43 → (¬ x1 = 45 → K h) ∧ (x1 = 45 → Cv (m_X12_term (d + 52) 0 0) [.ref 1] (h_im h 1 33 ((h_i h 1 33) + 1)) (fun h19 => Wf h19 ∧ (Cv (m_X12_say (d + 0) 0 0) [.ref 1, .int x1] h19 (fun h22 => Wf h22 ∧ (Ci (m_X12_look (d + 0) 0 0) [.ref 1] h22 (fun r27 h25 => Wf h25 ∧ (AW (m_X12_sum (d + 53) 0 0) 0 0 9 [(0, .ref 1), (1, .int r27)] [] h25 (kV K))))))))))) : AW (m_X12_sum (d + 53) 0 0) 0 0 9 [(0, .ref 1), (1, .int x1)] [] h (kV K) := by
  refine aw_aload_n (i := 0) rfl d_X12_sum_9 0 rfl ?_
  refine aw_geti (k0 := 34) kc_12 (ws_1 w) (Nat.le_of_ble_eq_true rfl) tw_1776 d_X12_sum_10 rfl ?_
  refine aw_iconst (v := (-1)) d_X12_sum_13 ic_m1 ?_
  refine aw_icmp_ne (tgt := 56) d_X12_sum_14 rfl (fun c7 => ?_) (fun c7 => ?_)
  · have k := k.1 c7
    exact aw_vret rfl d_X12_sum_56 ⟨Nat.le_refl _, Nat.le_refl _⟩ ⟨rfl, k⟩
  · have k := k.2 c7
    refine aw_iload_n (i := 1) rfl d_X12_sum_17 1 rfl ?_
    refine aw_bipush (v := 43) d_X12_sum_18 ib_43 ?_
    refine aw_icmp_eq (tgt := 29) d_X12_sum_20 rfl (fun c8 => ?_) (fun c8 => ?_)
    · have k := k.1 c8
      refine aw_aload_n (i := 0) rfl d_X12_sum_29 0 rfl ?_
      refine aw_dup d_X12_sum_30 rfl ?_
      refine aw_geti (k0 := 33) kc_12 (ws_1 w) (Nat.le_of_ble_eq_true rfl) tw_1775 d_X12_sum_31 rfl ?_
      refine aw_iconst (v := 1) d_X12_sum_34 ic_1 ?_
      refine aw_iadd d_X12_sum_35 ?_
      refine aw_puti (k0 := 33) kc_12 (ws_1 w) (Nat.le_of_ble_eq_true rfl) tw_1775 d_X12_sum_36 rfl rfl nf_i ?_
      refine aw_aload_n (i := 0) rfl d_X12_sum_39 0 rfl ?_
      refine aw_Vv 1 [] [] d_X12_sum_40 (cV_X12_term (d + 52) 0 0) kc_12 (ws_1 w) tw_2252 rfl (rr0 (Nat.le_of_ble_eq_true rfl) (Nat.le_of_ble_eq_true rfl)) (Nat.le_of_ble_eq_true rfl) xs0 k (fun h9 kk => ?_)
      obtain ⟨w10, k⟩ := kk
      refine aw_aload_n (i := 0) rfl d_X12_sum_43 0 rfl ?_
      refine aw_iload_n (i := 1) rfl d_X12_sum_44 1 rfl ?_
      refine aw_Vv 1 [.int x1] [] d_X12_sum_45 (cV_X12_say (d + 0) 0 0) kc_12 (ws_1 w10) tw_2210 rfl (rr0 (Nat.le_of_ble_eq_true rfl) (Nat.le_of_ble_eq_true rfl)) (Nat.le_of_ble_eq_true rfl) xs0 k (fun h12 kk => ?_)
      obtain ⟨w13, k⟩ := kk
      refine aw_aload_n (i := 0) rfl d_X12_sum_48 0 rfl ?_
      refine aw_Vi 1 [] [] d_X12_sum_49 (cV_X12_look (d + 0) 0 0) kc_12 (ws_1 w13) tw_2206 rfl (rr0 (Nat.le_of_ble_eq_true rfl) (Nat.le_of_ble_eq_true rfl)) (Nat.le_of_ble_eq_true rfl) xs0 k (fun r17 h15 kk => ?_)
      obtain ⟨w16, k⟩ := kk
      refine aw_istore_n (i := 1) rfl [(0, .ref 1), (1, .int r17)] d_X12_sum_52 (Nat.le_of_ble_eq_true rfl) rfl rfl ?_
      refine aw_goto (tgt := 9) d_X12_sum_53 rfl ?_
      exact k
    · have k := k.2 c8
      refine aw_iload_n (i := 1) rfl d_X12_sum_23 1 rfl ?_
      refine aw_bipush (v := 45) d_X12_sum_24 ib_45 ?_
      refine aw_icmp_ne (tgt := 56) d_X12_sum_26 rfl (fun c18 => ?_) (fun c18 => ?_)
      · have k := k.1 c18
        exact aw_vret rfl d_X12_sum_56 ⟨Nat.le_refl _, Nat.le_refl _⟩ ⟨rfl, k⟩
      · have k := k.2 c18
        refine aw_aload_n (i := 0) rfl d_X12_sum_29 0 rfl ?_
        refine aw_dup d_X12_sum_30 rfl ?_
        refine aw_geti (k0 := 33) kc_12 (ws_1 w) (Nat.le_of_ble_eq_true rfl) tw_1775 d_X12_sum_31 rfl ?_
        refine aw_iconst (v := 1) d_X12_sum_34 ic_1 ?_
        refine aw_iadd d_X12_sum_35 ?_
        refine aw_puti (k0 := 33) kc_12 (ws_1 w) (Nat.le_of_ble_eq_true rfl) tw_1775 d_X12_sum_36 rfl rfl nf_i ?_
        refine aw_aload_n (i := 0) rfl d_X12_sum_39 0 rfl ?_
        refine aw_Vv 1 [] [] d_X12_sum_40 (cV_X12_term (d + 52) 0 0) kc_12 (ws_1 w) tw_2252 rfl (rr0 (Nat.le_of_ble_eq_true rfl) (Nat.le_of_ble_eq_true rfl)) (Nat.le_of_ble_eq_true rfl) xs0 k (fun h19 kk => ?_)
        obtain ⟨w20, k⟩ := kk
        refine aw_aload_n (i := 0) rfl d_X12_sum_43 0 rfl ?_
        refine aw_iload_n (i := 1) rfl d_X12_sum_44 1 rfl ?_
        refine aw_Vv 1 [.int x1] [] d_X12_sum_45 (cV_X12_say (d + 0) 0 0) kc_12 (ws_1 w20) tw_2210 rfl (rr0 (Nat.le_of_ble_eq_true rfl) (Nat.le_of_ble_eq_true rfl)) (Nat.le_of_ble_eq_true rfl) xs0 k (fun h22 kk => ?_)
        obtain ⟨w23, k⟩ := kk
        refine aw_aload_n (i := 0) rfl d_X12_sum_48 0 rfl ?_
        refine aw_Vi 1 [] [] d_X12_sum_49 (cV_X12_look (d + 0) 0 0) kc_12 (ws_1 w23) tw_2206 rfl (rr0 (Nat.le_of_ble_eq_true rfl) (Nat.le_of_ble_eq_true rfl)) (Nat.le_of_ble_eq_true rfl) xs0 k (fun r27 h25 kk => ?_)
        obtain ⟨w26, k⟩ := kk
        refine aw_istore_n (i := 1) rfl [(0, .ref 1), (1, .int r27)] d_X12_sum_52 (Nat.le_of_ble_eq_true rfl) rfl rfl ?_
        refine aw_goto (tgt := 9) d_X12_sum_53 rfl ?_
        exact k
theorem t_X12_compare (d : Nat) (h : Hp_) (w : Wf h)  (K : Hp_ → Prop) (k : (¬ (h_i h 1 34) = (-1) → Ci (m_X12_isSign (d + 0) 0 0) [.int (-1)] h (fun r4 h2 => Wf h2 ∧ ((¬ r4 = 0 → Cv (m_X12_sum (d + 53) 0 0) [.ref 1] (h_im h2 1 33 ((h_i h2 1 33) + 1)) (fun h6 => Wf h6 ∧ (Cv (m_X12_say (d + 0) 0 0) [.ref 1, .int (-1)] h6 (fun h9 => Wf h9 ∧ (K h9))))) ∧ (r4 = 0 → Cv (m_X12_bad (d + 0) 0 0) [.ref 1] h2 (fun h12 => Wf h12 ∧ (K h12)))))) ∧ ((h_i h 1 34) = (-1) → Ci (m_X12_look (d + 0) 0 0) [.ref 1] h (fun r17 h15 => Wf h15 ∧ (Ci (m_X12_isSign (d + 0) 0 0) [.int r17] h15 (fun r20 h18 => Wf h18 ∧ ((¬ r20 = 0 → Cv (m_X12_sum (d + 53) 0 0) [.ref 1] (h_im h18 1 33 ((h_i h18 1 33) + 1)) (fun h22 => Wf h22 ∧ (Cv (m_X12_say (d + 0) 0 0) [.ref 1, .int r17] h22 (fun h25 => Wf h25 ∧ (K h25))))) ∧ (r20 = 0 → Cv (m_X12_bad (d + 0) 0 0) [.ref 1] h18 (fun h28 => Wf h28 ∧ (K h28))))))))) : Cv (m_X12_compare (d + 54) 0 0) [.ref 1] h K := by
  refine Ct.of (fun _ _ _ => trivial) pn_X12 (Nat.le_of_ble_eq_true rfl) ?_
  show AW (m_X12_compare (d + 54) 0 0) 0 0 0 [(0, .ref 1)] [] h (kV K)
  refine aw_aload_n (i := 0) rfl d_X12_compare_0 0 rfl ?_
  refine aw_geti (k0 := 34) kc_12 (ws_1 w) (Nat.le_of_ble_eq_true rfl) tw_1776 d_X12_compare_1 rfl ?_
  refine aw_iconst (v := (-1)) d_X12_compare_4 ic_m1 ?_
  refine aw_icmp_ne (tgt := 15) d_X12_compare_5 rfl (fun c1 => ?_) (fun c1 => ?_)
  · have k := k.1 c1
    refine aw_iconst (v := (-1)) d_X12_compare_15 ic_m1 ?_
    refine aw_istore_n (i := 1) rfl [(0, .ref 1), (1, .int (-1))] d_X12_compare_16 (Nat.le_of_ble_eq_true rfl) rfl rfl ?_
    refine aw_iload_n (i := 1) rfl d_X12_compare_17 1 rfl ?_
    refine aw_Si [.int (-1)] [] d_X12_compare_18 (cS_X12_isSign (d + 0) 0 0) tw_2245 rfl (rr0 (Nat.le_of_ble_eq_true rfl) (Nat.le_of_ble_eq_true rfl)) (Nat.le_of_ble_eq_true rfl) xs0 k (fun r4 h2 kk => ?_)
    obtain ⟨w3, k⟩ := kk
    refine aw_if_ne (tgt := 29) d_X12_compare_21 rfl (fun c5 => ?_) (fun c5 => ?_)
    · have k := k.1 c5
      refine aw_aload_n (i := 0) rfl d_X12_compare_29 0 rfl ?_
      refine aw_dup d_X12_compare_30 rfl ?_
      refine aw_geti (k0 := 33) kc_12 (ws_1 w3) (Nat.le_of_ble_eq_true rfl) tw_1775 d_X12_compare_31 rfl ?_
      refine aw_iconst (v := 1) d_X12_compare_34 ic_1 ?_
      refine aw_iadd d_X12_compare_35 ?_
      refine aw_puti (k0 := 33) kc_12 (ws_1 w3) (Nat.le_of_ble_eq_true rfl) tw_1775 d_X12_compare_36 rfl rfl nf_i ?_
      refine aw_aload_n (i := 0) rfl d_X12_compare_39 0 rfl ?_
      refine aw_Vv 1 [] [] d_X12_compare_40 (cV_X12_sum (d + 53) 0 0) kc_12 (ws_1 w3) tw_2248 rfl (rr0 (Nat.le_of_ble_eq_true rfl) (Nat.le_of_ble_eq_true rfl)) (Nat.le_of_ble_eq_true rfl) xs0 k (fun h6 kk => ?_)
      obtain ⟨w7, k⟩ := kk
      refine aw_aload_n (i := 0) rfl d_X12_compare_43 0 rfl ?_
      refine aw_iload_n (i := 1) rfl d_X12_compare_44 1 rfl ?_
      refine aw_Vv 1 [.int (-1)] [] d_X12_compare_45 (cV_X12_say (d + 0) 0 0) kc_12 (ws_1 w7) tw_2210 rfl (rr0 (Nat.le_of_ble_eq_true rfl) (Nat.le_of_ble_eq_true rfl)) (Nat.le_of_ble_eq_true rfl) xs0 k (fun h9 kk => ?_)
      obtain ⟨w10, k⟩ := kk
      exact aw_vret rfl d_X12_compare_48 ⟨Nat.le_refl _, Nat.le_refl _⟩ ⟨rfl, k⟩
    · have k := k.2 c5
      refine aw_aload_n (i := 0) rfl d_X12_compare_24 0 rfl ?_
      refine aw_Vv 1 [] [] d_X12_compare_25 (cV_X12_bad (d + 0) 0 0) kc_12 (ws_1 w3) tw_2225 rfl (rr0 (Nat.le_of_ble_eq_true rfl) (Nat.le_of_ble_eq_true rfl)) (Nat.le_of_ble_eq_true rfl) xs0 k (fun h12 kk => ?_)
      obtain ⟨w13, k⟩ := kk
      exact aw_vret rfl d_X12_compare_28 ⟨Nat.le_refl _, Nat.le_refl _⟩ ⟨rfl, k⟩
  · have k := k.2 c1
    refine aw_aload_n (i := 0) rfl d_X12_compare_8 0 rfl ?_
    refine aw_Vi 1 [] [] d_X12_compare_9 (cV_X12_look (d + 0) 0 0) kc_12 (ws_1 w) tw_2206 rfl (rr0 (Nat.le_of_ble_eq_true rfl) (Nat.le_of_ble_eq_true rfl)) (Nat.le_of_ble_eq_true rfl) xs0 k (fun r17 h15 kk => ?_)
    obtain ⟨w16, k⟩ := kk
    refine aw_goto (tgt := 16) d_X12_compare_12 rfl ?_
    refine aw_istore_n (i := 1) rfl [(0, .ref 1), (1, .int r17)] d_X12_compare_16 (Nat.le_of_ble_eq_true rfl) rfl rfl ?_
    refine aw_iload_n (i := 1) rfl d_X12_compare_17 1 rfl ?_
    refine aw_Si [.int r17] [] d_X12_compare_18 (cS_X12_isSign (d + 0) 0 0) tw_2245 rfl (rr0 (Nat.le_of_ble_eq_true rfl) (Nat.le_of_ble_eq_true rfl)) (Nat.le_of_ble_eq_true rfl) xs0 k (fun r20 h18 kk => ?_)
    obtain ⟨w19, k⟩ := kk
    refine aw_if_ne (tgt := 29) d_X12_compare_21 rfl (fun c21 => ?_) (fun c21 => ?_)
    · have k := k.1 c21
      refine aw_aload_n (i := 0) rfl d_X12_compare_29 0 rfl ?_
      refine aw_dup d_X12_compare_30 rfl ?_
      refine aw_geti (k0 := 33) kc_12 (ws_1 w19) (Nat.le_of_ble_eq_true rfl) tw_1775 d_X12_compare_31 rfl ?_
      refine aw_iconst (v := 1) d_X12_compare_34 ic_1 ?_
      refine aw_iadd d_X12_compare_35 ?_
      refine aw_puti (k0 := 33) kc_12 (ws_1 w19) (Nat.le_of_ble_eq_true rfl) tw_1775 d_X12_compare_36 rfl rfl nf_i ?_
      refine aw_aload_n (i := 0) rfl d_X12_compare_39 0 rfl ?_
      refine aw_Vv 1 [] [] d_X12_compare_40 (cV_X12_sum (d + 53) 0 0) kc_12 (ws_1 w19) tw_2248 rfl (rr0 (Nat.le_of_ble_eq_true rfl) (Nat.le_of_ble_eq_true rfl)) (Nat.le_of_ble_eq_true rfl) xs0 k (fun h22 kk => ?_)
      obtain ⟨w23, k⟩ := kk
      refine aw_aload_n (i := 0) rfl d_X12_compare_43 0 rfl ?_
      refine aw_iload_n (i := 1) rfl d_X12_compare_44 1 rfl ?_
      refine aw_Vv 1 [.int r17] [] d_X12_compare_45 (cV_X12_say (d + 0) 0 0) kc_12 (ws_1 w23) tw_2210 rfl (rr0 (Nat.le_of_ble_eq_true rfl) (Nat.le_of_ble_eq_true rfl)) (Nat.le_of_ble_eq_true rfl) xs0 k (fun h25 kk => ?_)
      obtain ⟨w26, k⟩ := kk
      exact aw_vret rfl d_X12_compare_48 ⟨Nat.le_refl _, Nat.le_refl _⟩ ⟨rfl, k⟩
    · have k := k.2 c21
      refine aw_aload_n (i := 0) rfl d_X12_compare_24 0 rfl ?_
      refine aw_Vv 1 [] [] d_X12_compare_25 (cV_X12_bad (d + 0) 0 0) kc_12 (ws_1 w19) tw_2225 rfl (rr0 (Nat.le_of_ble_eq_true rfl) (Nat.le_of_ble_eq_true rfl)) (Nat.le_of_ble_eq_true rfl) xs0 k (fun h28 kk => ?_)
      obtain ⟨w29, k⟩ := kk
      exact aw_vret rfl d_X12_compare_28 ⟨Nat.le_refl _, Nat.le_refl _⟩ ⟨rfl, k⟩
theorem t_X12_unit (d : Nat) (h : Hp_) (w : Wf h)  (K : Hp_ → Prop) (k : Ci (m_X12_look (d + 0) 0 0) [.ref 1] h (fun r3 h1 => Wf h1 ∧ ((¬ r3 = 33 → (¬ r3 = 40 → Cv (m_X12_sum (d + 53) 0 0) [.ref 1] h1 (fun h6 => Wf h6 ∧ (Cv (m_X12_compare (d + 54) 0 0) [.ref 1] h6 (fun h9 => Wf h9 ∧ (K h9))))) ∧ (r3 = 40 → Ci (m_X12_opens (d + 1) 0 0) [.ref 1] h1 (fun r14 h12 => Wf h12 ∧ ((r14 = 0 → K h12) ∧ (¬ r14 = 0 → Cv (m_X12_condition (d + 57) 0 0) [.ref 1, .int 0] h12 (fun h16 => Wf h16 ∧ (Cv (m_X12_closes (d + 1) 0 0) [.ref 1, .int 41] h16 (fun h19 => Wf h19 ∧ (K h19))))))))) ∧ (r3 = 33 → Ci (m_X12_opens (d + 1) 0 0) [.ref 1] h1 (fun r24 h22 => Wf h22 ∧ ((r24 = 0 → K h22) ∧ (¬ r24 = 0 → Cv (m_X12_unit (d + 55) 0 0) [.ref 1] h22 (fun h26 => Wf h26 ∧ (Cv (m_X12_say (d + 0) 0 0) [.ref 1, .int 33] (h_im h26 1 35 ((h_i h26 1 35) - 1)) (fun h29 => Wf h29 ∧ (K h29))))))))))) : Cv (m_X12_unit (d + 65) 0 0) [.ref 1] h K := by
  refine Ct.of (fun _ _ _ => trivial) pn_X12 (Nat.le_of_ble_eq_true rfl) ?_
  show AW (m_X12_unit (d + 65) 0 0) 0 0 0 [(0, .ref 1)] [] h (kV K)
  refine aw_aload_n (i := 0) rfl d_X12_unit_0 0 rfl ?_
  refine aw_Vi 1 [] [] d_X12_unit_1 (cV_X12_look (d + 0) 0 0) kc_12 (ws_1 w) tw_2206 rfl (rr0 (Nat.le_of_ble_eq_true rfl) (Nat.le_of_ble_eq_true rfl)) (Nat.le_of_ble_eq_true rfl) xs0 k (fun r3 h1 kk => ?_)
  obtain ⟨w2, k⟩ := kk
  refine aw_istore_n (i := 1) rfl [(0, .ref 1), (1, .int r3)] d_X12_unit_4 (Nat.le_of_ble_eq_true rfl) rfl rfl ?_
  refine aw_iload_n (i := 1) rfl d_X12_unit_5 1 rfl ?_
  refine aw_bipush (v := 33) d_X12_unit_6 ib_33 ?_
  refine aw_icmp_ne (tgt := 41) d_X12_unit_8 rfl (fun c4 => ?_) (fun c4 => ?_)
  · have k := k.1 c4
    refine aw_iload_n (i := 1) rfl d_X12_unit_41 1 rfl ?_
    refine aw_bipush (v := 40) d_X12_unit_42 ib_40 ?_
    refine aw_icmp_ne (tgt := 68) d_X12_unit_44 rfl (fun c5 => ?_) (fun c5 => ?_)
    · have k := k.1 c5
      refine aw_aload_n (i := 0) rfl d_X12_unit_68 0 rfl ?_
      refine aw_Vv 1 [] [] d_X12_unit_69 (cV_X12_sum (d + 53) 0 0) kc_12 (ws_1 w2) tw_2248 rfl (rr0 (Nat.le_of_ble_eq_true rfl) (Nat.le_of_ble_eq_true rfl)) (Nat.le_of_ble_eq_true rfl) xs0 k (fun h6 kk => ?_)
      obtain ⟨w7, k⟩ := kk
      refine aw_aload_n (i := 0) rfl d_X12_unit_72 0 rfl ?_
      refine aw_Vv 1 [] [] d_X12_unit_73 (cV_X12_compare (d + 54) 0 0) kc_12 (ws_1 w7) tw_2241 rfl (rr0 (Nat.le_of_ble_eq_true rfl) (Nat.le_of_ble_eq_true rfl)) (Nat.le_of_ble_eq_true rfl) xs0 k (fun h9 kk => ?_)
      obtain ⟨w10, k⟩ := kk
      exact aw_vret rfl d_X12_unit_76 ⟨Nat.le_refl _, Nat.le_refl _⟩ ⟨rfl, k⟩
    · have k := k.2 c5
      refine aw_aload_n (i := 0) rfl d_X12_unit_47 0 rfl ?_
      refine aw_Vi 1 [] [] d_X12_unit_48 (cV_X12_opens (d + 1) 0 0) kc_12 (ws_1 w2) tw_2260 rfl (rr0 (Nat.le_of_ble_eq_true rfl) (Nat.le_of_ble_eq_true rfl)) (Nat.le_of_ble_eq_true rfl) xs0 k (fun r14 h12 kk => ?_)
      obtain ⟨w13, k⟩ := kk
      refine aw_if_eq (tgt := 76) d_X12_unit_51 rfl (fun c15 => ?_) (fun c15 => ?_)
      · have k := k.1 c15
        exact aw_vret rfl d_X12_unit_76 ⟨Nat.le_refl _, Nat.le_refl _⟩ ⟨rfl, k⟩
      · have k := k.2 c15
        refine aw_aload_n (i := 0) rfl d_X12_unit_54 0 rfl ?_
        refine aw_iconst (v := 0) d_X12_unit_55 ic_0 ?_
        refine aw_Vv 1 [.int 0] [] d_X12_unit_56 (cV_X12_condition (d + 57) 0 0) kc_12 (ws_1 w13) tw_2233 rfl (rr0 (Nat.le_of_ble_eq_true rfl) (Nat.le_of_ble_eq_true rfl)) (Nat.le_of_ble_eq_true rfl) xs0 k (fun h16 kk => ?_)
        obtain ⟨w17, k⟩ := kk
        refine aw_aload_n (i := 0) rfl d_X12_unit_59 0 rfl ?_
        refine aw_bipush (v := 41) d_X12_unit_60 ib_41 ?_
        refine aw_Vv 1 [.int 41] [] d_X12_unit_62 (cV_X12_closes (d + 1) 0 0) kc_12 (ws_1 w17) tw_2264 rfl (rr0 (Nat.le_of_ble_eq_true rfl) (Nat.le_of_ble_eq_true rfl)) (Nat.le_of_ble_eq_true rfl) xs0 k (fun h19 kk => ?_)
        obtain ⟨w20, k⟩ := kk
        refine aw_goto (tgt := 76) d_X12_unit_65 rfl ?_
        exact aw_vret rfl d_X12_unit_76 ⟨Nat.le_refl _, Nat.le_refl _⟩ ⟨rfl, k⟩
  · have k := k.2 c4
    refine aw_aload_n (i := 0) rfl d_X12_unit_11 0 rfl ?_
    refine aw_Vi 1 [] [] d_X12_unit_12 (cV_X12_opens (d + 1) 0 0) kc_12 (ws_1 w2) tw_2260 rfl (rr0 (Nat.le_of_ble_eq_true rfl) (Nat.le_of_ble_eq_true rfl)) (Nat.le_of_ble_eq_true rfl) xs0 k (fun r24 h22 kk => ?_)
    obtain ⟨w23, k⟩ := kk
    refine aw_if_eq (tgt := 76) d_X12_unit_15 rfl (fun c25 => ?_) (fun c25 => ?_)
    · have k := k.1 c25
      exact aw_vret rfl d_X12_unit_76 ⟨Nat.le_refl _, Nat.le_refl _⟩ ⟨rfl, k⟩
    · have k := k.2 c25
      refine aw_aload_n (i := 0) rfl d_X12_unit_18 0 rfl ?_
      refine aw_Vv 1 [] [] d_X12_unit_19 (cV_X12_unit (d + 55) 0 0) kc_12 (ws_1 w23) tw_2271 rfl (rr0 (Nat.le_of_ble_eq_true rfl) (Nat.le_of_ble_eq_true rfl)) (Nat.le_of_ble_eq_true rfl) xs0 k (fun h26 kk => ?_)
      obtain ⟨w27, k⟩ := kk
      refine aw_aload_n (i := 0) rfl d_X12_unit_22 0 rfl ?_
      refine aw_dup d_X12_unit_23 rfl ?_
      refine aw_geti (k0 := 35) kc_12 (ws_1 w27) (Nat.le_of_ble_eq_true rfl) tw_1777 d_X12_unit_24 rfl ?_
      refine aw_iconst (v := 1) d_X12_unit_27 ic_1 ?_
      refine aw_isub d_X12_unit_28 ?_
      refine aw_puti (k0 := 35) kc_12 (ws_1 w27) (Nat.le_of_ble_eq_true rfl) tw_1777 d_X12_unit_29 rfl rfl nf_i ?_
      refine aw_aload_n (i := 0) rfl d_X12_unit_32 0 rfl ?_
      refine aw_bipush (v := 33) d_X12_unit_33 ib_33 ?_
      refine aw_Vv 1 [.int 33] [] d_X12_unit_35 (cV_X12_say (d + 0) 0 0) kc_12 (ws_1 w27) tw_2210 rfl (rr0 (Nat.le_of_ble_eq_true rfl) (Nat.le_of_ble_eq_true rfl)) (Nat.le_of_ble_eq_true rfl) xs0 k (fun h29 kk => ?_)
      obtain ⟨w30, k⟩ := kk
      refine aw_goto (tgt := 76) d_X12_unit_38 rfl ?_
      exact aw_vret rfl d_X12_unit_76 ⟨Nat.le_refl _, Nat.le_refl _⟩ ⟨rfl, k⟩
theorem t_X12_part (d : Nat) (h : Hp_) (w : Wf h) (x1 : Int32) (K : Hp_ → Prop) (k : (x1 = 0 → Cv (m_X12_unit (d + 55) 0 0) [.ref 1] h (fun h2 => Wf h2 ∧ (AW (m_X12_part (d + 56) 0 0) 0 0 15 [(0, .ref 1)] [] h2 (kV K)))) ∧ (¬ x1 = 0 → Cv (m_X12_compare (d + 54) 0 0) [.ref 1] h (fun h5 => Wf h5 ∧ (AW (m_X12_part (d + 56) 0 0) 0 0 15 [(0, .ref 1)] [] h5 (kV K))))) : Cv (m_X12_part (d + 56) 0 0) [.ref 1, .int x1] h K := by
  refine Ct.of (fun _ _ _ => trivial) pn_X12 (Nat.le_of_ble_eq_true rfl) ?_
  show AW (m_X12_part (d + 56) 0 0) 0 0 0 [(0, .ref 1), (1, .int x1)] [] h (kV K)
  refine aw_iload_n (i := 1) rfl d_X12_part_0 1 rfl ?_
  refine aw_if_eq (tgt := 11) d_X12_part_1 rfl (fun c1 => ?_) (fun c1 => ?_)
  · have k := k.1 c1
    refine aw_aload_n (i := 0) rfl d_X12_part_11 0 rfl ?_
    refine aw_Vv 1 [] [] d_X12_part_12 (cV_X12_unit (d + 55) 0 0) kc_12 (ws_1 w) tw_2271 rfl (rr0 (Nat.le_of_ble_eq_true rfl) (Nat.le_of_ble_eq_true rfl)) (Nat.le_of_ble_eq_true rfl) xs0 k (fun h2 kk => ?_)
    obtain ⟨w3, k⟩ := kk
    exact aw_lvp [0] [(0, .ref 1)] rfl k
  · have k := k.2 c1
    refine aw_aload_n (i := 0) rfl d_X12_part_4 0 rfl ?_
    refine aw_Vv 1 [] [] d_X12_part_5 (cV_X12_compare (d + 54) 0 0) kc_12 (ws_1 w) tw_2241 rfl (rr0 (Nat.le_of_ble_eq_true rfl) (Nat.le_of_ble_eq_true rfl)) (Nat.le_of_ble_eq_true rfl) xs0 k (fun h5 kk => ?_)
    obtain ⟨w6, k⟩ := kk
    refine aw_goto (tgt := 15) d_X12_part_8 rfl ?_
    exact aw_lvp [0] [(0, .ref 1)] rfl k
theorem t_X12_part_15 (d : Nat) (h : Hp_) (w : Wf h)  (K : Hp_ → Prop) (k : (¬ (h_i h 1 34) = (-1) → K h) ∧ ((h_i h 1 34) = (-1) → Ci (m_X12_look (d + 0) 0 0) [.ref 1] h (fun r11 h9 => Wf h9 ∧ ((¬ r11 = 38 → K h9) ∧ (r11 = 38 → Cv (m_X12_unit (d + 55) 0 0) [.ref 1] (h_im h9 1 33 ((h_i h9 1 33) + 1)) (fun h13 => Wf h13 ∧ (Cv (m_X12_say (d + 0) 0 0) [.ref 1, .int 38] h13 (fun h16 => Wf h16 ∧ (AW (m_X12_part (d + 56) 0 0) 0 0 15 [(0, .ref 1)] [] h16 (kV K)))))))))) : AW (m_X12_part (d + 56) 0 0) 0 0 15 [(0, .ref 1)] [] h (kV K) := by
  refine aw_aload_n (i := 0) rfl d_X12_part_15 0 rfl ?_
  refine aw_geti (k0 := 34) kc_12 (ws_1 w) (Nat.le_of_ble_eq_true rfl) tw_1776 d_X12_part_16 rfl ?_
  refine aw_iconst (v := (-1)) d_X12_part_19 ic_m1 ?_
  refine aw_icmp_ne (tgt := 55) d_X12_part_20 rfl (fun c8 => ?_) (fun c8 => ?_)
  · have k := k.1 c8
    exact aw_vret rfl d_X12_part_55 ⟨Nat.le_refl _, Nat.le_refl _⟩ ⟨rfl, k⟩
  · have k := k.2 c8
    refine aw_aload_n (i := 0) rfl d_X12_part_23 0 rfl ?_
    refine aw_Vi 1 [] [] d_X12_part_24 (cV_X12_look (d + 0) 0 0) kc_12 (ws_1 w) tw_2206 rfl (rr0 (Nat.le_of_ble_eq_true rfl) (Nat.le_of_ble_eq_true rfl)) (Nat.le_of_ble_eq_true rfl) xs0 k (fun r11 h9 kk => ?_)
    obtain ⟨w10, k⟩ := kk
    refine aw_bipush (v := 38) d_X12_part_27 ib_38 ?_
    refine aw_icmp_ne (tgt := 55) d_X12_part_29 rfl (fun c12 => ?_) (fun c12 => ?_)
    · have k := k.1 c12
      exact aw_vret rfl d_X12_part_55 ⟨Nat.le_refl _, Nat.le_refl _⟩ ⟨rfl, k⟩
    · have k := k.2 c12
      refine aw_aload_n (i := 0) rfl d_X12_part_32 0 rfl ?_
      refine aw_dup d_X12_part_33 rfl ?_
      refine aw_geti (k0 := 33) kc_12 (ws_1 w10) (Nat.le_of_ble_eq_true rfl) tw_1775 d_X12_part_34 rfl ?_
      refine aw_iconst (v := 1) d_X12_part_37 ic_1 ?_
      refine aw_iadd d_X12_part_38 ?_
      refine aw_puti (k0 := 33) kc_12 (ws_1 w10) (Nat.le_of_ble_eq_true rfl) tw_1775 d_X12_part_39 rfl rfl nf_i ?_
      refine aw_aload_n (i := 0) rfl d_X12_part_42 0 rfl ?_
      refine aw_Vv 1 [] [] d_X12_part_43 (cV_X12_unit (d + 55) 0 0) kc_12 (ws_1 w10) tw_2271 rfl (rr0 (Nat.le_of_ble_eq_true rfl) (Nat.le_of_ble_eq_true rfl)) (Nat.le_of_ble_eq_true rfl) xs0 k (fun h13 kk => ?_)
      obtain ⟨w14, k⟩ := kk
      refine aw_aload_n (i := 0) rfl d_X12_part_46 0 rfl ?_
      refine aw_bipush (v := 38) d_X12_part_47 ib_38 ?_
      refine aw_Vv 1 [.int 38] [] d_X12_part_49 (cV_X12_say (d + 0) 0 0) kc_12 (ws_1 w14) tw_2210 rfl (rr0 (Nat.le_of_ble_eq_true rfl) (Nat.le_of_ble_eq_true rfl)) (Nat.le_of_ble_eq_true rfl) xs0 k (fun h16 kk => ?_)
      obtain ⟨w17, k⟩ := kk
      refine aw_goto (tgt := 15) d_X12_part_52 rfl ?_
      exact k
theorem t_X12_condition (d : Nat) (h : Hp_) (w : Wf h) (x1 : Int32) (K : Hp_ → Prop) (k : Cv (m_X12_part (d + 56) 0 0) [.ref 1, .int x1] h (fun h1 => Wf h1 ∧ (AW (m_X12_condition (d + 57) 0 0) 0 0 5 [(0, .ref 1)] [] h1 (kV K)))) : Cv (m_X12_condition (d + 57) 0 0) [.ref 1, .int x1] h K := by
  refine Ct.of (fun _ _ _ => trivial) pn_X12 (Nat.le_of_ble_eq_true rfl) ?_
  show AW (m_X12_condition (d + 57) 0 0) 0 0 0 [(0, .ref 1), (1, .int x1)] [] h (kV K)
  refine aw_aload_n (i := 0) rfl d_X12_condition_0 0 rfl ?_
  refine aw_iload_n (i := 1) rfl d_X12_condition_1 1 rfl ?_
  refine aw_Vv 1 [.int x1] [] d_X12_condition_2 (cV_X12_part (d + 56) 0 0) kc_12 (ws_1 w) tw_2237 rfl (rr0 (Nat.le_of_ble_eq_true rfl) (Nat.le_of_ble_eq_true rfl)) (Nat.le_of_ble_eq_true rfl) xs0 k (fun h1 kk => ?_)
  obtain ⟨w2, k⟩ := kk
  exact aw_lvp [0] [(0, .ref 1)] rfl k
theorem t_X12_condition_5 (d : Nat) (h : Hp_) (w : Wf h)  (K : Hp_ → Prop) (k : (¬ (h_i h 1 34) = (-1) → K h) ∧ ((h_i h 1 34) = (-1) → Ci (m_X12_look (d + 0) 0 0) [.ref 1] h (fun r7 h5 => Wf h5 ∧ ((¬ r7 = 124 → K h5) ∧ (r7 = 124 → Cv (m_X12_part (d + 56) 0 0) [.ref 1, .int 0] (h_im h5 1 33 ((h_i h5 1 33) + 1)) (fun h9 => Wf h9 ∧ (Cv (m_X12_say (d + 0) 0 0) [.ref 1, .int 124] h9 (fun h12 => Wf h12 ∧ (AW (m_X12_condition (d + 57) 0 0) 0 0 5 [(0, .ref 1)] [] h12 (kV K)))))))))) : AW (m_X12_condition (d + 57) 0 0) 0 0 5 [(0, .ref 1)] [] h (kV K) := by
  refine aw_aload_n (i := 0) rfl d_X12_condition_5 0 rfl ?_
  refine aw_geti (k0 := 34) kc_12 (ws_1 w) (Nat.le_of_ble_eq_true rfl) tw_1776 d_X12_condition_6 rfl ?_
  refine aw_iconst (v := (-1)) d_X12_condition_9 ic_m1 ?_
  refine aw_icmp_ne (tgt := 46) d_X12_condition_10 rfl (fun c4 => ?_) (fun c4 => ?_)
  · have k := k.1 c4
    exact aw_vret rfl d_X12_condition_46 ⟨Nat.le_refl _, Nat.le_refl _⟩ ⟨rfl, k⟩
  · have k := k.2 c4
    refine aw_aload_n (i := 0) rfl d_X12_condition_13 0 rfl ?_
    refine aw_Vi 1 [] [] d_X12_condition_14 (cV_X12_look (d + 0) 0 0) kc_12 (ws_1 w) tw_2206 rfl (rr0 (Nat.le_of_ble_eq_true rfl) (Nat.le_of_ble_eq_true rfl)) (Nat.le_of_ble_eq_true rfl) xs0 k (fun r7 h5 kk => ?_)
    obtain ⟨w6, k⟩ := kk
    refine aw_bipush (v := 124) d_X12_condition_17 ib_124 ?_
    refine aw_icmp_ne (tgt := 46) d_X12_condition_19 rfl (fun c8 => ?_) (fun c8 => ?_)
    · have k := k.1 c8
      exact aw_vret rfl d_X12_condition_46 ⟨Nat.le_refl _, Nat.le_refl _⟩ ⟨rfl, k⟩
    · have k := k.2 c8
      refine aw_aload_n (i := 0) rfl d_X12_condition_22 0 rfl ?_
      refine aw_dup d_X12_condition_23 rfl ?_
      refine aw_geti (k0 := 33) kc_12 (ws_1 w6) (Nat.le_of_ble_eq_true rfl) tw_1775 d_X12_condition_24 rfl ?_
      refine aw_iconst (v := 1) d_X12_condition_27 ic_1 ?_
      refine aw_iadd d_X12_condition_28 ?_
      refine aw_puti (k0 := 33) kc_12 (ws_1 w6) (Nat.le_of_ble_eq_true rfl) tw_1775 d_X12_condition_29 rfl rfl nf_i ?_
      refine aw_aload_n (i := 0) rfl d_X12_condition_32 0 rfl ?_
      refine aw_iconst (v := 0) d_X12_condition_33 ic_0 ?_
      refine aw_Vv 1 [.int 0] [] d_X12_condition_34 (cV_X12_part (d + 56) 0 0) kc_12 (ws_1 w6) tw_2237 rfl (rr0 (Nat.le_of_ble_eq_true rfl) (Nat.le_of_ble_eq_true rfl)) (Nat.le_of_ble_eq_true rfl) xs0 k (fun h9 kk => ?_)
      obtain ⟨w10, k⟩ := kk
      refine aw_aload_n (i := 0) rfl d_X12_condition_37 0 rfl ?_
      refine aw_bipush (v := 124) d_X12_condition_38 ib_124 ?_
      refine aw_Vv 1 [.int 124] [] d_X12_condition_40 (cV_X12_say (d + 0) 0 0) kc_12 (ws_1 w10) tw_2210 rfl (rr0 (Nat.le_of_ble_eq_true rfl) (Nat.le_of_ble_eq_true rfl)) (Nat.le_of_ble_eq_true rfl) xs0 k (fun h12 kk => ?_)
      obtain ⟨w13, k⟩ := kk
      refine aw_goto (tgt := 5) d_X12_condition_43 rfl ?_
      exact k
end
section
/-! what a read sum or condition leaves -/
noncomputable abbrev pd (h : Hp_) : Int := (h_i h 1 35).toInt
noncomputable abbrev ps (h : Hp_) : Int := (h_i h 1 36).toInt
noncomputable abbrev sN (h : Hp_) : Nat := (h_i h 1 36).toNatClampNeg
noncomputable def Pq (h : Hp_) : Prop := h_i h 1 34 = -1 ∧ pa h ≤ pz h ∧ pd h ≤ 6 ∧ ps h ≤ 3 * pa h + 4
noncomputable def Pe (s : Nat) (h h' : Hp_) : Prop := Iv h' ∧ Fr wzp h h' ∧ pd h' = pd h ∧ pa h ≤ pa h' ∧ (∀ k, k < sN h → h_i h' 226 k = h_i h 226 k) ∧ ps h ≤ ps h' ∧
  (h_i h' 1 34 = -1 → pa h' ≤ pz h ∧ pa h < pa h' ∧ ps h' ≤ ps h + 2 * (pa h' - pa h) ∧ ∃ K : Nat, (K : Int) ≤ pa h' - pa h ∧ PR s (h_i h' 226) (sN h) (sN h') K) ∧
  (¬ h_i h' 1 34 = -1 → pa h' + pd h ≤ pz h + 7 ∧ ps h' ≤ ps h + 2 * (pa h' - pa h) + 2)
theorem ps_in {h : Hp_} (I : Iv h) : rin (ps h) (0, 559) := by
  have := I.2.1 1 36
  rwa [show tf 1 36 = (0, 559) by decide +kernel] at this
theorem sN_i {h : Hp_} (I : Iv h) : (sN h : Int) = ps h := n_nat (ps_in I).1
theorem zf {ws : List Nat} {h h' : Hp_} (f : Fr ws h h') (o : inw ws 1 32 = false) : pz h' = pz h := by show (h_i h' 1 32).toInt = _; rw [(f.2 1 32 o).1]
/-- one operand more and its sign -/
theorem Pe.op {s : Nat} {h h2 h6 h9 h12 : Hp_} {x : Int32} (P : Pe s h h2) (w2 : h_i h2 1 34 = -1) (I2 : Iv h) (I6 : Iv h6) (F6 : Fr [1033] h2 h6) (a6 : pa h2 + 1 ≤ pa h6) (Q : Pe s h6 h9)
    (S : Iv h12 ∧ Fr [1036, 226999] h9 h12 ∧ (h_i h12 1 36).toInt = (h_i h9 1 36).toInt + 1 ∧ h_i h12 226 (h_i h9 1 36).toNatClampNeg = x ∧ ∀ k, k ≠ (h_i h9 1 36).toNatClampNeg → h_i h12 226 k = h_i h9 226 k) (hx : opc x = true) : Pe s h h12 := by
  obtain ⟨p1, p2, p3, p4, p5, p6, p7, p8⟩ := P
  obtain ⟨q1, q2, q3, q4, q5, q6, q7, q8⟩ := Q
  obtain ⟨s1, s2, s3, s4, s5⟩ := S
  obtain ⟨r1, r2, r3, K1, r4, r5⟩ := p7 w2
  have f35 : pd h6 = pd h2 := by show (h_i h6 1 35).toInt = _; rw [(F6.2 1 35 (by decide +kernel)).1]
  have f36 : h_i h6 1 36 = h_i h2 1 36 := (F6.2 1 36 (by decide +kernel)).1
  have f226 : ∀ k, h_i h6 226 k = h_i h2 226 k := fun k => fr_i F6 (by decide +kernel) k
  have z2 := zf p2 (by decide +kernel)
  have z6 := zf F6 (by decide +kernel)
  have e33 : pa h12 = pa h9 := by show (h_i h12 1 33).toInt = _; rw [(s2.2 1 33 (by decide +kernel)).1]
  have e34 : h_i h12 1 34 = h_i h9 1 34 := (s2.2 1 34 (by decide +kernel)).1
  have e35 : pd h12 = pd h9 := by show (h_i h12 1 35).toInt = _; rw [(s2.2 1 35 (by decide +kernel)).1]
  have e36 : ps h12 = ps h9 + 1 := s3
  have ps6 : ps h6 = ps h2 := by show (h_i h6 1 36).toInt = _; rw [f36]
  have sn6 : sN h6 = sN h2 := by show (h_i h6 1 36).toNatClampNeg = _; rw [f36]
  have n2 := sN_i p1
  have n9 := sN_i q1
  have n12 := sN_i s1
  have n0 := sN_i I2
  have sn12 : sN h12 = sN h9 + 1 := by omega
  refine ⟨s1, ((p2.tr (F6.more (by decide +kernel))).tr q2).tr (s2.more (by decide +kernel)), by omega, by omega, fun k hk => ?_, by omega, fun w => ?_, fun w => ?_⟩
  · rw [s5 k (by show k ≠ sN h9; omega), q5 k (by omega), f226, p5 k hk]
  · rw [e34] at w
    obtain ⟨t1, t2, t3, K2, t4, t5⟩ := q7 w
    refine ⟨by omega, by omega, by omega, max K1 (K2 + 1), by omega, ?_⟩
    rw [sn12]
    refine PR.bin (j := sN h2) (PR.same (fun k a b => ?_) r5) (m := sN h9) (k2 := K2) (PR.same (fun k a b => ?_) (by rw [← sn6]; exact t5)) (by rw [show h_i h12 226 (sN h9) = x from s4]; exact hx) (by omega) (by omega)
    · rw [s5 k (by show k ≠ sN h9; omega), q5 k (by omega), f226]
    · rw [s5 k (by show k ≠ sN h9; omega)]
  · rw [e34] at w
    obtain ⟨t1, t2⟩ := q8 w
    exact ⟨by omega, by omega⟩
/-- a look behind what was read -/
theorem Pe.lk {s : Nat} {h h2 h5 : Hp_} {r : Int32} (P : Pe s h h2) (I : Iv h) (L : Lk h2 r h5) : Pe s h h5 := by
  obtain ⟨p1, p2, p3, p4, p5, p6, p7, p8⟩ := P
  obtain ⟨l1, l2, l3, l4, l5⟩ := L
  have z2 := zf p2 (by decide +kernel)
  have e34 : h_i h5 1 34 = h_i h2 1 34 := (l2.2 1 34 (by decide +kernel)).1
  have e35 : pd h5 = pd h2 := by show (h_i h5 1 35).toInt = _; rw [(l2.2 1 35 (by decide +kernel)).1]
  have e36 : h_i h5 1 36 = h_i h2 1 36 := (l2.2 1 36 (by decide +kernel)).1
  have p36 : ps h5 = ps h2 := by show (h_i h5 1 36).toInt = _; rw [e36]
  have n36 : sN h5 = sN h2 := by show (h_i h5 1 36).toNatClampNeg = _; rw [e36]
  have f226 : h_i h5 226 = h_i h2 226 := funext (fun k => fr_i l2 (by decide +kernel) k)
  refine ⟨l1, p2.tr (l2.more (by decide +kernel)), by omega, by omega, fun k hk => by rw [f226]; exact p5 k hk, by omega, fun w => ?_, fun w => ?_⟩
  · rw [e34] at w
    obtain ⟨t1, t2, t3, K, t4, t5⟩ := p7 w
    refine ⟨by omega, by omega, by omega, K, by omega, ?_⟩
    rw [n36, f226]; exact t5
  · rw [e34] at w
    obtain ⟨t1, t2⟩ := p8 w
    have d0 : 0 ≤ pd h := (dp_in7 I).1
    have d7 : pd h ≤ 7 := (dp_in7 I).2
    exact ⟨by omega, by omega⟩
end
section
/-! terms and sums of one depth, out of atoms of that depth -/
theorem Pe.room {s : Nat} {h h' : Hp_} (I : Iv h) (q : Pq h) (P : Pe s h h') : ps h' ≤ 558 := by
  obtain ⟨p1, p2, p3, p4, p5, p6, p7, p8⟩ := P
  obtain ⟨q1, q2, q3, q4⟩ := q
  have z1 : pz h ≤ 160 := (pz_in I).2
  have d0 : 0 ≤ pd h := (dp_in7 I).1
  by_cases w : h_i h' 1 34 = -1
  · obtain ⟨t1, t2, t3, _⟩ := p7 w
    omega
  · obtain ⟨t1, t2⟩ := p8 w
    omega
/-- one sign further -/
theorem Pe.nx {s : Nat} {h h5 : Hp_} (I : Iv h) (q : Pq h) (P : Pe s h h5) (w : h_i h5 1 34 = -1) (l : pa h5 < pz h) : Iv (h_im h5 1 33 ((h_i h5 1 33) + 1)) ∧ Fr [1033] h5 (h_im h5 1 33 ((h_i h5 1 33) + 1)) ∧ pa (h_im h5 1 33 ((h_i h5 1 33) + 1)) = pa h5 + 1 ∧ Pq (h_im h5 1 33 ((h_i h5 1 33) + 1)) ∧ pd (h_im h5 1 33 ((h_i h5 1 33) + 1)) = pd h ∧ h_i (h_im h5 1 33 ((h_i h5 1 33) + 1)) 1 37 = h_i h 1 37 := by
  obtain ⟨p1, p2, p3, p4, p5, p6, p7, p8⟩ := P
  obtain ⟨q1, q2, q3, q4⟩ := q
  obtain ⟨t1, t2, t3, _⟩ := p7 w
  have z1 : pz h ≤ 160 := (pz_in I).2
  have a0 : 0 ≤ pa h5 := (pa_in p1).1
  have o1 : (1 : Int32).toInt = 1 := rfl
  have z5 := zf p2 (by decide +kernel)
  have e33 : (h_i h5 1 33 + 1).toInt = pa h5 + 1 := by
    show (h_i h5 1 33 + 1).toInt = (h_i h5 1 33).toInt + 1
    have a0' : 0 ≤ (h_i h5 1 33).toInt := a0
    have l' : (h_i h5 1 33).toInt < pz h := l
    rw [tx_add (by rw [o1]; omega) (by rw [o1]; omega), o1]
  have ea : pa (h_im h5 1 33 ((h_i h5 1 33) + 1)) = pa h5 + 1 := by
    show (h_i (h_im h5 1 33 _) 1 33).toInt = _
    rw [im_at]; exact e33
  have ez : pz (h_im h5 1 33 ((h_i h5 1 33) + 1)) = pz h := by
    show (h_i (h_im h5 1 33 _) 1 32).toInt = _
    rw [f_ne (by decide)]; exact z5
  have ed : pd (h_im h5 1 33 ((h_i h5 1 33) + 1)) = pd h := by
    show (h_i (h_im h5 1 33 _) 1 35).toInt = _
    rw [f_ne (by decide)]; exact p3
  have es : ps (h_im h5 1 33 ((h_i h5 1 33) + 1)) = ps h5 := by
    show (h_i (h_im h5 1 33 _) 1 36).toInt = _
    rw [f_ne (by decide)]
  refine ⟨i33 p1 ⟨by rw [e33]; show (0 : Int) ≤ _; omega, by rw [e33]; show _ ≤ (180 : Int); omega⟩, (Fr.rf _ _).im (by decide +kernel), ea, ⟨by rw [f_ne (by decide)]; exact w, by omega, by omega, by omega⟩, ed, ?_⟩
  rw [f_ne (by decide)]
  exact (p2.2 1 37 (by decide +kernel)).1
noncomputable def Rd (s : Nat) (D : Int) (C : Nat → Hp_ → (Hp_ → Prop) → Prop) : Prop := ∀ (d : Nat) (h : Hp_), Iv h → Pq h → pd h = D → h_i h 1 37 = Int32.ofNat s → C d h (fun h' => Pe s h h')
theorem c_term (s e : Nat) (D : Int) (A : Rd s D (fun d h K => Cv (m_X12_atom (d + e + 51) 0 0) [.ref 1] h K)) : Rd s D (fun d h K => Cv (m_X12_term (d + e + 52) 0 0) [.ref 1] h K) := by
  intro d h I q eD es
  have z1 : pz h ≤ 160 := (pz_in I).2
  have lp : ∀ (n : Nat) (h2 : Hp_), Pe s h h2 → pz h - pa h2 ≤ n → AW (m_X12_term (d + e + 52) 0 0) 0 0 4 [(0, .ref 1)] [] h2 (kV (fun h' => Pe s h h')) := by
    intro n
    induction n with
    | zero =>
      intro h2 P m
      refine t_X12_term_4 (d + e) h2 P.1.1 _ ⟨fun _ => P, fun w => Ci.mono (c_look (d + e) P.1) (fun r h5 L => ⟨L.1.1, fun _ => P.lk I L, fun er => ?_⟩)⟩
      have z2 := zf P.2.1 (by decide +kernel)
      have l3 := L.2.2.1
      rcases L.2.2.2.2 with u | u
      · rw [er] at u; exact absurd u.1 (by decide)
      · have := u.1
        omega
    | succ n ih =>
      intro h2 P m
      refine t_X12_term_4 (d + e) h2 P.1.1 _ ⟨fun _ => P, fun w => Ci.mono (c_look (d + e) P.1) (fun r h5 L => ⟨L.1.1, fun _ => P.lk I L, fun er => ?_⟩)⟩
      have P5 := P.lk I L
      have w5 : h_i h5 1 34 = -1 := by rw [(L.2.1.2 1 34 (by decide +kernel)).1]; exact w
      have z2 := zf P.2.1 (by decide +kernel)
      have l3 := L.2.2.1
      have l5 : pa h5 < pz h := by
        rcases L.2.2.2.2 with u | u
        · rw [er] at u; exact absurd u.1 (by decide)
        · have := u.1
          omega
      obtain ⟨I6, F6, a6, q6, d6, s6⟩ := P5.nx I q w5 l5
      refine Cv.mono (A d _ I6 q6 (by omega) (by rw [s6]; exact es)) (fun h9 Q => ⟨Q.1.1, Cv.mono (c_say (d + e) Q.1 42 (Q.room I6 q6)) (fun h12 S => ?_)⟩)
      have P12 := P5.op w5 I I6 F6 (by omega) Q S (by decide)
      have e33 : pa h12 = pa h9 := by show (h_i h12 1 33).toInt = _; rw [(S.2.1.2 1 33 (by decide +kernel)).1]
      have q4 := Q.2.2.2.1
      exact ⟨S.1.1, ih h12 P12 (by omega)⟩
  refine t_X12_term (d + e) h I.1 _ (Cv.mono (A d h I q eD es) (fun h1 P => ⟨P.1.1, lp 160 h1 P ?_⟩))
  have a1 : 0 ≤ pa h1 := (pa_in P.1).1
  omega
end
section
/-! sums and comparisons of one depth -/
theorem Lk.fwd {h2 h5 : Hp_} {r : Int32} {z : Int} (L : Lk h2 r h5) (e : pz h2 = z) : r = -1 ∨ pa h5 < z := by
  rcases L.2.2.2.2 with u | u
  · exact Or.inl u.1
  · exact Or.inr (by have := u.1; omega)
theorem c_sum (s e : Nat) (D : Int) (A : Rd s D (fun d h K => Cv (m_X12_term (d + e + 52) 0 0) [.ref 1] h K)) : Rd s D (fun d h K => Cv (m_X12_sum (d + e + 53) 0 0) [.ref 1] h K) := by
  intro d h I q eD es
  have z1 : pz h ≤ 160 := (pz_in I).2
  have lp : ∀ (n : Nat) (x1 : Int32) (h4 : Hp_), Pe s h h4 → (x1 = -1 ∨ pa h4 < pz h) → pz h - pa h4 ≤ n → AW (m_X12_sum (d + e + 53) 0 0) 0 0 9 [(0, .ref 1), (1, .int x1)] [] h4 (kV (fun h' => Pe s h h')) := by
    intro n
    induction n with
    | zero =>
      intro x1 h4 P c m
      refine t_X12_sum_9 (d + e) h4 P.1.1 x1 _ ⟨fun _ => P, fun w => ⟨fun er => ?_, fun _ => ⟨fun _ => P, fun er => ?_⟩⟩⟩
      · rcases c with u | u
        · rw [er] at u; exact absurd u (by decide)
        · omega
      · rcases c with u | u
        · rw [er] at u; exact absurd u (by decide)
        · omega
    | succ n ih =>
      intro x1 h4 P c m
      have go : h_i h4 1 34 = -1 → opc x1 = true → ¬ x1 = -1 → Cv (m_X12_term (d + e + 52) 0 0) [.ref 1] (h_im h4 1 33 ((h_i h4 1 33) + 1)) (fun h9 => Wf h9 ∧ (Cv (m_X12_say (d + e + 0) 0 0) [.ref 1, .int x1] h9 (fun h12 => Wf h12 ∧ (Ci (m_X12_look (d + e + 0) 0 0) [.ref 1] h12 (fun r17 h15 => Wf h15 ∧ (AW (m_X12_sum (d + e + 53) 0 0) 0 0 9 [(0, .ref 1), (1, .int r17)] [] h15 (kV (fun h' => Pe s h h')))))))) := by
        intro w ho hn
        have l5 : pa h4 < pz h := by
          rcases c with u | u
          · exact absurd u hn
          · exact u
        obtain ⟨I6, F6, a6, q6, d6, s6⟩ := P.nx I q w l5
        refine Cv.mono (A d _ I6 q6 (by omega) (by rw [s6]; exact es)) (fun h9 Q => ⟨Q.1.1, Cv.mono (c_say (d + e) Q.1 x1 (Q.room I6 q6)) (fun h12 S => ?_)⟩)
        have P12 := P.op w I I6 F6 (by omega) Q S ho
        have e33 : pa h12 = pa h9 := by show (h_i h12 1 33).toInt = _; rw [(S.2.1.2 1 33 (by decide +kernel)).1]
        have q4 := Q.2.2.2.1
        refine ⟨S.1.1, Ci.mono (c_look (d + e) P12.1) (fun r h15 L => ?_)⟩
        have l3 := L.2.2.1
        exact ⟨L.1.1, ih r h15 (P12.lk I L) (L.fwd (zf P12.2.1 (by decide +kernel))) (by omega)⟩
      refine t_X12_sum_9 (d + e) h4 P.1.1 x1 _ ⟨fun _ => P, fun w => ⟨fun er => go w (by rw [er]; decide) (by rw [er]; decide), fun _ => ⟨fun _ => P, fun er => go w (by rw [er]; decide) (by rw [er]; decide)⟩⟩⟩
  refine t_X12_sum (d + e) h I.1 _ (Cv.mono (A d h I q eD es) (fun h1 P => ⟨P.1.1, Ci.mono (c_look (d + e) P.1) (fun r h4 L => ⟨L.1.1, lp 160 r h4 (P.lk I L) (L.fwd (zf P.2.1 (by decide +kernel))) ?_⟩)⟩))
  have a1 : 0 ≤ pa h4 := (pa_in L.1).1
  omega
/-- wrong from here on -/
theorem Pe.bad {s : Nat} {h h2 h3 : Hp_} (I : Iv h) (q : Pq h) (P : Pe s h h2) (I3 : Iv h3) (F3 : Fr [1034] h2 h3) (w3 : ¬ h_i h3 1 34 = -1) : Pe s h h3 := by
  obtain ⟨p1, p2, p3, p4, p5, p6, p7, p8⟩ := P
  have e33 : pa h3 = pa h2 := by show (h_i h3 1 33).toInt = _; rw [(F3.2 1 33 (by decide +kernel)).1]
  have e35 : pd h3 = pd h2 := by show (h_i h3 1 35).toInt = _; rw [(F3.2 1 35 (by decide +kernel)).1]
  have e36 : ps h3 = ps h2 := by show (h_i h3 1 36).toInt = _; rw [(F3.2 1 36 (by decide +kernel)).1]
  have q3 := q.2.2.1
  refine ⟨I3, p2.tr (F3.more (by decide +kernel)), by omega, by omega, fun k hk => by rw [fr_i F3 (a := 226) (by decide +kernel)]; exact p5 k hk, by omega, fun w => absurd w w3, fun _ => ?_⟩
  by_cases w : h_i h2 1 34 = -1
  · obtain ⟨t1, t2, t3, _⟩ := p7 w
    exact ⟨by omega, by omega⟩
  · obtain ⟨t1, t2⟩ := p8 w
    exact ⟨by omega, by omega⟩
theorem c_isSign (d : Nat) (h : Hp_) (x : Int32) : Ci (m_X12_isSign (d + 0) 0 0) [.int x] h (fun r h' => h' = h ∧ ((r = 1 ∧ opc x = true ∧ ¬ x = -1) ∨ (r = 0 ∧ ¬ (x = 61 ∨ x = 60 ∨ x = 62)))) :=
  t_X12_isSign d h x _ ⟨fun e => ⟨rfl, Or.inl ⟨rfl, by rw [e]; decide, by rw [e]; decide⟩⟩, fun n1 => ⟨fun e => ⟨rfl, Or.inl ⟨rfl, by rw [e]; decide, by rw [e]; decide⟩⟩, fun n2 => ⟨fun n3 => ⟨rfl, Or.inr ⟨rfl, fun z => z.elim n1 (fun y => y.elim n2 n3)⟩⟩, fun e => ⟨rfl, Or.inl ⟨rfl, by rw [e]; decide, by rw [e]; decide⟩⟩⟩⟩⟩
theorem c_compare (s e : Nat) (D : Int) (A : Rd s D (fun d h K => Cv (m_X12_sum (d + e + 53) 0 0) [.ref 1] h K)) (d : Nat) {h h2 : Hp_} (I : Iv h) (q : Pq h) (eD : pd h = D) (es : h_i h 1 37 = Int32.ofNat s) (P : Pe s h h2) : Cv (m_X12_compare (d + e + 54) 0 0) [.ref 1] h2 (fun h' => Pe s h h') := by
  refine t_X12_compare (d + e) h2 P.1.1 _ ⟨fun n => Ci.mono (c_isSign (d + e) h2 (-1)) (fun r h3 k => ?_), fun w => Ci.mono (c_look (d + e) P.1) (fun r h5 L => ⟨L.1.1, Ci.mono (c_isSign (d + e) h5 r) (fun r2 h6 k => ?_)⟩)⟩
  · obtain ⟨e3, k⟩ := k
    subst e3
    refine ⟨P.1.1, fun r0 => ?_, fun _ => Cv.mono (c_bad (d + e) P.1) (fun h4 b => ⟨b.1.1, P.bad I q b.1 b.2.1 b.2.2⟩)⟩
    rcases k with k | k
    · exact absurd rfl k.2.2
    · exact absurd k.1 r0
  · obtain ⟨e6, k⟩ := k
    subst e6
    have P5 := P.lk I L
    refine ⟨L.1.1, fun r0 => ?_, fun _ => Cv.mono (c_bad (d + e) L.1) (fun h4 b => ⟨b.1.1, P5.bad I q b.1 b.2.1 b.2.2⟩)⟩
    rcases k with k | k
    · have w5 : h_i h6 1 34 = -1 := by rw [(L.2.1.2 1 34 (by decide +kernel)).1]; exact w
      have l5 : pa h6 < pz h := by
        rcases L.fwd (zf P.2.1 (by decide +kernel)) with u | u
        · exact absurd u k.2.2
        · exact u
      obtain ⟨I6, F6, a6, q6, d6, s6⟩ := P5.nx I q w5 l5
      refine Cv.mono (A d _ I6 q6 (by omega) (by rw [s6]; exact es)) (fun h9 Q => ⟨Q.1.1, Cv.mono (c_say (d + e) Q.1 r (Q.room I6 q6)) (fun h12 S => ⟨S.1.1, P5.op w5 I I6 F6 (by omega) Q S k.2.1⟩)⟩)
    · exact absurd k.1 r0
end
section
/-! brackets, letters, numbers: atoms -/
theorem c_isLetter (d : Nat) (h : Hp_) (x : Int32) {s : Nat} (hs : s = 1 ∨ s = 2) : Ci (m_X12_isLetter (d + 0) 0 0) [.int x, .int (Int32.ofNat s)] h (fun r h' => h' = h ∧ (r = 0 ∨ (¬ r = 0 ∧ ¬ x = -1 ∧ okl s x = true))) :=
  t_X12_isLetter d h x (Int32.ofNat s) _ ⟨fun e => ⟨fun _ => ⟨rfl, Or.inl rfl⟩, fun f => ⟨rfl, Or.inr ⟨by decide, by rw [e]; decide, by rw [e]; rcases hs with u | u <;> subst u <;> first | decide | exact absurd f (by decide)⟩⟩⟩,
    fun e => ⟨rfl, Or.inr ⟨by decide, by rw [e]; decide, by rw [e]; rcases hs with u | u <;> subst u <;> decide⟩⟩,
    fun e => ⟨fun _ => ⟨rfl, Or.inl rfl⟩, fun f => ⟨rfl, Or.inr ⟨by decide, by rw [e]; decide, by rw [e]; rcases hs with u | u <;> subst u <;> first | decide | exact absurd f (by decide)⟩⟩⟩,
    fun e => ⟨fun _ => ⟨rfl, Or.inl rfl⟩, fun f => ⟨rfl, Or.inr ⟨by decide, by rw [e]; decide, by rw [e]; rcases hs with u | u <;> subst u <;> first | decide | exact absurd f (by decide)⟩⟩⟩,
    fun e => ⟨fun _ => ⟨rfl, Or.inl rfl⟩, fun f => ⟨rfl, Or.inr ⟨by decide, by rw [e]; decide, by rw [e]; rcases hs with u | u <;> subst u <;> first | decide | exact absurd f (by decide)⟩⟩⟩,
    fun e => ⟨fun _ => ⟨rfl, Or.inl rfl⟩, fun f => ⟨rfl, Or.inr ⟨by decide, by rw [e]; decide, by rw [e]; rcases hs with u | u <;> subst u <;> first | decide | exact absurd f (by decide)⟩⟩⟩,
    fun e => ⟨fun _ => ⟨rfl, Or.inl rfl⟩, fun f => ⟨rfl, Or.inr ⟨by decide, by rw [e]; decide, by rw [e]; rcases hs with u | u <;> subst u <;> first | decide | exact absurd f (by decide)⟩⟩⟩,
    fun e => ⟨fun _ => ⟨rfl, Or.inl rfl⟩, fun f => ⟨rfl, Or.inr ⟨by decide, by rw [e]; decide, by rw [e]; rcases hs with u | u <;> subst u <;> first | decide | exact absurd f (by decide)⟩⟩⟩,
    fun e => ⟨fun _ => ⟨rfl, Or.inl rfl⟩, fun f => ⟨rfl, Or.inr ⟨by decide, by rw [e]; decide, by rw [e]; rcases hs with u | u <;> subst u <;> first | decide | exact absurd f (by decide)⟩⟩⟩,
    fun e => ⟨rfl, Or.inr ⟨by decide, by rw [e]; decide, by rw [e]; rcases hs with u | u <;> subst u <;> decide⟩⟩,
    fun e => ⟨fun _ => ⟨rfl, Or.inl rfl⟩, fun f => ⟨rfl, Or.inr ⟨by decide, by rw [e]; decide, by rw [e]; rcases hs with u | u <;> subst u <;> first | decide | exact absurd f (by decide)⟩⟩⟩,
    fun e => ⟨fun _ => ⟨rfl, Or.inl rfl⟩, fun f => ⟨rfl, Or.inr ⟨by decide, by rw [e]; decide, by rw [e]; rcases hs with u | u <;> subst u <;> first | decide | exact absurd f (by decide)⟩⟩⟩,
    fun e => ⟨fun _ => ⟨rfl, Or.inl rfl⟩, fun f => ⟨rfl, Or.inr ⟨by decide, by rw [e]; decide, by rw [e]; rcases hs with u | u <;> subst u <;> first | decide | exact absurd f (by decide)⟩⟩⟩,
    fun _ => ⟨rfl, Or.inl rfl⟩⟩

theorem Pq.said {h : Hp_} (I : Iv h) (q : Pq h) : ps h ≤ 484 := by
  obtain ⟨q1, q2, q3, q4⟩ := q
  have z1 : pz h ≤ 160 := (pz_in I).2
  omega
/-- a bracket read from its opening to its end -/
theorem Pe.br {s : Nat} {h h2 h3 h4 : Hp_} (I : Iv h) (q : Pq h) (F : Fr [1033, 1034, 1035] h h2) (a2 : pa h + 1 ≤ pa h2) (d2 : pd h2 = pd h + 1) (d5 : pd h ≤ 5) (Q : Pe s h2 h3)
    (C : Iv h4 ∧ Fr [1033, 1034, 1035] h3 h4 ∧ (h_i h4 1 35).toInt = (h_i h3 1 35).toInt - 1 ∧ pa h3 + 1 ≤ pa h4 ∧ (¬ h_i h3 1 34 = -1 → h_i h4 1 34 = h_i h3 1 34 ∧ pa h4 = pa h3 + 1) ∧ (h_i h3 1 34 = -1 → pa h4 ≤ pz h3 + 1 ∧ (h_i h4 1 34 = -1 → pa h4 ≤ pz h3))) : Pe s h h4 := by
  obtain ⟨p1, p2, p3, p4, p5, p6, p7, p8⟩ := Q
  obtain ⟨c1, c2, c3, c4, c5, c6⟩ := C
  have z2 := zf F (by decide +kernel)
  have z3 := zf p2 (by decide +kernel)
  have e36 : h_i h2 1 36 = h_i h 1 36 := (F.2 1 36 (by decide +kernel)).1
  have s2 : ps h2 = ps h := by show (h_i h2 1 36).toInt = _; rw [e36]
  have n2 : sN h2 = sN h := by show (h_i h2 1 36).toNatClampNeg = _; rw [e36]
  have e36' : h_i h4 1 36 = h_i h3 1 36 := (c2.2 1 36 (by decide +kernel)).1
  have s4 : ps h4 = ps h3 := by show (h_i h4 1 36).toInt = _; rw [e36']
  have n4 : sN h4 = sN h3 := by show (h_i h4 1 36).toNatClampNeg = _; rw [e36']
  have f2 : h_i h2 226 = h_i h 226 := funext (fun k => fr_i F (by decide +kernel) k)
  have f4 : h_i h4 226 = h_i h3 226 := funext (fun k => fr_i c2 (by decide +kernel) k)
  have d3 : pd h4 = pd h3 - 1 := c3
  refine ⟨c1, ((F.more (by decide +kernel)).tr p2).tr (c2.more (by decide +kernel)), by omega, by omega, fun k hk => by rw [f4, p5 k (by omega), f2], by omega, fun w => ?_, fun w => ?_⟩
  · have w3 : h_i h3 1 34 = -1 := by
      refine Classical.byContradiction (fun n => ?_)
      rw [(c5 n).1] at w
      exact n w
    obtain ⟨t1, t2, t3, K, t4, t5⟩ := p7 w3
    have := (c6 w3).2 w
    refine ⟨by omega, by omega, by omega, K, by omega, ?_⟩
    rw [n4, f4, ← n2]; exact t5
  · by_cases w3 : h_i h3 1 34 = -1
    · obtain ⟨t1, t2, t3, K, t4, t5⟩ := p7 w3
      have := (c6 w3).1
      exact ⟨by omega, by omega⟩
    · obtain ⟨t1, t2⟩ := p8 w3
      have := (c5 w3).2
      exact ⟨by omega, by omega⟩
/-- one behind the bracket's opening -/
theorem op_q {h h1 h2 : Hp_} {r : Int32} (I : Iv h) (q : Pq h) (L : Lk h r h1) (l : pa h1 < pz h) (I2 : Iv h2) (F : Fr [1033, 1034, 1035] h1 h2) (w : h_i h2 1 34 = h_i h1 1 34) (a : pa h2 = pa h1 + 1) (e : (h_i h2 1 35).toInt = (h_i h1 1 35).toInt + 1) (e5 : (h_i h1 1 35).toInt ≤ 5) :
    Pq h2 ∧ Fr [1033, 1034, 1035] h h2 ∧ pa h + 1 ≤ pa h2 ∧ pd h2 = pd h + 1 ∧ pd h ≤ 5 ∧ h_i h2 1 37 = h_i h 1 37 := by
  obtain ⟨l1, l2, l3, l4, l5⟩ := L
  obtain ⟨q1, q2, q3, q4⟩ := q
  have z1 := zf l2 (by decide +kernel)
  have z2 := zf F (by decide +kernel)
  have e36 : ps h2 = ps h := by show (h_i h2 1 36).toInt = _; rw [(F.2 1 36 (by decide +kernel)).1, (l2.2 1 36 (by decide +kernel)).1]
  have e35 : pd h1 = pd h := by show (h_i h1 1 35).toInt = _; rw [(l2.2 1 35 (by decide +kernel)).1]
  have e' : pd h2 = pd h1 + 1 := e
  have e5' : pd h1 ≤ 5 := e5
  refine ⟨⟨by rw [w, (l2.2 1 34 (by decide +kernel)).1]; exact q1, by omega, by omega, by omega⟩, (l2.more (by decide +kernel)).tr F, by omega, by omega, by omega, ?_⟩
  rw [(F.2 1 37 (by decide +kernel)).1, (l2.2 1 37 (by decide +kernel)).1]
/-- wrong before anything was said -/
theorem Pe.no {s : Nat} {h h1 h2 : Hp_} {r : Int32} (I : Iv h) (q : Pq h) (L : Lk h r h1) (I2 : Iv h2) (F : Fr [1033, 1034, 1035] h1 h2) (w : ¬ h_i h2 1 34 = -1) (a : h_i h2 1 33 = h_i h1 1 33) (e : h_i h2 1 35 = h_i h1 1 35) : Pe s h h2 := by
  obtain ⟨l1, l2, l3, l4, l5⟩ := L
  obtain ⟨q1, q2, q3, q4⟩ := q
  have e36 : ps h2 = ps h := by show (h_i h2 1 36).toInt = _; rw [(F.2 1 36 (by decide +kernel)).1, (l2.2 1 36 (by decide +kernel)).1]
  have e35 : pd h2 = pd h := by show (h_i h2 1 35).toInt = _; rw [e, (l2.2 1 35 (by decide +kernel)).1]
  have e33 : pa h2 = pa h1 := by show (h_i h2 1 33).toInt = _; rw [a]
  refine ⟨I2, (l2.more (by decide +kernel)).tr (F.more (by decide +kernel)), by omega, by omega, fun k hk => ?_, by omega, fun w' => absurd w' w, fun _ => ?_⟩
  · rw [fr_i F (a := 226) (by decide +kernel), fr_i l2 (a := 226) (by decide +kernel)]
  · rcases l4 with u | u
    · exact ⟨by omega, by omega⟩
    · exact ⟨by omega, by omega⟩
/-- two codes said: a number or a letter -/
theorem Pe.two {s : Nat} {h h2 h3 h4 : Hp_} {x y : Int32} (I : Iv h) (q : Pq h) (F : Fr [1033, 1034] h h2) (a0 : pa h ≤ pa h2) (az : pa h2 ≤ pz h) (ao : h_i h2 1 34 = -1 → pa h < pa h2)
    (S : Iv h3 ∧ Fr [1036, 226999] h2 h3 ∧ (h_i h3 1 36).toInt = (h_i h2 1 36).toInt + 1 ∧ h_i h3 226 (h_i h2 1 36).toNatClampNeg = x ∧ ∀ k, k ≠ (h_i h2 1 36).toNatClampNeg → h_i h3 226 k = h_i h2 226 k)
    (S' : Iv h4 ∧ Fr [1036, 226999] h3 h4 ∧ (h_i h4 1 36).toInt = (h_i h3 1 36).toInt + 1 ∧ h_i h4 226 (h_i h3 1 36).toNatClampNeg = y ∧ ∀ k, k ≠ (h_i h3 1 36).toNatClampNeg → h_i h4 226 k = h_i h3 226 k)
    (o : x = 0 ∨ (x = 1 ∧ okl s y = true)) : Pe s h h4 := by
  obtain ⟨q1, q2, q3, q4⟩ := q
  obtain ⟨s1, s2, s3, s4, s5⟩ := S
  obtain ⟨r1, r2, r3, r4, r5⟩ := S'
  have e33 : pa h4 = pa h2 := by show (h_i h4 1 33).toInt = _; rw [(r2.2 1 33 (by decide +kernel)).1, (s2.2 1 33 (by decide +kernel)).1]
  have e34 : h_i h4 1 34 = h_i h2 1 34 := by rw [(r2.2 1 34 (by decide +kernel)).1, (s2.2 1 34 (by decide +kernel)).1]
  have e35 : pd h4 = pd h := by show (h_i h4 1 35).toInt = _; rw [(r2.2 1 35 (by decide +kernel)).1, (s2.2 1 35 (by decide +kernel)).1, (F.2 1 35 (by decide +kernel)).1]
  have e36 : h_i h2 1 36 = h_i h 1 36 := (F.2 1 36 (by decide +kernel)).1
  rw [e36] at s3 s4 s5
  have t3 : ps h3 = ps h + 1 := s3
  have t4 : ps h4 = ps h3 + 1 := r3
  have n0 := sN_i I
  have n3 := sN_i s1
  have n4 := sN_i r1
  have m3 : sN h3 = sN h + 1 := by omega
  have m4 : sN h4 = sN h + 2 := by omega
  have b0 : h_i h4 226 (sN h) = x := by rw [r5 _ (by show sN h ≠ sN h3; omega)]; exact s4
  have b1 : h_i h4 226 (sN h + 1) = y := by rw [← m3]; exact r4
  refine ⟨r1, (F.more (by decide +kernel)).tr ((s2.more (by decide +kernel)).tr (r2.more (by decide +kernel))), by omega, by omega, fun k hk => ?_, by omega, fun w => ?_, fun w => ?_⟩
  · rw [r5 k (by show k ≠ sN h3; omega), s5 k (by show k ≠ sN h; omega), fr_i F (a := 226) (by decide +kernel)]
  · rw [e34] at w
    have := ao w
    refine ⟨by omega, by omega, by omega, 1, by omega, ?_⟩
    rw [m4]
    rcases o with o | o
    · exact PR.num (by rw [b0]; exact o)
    · exact PR.let_ (by rw [b0]; exact o.1) (by rw [b1]; exact o.2)
  · exact ⟨by omega, by omega⟩
theorem c_atom (s e : Nat) (D : Int) (hs : s = 1 ∨ s = 2) (B : D ≤ 5 → Rd s (D + 1) (fun d h K => Cv (m_X12_sum (d + e + 53) 0 0) [.ref 1] h K)) : Rd s D (fun d h K => Cv (m_X12_atom (d + e + 61) 0 0) [.ref 1] h K) := by
  intro d h I q eD es
  have z1 : pz h ≤ 160 := (pz_in I).2
  have q1 := q.1
  have q2 := q.2.1
  have q3 := q.2.2.1
  have q5 := q.said I
  refine t_X12_atom (d + e) h I.1 _ (Ci.mono (c_look (d + e) I) (fun r h1 L => ⟨L.1.1, fun _ => ?_, fun er => ?_⟩))
  · have s1 : h_i h1 1 37 = Int32.ofNat s := by rw [(L.2.1.2 1 37 (by decide +kernel)).1]; exact es
    rw [s1]
    refine Ci.mono (c_isLetter (d + e) h1 r hs) (fun r2 h2 k => ?_)
    obtain ⟨e2, k⟩ := k
    subst e2
    have w1 : h_i h2 1 34 = -1 := by rw [(L.2.1.2 1 34 (by decide +kernel)).1]; exact q1
    have z2 := zf L.2.1 (by decide +kernel)
    have a1 : pa h2 ≤ pz h := by
      rcases L.2.2.2.1 with u | u
      · omega
      · exact u
    have l3 := L.2.2.1
    have p1 : ps h2 = ps h := by show (h_i h2 1 36).toInt = _; rw [(L.2.1.2 1 36 (by decide +kernel)).1]
    refine ⟨L.1.1, fun r0 => ?_, fun r0 => ?_⟩
    · refine Ci.mono (c_number (d + e) L.1 w1 (by omega)) (fun v h3 N => ⟨N.1.1, ?_⟩)
      obtain ⟨n1, n2, n3, n4, n5⟩ := N
      have p3 : ps h3 = ps h2 := by show (h_i h3 1 36).toInt = _; rw [(n2.2 1 36 (by decide +kernel)).1]
      refine Cv.mono (c_say (d + e) n1 0 (by show ps h3 ≤ 558; omega)) (fun h4 S => ⟨S.1.1, Cv.mono (c_say (d + e) S.1 v ?_) (fun h5 S' => ⟨S'.1.1, ?_⟩)⟩)
      · have := S.2.2.1
        show ps h4 ≤ 558
        have e4 : ps h4 = ps h3 + 1 := this
        omega
      · exact Pe.two I q ((L.2.1.more (by decide +kernel)).tr n2) (by omega) (by omega) (fun w => by have := n5 w; omega) S S' (Or.inl rfl)
    · have k : ¬ r = -1 ∧ okl s r = true := by
        rcases k with k | k
        · exact absurd k r0
        · exact k.2
      have l5 : pa h2 < pz h := by
        rcases L.fwd rfl with u | u
        · exact absurd u k.1
        · exact u
      have a0 : 0 ≤ pa h2 := (pa_in L.1).1
      have o1 : (1 : Int32).toInt = 1 := rfl
      have e33 : (h_i h2 1 33 + 1).toInt = pa h2 + 1 := by
        show (h_i h2 1 33 + 1).toInt = (h_i h2 1 33).toInt + 1
        have a0' : 0 ≤ (h_i h2 1 33).toInt := a0
        have l' : (h_i h2 1 33).toInt < pz h := l5
        rw [tx_add (by rw [o1]; omega) (by rw [o1]; omega), o1]
      have I3 : Iv (h_im h2 1 33 ((h_i h2 1 33) + 1)) := i33 L.1 ⟨by rw [e33]; show (0 : Int) ≤ _; omega, by rw [e33]; show _ ≤ (180 : Int); omega⟩
      have F3 : Fr [1033] h2 (h_im h2 1 33 ((h_i h2 1 33) + 1)) := (Fr.rf _ _).im (by decide +kernel)
      have ea : pa (h_im h2 1 33 ((h_i h2 1 33) + 1)) = pa h2 + 1 := by
        show (h_i (h_im h2 1 33 _) 1 33).toInt = _
        rw [im_at]; exact e33
      have es' : ps (h_im h2 1 33 ((h_i h2 1 33) + 1)) = ps h2 := by
        show (h_i (h_im h2 1 33 _) 1 36).toInt = _
        rw [f_ne (by decide)]
      refine Cv.mono (c_say (d + e) I3 1 (by show ps (h_im h2 1 33 _) ≤ 558; omega)) (fun h4 S => ⟨S.1.1, Cv.mono (c_say (d + e) S.1 r ?_) (fun h5 S' => ⟨S'.1.1, ?_⟩)⟩)
      · have e4 : ps h4 = ps (h_im h2 1 33 ((h_i h2 1 33) + 1)) + 1 := S.2.2.1
        show ps h4 ≤ 558
        omega
      · exact Pe.two I q ((L.2.1.tr F3).more (by decide +kernel)) (by omega) (by omega) (fun w => by omega) S S' (Or.inr ⟨rfl, k.2⟩)
  · have l5 : pa h1 < pz h := by
      rcases L.fwd rfl with u | u
      · rw [er] at u; exact absurd u (by decide)
      · exact u
    have z2 := zf L.2.1 (by decide +kernel)
    have e35 : pd h1 = pd h := by show (h_i h1 1 35).toInt = _; rw [(L.2.1.2 1 35 (by decide +kernel)).1]
    refine Ci.mono (c_opens (d + e) L.1 (by omega) (by show pd h1 ≤ 6; omega)) (fun r2 h2 k => ?_)
    obtain ⟨I2, F2, k⟩ := k
    refine ⟨I2.1, fun r0 => ?_, fun r0 => ?_⟩
    · rcases k with k | k
      · rw [k.1] at r0; exact absurd r0 (by decide)
      · exact Pe.no I q L I2 F2 k.2.1 k.2.2.1 k.2.2.2
    · rcases k with k | k
      · obtain ⟨k1, k2, k3, k4, k5⟩ := k
        obtain ⟨Q2, G2, b2, d2, d5, s2⟩ := op_q I q L l5 I2 F2 k2 k3 k4 k5
        refine Cv.mono (B (by omega) d h2 I2 Q2 (by omega) (by rw [s2]; exact es)) (fun h3 P => ⟨P.1.1, Cv.mono (c_closes (d + e) P.1 93 ?_ (by decide) ?_) (fun h4 C => ⟨C.1.1, Pe.br I q G2 b2 d2 d5 P C⟩)⟩)
        · have z3 := zf P.2.1 (by decide +kernel)
          have z4 := zf G2 (by decide +kernel)
          refine ⟨fun w => ?_, ?_⟩
          · have := (P.2.2.2.2.2.2.1 w).1
            omega
          · have d0 : 0 ≤ pd h2 := (dp_in7 I2).1
            by_cases w : h_i h3 1 34 = -1
            · have := (P.2.2.2.2.2.2.1 w).1
              omega
            · have := (P.2.2.2.2.2.2.2 w).1
              omega
        · have p3 := P.2.2.1
          have d0 : 0 ≤ pd h := (dp_in7 I).1
          show 1 ≤ pd h3
          omega
      · exact absurd k.1 r0
end
section
/-! conditions -/
theorem part_lp (s e : Nat) (D : Int) (A : Rd s D (fun d h K => Cv (m_X12_unit (d + e + 55) 0 0) [.ref 1] h K)) (d : Nat) {h : Hp_} (I : Iv h) (q : Pq h) (eD : pd h = D) (es : h_i h 1 37 = Int32.ofNat s) :
    ∀ (n : Nat) (h2 : Hp_), Pe s h h2 → pz h - pa h2 ≤ n → AW (m_X12_part (d + e + 56) 0 0) 0 0 15 [(0, .ref 1)] [] h2 (kV (fun h' => Pe s h h')) := by
  intro n
  induction n with
  | zero =>
    intro h2 P m
    refine t_X12_part_15 (d + e) h2 P.1.1 _ ⟨fun _ => P, fun w => Ci.mono (c_look (d + e) P.1) (fun r h5 L => ⟨L.1.1, fun _ => P.lk I L, fun er => ?_⟩)⟩
    have l3 := L.2.2.1
    rcases L.fwd (zf P.2.1 (by decide +kernel)) with u | u
    · rw [er] at u; exact absurd u (by decide)
    · omega
  | succ n ih =>
    intro h2 P m
    refine t_X12_part_15 (d + e) h2 P.1.1 _ ⟨fun _ => P, fun w => Ci.mono (c_look (d + e) P.1) (fun r h5 L => ⟨L.1.1, fun _ => P.lk I L, fun er => ?_⟩)⟩
    have P5 := P.lk I L
    have w5 : h_i h5 1 34 = -1 := by rw [(L.2.1.2 1 34 (by decide +kernel)).1]; exact w
    have l3 := L.2.2.1
    have l5 : pa h5 < pz h := by
      rcases L.fwd (zf P.2.1 (by decide +kernel)) with u | u
      · rw [er] at u; exact absurd u (by decide)
      · exact u
    obtain ⟨I6, F6, a6, q6, d6, s6⟩ := P5.nx I q w5 l5
    refine Cv.mono (A d _ I6 q6 (by omega) (by rw [s6]; exact es)) (fun h9 Q => ⟨Q.1.1, Cv.mono (c_say (d + e) Q.1 38 (Q.room I6 q6)) (fun h12 S => ?_)⟩)
    have P12 := P5.op w5 I I6 F6 (by omega) Q S (by decide)
    have e33 : pa h12 = pa h9 := by show (h_i h12 1 33).toInt = _; rw [(S.2.1.2 1 33 (by decide +kernel)).1]
    have q4 := Q.2.2.2.1
    exact ⟨S.1.1, ih h12 P12 (by omega)⟩
theorem Pe.m {s : Nat} {h h2 : Hp_} (I : Iv h) (P : Pe s h h2) : pz h - pa h2 ≤ (160 : Nat) := by
  have z1 : pz h ≤ 160 := (pz_in I).2
  have a1 : 0 ≤ pa h2 := (pa_in P.1).1
  omega
theorem c_part0 (s e : Nat) (D : Int) (A : Rd s D (fun d h K => Cv (m_X12_unit (d + e + 55) 0 0) [.ref 1] h K)) : Rd s D (fun d h K => Cv (m_X12_part (d + e + 56) 0 0) [.ref 1, .int 0] h K) := by
  intro d h I q eD es
  refine t_X12_part (d + e) h I.1 0 _ ⟨fun _ => Cv.mono (A d h I q eD es) (fun h2 P => ⟨P.1.1, part_lp s e D A d I q eD es 160 h2 P (P.m I)⟩), fun n => absurd rfl n⟩
theorem c_part1 (s e : Nat) (D : Int) (A : Rd s D (fun d h K => Cv (m_X12_unit (d + e + 55) 0 0) [.ref 1] h K)) (B : Rd s D (fun d h K => Cv (m_X12_sum (d + e + 53) 0 0) [.ref 1] h K)) (d : Nat) {h h2 : Hp_} (I : Iv h) (q : Pq h) (eD : pd h = D) (es : h_i h 1 37 = Int32.ofNat s) (P : Pe s h h2) :
    Cv (m_X12_part (d + e + 56) 0 0) [.ref 1, .int 1] h2 (fun h' => Pe s h h') := by
  refine t_X12_part (d + e) h2 P.1.1 1 _ ⟨fun n => absurd n (by decide), fun _ => Cv.mono (c_compare s e D B d I q eD es P) (fun h3 P3 => ⟨P3.1.1, part_lp s e D A d I q eD es 160 h3 P3 (P3.m I)⟩)⟩
theorem cond_lp (s e : Nat) (D : Int) (A : Rd s D (fun d h K => Cv (m_X12_part (d + e + 56) 0 0) [.ref 1, .int 0] h K)) (d : Nat) {h : Hp_} (I : Iv h) (q : Pq h) (eD : pd h = D) (es : h_i h 1 37 = Int32.ofNat s) :
    ∀ (n : Nat) (h2 : Hp_), Pe s h h2 → pz h - pa h2 ≤ n → AW (m_X12_condition (d + e + 57) 0 0) 0 0 5 [(0, .ref 1)] [] h2 (kV (fun h' => Pe s h h')) := by
  intro n
  induction n with
  | zero =>
    intro h2 P m
    refine t_X12_condition_5 (d + e) h2 P.1.1 _ ⟨fun _ => P, fun w => Ci.mono (c_look (d + e) P.1) (fun r h5 L => ⟨L.1.1, fun _ => P.lk I L, fun er => ?_⟩)⟩
    have l3 := L.2.2.1
    rcases L.fwd (zf P.2.1 (by decide +kernel)) with u | u
    · rw [er] at u; exact absurd u (by decide)
    · omega
  | succ n ih =>
    intro h2 P m
    refine t_X12_condition_5 (d + e) h2 P.1.1 _ ⟨fun _ => P, fun w => Ci.mono (c_look (d + e) P.1) (fun r h5 L => ⟨L.1.1, fun _ => P.lk I L, fun er => ?_⟩)⟩
    have P5 := P.lk I L
    have w5 : h_i h5 1 34 = -1 := by rw [(L.2.1.2 1 34 (by decide +kernel)).1]; exact w
    have l3 := L.2.2.1
    have l5 : pa h5 < pz h := by
      rcases L.fwd (zf P.2.1 (by decide +kernel)) with u | u
      · rw [er] at u; exact absurd u (by decide)
      · exact u
    obtain ⟨I6, F6, a6, q6, d6, s6⟩ := P5.nx I q w5 l5
    refine Cv.mono (A d _ I6 q6 (by omega) (by rw [s6]; exact es)) (fun h9 Q => ⟨Q.1.1, Cv.mono (c_say (d + e) Q.1 124 (Q.room I6 q6)) (fun h12 S => ?_)⟩)
    have P12 := P5.op w5 I I6 F6 (by omega) Q S (by decide)
    have e33 : pa h12 = pa h9 := by show (h_i h12 1 33).toInt = _; rw [(S.2.1.2 1 33 (by decide +kernel)).1]
    have q4 := Q.2.2.2.1
    exact ⟨S.1.1, ih h12 P12 (by omega)⟩
theorem c_cond0 (s e : Nat) (D : Int) (A : Rd s D (fun d h K => Cv (m_X12_unit (d + e + 55) 0 0) [.ref 1] h K)) : Rd s D (fun d h K => Cv (m_X12_condition (d + e + 57) 0 0) [.ref 1, .int 0] h K) := by
  intro d h I q eD es
  exact t_X12_condition (d + e) h I.1 0 _ (Cv.mono (c_part0 s e D A d h I q eD es) (fun h2 P => ⟨P.1.1, cond_lp s e D (c_part0 s e D A) d I q eD es 160 h2 P (P.m I)⟩))
theorem c_cond1 (s e : Nat) (D : Int) (A : Rd s D (fun d h K => Cv (m_X12_unit (d + e + 55) 0 0) [.ref 1] h K)) (B : Rd s D (fun d h K => Cv (m_X12_sum (d + e + 53) 0 0) [.ref 1] h K)) (d : Nat) {h h2 : Hp_} (I : Iv h) (q : Pq h) (eD : pd h = D) (es : h_i h 1 37 = Int32.ofNat s) (P : Pe s h h2) :
    Cv (m_X12_condition (d + e + 57) 0 0) [.ref 1, .int 1] h2 (fun h' => Pe s h h') :=
  t_X12_condition (d + e) h2 P.1.1 1 _ (Cv.mono (c_part1 s e D A B d I q eD es P) (fun h3 P3 => ⟨P3.1.1, cond_lp s e D (c_part0 s e D A) d I q eD es 160 h3 P3 (P3.m I)⟩))
/-- a not -/
theorem Pe.nt {s : Nat} {h h2 h3 h5 : Hp_} (I : Iv h) (q : Pq h) (F : Fr [1033, 1034, 1035] h h2) (a2 : pa h + 1 ≤ pa h2) (d2 : pd h2 = pd h + 1) (d5 : pd h ≤ 5) (Q : Pe s h2 h3)
    (S : Iv h5 ∧ Fr [1036, 226999] (h_im h3 1 35 ((h_i h3 1 35) - 1)) h5 ∧ (h_i h5 1 36).toInt = (h_i (h_im h3 1 35 ((h_i h3 1 35) - 1)) 1 36).toInt + 1 ∧ h_i h5 226 (h_i (h_im h3 1 35 ((h_i h3 1 35) - 1)) 1 36).toNatClampNeg = 33 ∧ ∀ k, k ≠ (h_i (h_im h3 1 35 ((h_i h3 1 35) - 1)) 1 36).toNatClampNeg → h_i h5 226 k = h_i (h_im h3 1 35 ((h_i h3 1 35) - 1)) 226 k) : Pe s h h5 := by
  obtain ⟨p1, p2, p3, p4, p5, p6, p7, p8⟩ := Q
  obtain ⟨s1, s2, s3, s4, s5⟩ := S
  rw [f_ne (by decide)] at s3 s4 s5
  have z2 := zf F (by decide +kernel)
  have z3 := zf p2 (by decide +kernel)
  have e36 : h_i h2 1 36 = h_i h 1 36 := (F.2 1 36 (by decide +kernel)).1
  have s2' : ps h2 = ps h := by show (h_i h2 1 36).toInt = _; rw [e36]
  have n2 : sN h2 = sN h := by show (h_i h2 1 36).toNatClampNeg = _; rw [e36]
  have t5 : ps h5 = ps h3 + 1 := s3
  have m3 := sN_i p1
  have m5 := sN_i s1
  have n5 : sN h5 = sN h3 + 1 := by omega
  have f2 : h_i h2 226 = h_i h 226 := funext (fun k => fr_i F (by decide +kernel) k)
  have f4 : ∀ k, h_i (h_im h3 1 35 ((h_i h3 1 35) - 1)) 226 k = h_i h3 226 k := fun k => by rw [h_i_im, if_neg (fun u => absurd u.1 (by decide))]
  have e33 : pa h5 = pa h3 := by show (h_i h5 1 33).toInt = _; rw [(s2.2 1 33 (by decide +kernel)).1, f_ne (by decide)]
  have e34 : h_i h5 1 34 = h_i h3 1 34 := by rw [(s2.2 1 34 (by decide +kernel)).1, f_ne (by decide)]
  have o1 : (1 : Int32).toInt = 1 := rfl
  have d0 : 0 ≤ pd h := (dp_in7 I).1
  have d1 : 1 ≤ (h_i h3 1 35).toInt := by show 1 ≤ pd h3; omega
  have d7 : (h_i h3 1 35).toInt ≤ 7 := (dp_in7 p1).2
  have e35 : pd h5 = pd h3 - 1 := by
    show (h_i h5 1 35).toInt = (h_i h3 1 35).toInt - 1
    rw [(s2.2 1 35 (by decide +kernel)).1, im_at, tx_sub (by rw [o1]; omega) (by rw [o1]; omega), o1]
  have F35 : Fr [1035] h3 (h_im h3 1 35 ((h_i h3 1 35) - 1)) := (Fr.rf _ _).im (by decide +kernel)
  have m2 := sN_i I
  refine ⟨s1, ((F.more (by decide +kernel)).tr p2).tr ((F35.more (by decide +kernel)).tr (s2.more (by decide +kernel))), by omega, by omega, fun k hk => ?_, by omega, fun w => ?_, fun w => ?_⟩
  · rw [s5 k (by show k ≠ sN h3; omega), f4, p5 k (by omega), f2]
  · rw [e34] at w
    obtain ⟨t1, t2, t3, K, t4, t6⟩ := p7 w
    refine ⟨by omega, by omega, by omega, K, by omega, ?_⟩
    rw [n5, ← n2]
    refine PR.not_ (PR.same (fun k a b => ?_) t6) s4
    rw [s5 k (by show k ≠ sN h3; omega), f4]
  · rw [e34] at w
    obtain ⟨t1, t2⟩ := p8 w
    exact ⟨by omega, by omega⟩
theorem c_unit (s e : Nat) (D : Int) (B : Rd s D (fun d h K => Cv (m_X12_sum (d + e + 53) 0 0) [.ref 1] h K)) (U : D ≤ 5 → Rd s (D + 1) (fun d h K => Cv (m_X12_unit (d + e + 55) 0 0) [.ref 1] h K)) : Rd s D (fun d h K => Cv (m_X12_unit (d + e + 65) 0 0) [.ref 1] h K) := by
  intro d h I q eD es
  have z1 : pz h ≤ 160 := (pz_in I).2
  have q1 := q.1
  have q2 := q.2.1
  have q3 := q.2.2.1
  have q5 := q.said I
  have d0 : 0 ≤ pd h := (dp_in7 I).1
  refine t_X12_unit (d + e) h I.1 _ (Ci.mono (c_look (d + e) I) (fun r h1 L => ?_))
  have z2 := zf L.2.1 (by decide +kernel)
  have e35 : pd h1 = pd h := by show (h_i h1 1 35).toInt = _; rw [(L.2.1.2 1 35 (by decide +kernel)).1]
  have e36 : h_i h1 1 36 = h_i h 1 36 := (L.2.1.2 1 36 (by decide +kernel)).1
  have f226 : h_i h1 226 = h_i h 226 := funext (fun k => fr_i L.2.1 (by decide +kernel) k)
  have ps1 : ps h1 = ps h := by show (h_i h1 1 36).toInt = _; rw [e36]
  have sn1 : sN h1 = sN h := by show (h_i h1 1 36).toNatClampNeg = _; rw [e36]
  have l3 := L.2.2.1
  have a1 : pa h1 ≤ pz h := by
    rcases L.2.2.2.1 with u | u
    · omega
    · exact u
  have op : pa h1 < pz h → Ci (m_X12_opens (d + e + 1) 0 0) [.ref 1] h1 (fun r2 h2 => Iv h2 ∧ (r2 = 0 → Pe s h h2) ∧ (¬ r2 = 0 → Pq h2 ∧ Fr [1033, 1034, 1035] h h2 ∧ pa h + 1 ≤ pa h2 ∧ pd h2 = pd h + 1 ∧ pd h ≤ 5 ∧ h_i h2 1 37 = h_i h 1 37)) := by
    intro l5
    refine Ci.mono (c_opens (d + e) L.1 (by omega) (by show pd h1 ≤ 6; omega)) (fun r2 h2 k => ?_)
    obtain ⟨I2, F2, k⟩ := k
    refine ⟨I2, fun r0 => ?_, fun r0 => ?_⟩
    · rcases k with k | k
      · rw [k.1] at r0; exact absurd r0 (by decide)
      · exact Pe.no I q L I2 F2 k.2.1 k.2.2.1 k.2.2.2
    · rcases k with k | k
      · obtain ⟨k1, k2, k3, k4, k5⟩ := k
        exact op_q I q L l5 I2 F2 k2 k3 k4 k5
      · exact absurd k.1 r0
  refine ⟨L.1.1, fun n1 => ⟨fun n2 => ?_, fun er => ?_⟩, fun er => ?_⟩
  · have qh1 : Pq h1 := ⟨by rw [(L.2.1.2 1 34 (by decide +kernel)).1]; exact q1, by omega, by omega, by have := q.2.2.2; omega⟩
    have Pl : ∀ h6, Pe s h1 h6 → Pe s h h6 := fun h6 P => by
      obtain ⟨p1, p2, p3, p4, p5, p6, p7, p8⟩ := P
      refine ⟨p1, (L.2.1.more (by decide +kernel)).tr p2, by omega, by omega, fun k hk => by rw [p5 k (by omega), f226], by omega, fun w => ?_, fun w => ?_⟩
      · obtain ⟨t1, t2, t3, K, t4, t5⟩ := p7 w
        exact ⟨by omega, by omega, by omega, K, by omega, by rw [← sn1]; exact t5⟩
      · obtain ⟨t1, t2⟩ := p8 w
        exact ⟨by omega, by omega⟩
    refine Cv.mono (B d h1 L.1 qh1 (by omega) (by rw [(L.2.1.2 1 37 (by decide +kernel)).1]; exact es)) (fun h6 P => ⟨P.1.1, Cv.mono (c_compare s e D B d I q eD es (Pl h6 P)) (fun h9 P9 => ⟨P9.1.1, P9⟩)⟩)
  · have l5 : pa h1 < pz h := by
      rcases L.fwd rfl with u | u
      · rw [er] at u; exact absurd u (by decide)
      · exact u
    refine Ci.mono (op l5) (fun r2 h2 k => ⟨k.1.1, k.2.1, fun r0 => ?_⟩)
    obtain ⟨Q2, G2, b2, d2, d5, s2⟩ := k.2.2 r0
    refine Cv.mono (c_cond0 s e (D + 1) (U (by omega)) d h2 k.1 Q2 (by omega) (by rw [s2]; exact es)) (fun h3 P => ⟨P.1.1, Cv.mono (c_closes (d + e) P.1 41 ?_ (by decide) ?_) (fun h4 C => ⟨C.1.1, Pe.br I q G2 b2 d2 d5 P C⟩)⟩)
    · have z3 := zf P.2.1 (by decide +kernel)
      have z4 := zf G2 (by decide +kernel)
      refine ⟨fun w => ?_, ?_⟩
      · have := (P.2.2.2.2.2.2.1 w).1
        omega
      · by_cases w : h_i h3 1 34 = -1
        · have := (P.2.2.2.2.2.2.1 w).1
          omega
        · have := (P.2.2.2.2.2.2.2 w).1
          omega
    · have p3 := P.2.2.1
      show 1 ≤ pd h3
      omega
  · have l5 : pa h1 < pz h := by
      rcases L.fwd rfl with u | u
      · rw [er] at u; exact absurd u (by decide)
      · exact u
    refine Ci.mono (op l5) (fun r2 h2 k => ⟨k.1.1, k.2.1, fun r0 => ?_⟩)
    obtain ⟨Q2, G2, b2, d2, d5, s2⟩ := k.2.2 r0
    refine Cv.mono (U (by omega) d h2 k.1 Q2 (by omega) (by rw [s2]; exact es)) (fun h3 P => ⟨P.1.1, ?_⟩)
    have p3 := P.2.2.1
    have o1 : (1 : Int32).toInt = 1 := rfl
    have d1 : 1 ≤ (h_i h3 1 35).toInt := by show 1 ≤ pd h3; omega
    have d7 : (h_i h3 1 35).toInt ≤ 7 := (dp_in7 P.1).2
    have e3 : (h_i h3 1 35 - 1).toInt = (h_i h3 1 35).toInt - 1 := by rw [tx_sub (by rw [o1]; omega) (by rw [o1]; omega), o1]
    refine Cv.mono (c_say (d + e) (i35 P.1 ⟨by rw [e3]; show (0 : Int) ≤ _; omega, by rw [e3]; show _ ≤ (7 : Int); omega⟩) 33 ?_) (fun h5 S => ⟨S.1.1, Pe.nt I q G2 b2 d2 d5 P S⟩)
    rw [f_ne (by decide)]
    exact P.room k.1 Q2
/-! all depths -/
theorem Rd.up {s : Nat} {D : Int} {C : Nat → Hp_ → (Hp_ → Prop) → Prop} (A : Rd s D C) (j : Nat) : Rd s D (fun d => C (d + j)) := fun d h I q a b => A (d + j) h I q a b
theorem c_sums (s : Nat) (hs : s = 1 ∨ s = 2) : ∀ (g : Nat), g ≤ 6 → Rd s (6 - (g : Int)) (fun d h K => Cv (m_X12_sum (d + (10 * g + 10) + 53) 0 0) [.ref 1] h K) := by
  intro g
  induction g with
  | zero =>
    intro _
    refine c_sum s _ _ (c_term s _ _ ?_)
    exact c_atom s 0 _ hs (fun n => absurd n (by decide))
  | succ g ih =>
    intro hg
    refine c_sum s _ _ (c_term s _ _ ?_)
    have := c_atom s (10 * g + 10) (6 - ((g + 1 : Nat) : Int)) hs (fun _ => by rw [show (6 - ((g + 1 : Nat) : Int)) + 1 = 6 - (g : Int) by omega]; exact ih (by omega))
    intro d h I q a b
    have t := this d h I q a b
    dsimp only at t
    rw [show d + (10 * g + 10) + 61 = d + (10 * (g + 1) + 10) + 51 by omega] at t
    exact t
theorem c_units (s : Nat) (hs : s = 1 ∨ s = 2) : ∀ (g : Nat), g ≤ 6 → Rd s (6 - (g : Int)) (fun d h K => Cv (m_X12_unit (d + (10 * g + 10) + 65) 0 0) [.ref 1] h K) := by
  intro g
  induction g with
  | zero =>
    intro _
    exact c_unit s _ _ (c_sums s hs 0 (by decide)) (fun n => absurd n (by decide))
  | succ g ih =>
    intro hg
    refine c_unit s _ _ (c_sums s hs (g + 1) hg) (fun _ => ?_)
    rw [show (6 - ((g + 1 : Nat) : Int)) + 1 = 6 - (g : Int) by omega]
    intro d h I q a b
    have t := ih (by omega) d h I q a b
    dsimp only at t
    rw [show d + (10 * g + 10) + 65 = d + (10 * (g + 1) + 10) + 55 by omega] at t
    exact t
/-- at depth 0: a sum, a condition, a condition whose first sum stands -/
theorem r_sum (s : Nat) (hs : s = 1 ∨ s = 2) : Rd s 0 (fun d h K => Cv (m_X12_sum (d + 133) 0 0) [.ref 1] h K) := by
  intro d h I q a b
  have t := c_sums s hs 6 (by decide) (d + 10) h I q (by omega) b
  dsimp only at t
  rw [show d + 10 + (10 * 6 + 10) + 53 = d + 133 by omega] at t
  exact t
theorem r_unit (s : Nat) (hs : s = 1 ∨ s = 2) : Rd s 0 (fun d h K => Cv (m_X12_unit (d + 80 + 55) 0 0) [.ref 1] h K) := by
  intro d h I q a b
  have t := c_units s hs 6 (by decide) d h I q (by omega) b
  exact t
end
