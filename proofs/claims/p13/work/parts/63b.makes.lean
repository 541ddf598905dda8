/-! the history's row grows -/
section CPL
variable {M : Mc_} {kc ks pc : Nat} {lv : List (Nat × Value)} {rest : List Value} {h : Hp_} {K : Option Value → Hp_ → Prop}
theorem aw_copyl {a b n0 n1 idx : Nat} {n : Int32} (hs0 : h_sh h a = some (3, n0)) (hs1 : h_sh h b = some (3, n1)) (hn0 : ¬ n < 0) (h4 : n.toNatClampNeg ≤ n0) (h5 : n.toNatClampNeg ≤ n1) (hlk : Cond.methodLink (mY M).cls idx arraycopyName ∈ lw_g) (hfr : 1 ≤ (mR M).frames) (hlo : (rest.map (fun v => v.category)).sum + (nativeFrameWords "java/lang/System" "arraycopy" 5 + 11) ≤ (mR M).locals) (hd : decode (mC M) pc = .ok (.invokestatic idx, 3)) (k : ∀ f, AW M kc ks (pc + 3) lv rest (h_lw h b f) K) : AW M kc ks pc lv (.int n :: .int 0 :: .ref b :: .int 0 :: .ref a :: rest) h K := by
  intro l p e s m args below meth c dC dI cy A ad0 adV ad dom0 dom H locs ls hf hX hT hE hW hS hl ho hs
  obtain ⟨q0, hq0, hw0⟩ := h_W_get (cy := cy) (ad := ad) (h := h) (wd_in hW hs0)
  obtain ⟨q1, hq1, hw1⟩ := h_W_get (cy := cy) (ad := ad) (h := h) (wd_in hW hs1)
  rw [h_ce_arr hs0 (by decide)] at hw0
  rw [h_ce_arr hs1 (by decide)] at hw1
  have z0 : (0 : Int32).toNatClampNeg = 0 := by simp
  have hz0 : ¬ (0 : Int32) < 0 := by decide
  have g4 : (0 : Int32).toNatClampNeg + n.toNatClampNeg ≤ n0 := by rw [z0, Nat.zero_add]; exact h4
  have g5 : (0 : Int32).toNatClampNeg + n.toNatClampNeg ≤ n1 := by rw [z0, Nat.zero_add]; exact h5
  refine va_copyl (t0 := 3) (t1 := 3) (q0 := q0) (q1 := q1) (ty := .long) hf.1 hf.2.1 (hf.2.2.1.trans hl.1.symm) hf.2.2.2.2.2.1 (hf.2.2.2.2.2.2.2.1 _ hlk) (hf.2.2.2.2.2.2.2.1 _ tw_nat) (hf.2.2.2.2.2.2.2.1 _ tw_1013) (hf.2.2.2.2.2.2.2.1 _ tw_21) hf.2.2.2.2.2.2.2.2.1.1 hW.2.1 hW.2.2 hS hw0 hw1 rfl rfl rfl hz0 hz0 hn0 g4 g5 ?_ hfr (by rw [cat_cv]; exact hlo) hd (fun H1 locs1 hP1 hD1 hS1 => ?_)
  · intro i hi; trivial
  have hW1 : wd_ dC dI cy A ad dom (h_lw h b (va_cpy (h_l h a) (h_l h b) (0 : Int32).toNatClampNeg (0 : Int32).toNatClampNeg n.toNatClampNeg)) H1 := wd_l hW hq1 (ce_lw hs1) hP1 hD1
  exact k (va_cpy (h_l h a) (h_l h b) (0 : Int32).toNatClampNeg (0 : Int32).toNatClampNeg n.toNatClampNeg) l p e s m args below meth c dC dI cy A ad0 adV ad dom0 dom H1 locs1 ls hf hX hT hE hW1 hS1 hl ho (ok_t (ok_t (ok_t (ok_t (ok_t hs)))))
end CPL
theorem on_i {n : Nat} (h : n ≤ 20000) : (Int32.ofNat n).toInt = (n : Int) := Int32.toInt_ofNat_of_lt (by omega)
theorem on_c {n : Nat} (h : n ≤ 20000) : (Int32.ofNat n).toNatClampNeg = n := by
  show (Int32.ofNat n).toInt.toNat = n
  rw [on_i h]; rfl
theorem c_copyOf (d : Nat) {h : Hp_} {c N W b : Nat} (hs : h_sh h c = some (3, N)) (hb : h_sh h b = none) (hbl : b < 1000) (hNW : N < W) (hW : W ≤ 20000) : Ct (m_J7_copyOf_c38d5 (d + 1) 1 W) [.ref c, .int (Int32.ofNat W)] h (fun v h' => v = some (.ref b) ∧ ∃ f, h' = h_lw (h_nw h b 3 W) b f) := by
  have eW := on_i hW
  have eN := on_i (n := N) (by omega)
  have cW := on_c hW
  have cN := on_c (n := N) (by omega)
  have z : (0 : Int32).toInt = 0 := rfl
  have cb : c ≠ b := fun e => by rw [e, hb] at hs; cases hs
  refine Ct.of (fun _ _ _ => trivial) rfl (Nat.le_of_ble_eq_true rfl) ?_
  show AW (m_J7_copyOf_c38d5 (d + 1) 1 W) 0 0 0 [(0, .ref c), (1, .int (Int32.ofNat W))] [] h _
  refine aw_iload_n (i := 1) rfl d_J7_copyOf_c38d5_0 1 rfl ?_
  refine aw_aload_n (i := 0) rfl d_J7_copyOf_c38d5_1 0 rfl ?_
  refine aw_alen (t := 3) (n := N) (v := Int32.ofNat N) hs (by decide) rfl d_J7_copyOf_c38d5_2 ?_
  refine aw_icmp_ne (tgt := 14) d_J7_copyOf_c38d5_3 rfl (fun _ => ?_) (fun e => by have := congrArg Int32.toInt e; omega)
  refine aw_iload_n (i := 1) rfl d_J7_copyOf_c38d5_14 1 rfl ?_
  refine aw_newa (t := 3) (atype := .long) b W (by decide) rfl tw_426 hb hbl xs0 (fun y => by have := q_lt.mp y; omega) cW (show W * 8 ≤ 536870912 by omega) (show 0 + 1 ≤ 1 by omega) (show 0 + W ≤ W by omega) d_J7_copyOf_c38d5_15 ?_
  have s0 : h_sh (h_nw h b 3 W) c = some (3, N) := by rw [y_sh, if_neg cb]; exact hs
  have s1 : h_sh (h_nw h b 3 W) b = some (3, W) := by rw [y_sh, if_pos rfl]
  refine aw_astore_n (i := 2) rfl [(0, .ref c), (1, .int (Int32.ofNat W)), (2, .ref b)] d_J7_copyOf_c38d5_17 (Nat.le_of_ble_eq_true rfl) rfl rfl ?_
  refine aw_aload_n (i := 0) rfl d_J7_copyOf_c38d5_18 0 rfl ?_
  refine aw_iconst (v := 0) d_J7_copyOf_c38d5_19 ic_0 ?_
  refine aw_aload_n (i := 2) rfl d_J7_copyOf_c38d5_20 2 rfl ?_
  refine aw_iconst (v := 0) d_J7_copyOf_c38d5_21 ic_0 ?_
  refine aw_aload_n (i := 0) rfl d_J7_copyOf_c38d5_22 0 rfl ?_
  refine aw_alen (t := 3) (n := N) (v := Int32.ofNat N) s0 (by decide) rfl d_J7_copyOf_c38d5_23 ?_
  refine aw_iload_n (i := 1) rfl d_J7_copyOf_c38d5_24 1 rfl ?_
  refine aw_mmin d_J7_copyOf_c38d5_25 tw_1011 (show 1 ≤ d + 1 by omega) (Nat.le_trans (Nat.le_of_ble_eq_true rfl) (show 100 ≤ 100 * (d + 1) by omega)) ⟨show 0 + 1 ≤ 1 by omega, show 0 + W ≤ W by omega⟩ ?_
  refine aw_vi (v2 := Int32.ofNat N) (if_neg (fun y => by have := q_lt.mp y; omega)) ?_
  refine aw_copyl s0 s1 (fun y => by have := q_lt.mp y; omega) (by omega) (by omega) tw_1012 (show 1 ≤ d + 1 by omega) (show 0 + (nativeFrameWords "java/lang/System" "arraycopy" 5 + 11) ≤ 100 * (d + 1) from Nat.le_trans (by decide) (show 100 ≤ 100 * (d + 1) by omega)) d_J7_copyOf_c38d5_28 (fun f => ?_)
  refine aw_aload_n (i := 2) rfl d_J7_copyOf_c38d5_31 2 rfl ?_
  exact aw_aret rfl (Or.inr ⟨_, rfl⟩) d_J7_copyOf_c38d5_32 ⟨show 0 + 1 ≤ 1 by omega, show 0 + W ≤ W by omega⟩ ⟨rfl, f, rfl⟩
/-- how long the history's row is to be -/
def hwant (n N : Nat) : Nat := max n (min (2 * N) 20000)
theorem c_makeHistory0 (d mc ms : Nat) {h : Hp_} (I : Iv h) {c N n : Nat} (hc : h_r h 0 15 = some c) (hs : h_sh h c = some (3, N)) (hN : N ≤ 20000) (hn : n ≤ N) : Cv (m_X11_makeHistory (d + 2) mc ms) [.ref 0, .int (Int32.ofNat n)] h (fun h' => h' = h) := by
  have w := I.1
  have e1 := on_i hN
  have e2 := on_i (n := n) (by omega)
  refine Ct.of (fun _ _ _ => trivial) rfl (Nat.le_of_ble_eq_true rfl) ?_
  show AW (m_X11_makeHistory (d + 2) mc ms) 0 0 0 [(0, .ref 0), (1, .int (Int32.ofNat n))] [] h (kV _)
  refine aw_iload_n (i := 1) rfl d_X11_makeHistory_0 1 rfl ?_
  refine aw_aload_n (i := 0) rfl d_X11_makeHistory_1 0 rfl ?_
  refine aw_getr (k0 := 15) kc_11 (ws_0 w) (Nat.le_of_ble_eq_true rfl) tw_502 d_X11_makeHistory_2 rfl hc ?_
  refine aw_alen (t := 3) (n := N) (v := Int32.ofNat N) hs (by decide) rfl d_X11_makeHistory_5 ?_
  refine aw_icmp_le (tgt := 39) d_X11_makeHistory_6 rfl (fun _ => ?_) (fun y => by have := q_nle y; omega)
  exact aw_vret rfl d_X11_makeHistory_39 ⟨Nat.zero_le _, Nat.zero_le _⟩ ⟨rfl, rfl⟩
theorem c_makeHistory1 (d : Nat) {h : Hp_} (I : Iv h) {c N n : Nat} (hc : h_r h 0 15 = some c) (hs : h_sh h c = some (3, N)) (hN : N ≤ 20000) (hn : N < n) (hn2 : n ≤ 20000) : Cv (m_X11_makeHistory (d + 2) 1 (hwant n N)) [.ref 0, .int (Int32.ofNat n)] h (fun h' => Iv h' ∧ Mf wsX h h' ∧ h_i h' 0 = h_i h 0 ∧ ∃ c', h_r h' 0 15 = some c' ∧ h_sh h' c' = some (3, hwant n N)) := by
  have w := I.1
  have e1 := on_i hN
  have e2 := on_i (n := n) (by omega)
  have t2 : (2 : Int32).toInt = 2 := rfl
  have t20 : (20000 : Int32).toInt = 20000 := rfl
  have lW : hwant n N ≤ 20000 := by unfold hwant; omega
  have gW : N < hwant n N := by unfold hwant; omega
  have eW := on_i lW
  obtain ⟨g, g1, g2, g3⟩ := I.2.2.2.2.2.2.2.1 c N hc hs
  have k15 : g ≤ 15 := by
    rcases Nat.lt_or_ge 15 g with y | y
    · exfalso
      have p : 2 ^ 15 ≤ 2 ^ (g - 1) := Nat.pow_le_pow_right (by omega) (by omega)
      rw [pw15] at p
      rcases g2 with q | q | q
      · omega
      · omega
      · omega
    · exact y
  have hgW : 2 ^ g ≤ hwant n N ∨ hwant n N = 20000 := by
    rcases g2 with q | q | q
    · left; rw [q]; show 1 ≤ _; omega
    · rcases Nat.lt_or_ge 20000 (2 * N) with y | y
      · right; unfold hwant; omega
      · left
        rcases Nat.eq_zero_or_pos g with u | u
        · rw [u]; show 1 ≤ _; omega
        · have : 2 ^ g = 2 * 2 ^ (g - 1) := by rw [← Nat.pow_succ']; congr 1; omega
          rw [this]
          unfold hwant
          omega
    · omega
  have fb := g3 (420 + g) (Nat.le_refl _) (by omega)
  refine Ct.of (fun _ _ _ => trivial) rfl (Nat.le_of_ble_eq_true rfl) ?_
  show AW (m_X11_makeHistory (d + 2) 1 (hwant n N)) 0 0 0 [(0, .ref 0), (1, .int (Int32.ofNat n))] [] h (kV _)
  refine aw_iload_n (i := 1) rfl d_X11_makeHistory_0 1 rfl ?_
  refine aw_aload_n (i := 0) rfl d_X11_makeHistory_1 0 rfl ?_
  refine aw_getr (k0 := 15) kc_11 (ws_0 w) (Nat.le_of_ble_eq_true rfl) tw_502 d_X11_makeHistory_2 rfl hc ?_
  refine aw_alen (t := 3) (n := N) (v := Int32.ofNat N) hs (by decide) rfl d_X11_makeHistory_5 ?_
  refine aw_icmp_le (tgt := 39) d_X11_makeHistory_6 rfl (fun y => by have := q_le.mp y; omega) (fun _ => ?_)
  refine aw_iload_n (i := 1) rfl d_X11_makeHistory_9 1 rfl ?_
  refine aw_iconst (v := 2) d_X11_makeHistory_10 ic_2 ?_
  refine aw_aload_n (i := 0) rfl d_X11_makeHistory_11 0 rfl ?_
  refine aw_getr (k0 := 15) kc_11 (ws_0 w) (Nat.le_of_ble_eq_true rfl) tw_502 d_X11_makeHistory_12 rfl hc ?_
  refine aw_alen (t := 3) (n := N) (v := Int32.ofNat N) hs (by decide) rfl d_X11_makeHistory_15 ?_
  refine aw_imul d_X11_makeHistory_16 ?_
  have em : (2 * Int32.ofNat N).toInt = 2 * (N : Int) := by rw [tx_mul (by rw [t2]; omega) (by rw [t2]; omega), t2, e1]
  refine aw_sipush (v := 20000) d_X11_makeHistory_17 is_20000 ?_
  refine aw_mmin d_X11_makeHistory_20 tw_999 (show 1 ≤ d + 2 by omega) (Nat.le_trans (Nat.le_of_ble_eq_true rfl) (show 100 ≤ 100 * (d + 2) by omega)) ⟨Nat.zero_le _, Nat.zero_le _⟩ ?_
  refine aw_mmax d_X11_makeHistory_23 tw_1000 (show 1 ≤ d + 2 by omega) (Nat.le_trans (Nat.le_of_ble_eq_true rfl) (show 100 ≤ 100 * (d + 2) by omega)) ⟨Nat.zero_le _, Nat.zero_le _⟩ ?_
  refine aw_vi (v2 := Int32.ofNat (hwant n N)) (by
    refine Int32.toInt_inj.mp ?_
    rw [eW]
    unfold hwant
    split
    · rename_i y
      have y := q_lt.mp y
      split
      · rename_i z
        have z := q_lt.mp z
        omega
      · rename_i z
        have z := q_nlt z
        omega
    · rename_i y
      have y := q_nlt y
      split
      · rename_i z
        have z := q_lt.mp z
        omega
      · rename_i z
        have z := q_nlt z
        omega) ?_
  refine aw_istore_n (i := 2) rfl [(0, .ref 0), (1, .int (Int32.ofNat n)), (2, .int (Int32.ofNat (hwant n N)))] d_X11_makeHistory_26 (Nat.le_of_ble_eq_true rfl) rfl rfl ?_
  refine aw_aload_n (i := 0) rfl d_X11_makeHistory_27 0 rfl ?_
  refine aw_aload_n (i := 0) rfl d_X11_makeHistory_28 0 rfl ?_
  refine aw_getr (k0 := 15) kc_11 (ws_0 w) (Nat.le_of_ble_eq_true rfl) tw_502 d_X11_makeHistory_29 rfl hc ?_
  refine aw_iload_n (i := 2) rfl d_X11_makeHistory_32 2 rfl ?_
  refine aw_callS (vs := [.ref c, .int (Int32.ofNat (hwant n N))]) (rest := [.ref 0]) d_X11_makeHistory_33 (cS_J7_copyOf_c38d5 (d + 1) 1 (hwant n N)).1 (cS_J7_copyOf_c38d5 (d + 1) 1 (hwant n N)).2 tw_1001 rfl ⟨show d + 1 + 1 ≤ d + 2 by omega, show 8 + (3 + 11) + 100 * (d + 1) ≤ 100 * (d + 2) by omega⟩ (by decide) ⟨show 0 + 1 ≤ 1 by omega, show 0 + hwant n N ≤ hwant n N by omega⟩ xs0 (c_copyOf d hs fb (by omega) gW lW) (fun v h' kk => ?_)
  obtain ⟨ev, f, eh⟩ := kk
  rw [ev, eh]
  have s0 : h_sh (h_lw (h_nw h (420 + g) 3 (hwant n N)) (420 + g) f) 0 = some (21, 16) := by rw [h_sh_lw, y_sh, if_neg (by omega)]; exact ws_0 w
  refine aw_putr (k0 := 15) kc_11 s0 (Nat.le_of_ble_eq_true rfl) tw_502 d_X11_makeHistory_36 rfl rfl ?_
  have sh : ∀ a, h_sh (h_rm (h_lw (h_nw h (420 + g) 3 (hwant n N)) (420 + g) f) 0 15 (some (420 + g))) a = if a = 420 + g then some (3, hwant n N) else h_sh h a := fun a => by rw [h_sh_rm, h_sh_lw, y_sh]
  have hi : ∀ a k, a ≠ 420 + g → h_i (h_rm (h_lw (h_nw h (420 + g) 3 (hwant n N)) (420 + g) f) 0 15 (some (420 + g))) a k = h_i h a k := fun a k z => by
    rw [h_i_rm]
    show h_i (h_nw h (420 + g) 3 (hwant n N)) a k = _
    rw [y_i, if_neg z]
  have hr : ∀ a k, a ≠ 420 + g → ¬ (a = 0 ∧ k = 15) → h_r (h_rm (h_lw (h_nw h (420 + g) 3 (hwant n N)) (420 + g) f) 0 15 (some (420 + g))) a k = h_r h a k := fun a k z z2 => by
    rw [h_r_rm, if_neg z2]
    show h_r (h_nw h (420 + g) 3 (hwant n N)) a k = _
    rw [y_r, if_neg z]
  have h15 : h_r (h_rm (h_lw (h_nw h (420 + g) 3 (hwant n N)) (420 + g) f) 0 15 (some (420 + g))) 0 15 = some (420 + g) := by rw [h_r_rm, if_pos ⟨rfl, rfl⟩]
  exact aw_vret rfl d_X11_makeHistory_39 ⟨show 0 + 1 ≤ 1 by omega, show 0 + hwant n N ≤ hwant n N by omega⟩ ⟨rfl, Iv_hist I hc hs k15 hgW g3 lW (by omega) sh hi hr h15, ⟨fun k => hi 1 k (by omega), fun a h1 h2 k => hi a k (by omega), by rw [sh, if_neg (by omega)], fun a k ha hw => ⟨hi a k (by omega), hr a k (by omega) (fun z => by rw [z.1, z.2] at hw; exact absurd hw (by decide +kernel))⟩⟩, funext (fun k => hi 0 k (by omega)), 420 + g, h15, by rw [sh, if_pos rfl]⟩
