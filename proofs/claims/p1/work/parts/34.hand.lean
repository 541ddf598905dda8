/-! p1: by hand: the class's tick and constable -/
theorem Wf_nw {h : Hp_} {a t n : Nat} (w : Wf h) (hf : (shL.all (fun q => !(q.1 == a)) && rfL.all (fun q => !(q.1 == a))) = true) : Wf (h_nw h a t n) := by
  rw [Bool.and_eq_true] at hf
  refine ⟨fun q hq => ?_, fun q hq => ?_⟩
  · rw [h_sh_nw, if_neg]
    · exact w.1 q hq
    · intro z
      have h1 := List.all_eq_true.mp hf.1 q hq
      rw [z] at h1
      simp at h1
  · rw [h_r_nw, if_neg]
    · exact w.2 q hq
    · intro z
      have h1 := List.all_eq_true.mp hf.2 q hq
      rw [z] at h1
      simp at h1
theorem hi_nw {h : Hp_} {a t n b k : Nat} (hb : b ≠ a) : h_i (h_nw h a t n) b k = h_i h b k := by rw [h_i_nw, if_neg hb]
theorem set_self {α : Type} {l : List α} {i : Nat} {x : α} (h : l[i]? = some x) : l.set i x = l := by
  apply List.ext_getElem?
  intro k
  by_cases hk : k = i
  · subst hk
    rw [List.getElem?_set_self (List.getElem?_eq_some_iff.mp h).1, h]
  · rw [List.getElem?_set_ne (Ne.symm hk)]
section CPY
variable {M : Mc_} {kc ks pc : Nat} {lv : List (Nat × Value)} {rest : List Value} {h : Hp_} {K : Option Value → Hp_ → Prop}
theorem aw_copyl0 {a b n0 n1 idx : Nat} (hs0 : h_sh h a = some (3, n0)) (hs1 : h_sh h b = some (3, n1)) (hlk : Cond.methodLink (mY M).cls idx arraycopyName ∈ lw_g) (hnat : Cond.native arraycopyName ∈ lw_g) (hst : Cond.static arraycopyName ∈ lw_g) (hini : Cond.initialized "java/lang/System" ∈ lw_g) (hfr : 1 ≤ (mR M).frames) (hlo : (rest.map (fun v => v.category)).sum + (nativeFrameWords "java/lang/System" "arraycopy" 5 + 11) ≤ (mR M).locals) (hd : decode (mC M) pc = .ok (.invokestatic idx, 3)) (k : AW M kc ks (pc + 3) lv rest h K) : AW M kc ks pc lv (.int 0 :: .int 0 :: .ref b :: .int 0 :: .ref a :: rest) h K := by
  intro l p e s m args below meth c dC dI cy A ad0 adV ad dom0 dom H locs ls hf hX hT hE hW hS hl ho hs
  obtain ⟨q0, hq0, hw0⟩ := h_W_get (cy := cy) (ad := ad) (h := h) (wd_in hW hs0)
  obtain ⟨q1, hq1, hw1⟩ := h_W_get (cy := cy) (ad := ad) (h := h) (wd_in hW hs1)
  rw [h_ce_arr hs0 (by decide)] at hw0
  rw [h_ce_arr hs1 (by decide)] at hw1
  have hsr : ∀ v ∈ rest, h_ok dom v := ok_t (ok_t (ok_t (ok_t (ok_t hs))))
  refine va_copyl (t0 := 3) (t1 := 3) (q0 := q0) (q1 := q1) (ty := .long) hf.1 hf.2.1 (hf.2.2.1.trans hl.1.symm) hf.2.2.2.2.2.1 (hf.2.2.2.2.2.2.2.1 _ hlk) (hf.2.2.2.2.2.2.2.1 _ hnat) (hf.2.2.2.2.2.2.2.1 _ hst) (hf.2.2.2.2.2.2.2.1 _ hini) hf.2.2.2.2.2.2.2.2.1.1 hW.2.1 hW.2.2 hS hw0 hw1 rfl rfl rfl (by decide) (by decide) (by decide) (by simp) (by simp) (fun i hi => by simp at hi) hfr ?_ hd (fun H1 locs1 hP1 hD1 hS1 => ?_)
  · rw [List.map_map]
    have e : (fun v : Value => v.category) ∘ h_cv ad = fun v => v.category := funext fun v => cv_cat ad v
    rw [e]
    exact hlo
  · have ec : va_cpy (h_l h a) (h_l h b) (0 : Int32).toNatClampNeg (0 : Int32).toNatClampNeg (0 : Int32).toNatClampNeg = h_l h b := by
      funext j
      unfold va_cpy
      rw [if_neg (by simp)]
    have hw2 : (h_W cy ad h dom)[q1]? = some (ad b, .inl (cy 3, n1, .inr (.inl (h_l h b)))) := hw1
    rw [ec, set_self hw2] at hP1 hD1
    exact k l p e s m args below meth c dC dI cy A ad0 adV ad dom0 dom H1 locs1 ls hf hX hT hE ⟨hW.1, hP1, hD1⟩ hS1 hl ho hsr
end CPY
theorem tw_nat : Cond.native arraycopyName ∈ lw_g := lw_c5 54 (by decide +kernel) (by decide +kernel)
theorem hf_sh400 : h_sh HF 400 = some (3, 0) := by decide +kernel
theorem hf_r015 : h_r HF 0 15 = some 400 := by decide +kernel
theorem hf_n401 : h_sh HF 401 = none := by decide +kernel
theorem s_copyOf (d n : Nat) (h0 : 0 < n) (hn : n ≤ 1500) : Ct (m_J7_copyOf_c38d5 (d + 1) 1 1500) [.ref 400, .int (Int32.ofNat n)] HF (fun v h' => v = some (.ref 401) ∧ h' = h_nw HF 401 3 n) := by
  refine Ct.of (fun _ _ _ => trivial) rfl (Nat.le_of_ble_eq_true rfl) ?_
  show AW (m_J7_copyOf_c38d5 (d + 1) 1 1500) 0 0 0 [(0, .ref 400), (1, .int (Int32.ofNat n))] [] HF _
  refine aw_iload_n (i := 1) rfl d_J7_copyOf_c38d5_0 1 rfl ?_
  refine aw_aload_n (i := 0) rfl d_J7_copyOf_c38d5_1 0 rfl ?_
  refine aw_alen (t := 3) (n := 0) (v := 0) hf_sh400 (by decide) rfl d_J7_copyOf_c38d5_2 ?_
  refine aw_icmp_ne (tgt := 14) d_J7_copyOf_c38d5_3 rfl (fun _ => ?_) (fun c => absurd c (on_ne (j := 0) (by omega) (by decide) (by omega)))
  refine aw_iload_n (i := 1) rfl d_J7_copyOf_c38d5_14 1 rfl ?_
  refine aw_newa (t := 3) (atype := .long) 401 n (by decide) rfl tw_426 hf_n401 (by decide) xs0 (fun z => absurd ((on_lt (j := 0) (by omega) (by decide)).mp z) (by omega)) (on_nat (by omega)) (show n * 8 ≤ 536870912 by omega) (show 0 + 1 ≤ 1 by omega) (show 0 + n ≤ 1500 by omega) d_J7_copyOf_c38d5_15 ?_
  have s400 : h_sh (h_nw HF 401 3 n) 400 = some (3, 0) := ss_n hf_sh400 (by decide)
  have s401 : h_sh (h_nw HF 401 3 n) 401 = some (3, n) := by rw [h_sh_nw, if_pos rfl]
  refine aw_astore_n (i := 2) rfl [(0, .ref 400), (1, .int (Int32.ofNat n)), (2, .ref 401)] d_J7_copyOf_c38d5_17 (Nat.le_of_ble_eq_true rfl) rfl rfl ?_
  refine aw_aload_n (i := 0) rfl d_J7_copyOf_c38d5_18 0 rfl ?_
  refine aw_iconst (v := 0) d_J7_copyOf_c38d5_19 ic_0 ?_
  refine aw_aload_n (i := 2) rfl d_J7_copyOf_c38d5_20 2 rfl ?_
  refine aw_iconst (v := 0) d_J7_copyOf_c38d5_21 ic_0 ?_
  refine aw_aload_n (i := 0) rfl d_J7_copyOf_c38d5_22 0 rfl ?_
  refine aw_alen (t := 3) (n := 0) (v := 0) s400 (by decide) rfl d_J7_copyOf_c38d5_23 ?_
  refine aw_iload_n (i := 1) rfl d_J7_copyOf_c38d5_24 1 rfl ?_
  refine aw_mmin d_J7_copyOf_c38d5_25 tw_1011 (show 1 ≤ d + 1 by omega) (Nat.le_trans (Nat.le_of_ble_eq_true rfl) (show 100 ≤ 100 * (d + 1) by omega)) ⟨show 0 + 1 ≤ 1 by omega, show 0 + n ≤ 1500 by omega⟩ ?_
  refine aw_vi (v2 := 0) (if_neg (fun z => absurd ((on_lt (j := 0) (by omega) (by decide)).mp z) (by omega))) ?_
  refine aw_copyl0 s400 s401 tw_1012 tw_nat tw_1013 tw_21 (show 1 ≤ d + 1 by omega) (show 0 + (nativeFrameWords "java/lang/System" "arraycopy" 5 + 11) ≤ 100 * (d + 1) from Nat.le_trans (by decide) (show 100 ≤ 100 * (d + 1) by omega)) d_J7_copyOf_c38d5_28 ?_
  refine aw_aload_n (i := 2) rfl d_J7_copyOf_c38d5_31 2 rfl ?_
  exact aw_aret rfl (Or.inr ⟨_, rfl⟩) d_J7_copyOf_c38d5_32 ⟨show 0 + 1 ≤ 1 by omega, show 0 + n ≤ 1500 by omega⟩ ⟨rfl, rfl⟩
/-- the row of minutes is there: n places at the cell b -/
def hy_ (h : Hp_) (n : Nat) : Prop := Wf h ∧ FrM h ∧ h_i h 0 0 = 0 ∧ h_i h 0 7 = 0 ∧ ∃ b, 400 ≤ b ∧ b < 1000 ∧ h_r h 0 15 = some b ∧ ∃ N, n ≤ N ∧ N ≤ 1500 ∧ h_sh h b = some (3, N)
theorem s_makeHistory (d n : Nat) (hn : n ≤ 1500) : Cv (m_X11_makeHistory (d + 2) 1 1500) [.ref 0, .int (Int32.ofNat n)] HF (fun h' => hy_ h' n) := by
  have e00 : h_i HF 0 0 = 0 := by decide +kernel
  have e07 : h_i HF 0 7 = 0 := by decide +kernel
  refine Ct.of (fun _ _ _ => trivial) rfl (Nat.le_of_ble_eq_true rfl) ?_
  show AW (m_X11_makeHistory (d + 2) 1 1500) 0 0 0 [(0, .ref 0), (1, .int (Int32.ofNat n))] [] HF (kV _)
  refine aw_iload_n (i := 1) rfl d_X11_makeHistory_0 1 rfl ?_
  refine aw_aload_n (i := 0) rfl d_X11_makeHistory_1 0 rfl ?_
  refine aw_getr (k0 := 15) kc_11 (ws_0 wHF) (Nat.le_of_ble_eq_true rfl) tw_502 d_X11_makeHistory_2 rfl hf_r015 ?_
  refine aw_alen (t := 3) (n := 0) (v := 0) hf_sh400 (by decide) rfl d_X11_makeHistory_5 ?_
  refine aw_icmp_le (tgt := 39) d_X11_makeHistory_6 rfl (fun c => ?_) (fun c => ?_)
  · have h0 := (on_le (j := 0) (by omega) (by decide)).mp c
    exact aw_vret rfl d_X11_makeHistory_39 ⟨Nat.le_of_ble_eq_true rfl, Nat.le_of_ble_eq_true rfl⟩ ⟨rfl, wHF, fHF, e00, e07, 400, by decide, by decide, hf_r015, 0, by omega, by decide, hf_sh400⟩
  · have h0 : 0 < n := by
      rcases Nat.eq_zero_or_pos n with z | z
      · subst z; exact absurd (by decide) c
      · exact z
    refine aw_iload_n (i := 1) rfl d_X11_makeHistory_9 1 rfl ?_
    refine aw_iconst (v := 2) d_X11_makeHistory_10 ic_2 ?_
    refine aw_aload_n (i := 0) rfl d_X11_makeHistory_11 0 rfl ?_
    refine aw_getr (k0 := 15) kc_11 (ws_0 wHF) (Nat.le_of_ble_eq_true rfl) tw_502 d_X11_makeHistory_12 rfl hf_r015 ?_
    refine aw_alen (t := 3) (n := 0) (v := 0) hf_sh400 (by decide) rfl d_X11_makeHistory_15 ?_
    refine aw_imul d_X11_makeHistory_16 ?_
    refine aw_vi (v2 := 0) (by decide) ?_
    refine aw_sipush (v := 20000) d_X11_makeHistory_17 is_20000 ?_
    refine aw_mmin d_X11_makeHistory_20 tw_999 (show 1 ≤ d + 2 by omega) (Nat.le_trans (Nat.le_of_ble_eq_true rfl) (show 100 ≤ 100 * (d + 2) by omega)) ⟨Nat.le_of_ble_eq_true rfl, Nat.le_of_ble_eq_true rfl⟩ ?_
    refine aw_vi (v2 := 0) (by decide) ?_
    refine aw_mmax d_X11_makeHistory_23 tw_1000 (show 1 ≤ d + 2 by omega) (Nat.le_trans (Nat.le_of_ble_eq_true rfl) (show 100 ≤ 100 * (d + 2) by omega)) ⟨Nat.le_of_ble_eq_true rfl, Nat.le_of_ble_eq_true rfl⟩ ?_
    refine aw_vi (v2 := Int32.ofNat n) (if_neg (fun z => absurd ((on_lt (j := 0) (by omega) (by decide)).mp z) (by omega))) ?_
    refine aw_istore_n (i := 2) rfl [(0, .ref 0), (1, .int (Int32.ofNat n)), (2, .int (Int32.ofNat n))] d_X11_makeHistory_26 (Nat.le_of_ble_eq_true rfl) rfl rfl ?_
    refine aw_aload_n (i := 0) rfl d_X11_makeHistory_27 0 rfl ?_
    refine aw_aload_n (i := 0) rfl d_X11_makeHistory_28 0 rfl ?_
    refine aw_getr (k0 := 15) kc_11 (ws_0 wHF) (Nat.le_of_ble_eq_true rfl) tw_502 d_X11_makeHistory_29 rfl hf_r015 ?_
    refine aw_iload_n (i := 2) rfl d_X11_makeHistory_32 2 rfl ?_
    refine aw_callS (vs := [.ref 400, .int (Int32.ofNat n)]) (rest := [.ref 0]) d_X11_makeHistory_33 (cS_J7_copyOf_c38d5 (d + 1) 1 1500).1 (cS_J7_copyOf_c38d5 (d + 1) 1 1500).2 tw_1001 rfl ⟨show d + 1 + 1 ≤ d + 2 by omega, show 8 + (3 + 11) + 100 * (d + 1) ≤ 100 * (d + 2) by omega⟩ (by decide) ⟨Nat.le_of_ble_eq_true rfl, Nat.le_of_ble_eq_true rfl⟩ xs0 (s_copyOf d n h0 hn) (fun v h' kk => ?_)
    obtain ⟨e1, e2⟩ := kk
    rw [e1, e2]
    refine aw_putr (k0 := 15) kc_11 (ss_n (ws_0 wHF) (by decide)) (Nat.le_of_ble_eq_true rfl) tw_502 d_X11_makeHistory_36 rfl rfl ?_
    exact aw_vret rfl d_X11_makeHistory_39 ⟨Nat.le_of_ble_eq_true rfl, Nat.le_of_ble_eq_true rfl⟩ ⟨rfl, Wf_rm (Wf_nw wHF (by decide +kernel)) (by decide +kernel), FrM.rm (fHF.nw (by decide)), (by rw [h_i_rm, h_i_nw, if_neg (by decide)]; exact e00), (by rw [h_i_rm, h_i_nw, if_neg (by decide)]; exact e07), 401, by decide, by decide, by rw [h_r_rm, if_pos ⟨rfl, rfl⟩], n, Nat.le_refl _, hn, by rw [h_sh_rm, h_sh_nw, if_pos rfl]⟩
