/-! the class's tick -/
theorem aw_Vk {M M' : Mc_} {K : Option Value → Hp_ → Prop} {kc ks pc n idx ci N a : Nat} {lv : List (Nat × Value)} {rest : List Value} {h : Hp_} {c : Ctr} {T : u_T} (vs : List Value) (hC : Hc M' c) (ma : am h (vs.reverse ++ [.ref a]) c.1) (I : Iv h) (hp : hm h c.2.1) (hd : decode (mC M) pc = .ok (.invokevirtual idx, 3)) (hm : cV_ M' n) (hkc : kc_ ci (mY M').cls T N) (hs : h_sh h a = some (ci + 10, N)) (hlk : Cond.methodLink (mY M).cls idx (mY M') ∈ lw_g) (hn : vs.length = n) (hc : (rest.map (fun v => v.category)).sum ≤ 8) (hz : ((mR M').frames + 1 ≤ (mR M).frames ∧ 8 + (mN M' + 11) + (mR M').locals ≤ (mR M).locals) ∧ (mR M').cells = 0 ∧ (mR M').slots = 0 ∧ xs_ M) (hk : kc ≤ (mR M).cells ∧ ks ≤ (mR M).slots)
    (k : ∀ v h', Kc c.2.2.2.2 h c.2.2.1 c.2.2.2.1 v h' → AW M kc ks (pc + 3) lv (v.toList ++ rest) h' K) : AW M kc ks pc lv (vs.reverse ++ .ref a :: rest) h K := by
  have C := hC _ h ma I hp
  rw [List.reverse_append, List.reverse_reverse, List.reverse_singleton, List.singleton_append] at C
  exact aw_callV hd hm.1 hkc hs hm.2.1 hm.2.2 hlk hn hz.1 hc ⟨by rw [hz.2.1]; exact hk.1, by rw [hz.2.2.1]; exact hk.2⟩ hz.2.2.2 C (fun v h' kv => by rw [hz.2.1, hz.2.2.1]; exact k v h' kv)
/-- what stands while the minutes pass -/
def Tk (h0 : Hp_) (c N : Nat) (y : Int32) (h : Hp_) : Prop := Iv h ∧ Mf wsX h0 h ∧ h_r h 0 15 = some c ∧ h_sh h c = some (3, N) ∧ h_i h 0 0 = y
def tK (h0 : Hp_) (c N : Nat) (F : Int) : Option Value → Hp_ → Prop := kI (fun r h' => Iv h' ∧ Mf wsX h0 h' ∧ h_r h' 0 15 = some c ∧ h_sh h' c = some (3, N) ∧ r = h_i h' 0 0 ∧ (h_i h' 0 0).toInt = F)
theorem tk_fr {h0 h h' : Hp_} {c N : Nat} {y : Int32} (t : Tk h0 c N y h) (I : Iv h') (f : Fr wz_X11_goOn h h') : Tk h0 c N y h' :=
  ⟨I, t.2.1.tr (Mf.fr (by decide +kernel) f), by rw [(f.2 0 15 (by decide +kernel)).2.2]; exact t.2.2.1, by rw [f.1]; exact t.2.2.2.1, by rw [(f.2 0 0 (by decide +kernel)).1]; exact t.2.2.2.2⟩
theorem tk_in {F : Int} (d mc ms kc ks : Nat) (hk : kc ≤ mc ∧ ks ≤ ms) (h0 : Hp_) (c N : Nat) (x1 x2 y : Int32)
    (O : ∀ h, Tk h0 c N y h → AW (m_X11_tick (d + 8) mc ms) kc ks 112 [(0, .ref 0), (1, .int x1), (2, .int x2)] [] h (tK h0 c N F)) :
    ∀ (r : Nat) (x3 : Int32) (h : Hp_), 0 ≤ x3.toInt → 12 - x3.toInt ≤ r → Tk h0 c N y h → AW (m_X11_tick (d + 8) mc ms) kc ks 67 [(0, .ref 0), (1, .int x1), (2, .int x2), (3, .int x3)] [] h (tK h0 c N F) := by
  have t1 : (1 : Int32).toInt = 1 := rfl
  intro r
  induction r with
  | zero =>
    intro x3 h p3 m3 t
    have I := t.1
    have w := I.1
    have e7 : rin (h_i h 0 7).toInt (0, 12) := by
      have := I.2.1 0 7
      rwa [show tf 0 7 = (0, 12) by decide +kernel] at this
    have e71 : (h_i h 0 7).toInt ≤ 12 := e7.2
    refine aw_iload_n (i := 3) rfl d_X11_tick_67 3 rfl ?_
    refine aw_aload_n (i := 0) rfl d_X11_tick_68 0 rfl ?_
    refine aw_geti (k0 := 7) kc_11 (ws_0 w) (Nat.le_of_ble_eq_true rfl) tw_494 d_X11_tick_69 rfl ?_
    refine aw_icmp_ge (tgt := 112) d_X11_tick_72 rfl (fun _ => aw_lvp [0, 1, 2] _ rfl (O h t)) (fun z => ?_)
    have z := q_nle z
    omega
  | succ r ih =>
    intro x3 h p3 m3 t
    have I := t.1
    have w := I.1
    have e7 : rin (h_i h 0 7).toInt (0, 12) := by
      have := I.2.1 0 7
      rwa [show tf 0 7 = (0, 12) by decide +kernel] at this
    have e71 : (h_i h 0 7).toInt ≤ 12 := e7.2
    refine aw_iload_n (i := 3) rfl d_X11_tick_67 3 rfl ?_
    refine aw_aload_n (i := 0) rfl d_X11_tick_68 0 rfl ?_
    refine aw_geti (k0 := 7) kc_11 (ws_0 w) (Nat.le_of_ble_eq_true rfl) tw_494 d_X11_tick_69 rfl ?_
    refine aw_icmp_ge (tgt := 112) d_X11_tick_72 rfl (fun _ => aw_lvp [0, 1, 2] _ rfl (O h t)) (fun z => ?_)
    have z := q_nle z
    have e1 : (x3 + 1).toInt = x3.toInt + 1 := tx_add (by rw [t1]; omega) (by rw [t1]; omega)
    have on : ∀ (v : Value) (h' : Hp_), Tk h0 c N y h' → AW (m_X11_tick (d + 8) mc ms) kc ks 106 [(0, .ref 0), (1, .int x1), (2, .int x2), (3, .int x3), (4, v)] [] h' (tK h0 c N F) := by
      intro v h' t'
      refine aw_lvp [0, 1, 2, 3] [(0, .ref 0), (1, .int x1), (2, .int x2), (3, .int x3)] rfl ?_
      refine aw_iinc (v := (x3 + 1)) [(0, .ref 0), (1, .int x1), (2, .int x2), (3, .int (x3 + 1))] d_X11_tick_106 3 rfl rfl (Nat.le_of_ble_eq_true rfl) rfl rfl ?_
      refine aw_goto (tgt := 67) d_X11_tick_109 rfl ?_
      exact ih (x3 + 1) h' (by omega) (by omega) t'
    refine aw_aload_n (i := 0) rfl d_X11_tick_75 0 rfl ?_
    refine aw_getr (k0 := 6) kc_11 (ws_0 w) (Nat.le_of_ble_eq_true rfl) tw_493 d_X11_tick_76 rfl (wr_0_6 w) ?_
    refine aw_iload_n (i := 3) rfl d_X11_tick_79 3 rfl ?_
    have hv : vp_in x3 12 := dp_in (lo := 0) (hi := 11) ⟨p3, by show _ ≤ (11 : Int); omega⟩ (by decide) (by decide)
    rcases I.2.2.1 x3.toNatClampNeg with q | ⟨b, q, hb⟩
    · refine aw_aaldn (ws_15 w) hv q d_X11_tick_80 ?_
      refine aw_astoreN (i := 4) [(0, .ref 0), (1, .int x1), (2, .int x2), (3, .int x3), (4, .null)] d_X11_tick_81 (Nat.le_of_ble_eq_true rfl) rfl rfl ?_
      refine aw_aloadN (i := 4) d_X11_tick_83 4 rfl ?_
      refine aw_ifnullN (tgt := 106) d_X11_tick_85 rfl ?_
      exact on _ h t
    · refine aw_aaldr (ws_15 w) hv q d_X11_tick_80 ?_
      refine aw_astore (i := 4) [(0, .ref 0), (1, .int x1), (2, .int x2), (3, .int x3), (4, .ref b)] d_X11_tick_81 (Nat.le_of_ble_eq_true rfl) rfl rfl ?_
      refine aw_aload d_X11_tick_83 4 rfl ?_
      refine aw_ifnull d_X11_tick_85 ?_
      refine aw_aload d_X11_tick_88 4 rfl ?_
      refine aw_geti (k0 := 7) kc_2 hb.2.2 (Nat.le_of_ble_eq_true rfl) tw_587 d_X11_tick_90 rfl ?_
      refine aw_aload_n (i := 0) rfl d_X11_tick_93 0 rfl ?_
      refine aw_geti (k0 := 0) kc_11 (ws_0 w) (Nat.le_of_ble_eq_true rfl) tw_487 d_X11_tick_94 rfl ?_
      refine aw_icmp_ne (tgt := 106) d_X11_tick_97 rfl (fun _ => on _ h t) (fun _ => ?_)
      refine aw_aload_n (i := 0) rfl d_X11_tick_100 0 rfl ?_
      refine aw_aload d_X11_tick_101 4 rfl ?_
      refine aw_Vk (M' := m_X11_goOn (d + 7) 0 0) [.ref b] (hc_X11_goOn d) ⟨⟨b, rfl, hb⟩, rfl, trivial⟩ I (fun p hp => ?_) d_X11_tick_103 (cV_X11_goOn (d + 7) 0 0) kc_11 (ws_0 w) tw_1015 rfl (Nat.le_of_ble_eq_true rfl) ⟨⟨show d + 7 + 1 ≤ d + 8 by omega, show 8 + (_ + 11) + 100 * (d + 7) ≤ 100 * (d + 8) from Nat.le_trans (Nat.add_le_add_right (Nat.le_of_ble_eq_true rfl : 8 + (_ + 11) ≤ 100) _) (by omega)⟩, rfl, rfl, xs0⟩ hk (fun v h' kv => ?_)
      · rw [mem1 hp]
        exact ⟨show (1 : Int) ≤ (h_i h 0 7).toInt by omega, e71⟩
      · have ev : v = none := kv.2.2.2
        subst ev
        exact on _ h' (tk_fr t kv.1 kv.2.1)
theorem tk_out {F : Int} (d mc ms kc ks : Nat) (hk : kc ≤ mc ∧ ks ≤ ms) (h0 : Hp_) (c N : Nat) (x1 : Int32) (hx1 : rin x1.toInt (0, 1500)) (hN : N ≤ 20000) :
    ∀ (r : Nat) (x2 y : Int32) (h : Hp_), 0 ≤ x2.toInt → x1.toInt - x2.toInt ≤ r → x2.toInt ≤ x1.toInt → 0 ≤ y.toInt → (y.toInt + (x1.toInt - x2.toInt) ≤ (N : Int) ∧ y.toInt + (x1.toInt - x2.toInt) = F) → Tk h0 c N y h → AW (m_X11_tick (d + 8) mc ms) kc ks 37 [(0, .ref 0), (1, .int x1), (2, .int x2)] [] h (tK h0 c N F) := by
  have t1 : (1 : Int32).toInt = 1 := rfl
  have b0 : 0 ≤ x1.toInt := hx1.1
  have b1 : x1.toInt ≤ 1500 := hx1.2
  intro r
  induction r with
  | zero =>
    intro x2 y h p2 m2 u2 py my t
    have w := t.1.1
    refine aw_iload_n (i := 2) rfl d_X11_tick_37 2 rfl ?_
    refine aw_iload_n (i := 1) rfl d_X11_tick_38 1 rfl ?_
    refine aw_icmp_ge (tgt := 118) d_X11_tick_39 rfl (fun _ => ?_) (fun z => by have z := q_nle z; omega)
    refine aw_aload_n (i := 0) rfl d_X11_tick_118 0 rfl ?_
    refine aw_geti (k0 := 0) kc_11 (ws_0 w) (Nat.le_of_ble_eq_true rfl) tw_487 d_X11_tick_119 rfl ?_
    exact aw_iret rfl d_X11_tick_122 hk ⟨_, rfl, t.1, t.2.1, t.2.2.1, t.2.2.2.1, rfl, by rw [t.2.2.2.2]; omega⟩
  | succ r ih =>
    intro x2 y h p2 m2 u2 py my t
    have I := t.1
    have w := I.1
    refine aw_iload_n (i := 2) rfl d_X11_tick_37 2 rfl ?_
    refine aw_iload_n (i := 1) rfl d_X11_tick_38 1 rfl ?_
    refine aw_icmp_ge (tgt := 118) d_X11_tick_39 rfl (fun zz => ?_) (fun z => ?_)
    · have zz := q_le.mp zz
      refine aw_aload_n (i := 0) rfl d_X11_tick_118 0 rfl ?_
      refine aw_geti (k0 := 0) kc_11 (ws_0 w) (Nat.le_of_ble_eq_true rfl) tw_487 d_X11_tick_119 rfl ?_
      exact aw_iret rfl d_X11_tick_122 hk ⟨_, rfl, t.1, t.2.1, t.2.2.1, t.2.2.2.1, rfl, by rw [t.2.2.2.2]; omega⟩
    · have z := q_nle z
      have ey := t.2.2.2.2
      have e1 : (y + 1).toInt = y.toInt + 1 := tx_add (by rw [t1]; omega) (by rw [t1]; omega)
      have e2 : (x2 + 1).toInt = x2.toInt + 1 := tx_add (by rw [t1]; omega) (by rw [t1]; omega)
      refine aw_aload_n (i := 0) rfl d_X11_tick_42 0 rfl ?_
      refine aw_getr (k0 := 15) kc_11 (ws_0 w) (Nat.le_of_ble_eq_true rfl) tw_502 d_X11_tick_43 rfl t.2.2.1 ?_
      refine aw_aload_n (i := 0) rfl d_X11_tick_46 0 rfl ?_
      refine aw_geti (k0 := 0) kc_11 (ws_0 w) (Nat.le_of_ble_eq_true rfl) tw_487 d_X11_tick_47 rfl ?_
      refine aw_vi (v2 := y) ey ?_
      refine aw_aload_n (i := 0) rfl d_X11_tick_50 0 rfl ?_
      refine aw_getl (k0 := 14) kc_11 (ws_0 w) (Nat.le_of_ble_eq_true rfl) tw_501 d_X11_tick_51 rfl ?_
      refine aw_last t.2.2.2.1 (dp_in (lo := 0) (hi := (N : Int) - 1) ⟨py, by show _ ≤ (N : Int) - 1; omega⟩ (by omega) (by omega)) d_X11_tick_54 ?_
      have I1 : Iv (h_lm h c y.toNatClampNeg (h_l h 0 14)) := I.lm
      generalize hg : h_lm h c y.toNatClampNeg (h_l h 0 14) = h1 at I1 ⊢
      have s1 : h_sh h1 = h_sh h := by rw [← hg]; rfl
      have i1 : h_i h1 = h_i h := by rw [← hg]; rfl
      have r1 : h_r h1 = h_r h := by rw [← hg]; rfl
      refine aw_aload_n (i := 0) rfl d_X11_tick_55 0 rfl ?_
      refine aw_dup d_X11_tick_56 rfl ?_
      refine aw_geti (k0 := 0) kc_11 (ws_0 I1.1) (Nat.le_of_ble_eq_true rfl) tw_487 d_X11_tick_57 rfl ?_
      refine aw_iconst (v := 1) d_X11_tick_60 ic_1 ?_
      refine aw_iadd d_X11_tick_61 ?_
      refine aw_vi (v2 := y + 1) (by rw [i1, ey]) ?_
      refine aw_puti (k0 := 0) kc_11 (ws_0 I1.1) (Nat.le_of_ble_eq_true rfl) tw_487 d_X11_tick_62 rfl rfl nf_i ?_
      have I2 : Iv (h_im h1 0 0 (y + 1)) := Iv_now I1 ⟨by show (0 : Int) ≤ _; omega, by show _ ≤ (20000 : Int); omega⟩ (fun c' N' a1 a2 => by
        rw [r1, t.2.2.1] at a1
        cases a1
        rw [s1, t.2.2.2.1] at a2
        cases a2
        omega)
      refine aw_iconst (v := 0) d_X11_tick_65 ic_0 ?_
      refine aw_istore_n (i := 3) rfl [(0, .ref 0), (1, .int x1), (2, .int x2), (3, .int 0)] d_X11_tick_66 (Nat.le_of_ble_eq_true rfl) rfl rfl ?_
      refine tk_in d mc ms kc ks hk h0 c N x1 x2 (y + 1) (fun h' t' => ?_) 12 0 _ (by decide) (by decide) ⟨I2, ⟨fun k => ?_, fun a h1' h2' k => ?_, ?_, fun a k ha hw => ?_⟩, ?_, ?_, ?_⟩
      · refine aw_iinc (v := (x2 + 1)) [(0, .ref 0), (1, .int x1), (2, .int (x2 + 1))] d_X11_tick_112 2 rfl rfl (Nat.le_of_ble_eq_true rfl) rfl rfl ?_
        refine aw_goto (tgt := 37) d_X11_tick_115 rfl ?_
        exact ih (x2 + 1) (y + 1) h' (by omega) (by omega) (by omega) (by omega) (by omega) t'
      · rw [h_i_im, if_neg (fun z => absurd z.1 (by decide)), i1]; exact t.2.1.1 k
      · rw [h_i_im, if_neg (fun z => by omega), i1]; exact t.2.1.2.1 a h1' h2' k
      · show h_sh h1 2 = _
        rw [s1]; exact t.2.1.2.2.1
      · exact ⟨by rw [h_i_im, if_neg (fun z => by rw [z.1, z.2] at hw; exact absurd hw (by decide +kernel)), i1]; exact (t.2.1.2.2.2 a k ha hw).1, by show h_r h1 a k = _; rw [r1]; exact (t.2.1.2.2.2 a k ha hw).2⟩
      · show h_r h1 0 15 = _
        rw [r1]; exact t.2.2.1
      · show h_sh h1 c = _
        rw [s1]; exact t.2.2.2.1
      · rw [h_i_im, if_pos ⟨rfl, rfl⟩]
/-- what a tick costs: nothing, or a row at least twice as long, or the longest -/
def hcost (mc ms N N' : Nat) : Prop := (mc = 0 ∧ ms = 0 ∧ N' = N) ∨ (mc = 1 ∧ ms = N' ∧ N < N' ∧ (2 * N ≤ N' ∨ N' = 20000))
theorem c_tick (d : Nat) {h : Hp_} (I : Iv h) (x : Int32) {c N : Nat} (hc : h_r h 0 15 = some c) (hs : h_sh h c = some (3, N)) (hN : N ≤ 20000) : ∃ mc ms N', N' ≤ 20000 ∧ hcost mc ms N N' ∧ Ci (m_X11_tick (d + 8) mc ms) [.ref 0, .int x] h (fun r h' => Iv h' ∧ Mf wsX h h' ∧ (∃ c', h_r h' 0 15 = some c' ∧ h_sh h' c' = some (3, N')) ∧ otk (h_i h 0 0) x r (h_i h' 0 0)) := by
  have w := I.1
  have t20 : (20000 : Int32).toInt = 20000 := rfl
  have t15 : (1500 : Int32).toInt = 1500 := rfl
  have t0 : (0 : Int32).toInt = 0 := rfl
  have nr : rin (h_i h 0 0).toInt (0, 20000) := by
    have := I.2.1 0 0
    rwa [show tf 0 0 = (0, 20000) by decide +kernel] at this
  have n0 : 0 ≤ (h_i h 0 0).toInt := nr.1
  have n1 : (h_i h 0 0).toInt ≤ 20000 := nr.2
  by_cases ok : (0 ≤ x ∧ x ≤ 1500) ∧ (h_i h 0 0).toInt + x.toInt ≤ 20000
  · have x0 : 0 ≤ x.toInt := by have := q_le.mp ok.1.1; omega
    have x1 : x.toInt ≤ 1500 := by have := q_le.mp ok.1.2; omega
    have es : (h_i h 0 0 + x).toInt = (h_i h 0 0).toInt + x.toInt := tx_add (by omega) (by omega)
    have en : h_i h 0 0 + x = Int32.ofNat ((h_i h 0 0).toInt + x.toInt).toNat := by
      refine Int32.toInt_inj.mp ?_
      rw [on_i (by omega), es]
      omega
    have go : ∀ mc ms N' : Nat, N' ≤ 20000 → (h_i h 0 0).toInt + x.toInt ≤ (N' : Int) → Cv (m_X11_makeHistory (d + 7) mc ms) [.ref 0, .int (Int32.ofNat ((h_i h 0 0).toInt + x.toInt).toNat)] h (fun h' => Iv h' ∧ Mf wsX h h' ∧ h_i h' 0 = h_i h 0 ∧ ∃ c', h_r h' 0 15 = some c' ∧ h_sh h' c' = some (3, N')) →
        Ci (m_X11_tick (d + 8) mc ms) [.ref 0, .int x] h (fun r h' => Iv h' ∧ Mf wsX h h' ∧ (∃ c', h_r h' 0 15 = some c' ∧ h_sh h' c' = some (3, N')) ∧ otk (h_i h 0 0) x r (h_i h' 0 0)) := by
      intro mc ms N' lN' gN' hm
      refine Ct.of (fun _ _ _ => trivial) rfl (Nat.le_of_ble_eq_true rfl) ?_
      show AW (m_X11_tick (d + 8) mc ms) 0 0 0 [(0, .ref 0), (1, .int x)] [] h (kI _)
      refine aw_iload_n (i := 1) rfl d_X11_tick_0 1 rfl ?_
      refine aw_iconst (v := 0) d_X11_tick_1 ic_0 ?_
      refine aw_sipush (v := 1500) d_X11_tick_2 is_1500 ?_
      refine aw_Si [.int x, .int 0, .int 1500] [] d_X11_tick_5 (cS_X11_within (d + 7) 0 0) tw_543 rfl ⟨⟨show d + 7 + 1 ≤ d + 8 by omega, show 8 + (3 + 11) + 100 * (d + 7) ≤ 100 * (d + 8) by omega⟩, Nat.zero_le _, Nat.zero_le _⟩ (by decide) xs0 (s_X11_within (d + 7) h x 0 1500) (fun _ _ kk => ?_)
      obtain ⟨e1, e2⟩ := kk
      rw [e1, e2]
      refine aw_ifb_eq (tgt := 23) d_X11_tick_8 rfl (fun z => absurd ok.1 z) (fun _ => ?_)
      refine aw_aload_n (i := 0) rfl d_X11_tick_11 0 rfl ?_
      refine aw_geti (k0 := 0) kc_11 (ws_0 w) (Nat.le_of_ble_eq_true rfl) tw_487 d_X11_tick_12 rfl ?_
      refine aw_iload_n (i := 1) rfl d_X11_tick_15 1 rfl ?_
      refine aw_iadd d_X11_tick_16 ?_
      refine aw_sipush (v := 20000) d_X11_tick_17 is_20000 ?_
      refine aw_icmp_le (tgt := 25) d_X11_tick_20 rfl (fun _ => ?_) (fun z => by have := q_nle z; omega)
      refine aw_aload_n (i := 0) rfl d_X11_tick_25 0 rfl ?_
      refine aw_aload_n (i := 0) rfl d_X11_tick_26 0 rfl ?_
      refine aw_geti (k0 := 0) kc_11 (ws_0 w) (Nat.le_of_ble_eq_true rfl) tw_487 d_X11_tick_27 rfl ?_
      refine aw_iload_n (i := 1) rfl d_X11_tick_30 1 rfl ?_
      refine aw_iadd d_X11_tick_31 ?_
      refine aw_vi (v2 := Int32.ofNat ((h_i h 0 0).toInt + x.toInt).toNat) en ?_
      refine aw_Vv 0 [.int (Int32.ofNat ((h_i h 0 0).toInt + x.toInt).toNat)] [] d_X11_tick_32 (cV_X11_makeHistory (d + 7) mc ms) kc_11 (ws_0 w) tw_995 rfl ⟨⟨show d + 7 + 1 ≤ d + 8 by omega, show 8 + (3 + 11) + 100 * (d + 7) ≤ 100 * (d + 8) by omega⟩, show 0 + 0 + mc ≤ mc by omega, show 0 + 0 + ms ≤ ms by omega⟩ (by decide) xs0 hm (fun h1 kk => ?_)
      obtain ⟨I1, M1, i1, c', r1, s1⟩ := kk
      refine aw_iconst (v := 0) d_X11_tick_35 ic_0 ?_
      refine aw_istore_n (i := 2) rfl [(0, .ref 0), (1, .int x), (2, .int 0)] d_X11_tick_36 (Nat.le_of_ble_eq_true rfl) rfl rfl ?_
      refine AW.mono (tk_out (F := (h_i h 0 0).toInt + x.toInt) d mc ms _ _ ⟨show 0 + 0 + mc ≤ mc by omega, show 0 + 0 + ms ≤ ms by omega⟩ h c' N' x ⟨x0, x1⟩ lN' 1500 0 (h_i h 0 0) h1 (by decide) (by omega) (by omega) n0 (by omega) ⟨I1, M1, r1, s1, by rw [i1]⟩) (fun v h' q => ?_)
      obtain ⟨r, ev, q1, q2, q3, q4, q5, q6⟩ := q
      exact ⟨r, ev, q1, q2, ⟨c', q3, q4⟩, Or.inl ⟨ok, q5, q6⟩⟩
    rcases Nat.lt_or_ge N ((h_i h 0 0).toInt + x.toInt).toNat with g | g
    · refine ⟨1, hwant ((h_i h 0 0).toInt + x.toInt).toNat N, hwant ((h_i h 0 0).toInt + x.toInt).toNat N, by unfold hwant; omega, Or.inr ⟨rfl, rfl, by unfold hwant; omega, by unfold hwant; omega⟩, go 1 _ _ (by unfold hwant; omega) (by unfold hwant; omega) ?_⟩
      exact c_makeHistory1 (d + 5) I hc hs hN g (by omega)
    · refine ⟨0, 0, N, hN, Or.inl ⟨rfl, rfl, rfl⟩, go 0 0 N hN (by omega) ?_⟩
      exact Cv.mono (c_makeHistory0 (d + 5) 0 0 I hc hs hN g) (fun h' e => by rw [e]; exact ⟨I, Mf.rf h, rfl, c, hc, hs⟩)
  · refine ⟨0, 0, N, hN, Or.inl ⟨rfl, rfl, rfl⟩, ?_⟩
    have bad : ∀ lv, AW (m_X11_tick (d + 8) 0 0) 0 0 23 lv [] h (kI (fun r h' => Iv h' ∧ Mf wsX h h' ∧ (∃ c', h_r h' 0 15 = some c' ∧ h_sh h' c' = some (3, N)) ∧ otk (h_i h 0 0) x r (h_i h' 0 0))) := fun lv => by
      refine aw_iconst (v := -1) d_X11_tick_23 ic_m1 ?_
      exact aw_iret rfl d_X11_tick_24 ⟨Nat.le_refl _, Nat.le_refl _⟩ ⟨_, rfl, I, Mf.rf h, ⟨c, hc, hs⟩, Or.inr ⟨ok, rfl, rfl⟩⟩
    refine Ct.of (fun _ _ _ => trivial) rfl (Nat.le_of_ble_eq_true rfl) ?_
    show AW (m_X11_tick (d + 8) 0 0) 0 0 0 [(0, .ref 0), (1, .int x)] [] h (kI _)
    refine aw_iload_n (i := 1) rfl d_X11_tick_0 1 rfl ?_
    refine aw_iconst (v := 0) d_X11_tick_1 ic_0 ?_
    refine aw_sipush (v := 1500) d_X11_tick_2 is_1500 ?_
    refine aw_Si [.int x, .int 0, .int 1500] [] d_X11_tick_5 (cS_X11_within (d + 7) 0 0) tw_543 rfl ⟨⟨show d + 7 + 1 ≤ d + 8 by omega, show 8 + (3 + 11) + 100 * (d + 7) ≤ 100 * (d + 8) by omega⟩, Nat.zero_le _, Nat.zero_le _⟩ (by decide) xs0 (s_X11_within (d + 7) h x 0 1500) (fun _ _ kk => ?_)
    obtain ⟨e1, e2⟩ := kk
    rw [e1, e2]
    refine aw_ifb_eq (tgt := 23) d_X11_tick_8 rfl (fun _ => bad _) (fun z => ?_)
    have x0 : 0 ≤ x.toInt := by have := q_le.mp z.1; omega
    have x1 : x.toInt ≤ 1500 := by have := q_le.mp z.2; omega
    have es : (h_i h 0 0 + x).toInt = (h_i h 0 0).toInt + x.toInt := tx_add (by omega) (by omega)
    refine aw_aload_n (i := 0) rfl d_X11_tick_11 0 rfl ?_
    refine aw_geti (k0 := 0) kc_11 (ws_0 w) (Nat.le_of_ble_eq_true rfl) tw_487 d_X11_tick_12 rfl ?_
    refine aw_iload_n (i := 1) rfl d_X11_tick_15 1 rfl ?_
    refine aw_iadd d_X11_tick_16 ?_
    refine aw_sipush (v := 20000) d_X11_tick_17 is_20000 ?_
    refine aw_icmp_le (tgt := 25) d_X11_tick_20 rfl (fun y => ?_) (fun _ => bad _)
    have y := q_le.mp y
    exact absurd ⟨z, by omega⟩ ok
