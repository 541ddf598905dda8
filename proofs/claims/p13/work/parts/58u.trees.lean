/-! walkOf as a call by hand -/
theorem c_walkOf (d : Nat) {h : Hp_} (I : Iv h) (x1 x2 : Int32) (b : rin x2.toInt (0, 15)) : Ci (m_X12_walkOf (d + 0) 0 0) [.ref 1, .int x1, .int x2] h (fun r h' => Iv h' ∧ Fr wz_X12_walkOf h h' ∧ rin r.toInt (-1, 100000)) := by
  refine Ct.mono (hc_X12_walkOf d [.int x2, .int x1, .ref 1] h ⟨⟨x2, rfl, b, fun _ z => (nomatch z)⟩, ⟨x1, rfl, rtop_in _, fun _ z => (nomatch z)⟩, rfl, trivial⟩ I (fun _ z => (nomatch z))) (fun v h' q => ?_)
  obtain ⟨I', F', _, a, ea, r, er, br, _⟩ := q
  subst ea
  exact ⟨r, by rw [er], I', F', br⟩
theorem fr_i {ws : List Nat} {h h' : Hp_} (f : Fr ws h h') {a : Nat} (o : off ws a = true) (k : Nat) : h_i h' a k = h_i h a k := (f.2 a k (off_inw o k)).1
theorem t_X12_doesSee (d : Nat) (h : Hp_) (x1 : Int32) (x2 : Int32) (K : Int32 → Hp_ → Prop) (k : AW (m_X12_doesSee (d + 1) 0 0) 0 0 12 [(0, .ref 1), (1, .int x1), (2, .int x2), (3, .int 0), (4, .int 0), (5, .int (150 * x1))] [] h (kI K)) : Ci (m_X12_doesSee (d + 1) 0 0) [.ref 1, .int x1, .int x2] h K := by
  refine Ct.of (fun _ _ _ => trivial) rfl (Nat.le_of_ble_eq_true rfl) ?_
  show AW (m_X12_doesSee (d + 1) 0 0) 0 0 0 [(0, .ref 1), (1, .int x1), (2, .int x2)] [] h (kI K)
  refine aw_iconst (v := 0) d_X12_doesSee_0 ic_0 ?_
  refine aw_istore_n (i := 3) rfl [(0, .ref 1), (1, .int x1), (2, .int x2), (3, .int 0)] d_X12_doesSee_1 (Nat.le_of_ble_eq_true rfl) rfl rfl ?_
  refine aw_iconst (v := 0) d_X12_doesSee_2 ic_0 ?_
  refine aw_istore [(0, .ref 1), (1, .int x1), (2, .int x2), (3, .int 0), (4, .int 0)] d_X12_doesSee_3 (Nat.le_of_ble_eq_true rfl) rfl rfl ?_
  refine aw_sipush (v := 150) d_X12_doesSee_5 is_150 ?_
  refine aw_iload_n (i := 1) rfl d_X12_doesSee_8 1 rfl ?_
  refine aw_imul d_X12_doesSee_9 ?_
  refine aw_istore [(0, .ref 1), (1, .int x1), (2, .int x2), (3, .int 0), (4, .int 0), (5, .int (150 * x1))] d_X12_doesSee_10 (Nat.le_of_ble_eq_true rfl) rfl rfl ?_
  exact k
theorem t_X12_doesSee_12 (d : Nat) (h : Hp_) (w : Wf h) (x1 : Int32) (x2 : Int32) (x3 : Int32) (x4 : Int32) (x5 : Int32) (K : Int32 → Hp_ → Prop) (k : vp_in x1 12 ∧ ((((150 * x1) + (h_i h 227 x1.toNatClampNeg)) ≤ x5 → K 0 h) ∧ (¬ ((150 * x1) + (h_i h 227 x1.toNatClampNeg)) ≤ x5 → (1440 < x3 → K 0 h) ∧ (¬ 1440 < x3 → vp_in x5 1800 ∧ ((¬ (h_i h 228 x5.toNatClampNeg) = 1 → (¬ (h_i h 228 x5.toNatClampNeg) = 3 → vp_in x5 1800 ∧ (Ci (m_X12_walkOf (d + 0) 0 0) [.ref 1, .int x4, .int (h_i h 229 x5.toNatClampNeg)] h (fun r10 h8 => Wf h8 ∧ ((¬ r10 = (-1) → vp_in x5 1800 ∧ ((¬ (h_i h 228 x5.toNatClampNeg) = 2 → AW (m_X12_doesSee (d + 1) 0 0) 0 0 12 [(0, .ref 1), (1, .int x1), (2, .int x2), (3, .int (x3 + r10)), (4, .int (h_i h8 229 x5.toNatClampNeg)), (5, .int (x5 + 1))] [] h8 (kI K)) ∧ ((h_i h 228 x5.toNatClampNeg) = 2 → vp_in x5 1800 ∧ (AW (m_X12_doesSee (d + 1) 0 0) 0 0 12 [(0, .ref 1), (1, .int x1), (2, .int x2), (3, .int (if (x3 + r10) < (h_i h8 230 x5.toNatClampNeg) then (h_i h8 230 x5.toNatClampNeg) else (x3 + r10))), (4, .int (h_i h8 229 x5.toNatClampNeg)), (5, .int (x5 + 1))] [] h8 (kI K))))) ∧ (r10 = (-1) → AW (m_X12_doesSee (d + 1) 0 0) 0 0 12 [(0, .ref 1), (1, .int x1), (2, .int x2), (3, .int x3), (4, .int x4), (5, .int (x5 + 1))] [] h8 (kI K)))))) ∧ ((h_i h 228 x5.toNatClampNeg) = 3 → vp_in x2 8 ∧ ((¬ x4 = (h_i h 281 x2.toNatClampNeg) → AW (m_X12_doesSee (d + 1) 0 0) 0 0 12 [(0, .ref 1), (1, .int x1), (2, .int x2), (3, .int (x3 + 1)), (4, .int x4), (5, .int (x5 + 1))] [] h (kI K)) ∧ (x4 = (h_i h 281 x2.toNatClampNeg) → vp_in x2 8 ∧ (vp_in x2 8 ∧ ((¬ ((h_i h 282 x2.toNatClampNeg) ≤ (x3 + 1) ∧ (x3 + 1) ≤ (h_i h 283 x2.toNatClampNeg)) → AW (m_X12_doesSee (d + 1) 0 0) 0 0 12 [(0, .ref 1), (1, .int x1), (2, .int x2), (3, .int (x3 + 1)), (4, .int x4), (5, .int (x5 + 1))] [] h (kI K)) ∧ (((h_i h 282 x2.toNatClampNeg) ≤ (x3 + 1) ∧ (x3 + 1) ≤ (h_i h 283 x2.toNatClampNeg)) → K 1 h))))))) ∧ ((h_i h 228 x5.toNatClampNeg) = 1 → vp_in x5 1800 ∧ (AW (m_X12_doesSee (d + 1) 0 0) 0 0 12 [(0, .ref 1), (1, .int x1), (2, .int x2), (3, .int (x3 + (h_i h 229 x5.toNatClampNeg))), (4, .int x4), (5, .int (x5 + 1))] [] h (kI K)))))))) : AW (m_X12_doesSee (d + 1) 0 0) 0 0 12 [(0, .ref 1), (1, .int x1), (2, .int x2), (3, .int x3), (4, .int x4), (5, .int x5)] [] h (kI K) := by
  refine aw_iload d_X12_doesSee_12 5 rfl ?_
  refine aw_sipush (v := 150) d_X12_doesSee_14 is_150 ?_
  refine aw_iload_n (i := 1) rfl d_X12_doesSee_17 1 rfl ?_
  refine aw_imul d_X12_doesSee_18 ?_
  refine aw_aload_n (i := 0) rfl d_X12_doesSee_19 0 rfl ?_
  refine aw_getr (k0 := 38) kc_12 (ws_1 w) (Nat.le_of_ble_eq_true rfl) tw_1780 d_X12_doesSee_20 rfl (wr_1_38 w) ?_
  refine aw_iload_n (i := 1) rfl d_X12_doesSee_23 1 rfl ?_
  obtain ⟨b1, k⟩ := k
  refine aw_iald (ws_227 w) b1 d_X12_doesSee_24 ?_
  refine aw_iadd d_X12_doesSee_25 ?_
  refine aw_icmp_ge (tgt := 167) d_X12_doesSee_26 rfl (fun c2 => ?_) (fun c2 => ?_)
  · have k := k.1 c2
    refine aw_iconst (v := 0) d_X12_doesSee_167 ic_0 ?_
    exact aw_zret rfl rfl d_X12_doesSee_168 ⟨Nat.le_refl _, Nat.le_refl _⟩ ⟨_, rfl, k⟩
  · have k := k.2 c2
    refine aw_iload_n (i := 3) rfl d_X12_doesSee_29 3 rfl ?_
    refine aw_sipush (v := 1440) d_X12_doesSee_30 is_1440 ?_
    refine aw_icmp_gt (tgt := 167) d_X12_doesSee_33 rfl (fun c3 => ?_) (fun c3 => ?_)
    · have k := k.1 c3
      refine aw_iconst (v := 0) d_X12_doesSee_167 ic_0 ?_
      exact aw_zret rfl rfl d_X12_doesSee_168 ⟨Nat.le_refl _, Nat.le_refl _⟩ ⟨_, rfl, k⟩
    · have k := k.2 c3
      refine aw_aload_n (i := 0) rfl d_X12_doesSee_36 0 rfl ?_
      refine aw_getr (k0 := 39) kc_12 (ws_1 w) (Nat.le_of_ble_eq_true rfl) tw_1781 d_X12_doesSee_37 rfl (wr_1_39 w) ?_
      refine aw_iload d_X12_doesSee_40 5 rfl ?_
      obtain ⟨b4, k⟩ := k
      refine aw_iald (ws_228 w) b4 d_X12_doesSee_42 ?_
      refine aw_istore [(0, .ref 1), (1, .int x1), (2, .int x2), (3, .int x3), (4, .int x4), (5, .int x5), (6, .int (h_i h 228 x5.toNatClampNeg))] d_X12_doesSee_43 (Nat.le_of_ble_eq_true rfl) rfl rfl ?_
      refine aw_iload d_X12_doesSee_45 6 rfl ?_
      refine aw_iconst (v := 1) d_X12_doesSee_47 ic_1 ?_
      refine aw_icmp_ne (tgt := 64) d_X12_doesSee_48 rfl (fun c5 => ?_) (fun c5 => ?_)
      · have k := k.1 c5
        refine aw_iload d_X12_doesSee_64 6 rfl ?_
        refine aw_iconst (v := 3) d_X12_doesSee_66 ic_3 ?_
        refine aw_icmp_ne (tgt := 105) d_X12_doesSee_67 rfl (fun c6 => ?_) (fun c6 => ?_)
        · have k := k.1 c6
          refine aw_aload_n (i := 0) rfl d_X12_doesSee_105 0 rfl ?_
          refine aw_iload d_X12_doesSee_106 4 rfl ?_
          refine aw_aload_n (i := 0) rfl d_X12_doesSee_108 0 rfl ?_
          refine aw_getr (k0 := 40) kc_12 (ws_1 w) (Nat.le_of_ble_eq_true rfl) tw_1782 d_X12_doesSee_109 rfl (wr_1_40 w) ?_
          refine aw_iload d_X12_doesSee_112 5 rfl ?_
          obtain ⟨b7, k⟩ := k
          refine aw_iald (ws_229 w) b7 d_X12_doesSee_114 ?_
          refine aw_Vi 1 [.int x4, .int (h_i h 229 x5.toNatClampNeg)] [] d_X12_doesSee_115 (cV_X12_walkOf (d + 0) 0 0) kc_12 (ws_1 w) tw_2150 rfl (rr0 (Nat.le_of_ble_eq_true rfl) (Nat.le_of_ble_eq_true rfl)) (Nat.le_of_ble_eq_true rfl) xs0 k (fun r10 h8 kk => ?_)
          obtain ⟨w9, k⟩ := kk
          refine aw_istore [(0, .ref 1), (1, .int x1), (2, .int x2), (3, .int x3), (4, .int x4), (5, .int x5), (6, .int (h_i h 228 x5.toNatClampNeg)), (7, .int r10)] d_X12_doesSee_118 (Nat.le_of_ble_eq_true rfl) rfl rfl ?_
          refine aw_iload d_X12_doesSee_120 7 rfl ?_
          refine aw_iconst (v := (-1)) d_X12_doesSee_122 ic_m1 ?_
          refine aw_icmp_ne (tgt := 129) d_X12_doesSee_123 rfl (fun c11 => ?_) (fun c11 => ?_)
          · have k := k.1 c11
            refine aw_iload_n (i := 3) rfl d_X12_doesSee_129 3 rfl ?_
            refine aw_iload d_X12_doesSee_130 7 rfl ?_
            refine aw_iadd d_X12_doesSee_132 ?_
            refine aw_istore_n (i := 3) rfl [(0, .ref 1), (1, .int x1), (2, .int x2), (3, .int (x3 + r10)), (4, .int x4), (5, .int x5), (6, .int (h_i h 228 x5.toNatClampNeg)), (7, .int r10)] d_X12_doesSee_133 (Nat.le_of_ble_eq_true rfl) rfl rfl ?_
            refine aw_aload_n (i := 0) rfl d_X12_doesSee_134 0 rfl ?_
            refine aw_getr (k0 := 40) kc_12 (ws_1 w9) (Nat.le_of_ble_eq_true rfl) tw_1782 d_X12_doesSee_135 rfl (wr_1_40 w9) ?_
            refine aw_iload d_X12_doesSee_138 5 rfl ?_
            obtain ⟨b12, k⟩ := k
            refine aw_iald (ws_229 w9) b12 d_X12_doesSee_140 ?_
            refine aw_istore [(0, .ref 1), (1, .int x1), (2, .int x2), (3, .int (x3 + r10)), (4, .int (h_i h8 229 x5.toNatClampNeg)), (5, .int x5), (6, .int (h_i h 228 x5.toNatClampNeg)), (7, .int r10)] d_X12_doesSee_141 (Nat.le_of_ble_eq_true rfl) rfl rfl ?_
            refine aw_iload d_X12_doesSee_143 6 rfl ?_
            refine aw_iconst (v := 2) d_X12_doesSee_145 ic_2 ?_
            refine aw_icmp_ne (tgt := 161) d_X12_doesSee_146 rfl (fun c13 => ?_) (fun c13 => ?_)
            · have k := k.1 c13
              refine aw_iinc (v := (x5 + 1)) [(0, .ref 1), (1, .int x1), (2, .int x2), (3, .int (x3 + r10)), (4, .int (h_i h8 229 x5.toNatClampNeg)), (5, .int (x5 + 1)), (6, .int (h_i h 228 x5.toNatClampNeg)), (7, .int r10)] d_X12_doesSee_161 5 rfl rfl (Nat.le_of_ble_eq_true rfl) rfl rfl ?_
              refine aw_goto (tgt := 12) d_X12_doesSee_164 rfl ?_
              exact aw_lvp [0, 1, 2, 3, 4, 5] [(0, .ref 1), (1, .int x1), (2, .int x2), (3, .int (x3 + r10)), (4, .int (h_i h8 229 x5.toNatClampNeg)), (5, .int (x5 + 1))] rfl k
            · have k := k.2 c13
              refine aw_iload_n (i := 3) rfl d_X12_doesSee_149 3 rfl ?_
              refine aw_aload_n (i := 0) rfl d_X12_doesSee_150 0 rfl ?_
              refine aw_getr (k0 := 41) kc_12 (ws_1 w9) (Nat.le_of_ble_eq_true rfl) tw_1783 d_X12_doesSee_151 rfl (wr_1_41 w9) ?_
              refine aw_iload d_X12_doesSee_154 5 rfl ?_
              obtain ⟨b14, k⟩ := k
              refine aw_iald (ws_230 w9) b14 d_X12_doesSee_156 ?_
              refine aw_mmax d_X12_doesSee_157 tw_2470 (show 1 ≤ (d + 1) by omega) (Nat.le_trans (Nat.le_of_ble_eq_true rfl) (show 100 ≤ 100 * (d + 1) by omega)) ⟨Nat.le_refl _, Nat.le_refl _⟩ ?_
              refine aw_istore_n (i := 3) rfl [(0, .ref 1), (1, .int x1), (2, .int x2), (3, .int (if (x3 + r10) < (h_i h8 230 x5.toNatClampNeg) then (h_i h8 230 x5.toNatClampNeg) else (x3 + r10))), (4, .int (h_i h8 229 x5.toNatClampNeg)), (5, .int x5), (6, .int (h_i h 228 x5.toNatClampNeg)), (7, .int r10)] d_X12_doesSee_160 (Nat.le_of_ble_eq_true rfl) rfl rfl ?_
              refine aw_iinc (v := (x5 + 1)) [(0, .ref 1), (1, .int x1), (2, .int x2), (3, .int (if (x3 + r10) < (h_i h8 230 x5.toNatClampNeg) then (h_i h8 230 x5.toNatClampNeg) else (x3 + r10))), (4, .int (h_i h8 229 x5.toNatClampNeg)), (5, .int (x5 + 1)), (6, .int (h_i h 228 x5.toNatClampNeg)), (7, .int r10)] d_X12_doesSee_161 5 rfl rfl (Nat.le_of_ble_eq_true rfl) rfl rfl ?_
              refine aw_goto (tgt := 12) d_X12_doesSee_164 rfl ?_
              exact aw_lvp [0, 1, 2, 3, 4, 5] [(0, .ref 1), (1, .int x1), (2, .int x2), (3, .int (if (x3 + r10) < (h_i h8 230 x5.toNatClampNeg) then (h_i h8 230 x5.toNatClampNeg) else (x3 + r10))), (4, .int (h_i h8 229 x5.toNatClampNeg)), (5, .int (x5 + 1))] rfl k
          · have k := k.2 c11
            refine aw_goto (tgt := 161) d_X12_doesSee_126 rfl ?_
            refine aw_iinc (v := (x5 + 1)) [(0, .ref 1), (1, .int x1), (2, .int x2), (3, .int x3), (4, .int x4), (5, .int (x5 + 1)), (6, .int (h_i h 228 x5.toNatClampNeg)), (7, .int r10)] d_X12_doesSee_161 5 rfl rfl (Nat.le_of_ble_eq_true rfl) rfl rfl ?_
            refine aw_goto (tgt := 12) d_X12_doesSee_164 rfl ?_
            exact aw_lvp [0, 1, 2, 3, 4, 5] [(0, .ref 1), (1, .int x1), (2, .int x2), (3, .int x3), (4, .int x4), (5, .int (x5 + 1))] rfl k
        · have k := k.2 c6
          refine aw_iinc (v := (x3 + 1)) [(0, .ref 1), (1, .int x1), (2, .int x2), (3, .int (x3 + 1)), (4, .int x4), (5, .int x5), (6, .int (h_i h 228 x5.toNatClampNeg))] d_X12_doesSee_70 3 rfl rfl (Nat.le_of_ble_eq_true rfl) rfl rfl ?_
          refine aw_iload d_X12_doesSee_73 4 rfl ?_
          refine aw_aload_n (i := 0) rfl d_X12_doesSee_75 0 rfl ?_
          refine aw_getr (k0 := 105) kc_12 (ws_1 w) (Nat.le_of_ble_eq_true rfl) tw_1847 d_X12_doesSee_76 rfl (wr_1_105 w) ?_
          refine aw_iload_n (i := 2) rfl d_X12_doesSee_79 2 rfl ?_
          obtain ⟨b15, k⟩ := k
          refine aw_iald (ws_281 w) b15 d_X12_doesSee_80 ?_
          refine aw_icmp_ne (tgt := 161) d_X12_doesSee_81 rfl (fun c16 => ?_) (fun c16 => ?_)
          · have k := k.1 c16
            refine aw_iinc (v := (x5 + 1)) [(0, .ref 1), (1, .int x1), (2, .int x2), (3, .int (x3 + 1)), (4, .int x4), (5, .int (x5 + 1)), (6, .int (h_i h 228 x5.toNatClampNeg))] d_X12_doesSee_161 5 rfl rfl (Nat.le_of_ble_eq_true rfl) rfl rfl ?_
            refine aw_goto (tgt := 12) d_X12_doesSee_164 rfl ?_
            exact aw_lvp [0, 1, 2, 3, 4, 5] [(0, .ref 1), (1, .int x1), (2, .int x2), (3, .int (x3 + 1)), (4, .int x4), (5, .int (x5 + 1))] rfl k
          · have k := k.2 c16
            refine aw_iload_n (i := 3) rfl d_X12_doesSee_84 3 rfl ?_
            refine aw_aload_n (i := 0) rfl d_X12_doesSee_85 0 rfl ?_
            refine aw_getr (k0 := 106) kc_12 (ws_1 w) (Nat.le_of_ble_eq_true rfl) tw_1848 d_X12_doesSee_86 rfl (wr_1_106 w) ?_
            refine aw_iload_n (i := 2) rfl d_X12_doesSee_89 2 rfl ?_
            obtain ⟨b17, k⟩ := k
            refine aw_iald (ws_282 w) b17 d_X12_doesSee_90 ?_
            refine aw_aload_n (i := 0) rfl d_X12_doesSee_91 0 rfl ?_
            refine aw_getr (k0 := 107) kc_12 (ws_1 w) (Nat.le_of_ble_eq_true rfl) tw_1849 d_X12_doesSee_92 rfl (wr_1_107 w) ?_
            refine aw_iload_n (i := 2) rfl d_X12_doesSee_95 2 rfl ?_
            obtain ⟨b18, k⟩ := k
            refine aw_iald (ws_283 w) b18 d_X12_doesSee_96 ?_
            refine aw_Si [.int (x3 + 1), .int (h_i h 282 x2.toNatClampNeg), .int (h_i h 283 x2.toNatClampNeg)] [] d_X12_doesSee_97 (cS_X12_in (d + 0) 0 0) tw_2143 rfl (rr0 (Nat.le_of_ble_eq_true rfl) (Nat.le_of_ble_eq_true rfl)) (Nat.le_of_ble_eq_true rfl) xs0 (s_X12_in _ _ (x3 + 1) (h_i h 282 x2.toNatClampNeg) (h_i h 283 x2.toNatClampNeg)) (fun _ _ kk => ?_)
            obtain ⟨e19, e20⟩ := kk
            rw [e19, e20]
            refine aw_ifb_eq (tgt := 161) d_X12_doesSee_100 rfl (fun c21 => ?_) (fun c21 => ?_)
            · have k := k.1 c21
              refine aw_iinc (v := (x5 + 1)) [(0, .ref 1), (1, .int x1), (2, .int x2), (3, .int (x3 + 1)), (4, .int x4), (5, .int (x5 + 1)), (6, .int (h_i h 228 x5.toNatClampNeg))] d_X12_doesSee_161 5 rfl rfl (Nat.le_of_ble_eq_true rfl) rfl rfl ?_
              refine aw_goto (tgt := 12) d_X12_doesSee_164 rfl ?_
              exact aw_lvp [0, 1, 2, 3, 4, 5] [(0, .ref 1), (1, .int x1), (2, .int x2), (3, .int (x3 + 1)), (4, .int x4), (5, .int (x5 + 1))] rfl k
            · have k := k.2 c21
              refine aw_iconst (v := 1) d_X12_doesSee_103 ic_1 ?_
              exact aw_zret rfl rfl d_X12_doesSee_104 ⟨Nat.le_refl _, Nat.le_refl _⟩ ⟨_, rfl, k⟩
      · have k := k.2 c5
        refine aw_iload_n (i := 3) rfl d_X12_doesSee_51 3 rfl ?_
        refine aw_aload_n (i := 0) rfl d_X12_doesSee_52 0 rfl ?_
        refine aw_getr (k0 := 40) kc_12 (ws_1 w) (Nat.le_of_ble_eq_true rfl) tw_1782 d_X12_doesSee_53 rfl (wr_1_40 w) ?_
        refine aw_iload d_X12_doesSee_56 5 rfl ?_
        obtain ⟨b22, k⟩ := k
        refine aw_iald (ws_229 w) b22 d_X12_doesSee_58 ?_
        refine aw_iadd d_X12_doesSee_59 ?_
        refine aw_istore_n (i := 3) rfl [(0, .ref 1), (1, .int x1), (2, .int x2), (3, .int (x3 + (h_i h 229 x5.toNatClampNeg))), (4, .int x4), (5, .int x5), (6, .int (h_i h 228 x5.toNatClampNeg))] d_X12_doesSee_60 (Nat.le_of_ble_eq_true rfl) rfl rfl ?_
        refine aw_goto (tgt := 161) d_X12_doesSee_61 rfl ?_
        refine aw_iinc (v := (x5 + 1)) [(0, .ref 1), (1, .int x1), (2, .int x2), (3, .int (x3 + (h_i h 229 x5.toNatClampNeg))), (4, .int x4), (5, .int (x5 + 1)), (6, .int (h_i h 228 x5.toNatClampNeg))] d_X12_doesSee_161 5 rfl rfl (Nat.le_of_ble_eq_true rfl) rfl rfl ?_
        refine aw_goto (tgt := 12) d_X12_doesSee_164 rfl ?_
        exact aw_lvp [0, 1, 2, 3, 4, 5] [(0, .ref 1), (1, .int x1), (2, .int x2), (3, .int (x3 + (h_i h 229 x5.toNatClampNeg))), (4, .int x4), (5, .int (x5 + 1))] rfl k
theorem t_X12_lent (d : Nat) (h : Hp_) (w : Wf h) (x1 : Int32) (K : Int32 → Hp_ → Prop) (k : (¬ (0 ≤ x1 ∧ x1 ≤ (h_i h 1 7) - 1) → K (-1) h) ∧ ((0 ≤ x1 ∧ x1 ≤ (h_i h 1 7) - 1) → Ci (m_X12_findLending (d + 2) 0 0) [.ref 1] h (fun r6 h4 => Wf h4 ∧ ((¬ r6 = 1000000000 → Ci (m_X12_codeAll (d + 0) 0 0) [.ref 1] h4 (fun r10 h8 => Wf h8 ∧ (AW (m_X12_lent (d + 3) 0 0) 0 0 30 [(0, .ref 1), (1, .int x1), (2, .int r10), (3, .int (-1)), (4, .int 0)] [] h8 (kI K)))) ∧ (r6 = 1000000000 → K (-1) h4))))) : Ci (m_X12_lent (d + 3) 0 0) [.ref 1, .int x1] h K := by
  refine Ct.of (fun _ _ _ => trivial) rfl (Nat.le_of_ble_eq_true rfl) ?_
  show AW (m_X12_lent (d + 3) 0 0) 0 0 0 [(0, .ref 1), (1, .int x1)] [] h (kI K)
  refine aw_aload_n (i := 0) rfl d_X12_lent_0 0 rfl ?_
  refine aw_iload_n (i := 1) rfl d_X12_lent_1 1 rfl ?_
  refine aw_Vi 1 [.int x1] [] d_X12_lent_2 (cV_X12_isMan (d + 1) 0 0) kc_12 (ws_1 w) tw_2163 rfl (rr0 (Nat.le_of_ble_eq_true rfl) (Nat.le_of_ble_eq_true rfl)) (Nat.le_of_ble_eq_true rfl) xs0 (s_X12_isMan _ _ w x1) (fun _ _ kk => ?_)
  obtain ⟨e1, e2⟩ := kk
  rw [e1, e2]
  refine aw_ifb_eq (tgt := 18) d_X12_lent_5 rfl (fun c3 => ?_) (fun c3 => ?_)
  · have k := k.1 c3
    refine aw_iconst (v := (-1)) d_X12_lent_18 ic_m1 ?_
    exact aw_iret rfl d_X12_lent_19 ⟨Nat.le_refl _, Nat.le_refl _⟩ ⟨_, rfl, k⟩
  · have k := k.2 c3
    refine aw_aload_n (i := 0) rfl d_X12_lent_8 0 rfl ?_
    refine aw_Vi 1 [] [] d_X12_lent_9 (cV_X12_findLending (d + 2) 0 0) kc_12 (ws_1 w) tw_2639 rfl (rr0 (Nat.le_of_ble_eq_true rfl) (Nat.le_of_ble_eq_true rfl)) (Nat.le_of_ble_eq_true rfl) xs0 k (fun r6 h4 kk => ?_)
    obtain ⟨w5, k⟩ := kk
    refine aw_ldcw (v := 1000000000) d_X12_lent_12 tw_2647 ?_
    refine aw_icmp_ne (tgt := 20) d_X12_lent_15 rfl (fun c7 => ?_) (fun c7 => ?_)
    · have k := k.1 c7
      refine aw_aload_n (i := 0) rfl d_X12_lent_20 0 rfl ?_
      refine aw_Vi 1 [] [] d_X12_lent_21 (cV_X12_codeAll (d + 0) 0 0) kc_12 (ws_1 w5) tw_2652 rfl (rr0 (Nat.le_of_ble_eq_true rfl) (Nat.le_of_ble_eq_true rfl)) (Nat.le_of_ble_eq_true rfl) xs0 k (fun r10 h8 kk => ?_)
      obtain ⟨w9, k⟩ := kk
      refine aw_istore_n (i := 2) rfl [(0, .ref 1), (1, .int x1), (2, .int r10)] d_X12_lent_24 (Nat.le_of_ble_eq_true rfl) rfl rfl ?_
      refine aw_iconst (v := (-1)) d_X12_lent_25 ic_m1 ?_
      refine aw_istore_n (i := 3) rfl [(0, .ref 1), (1, .int x1), (2, .int r10), (3, .int (-1))] d_X12_lent_26 (Nat.le_of_ble_eq_true rfl) rfl rfl ?_
      refine aw_iconst (v := 0) d_X12_lent_27 ic_0 ?_
      refine aw_istore [(0, .ref 1), (1, .int x1), (2, .int r10), (3, .int (-1)), (4, .int 0)] d_X12_lent_28 (Nat.le_of_ble_eq_true rfl) rfl rfl ?_
      exact k
    · have k := k.2 c7
      refine aw_iconst (v := (-1)) d_X12_lent_18 ic_m1 ?_
      exact aw_iret rfl d_X12_lent_19 ⟨Nat.le_refl _, Nat.le_refl _⟩ ⟨_, rfl, k⟩
theorem t_X12_lent_30 (d : Nat) (h : Hp_) (w : Wf h) (x1 : Int32) (x2 : Int32) (x3 : Int32) (x4 : Int32) (K : Int32 → Hp_ → Prop) (k : (x1 < x4 → K x3 h) ∧ (¬ x1 < x4 → AW (m_X12_lent (d + 3) 0 0) 0 0 46 [(0, .ref 1), (1, .int x1), (2, .int x2), (3, .int (-1)), (4, .int x4), (5, .int ((h_i h 1 119) - 1))] [] h (kI K))) : AW (m_X12_lent (d + 3) 0 0) 0 0 30 [(0, .ref 1), (1, .int x1), (2, .int x2), (3, .int x3), (4, .int x4)] [] h (kI K) := by
  refine aw_iload d_X12_lent_30 4 rfl ?_
  refine aw_iload_n (i := 1) rfl d_X12_lent_32 1 rfl ?_
  refine aw_icmp_gt (tgt := 170) d_X12_lent_33 rfl (fun c11 => ?_) (fun c11 => ?_)
  · have k := k.1 c11
    refine aw_iload_n (i := 3) rfl d_X12_lent_170 3 rfl ?_
    exact aw_iret rfl d_X12_lent_171 ⟨Nat.le_refl _, Nat.le_refl _⟩ ⟨_, rfl, k⟩
  · have k := k.2 c11
    refine aw_iconst (v := (-1)) d_X12_lent_36 ic_m1 ?_
    refine aw_istore_n (i := 3) rfl [(0, .ref 1), (1, .int x1), (2, .int x2), (3, .int (-1)), (4, .int x4)] d_X12_lent_37 (Nat.le_of_ble_eq_true rfl) rfl rfl ?_
    refine aw_aload_n (i := 0) rfl d_X12_lent_38 0 rfl ?_
    refine aw_geti (k0 := 119) kc_12 (ws_1 w) (Nat.le_of_ble_eq_true rfl) tw_1861 d_X12_lent_39 rfl ?_
    refine aw_iconst (v := 1) d_X12_lent_42 ic_1 ?_
    refine aw_isub d_X12_lent_43 ?_
    refine aw_istore [(0, .ref 1), (1, .int x1), (2, .int x2), (3, .int (-1)), (4, .int x4), (5, .int ((h_i h 1 119) - 1))] d_X12_lent_44 (Nat.le_of_ble_eq_true rfl) rfl rfl ?_
    exact k
theorem t_X12_lent_46 (d : Nat) (h : Hp_) (w : Wf h) (x1 : Int32) (x2 : Int32) (x3 : Int32) (x4 : Int32) (x5 : Int32) (K : Int32 → Hp_ → Prop) (k : (x5 < 0 → (¬ x3 = (-1) → AW (m_X12_lent (d + 3) 0 0) 0 0 30 [(0, .ref 1), (1, .int x1), (2, .int (x2 - ((1 : Int32) <<< ((2 * x3) &&& 31)))), (3, .int x3), (4, .int (x4 + 1))] [] h (kI K)) ∧ (x3 = (-1) → AW (m_X12_lent (d + 3) 0 0) 0 0 30 [(0, .ref 1), (1, .int x1), (2, .int (x2 - 0)), (3, .int x3), (4, .int (x4 + 1))] [] h (kI K))) ∧ (¬ x5 < 0 → vp_in ((4 * x4) + x5) 48 ∧ (Ci (m_X12_wanted (d + 0) 0 0) [.int x2, .int x5] h (fun r17 h15 => Wf h15 ∧ ((r17 = 0 → AW (m_X12_lent (d + 3) 0 0) 0 0 46 [(0, .ref 1), (1, .int x1), (2, .int x2), (3, .int x3), (4, .int x4), (5, .int (x5 + (-1)))] [] h15 (kI K)) ∧ (¬ r17 = 0 → (¬ (h_i h 292 (((4 * x4) + x5) : Int32).toNatClampNeg) = 1000000000 → vp_in (((256 * (x4 + 1)) + x2) - ((1 : Int32) <<< ((2 * x5) &&& 31))) 3328 ∧ ((1000000000 ≤ (h_i h15 291 ((((256 * (x4 + 1)) + x2) - ((1 : Int32) <<< ((2 * x5) &&& 31))) : Int32).toNatClampNeg) → AW (m_X12_lent (d + 3) 0 0) 0 0 46 [(0, .ref 1), (1, .int x1), (2, .int x2), (3, .int x3), (4, .int x4), (5, .int (x5 + (-1)))] [] h15 (kI K)) ∧ (¬ 1000000000 ≤ (h_i h15 291 ((((256 * (x4 + 1)) + x2) - ((1 : Int32) <<< ((2 * x5) &&& 31))) : Int32).toNatClampNeg) → vp_in ((256 * x4) + x2) 3328 ∧ ((¬ ((h_i h 292 (((4 * x4) + x5) : Int32).toNatClampNeg) + (h_i h15 291 ((((256 * (x4 + 1)) + x2) - ((1 : Int32) <<< ((2 * x5) &&& 31))) : Int32).toNatClampNeg)) = (h_i h15 291 (((256 * x4) + x2) : Int32).toNatClampNeg) → AW (m_X12_lent (d + 3) 0 0) 0 0 46 [(0, .ref 1), (1, .int x1), (2, .int x2), (3, .int x3), (4, .int x4), (5, .int (x5 + (-1)))] [] h15 (kI K)) ∧ (((h_i h 292 (((4 * x4) + x5) : Int32).toNatClampNeg) + (h_i h15 291 ((((256 * (x4 + 1)) + x2) - ((1 : Int32) <<< ((2 * x5) &&& 31))) : Int32).toNatClampNeg)) = (h_i h15 291 (((256 * x4) + x2) : Int32).toNatClampNeg) → AW (m_X12_lent (d + 3) 0 0) 0 0 46 [(0, .ref 1), (1, .int x1), (2, .int x2), (3, .int x5), (4, .int x4), (5, .int (x5 + (-1)))] [] h15 (kI K)))))) ∧ ((h_i h 292 (((4 * x4) + x5) : Int32).toNatClampNeg) = 1000000000 → AW (m_X12_lent (d + 3) 0 0) 0 0 46 [(0, .ref 1), (1, .int x1), (2, .int x2), (3, .int x3), (4, .int x4), (5, .int (x5 + (-1)))] [] h15 (kI K)))))))) : AW (m_X12_lent (d + 3) 0 0) 0 0 46 [(0, .ref 1), (1, .int x1), (2, .int x2), (3, .int x3), (4, .int x4), (5, .int x5)] [] h (kI K) := by
  refine aw_iload d_X12_lent_46 5 rfl ?_
  refine aw_if_lt (tgt := 147) d_X12_lent_48 rfl (fun c12 => ?_) (fun c12 => ?_)
  · have k := k.1 c12
    refine aw_iload_n (i := 2) rfl d_X12_lent_147 2 rfl ?_
    refine aw_iload_n (i := 3) rfl d_X12_lent_148 3 rfl ?_
    refine aw_iconst (v := (-1)) d_X12_lent_149 ic_m1 ?_
    refine aw_icmp_ne (tgt := 157) d_X12_lent_150 rfl (fun c13 => ?_) (fun c13 => ?_)
    · have k := k.1 c13
      refine aw_iconst (v := 1) d_X12_lent_157 ic_1 ?_
      refine aw_iconst (v := 2) d_X12_lent_158 ic_2 ?_
      refine aw_iload_n (i := 3) rfl d_X12_lent_159 3 rfl ?_
      refine aw_imul d_X12_lent_160 ?_
      refine aw_ishl d_X12_lent_161 ?_
      refine aw_isub d_X12_lent_162 ?_
      refine aw_istore_n (i := 2) rfl [(0, .ref 1), (1, .int x1), (2, .int (x2 - ((1 : Int32) <<< ((2 * x3) &&& 31)))), (3, .int x3), (4, .int x4), (5, .int x5)] d_X12_lent_163 (Nat.le_of_ble_eq_true rfl) rfl rfl ?_
      refine aw_iinc (v := (x4 + 1)) [(0, .ref 1), (1, .int x1), (2, .int (x2 - ((1 : Int32) <<< ((2 * x3) &&& 31)))), (3, .int x3), (4, .int (x4 + 1)), (5, .int x5)] d_X12_lent_164 4 rfl rfl (Nat.le_of_ble_eq_true rfl) rfl rfl ?_
      refine aw_goto (tgt := 30) d_X12_lent_167 rfl ?_
      exact aw_lvp [0, 1, 2, 3, 4] [(0, .ref 1), (1, .int x1), (2, .int (x2 - ((1 : Int32) <<< ((2 * x3) &&& 31)))), (3, .int x3), (4, .int (x4 + 1))] rfl k
    · have k := k.2 c13
      refine aw_iconst (v := 0) d_X12_lent_153 ic_0 ?_
      refine aw_goto (tgt := 162) d_X12_lent_154 rfl ?_
      refine aw_isub d_X12_lent_162 ?_
      refine aw_istore_n (i := 2) rfl [(0, .ref 1), (1, .int x1), (2, .int (x2 - 0)), (3, .int x3), (4, .int x4), (5, .int x5)] d_X12_lent_163 (Nat.le_of_ble_eq_true rfl) rfl rfl ?_
      refine aw_iinc (v := (x4 + 1)) [(0, .ref 1), (1, .int x1), (2, .int (x2 - 0)), (3, .int x3), (4, .int (x4 + 1)), (5, .int x5)] d_X12_lent_164 4 rfl rfl (Nat.le_of_ble_eq_true rfl) rfl rfl ?_
      refine aw_goto (tgt := 30) d_X12_lent_167 rfl ?_
      exact aw_lvp [0, 1, 2, 3, 4] [(0, .ref 1), (1, .int x1), (2, .int (x2 - 0)), (3, .int x3), (4, .int (x4 + 1))] rfl k
  · have k := k.2 c12
    refine aw_aload_n (i := 0) rfl d_X12_lent_51 0 rfl ?_
    refine aw_getr (k0 := 121) kc_12 (ws_1 w) (Nat.le_of_ble_eq_true rfl) tw_1863 d_X12_lent_52 rfl (wr_1_121 w) ?_
    refine aw_iconst (v := 4) d_X12_lent_55 ic_4 ?_
    refine aw_iload d_X12_lent_56 4 rfl ?_
    refine aw_imul d_X12_lent_58 ?_
    refine aw_iload d_X12_lent_59 5 rfl ?_
    refine aw_iadd d_X12_lent_61 ?_
    obtain ⟨b14, k⟩ := k
    refine aw_iald (ws_292 w) b14 d_X12_lent_62 ?_
    refine aw_istore [(0, .ref 1), (1, .int x1), (2, .int x2), (3, .int x3), (4, .int x4), (5, .int x5), (6, .int (h_i h 292 (((4 * x4) + x5) : Int32).toNatClampNeg))] d_X12_lent_63 (Nat.le_of_ble_eq_true rfl) rfl rfl ?_
    refine aw_iload_n (i := 2) rfl d_X12_lent_65 2 rfl ?_
    refine aw_iload d_X12_lent_66 5 rfl ?_
    refine aw_Si [.int x2, .int x5] [] d_X12_lent_68 (cS_X12_wanted (d + 0) 0 0) tw_2649 rfl (rr0 (Nat.le_of_ble_eq_true rfl) (Nat.le_of_ble_eq_true rfl)) (Nat.le_of_ble_eq_true rfl) xs0 k (fun r17 h15 kk => ?_)
    obtain ⟨w16, k⟩ := kk
    refine aw_if_eq (tgt := 141) d_X12_lent_71 rfl (fun c18 => ?_) (fun c18 => ?_)
    · have k := k.1 c18
      refine aw_iinc (v := (x5 + (-1))) [(0, .ref 1), (1, .int x1), (2, .int x2), (3, .int x3), (4, .int x4), (5, .int (x5 + (-1))), (6, .int (h_i h 292 (((4 * x4) + x5) : Int32).toNatClampNeg))] d_X12_lent_141 5 rfl rfl (Nat.le_of_ble_eq_true rfl) rfl rfl ?_
      refine aw_goto (tgt := 46) d_X12_lent_144 rfl ?_
      exact aw_lvp [0, 1, 2, 3, 4, 5] [(0, .ref 1), (1, .int x1), (2, .int x2), (3, .int x3), (4, .int x4), (5, .int (x5 + (-1)))] rfl k
    · have k := k.2 c18
      refine aw_iload d_X12_lent_74 6 rfl ?_
      refine aw_ldcw (v := 1000000000) d_X12_lent_76 tw_2647 ?_
      refine aw_icmp_ne (tgt := 85) d_X12_lent_79 rfl (fun c19 => ?_) (fun c19 => ?_)
      · have k := k.1 c19
        refine aw_aload_n (i := 0) rfl d_X12_lent_85 0 rfl ?_
        refine aw_getr (k0 := 120) kc_12 (ws_1 w16) (Nat.le_of_ble_eq_true rfl) tw_1862 d_X12_lent_86 rfl (wr_1_120 w16) ?_
        refine aw_sipush (v := 256) d_X12_lent_89 is_256 ?_
        refine aw_iload d_X12_lent_92 4 rfl ?_
        refine aw_iconst (v := 1) d_X12_lent_94 ic_1 ?_
        refine aw_iadd d_X12_lent_95 ?_
        refine aw_imul d_X12_lent_96 ?_
        refine aw_iload_n (i := 2) rfl d_X12_lent_97 2 rfl ?_
        refine aw_iadd d_X12_lent_98 ?_
        refine aw_iconst (v := 1) d_X12_lent_99 ic_1 ?_
        refine aw_iconst (v := 2) d_X12_lent_100 ic_2 ?_
        refine aw_iload d_X12_lent_101 5 rfl ?_
        refine aw_imul d_X12_lent_103 ?_
        refine aw_ishl d_X12_lent_104 ?_
        refine aw_isub d_X12_lent_105 ?_
        obtain ⟨b20, k⟩ := k
        refine aw_iald (ws_291 w16) b20 d_X12_lent_106 ?_
        refine aw_istore [(0, .ref 1), (1, .int x1), (2, .int x2), (3, .int x3), (4, .int x4), (5, .int x5), (6, .int (h_i h 292 (((4 * x4) + x5) : Int32).toNatClampNeg)), (7, .int (h_i h15 291 ((((256 * (x4 + 1)) + x2) - ((1 : Int32) <<< ((2 * x5) &&& 31))) : Int32).toNatClampNeg))] d_X12_lent_107 (Nat.le_of_ble_eq_true rfl) rfl rfl ?_
        refine aw_iload d_X12_lent_109 7 rfl ?_
        refine aw_ldcw (v := 1000000000) d_X12_lent_111 tw_2647 ?_
        refine aw_icmp_ge (tgt := 141) d_X12_lent_114 rfl (fun c21 => ?_) (fun c21 => ?_)
        · have k := k.1 c21
          refine aw_iinc (v := (x5 + (-1))) [(0, .ref 1), (1, .int x1), (2, .int x2), (3, .int x3), (4, .int x4), (5, .int (x5 + (-1))), (6, .int (h_i h 292 (((4 * x4) + x5) : Int32).toNatClampNeg)), (7, .int (h_i h15 291 ((((256 * (x4 + 1)) + x2) - ((1 : Int32) <<< ((2 * x5) &&& 31))) : Int32).toNatClampNeg))] d_X12_lent_141 5 rfl rfl (Nat.le_of_ble_eq_true rfl) rfl rfl ?_
          refine aw_goto (tgt := 46) d_X12_lent_144 rfl ?_
          exact aw_lvp [0, 1, 2, 3, 4, 5] [(0, .ref 1), (1, .int x1), (2, .int x2), (3, .int x3), (4, .int x4), (5, .int (x5 + (-1)))] rfl k
        · have k := k.2 c21
          refine aw_iload d_X12_lent_117 6 rfl ?_
          refine aw_iload d_X12_lent_119 7 rfl ?_
          refine aw_iadd d_X12_lent_121 ?_
          refine aw_aload_n (i := 0) rfl d_X12_lent_122 0 rfl ?_
          refine aw_getr (k0 := 120) kc_12 (ws_1 w16) (Nat.le_of_ble_eq_true rfl) tw_1862 d_X12_lent_123 rfl (wr_1_120 w16) ?_
          refine aw_sipush (v := 256) d_X12_lent_126 is_256 ?_
          refine aw_iload d_X12_lent_129 4 rfl ?_
          refine aw_imul d_X12_lent_131 ?_
          refine aw_iload_n (i := 2) rfl d_X12_lent_132 2 rfl ?_
          refine aw_iadd d_X12_lent_133 ?_
          obtain ⟨b22, k⟩ := k
          refine aw_iald (ws_291 w16) b22 d_X12_lent_134 ?_
          refine aw_icmp_ne (tgt := 141) d_X12_lent_135 rfl (fun c23 => ?_) (fun c23 => ?_)
          · have k := k.1 c23
            refine aw_iinc (v := (x5 + (-1))) [(0, .ref 1), (1, .int x1), (2, .int x2), (3, .int x3), (4, .int x4), (5, .int (x5 + (-1))), (6, .int (h_i h 292 (((4 * x4) + x5) : Int32).toNatClampNeg)), (7, .int (h_i h15 291 ((((256 * (x4 + 1)) + x2) - ((1 : Int32) <<< ((2 * x5) &&& 31))) : Int32).toNatClampNeg))] d_X12_lent_141 5 rfl rfl (Nat.le_of_ble_eq_true rfl) rfl rfl ?_
            refine aw_goto (tgt := 46) d_X12_lent_144 rfl ?_
            exact aw_lvp [0, 1, 2, 3, 4, 5] [(0, .ref 1), (1, .int x1), (2, .int x2), (3, .int x3), (4, .int x4), (5, .int (x5 + (-1)))] rfl k
          · have k := k.2 c23
            refine aw_iload d_X12_lent_138 5 rfl ?_
            refine aw_istore_n (i := 3) rfl [(0, .ref 1), (1, .int x1), (2, .int x2), (3, .int x5), (4, .int x4), (5, .int x5), (6, .int (h_i h 292 (((4 * x4) + x5) : Int32).toNatClampNeg)), (7, .int (h_i h15 291 ((((256 * (x4 + 1)) + x2) - ((1 : Int32) <<< ((2 * x5) &&& 31))) : Int32).toNatClampNeg))] d_X12_lent_140 (Nat.le_of_ble_eq_true rfl) rfl rfl ?_
            refine aw_iinc (v := (x5 + (-1))) [(0, .ref 1), (1, .int x1), (2, .int x2), (3, .int x5), (4, .int x4), (5, .int (x5 + (-1))), (6, .int (h_i h 292 (((4 * x4) + x5) : Int32).toNatClampNeg)), (7, .int (h_i h15 291 ((((256 * (x4 + 1)) + x2) - ((1 : Int32) <<< ((2 * x5) &&& 31))) : Int32).toNatClampNeg))] d_X12_lent_141 5 rfl rfl (Nat.le_of_ble_eq_true rfl) rfl rfl ?_
            refine aw_goto (tgt := 46) d_X12_lent_144 rfl ?_
            exact aw_lvp [0, 1, 2, 3, 4, 5] [(0, .ref 1), (1, .int x1), (2, .int x2), (3, .int x5), (4, .int x4), (5, .int (x5 + (-1)))] rfl k
      · have k := k.2 c19
        refine aw_goto (tgt := 141) d_X12_lent_82 rfl ?_
        refine aw_iinc (v := (x5 + (-1))) [(0, .ref 1), (1, .int x1), (2, .int x2), (3, .int x3), (4, .int x4), (5, .int (x5 + (-1))), (6, .int (h_i h 292 (((4 * x4) + x5) : Int32).toNatClampNeg))] d_X12_lent_141 5 rfl rfl (Nat.le_of_ble_eq_true rfl) rfl rfl ?_
        refine aw_goto (tgt := 46) d_X12_lent_144 rfl ?_
        exact aw_lvp [0, 1, 2, 3, 4, 5] [(0, .ref 1), (1, .int x1), (2, .int x2), (3, .int x3), (4, .int x4), (5, .int (x5 + (-1)))] rfl k
theorem t_X12_wanted (d : Nat) (h : Hp_) (x0 : Int32) (x1 : Int32) (K : Int32 → Hp_ → Prop) (k : K ((x0 >>> ((2 * x1) &&& 31)) &&& 3) h) : Ci (m_X12_wanted (d + 0) 0 0) [.int x0, .int x1] h K := by
  refine Ct.of (fun _ _ _ => trivial) rfl (Nat.le_of_ble_eq_true rfl) ?_
  show AW (m_X12_wanted (d + 0) 0 0) 0 0 0 [(0, .int x0), (1, .int x1)] [] h (kI K)
  refine aw_iload_n (i := 0) rfl d_X12_wanted_0 0 rfl ?_
  refine aw_iconst (v := 2) d_X12_wanted_1 ic_2 ?_
  refine aw_iload_n (i := 1) rfl d_X12_wanted_2 1 rfl ?_
  refine aw_imul d_X12_wanted_3 ?_
  refine aw_ishr d_X12_wanted_4 ?_
  refine aw_iconst (v := 3) d_X12_wanted_5 ic_3 ?_
  refine aw_iand d_X12_wanted_6 ?_
  exact aw_iret rfl d_X12_wanted_7 ⟨Nat.le_refl _, Nat.le_refl _⟩ ⟨_, rfl, k⟩
theorem t_X12_findShares (d : Nat) (h : Hp_) (w : Wf h) (x1 : Int32) (K : Int32 → Hp_ → Prop) (k : (¬ (1 ≤ x1 ∧ x1 ≤ (((1 : Int32) <<< ((h_i h 1 42) &&& 31)) - 1)) → (((1 : Int32) ≤ 0 ∧ (0 : Int32) ≤ 5) → AW (m_X12_findShares (d + 3) 0 0) 0 0 43 [(0, .ref 1), (1, .int x1), (3, .int 0)] [] (h_im h 1 113 0) (kI K)) ∧ (¬ ((1 : Int32) ≤ 0 ∧ (0 : Int32) ≤ 5) → K 0 h)) ∧ ((1 ≤ x1 ∧ x1 ≤ (((1 : Int32) <<< ((h_i h 1 42) &&& 31)) - 1)) → Ci (m_J6_bitCount_0f7a4 (d + 0) 0 0) [.int x1] h (fun r9 h7 => Wf h7 ∧ (((1 ≤ r9 ∧ r9 ≤ 5) → AW (m_X12_findShares (d + 3) 0 0) 0 0 43 [(0, .ref 1), (1, .int x1), (3, .int 0)] [] (h_im h7 1 113 0) (kI K)) ∧ (¬ (1 ≤ r9 ∧ r9 ≤ 5) → K 0 h7))))) : Ci (m_X12_findShares (d + 3) 0 0) [.ref 1, .int x1] h K := by
  refine Ct.of (fun _ _ _ => trivial) rfl (Nat.le_of_ble_eq_true rfl) ?_
  show AW (m_X12_findShares (d + 3) 0 0) 0 0 0 [(0, .ref 1), (1, .int x1)] [] h (kI K)
  refine aw_iload_n (i := 1) rfl d_X12_findShares_0 1 rfl ?_
  refine aw_iconst (v := 1) d_X12_findShares_1 ic_1 ?_
  refine aw_iconst (v := 1) d_X12_findShares_2 ic_1 ?_
  refine aw_aload_n (i := 0) rfl d_X12_findShares_3 0 rfl ?_
  refine aw_geti (k0 := 42) kc_12 (ws_1 w) (Nat.le_of_ble_eq_true rfl) tw_1784 d_X12_findShares_4 rfl ?_
  refine aw_ishl d_X12_findShares_7 ?_
  refine aw_iconst (v := 1) d_X12_findShares_8 ic_1 ?_
  refine aw_isub d_X12_findShares_9 ?_
  refine aw_Si [.int x1, .int 1, .int (((1 : Int32) <<< ((h_i h 1 42) &&& 31)) - 1)] [] d_X12_findShares_10 (cS_X12_in (d + 0) 0 0) tw_2143 rfl (rr0 (Nat.le_of_ble_eq_true rfl) (Nat.le_of_ble_eq_true rfl)) (Nat.le_of_ble_eq_true rfl) xs0 (s_X12_in _ _ x1 1 (((1 : Int32) <<< ((h_i h 1 42) &&& 31)) - 1)) (fun _ _ kk => ?_)
  obtain ⟨e1, e2⟩ := kk
  rw [e1, e2]
  refine aw_ifb_eq (tgt := 23) d_X12_findShares_13 rfl (fun c3 => ?_) (fun c3 => ?_)
  · have k := k.1 c3
    refine aw_iconst (v := 0) d_X12_findShares_23 ic_0 ?_
    refine aw_istore_n (i := 2) rfl [(0, .ref 1), (1, .int x1), (2, .int 0)] d_X12_findShares_24 (Nat.le_of_ble_eq_true rfl) rfl rfl ?_
    refine aw_iload_n (i := 2) rfl d_X12_findShares_25 2 rfl ?_
    refine aw_iconst (v := 1) d_X12_findShares_26 ic_1 ?_
    refine aw_iconst (v := 5) d_X12_findShares_27 ic_5 ?_
    refine aw_Si [.int 0, .int 1, .int 5] [] d_X12_findShares_28 (cS_X12_in (d + 0) 0 0) tw_2143 rfl (rr0 (Nat.le_of_ble_eq_true rfl) (Nat.le_of_ble_eq_true rfl)) (Nat.le_of_ble_eq_true rfl) xs0 (s_X12_in _ _ 0 1 5) (fun _ _ kk => ?_)
    obtain ⟨e4, e5⟩ := kk
    rw [e4, e5]
    refine aw_ifb_ne (tgt := 36) d_X12_findShares_31 rfl (fun c6 => ?_) (fun c6 => ?_)
    · have k := k.1 c6
      refine aw_aload_n (i := 0) rfl d_X12_findShares_36 0 rfl ?_
      refine aw_iconst (v := 0) d_X12_findShares_37 ic_0 ?_
      refine aw_puti (k0 := 113) kc_12 (ws_1 w) (Nat.le_of_ble_eq_true rfl) tw_1855 d_X12_findShares_38 rfl rfl nf_i ?_
      refine aw_iconst (v := 0) d_X12_findShares_41 ic_0 ?_
      refine aw_istore_n (i := 3) rfl [(0, .ref 1), (1, .int x1), (2, .int 0), (3, .int 0)] d_X12_findShares_42 (Nat.le_of_ble_eq_true rfl) rfl rfl ?_
      exact aw_lvp [0, 1, 3] [(0, .ref 1), (1, .int x1), (3, .int 0)] rfl k
    · have k := k.2 c6
      refine aw_iconst (v := 0) d_X12_findShares_34 ic_0 ?_
      exact aw_zret rfl rfl d_X12_findShares_35 ⟨Nat.le_refl _, Nat.le_refl _⟩ ⟨_, rfl, k⟩
  · have k := k.2 c3
    refine aw_iload_n (i := 1) rfl d_X12_findShares_16 1 rfl ?_
    refine aw_Si [.int x1] [] d_X12_findShares_17 (cS_J6_bitCount_0f7a4 (d + 0) 0 0) tw_2539 rfl (rr0 (Nat.le_of_ble_eq_true rfl) (Nat.le_of_ble_eq_true rfl)) (Nat.le_of_ble_eq_true rfl) xs0 k (fun r9 h7 kk => ?_)
    obtain ⟨w8, k⟩ := kk
    refine aw_goto (tgt := 24) d_X12_findShares_20 rfl ?_
    refine aw_istore_n (i := 2) rfl [(0, .ref 1), (1, .int x1), (2, .int r9)] d_X12_findShares_24 (Nat.le_of_ble_eq_true rfl) rfl rfl ?_
    refine aw_iload_n (i := 2) rfl d_X12_findShares_25 2 rfl ?_
    refine aw_iconst (v := 1) d_X12_findShares_26 ic_1 ?_
    refine aw_iconst (v := 5) d_X12_findShares_27 ic_5 ?_
    refine aw_Si [.int r9, .int 1, .int 5] [] d_X12_findShares_28 (cS_X12_in (d + 0) 0 0) tw_2143 rfl (rr0 (Nat.le_of_ble_eq_true rfl) (Nat.le_of_ble_eq_true rfl)) (Nat.le_of_ble_eq_true rfl) xs0 (s_X12_in _ _ r9 1 5) (fun _ _ kk => ?_)
    obtain ⟨e10, e11⟩ := kk
    rw [e10, e11]
    refine aw_ifb_ne (tgt := 36) d_X12_findShares_31 rfl (fun c12 => ?_) (fun c12 => ?_)
    · have k := k.1 c12
      refine aw_aload_n (i := 0) rfl d_X12_findShares_36 0 rfl ?_
      refine aw_iconst (v := 0) d_X12_findShares_37 ic_0 ?_
      refine aw_puti (k0 := 113) kc_12 (ws_1 w8) (Nat.le_of_ble_eq_true rfl) tw_1855 d_X12_findShares_38 rfl rfl nf_i ?_
      refine aw_iconst (v := 0) d_X12_findShares_41 ic_0 ?_
      refine aw_istore_n (i := 3) rfl [(0, .ref 1), (1, .int x1), (2, .int r9), (3, .int 0)] d_X12_findShares_42 (Nat.le_of_ble_eq_true rfl) rfl rfl ?_
      exact aw_lvp [0, 1, 3] [(0, .ref 1), (1, .int x1), (3, .int 0)] rfl k
    · have k := k.2 c12
      refine aw_iconst (v := 0) d_X12_findShares_34 ic_0 ?_
      exact aw_zret rfl rfl d_X12_findShares_35 ⟨Nat.le_refl _, Nat.le_refl _⟩ ⟨_, rfl, k⟩
theorem t_X12_findShares_43 (d : Nat) (h : Hp_) (w : Wf h) (x1 : Int32) (x3 : Int32) (K : Int32 → Hp_ → Prop) (k : ((h_i h 1 42) ≤ x3 → Cv (m_X12_share1 (d + 2) 0 0) [.ref 1, .int 0, .int 12] (h_im (h_im h 1 114 (-1)) 1 115 (-1)) (fun h14 => Wf h14 ∧ (K 1 h14))) ∧ (¬ (h_i h 1 42) ≤ x3 → (¬ ((x1 >>> (x3 &&& 31)) &&& 1) = 1 → AW (m_X12_findShares (d + 3) 0 0) 0 0 43 [(0, .ref 1), (1, .int x1), (3, .int (x3 + 1))] [] h (kI K)) ∧ (((x1 >>> (x3 &&& 31)) &&& 1) = 1 → vp_in (h_i h 1 113) 5 ∧ (vp_in (h_i h 1 113) 5 ∧ (AW (m_X12_findShares (d + 3) 0 0) 0 0 83 [(0, .ref 1), (1, .int x1), (3, .int x3), (4, .int 0)] [] (h_im (h_im h 284 ((h_i h 1 113) : Int32).toNatClampNeg x3) 287 ((h_i h 1 113) : Int32).toNatClampNeg 0) (kI K)))))) : AW (m_X12_findShares (d + 3) 0 0) 0 0 43 [(0, .ref 1), (1, .int x1), (3, .int x3)] [] h (kI K) := by
  refine aw_iload_n (i := 3) rfl d_X12_findShares_43 2 rfl ?_
  refine aw_aload_n (i := 0) rfl d_X12_findShares_44 0 rfl ?_
  refine aw_geti (k0 := 42) kc_12 (ws_1 w) (Nat.le_of_ble_eq_true rfl) tw_1784 d_X12_findShares_45 rfl ?_
  refine aw_icmp_ge (tgt := 144) d_X12_findShares_48 rfl (fun c13 => ?_) (fun c13 => ?_)
  · have k := k.1 c13
    refine aw_aload_n (i := 0) rfl d_X12_findShares_144 0 rfl ?_
    refine aw_iconst (v := (-1)) d_X12_findShares_145 ic_m1 ?_
    refine aw_puti (k0 := 114) kc_12 (ws_1 w) (Nat.le_of_ble_eq_true rfl) tw_1856 d_X12_findShares_146 rfl rfl nf_i ?_
    refine aw_aload_n (i := 0) rfl d_X12_findShares_149 0 rfl ?_
    refine aw_iconst (v := (-1)) d_X12_findShares_150 ic_m1 ?_
    refine aw_puti (k0 := 115) kc_12 (ws_1 w) (Nat.le_of_ble_eq_true rfl) tw_1857 d_X12_findShares_151 rfl rfl nf_i ?_
    refine aw_aload_n (i := 0) rfl d_X12_findShares_154 0 rfl ?_
    refine aw_iconst (v := 0) d_X12_findShares_155 ic_0 ?_
    refine aw_bipush (v := 12) d_X12_findShares_156 ib_12 ?_
    refine aw_Vv 1 [.int 0, .int 12] [] d_X12_findShares_158 (cV_X12_share1 (d + 2) 0 0) kc_12 (ws_1 w) tw_2615 rfl (rr0 (Nat.le_of_ble_eq_true rfl) (Nat.le_of_ble_eq_true rfl)) (Nat.le_of_ble_eq_true rfl) xs0 k (fun h14 kk => ?_)
    obtain ⟨w15, k⟩ := kk
    refine aw_iconst (v := 1) d_X12_findShares_161 ic_1 ?_
    exact aw_zret rfl rfl d_X12_findShares_162 ⟨Nat.le_refl _, Nat.le_refl _⟩ ⟨_, rfl, k⟩
  · have k := k.2 c13
    refine aw_iload_n (i := 1) rfl d_X12_findShares_51 1 rfl ?_
    refine aw_iload_n (i := 3) rfl d_X12_findShares_52 2 rfl ?_
    refine aw_ishr d_X12_findShares_53 ?_
    refine aw_iconst (v := 1) d_X12_findShares_54 ic_1 ?_
    refine aw_iand d_X12_findShares_55 ?_
    refine aw_iconst (v := 1) d_X12_findShares_56 ic_1 ?_
    refine aw_icmp_ne (tgt := 138) d_X12_findShares_57 rfl (fun c17 => ?_) (fun c17 => ?_)
    · have k := k.1 c17
      refine aw_iinc (v := (x3 + 1)) [(0, .ref 1), (1, .int x1), (3, .int (x3 + 1))] d_X12_findShares_138 2 rfl rfl (Nat.le_of_ble_eq_true rfl) rfl rfl ?_
      refine aw_goto (tgt := 43) d_X12_findShares_141 rfl ?_
      exact k
    · have k := k.2 c17
      refine aw_aload_n (i := 0) rfl d_X12_findShares_60 0 rfl ?_
      refine aw_getr (k0 := 109) kc_12 (ws_1 w) (Nat.le_of_ble_eq_true rfl) tw_1851 d_X12_findShares_61 rfl (wr_1_109 w) ?_
      refine aw_aload_n (i := 0) rfl d_X12_findShares_64 0 rfl ?_
      refine aw_geti (k0 := 113) kc_12 (ws_1 w) (Nat.le_of_ble_eq_true rfl) tw_1855 d_X12_findShares_65 rfl ?_
      refine aw_iload_n (i := 3) rfl d_X12_findShares_68 2 rfl ?_
      obtain ⟨b18, k⟩ := k
      refine aw_iast (ws_284 w) b18 d_X12_findShares_69 ?_
      refine aw_aload_n (i := 0) rfl d_X12_findShares_70 0 rfl ?_
      refine aw_getr (k0 := 112) kc_12 (ws_1 w) (Nat.le_of_ble_eq_true rfl) tw_1854 d_X12_findShares_71 rfl (wr_1_112 w) ?_
      refine aw_aload_n (i := 0) rfl d_X12_findShares_74 0 rfl ?_
      refine aw_geti (k0 := 113) kc_12 (ws_1 w) (Nat.le_of_ble_eq_true rfl) tw_1855 d_X12_findShares_75 rfl ?_
      refine aw_vi (v2 := (h_i h 1 113)) (rfl) ?_
      refine aw_iconst (v := 0) d_X12_findShares_78 ic_0 ?_
      obtain ⟨b19, k⟩ := k
      refine aw_iast (ws_287 w) b19 d_X12_findShares_79 ?_
      refine aw_iconst (v := 0) d_X12_findShares_80 ic_0 ?_
      refine aw_istore [(0, .ref 1), (1, .int x1), (3, .int x3), (4, .int 0)] d_X12_findShares_81 (Nat.le_of_ble_eq_true rfl) rfl rfl ?_
      exact k
theorem t_X12_findShares_83 (d : Nat) (h : Hp_) (w : Wf h) (x1 : Int32) (x3 : Int32) (x4 : Int32) (K : Int32 → Hp_ → Prop) (k : ((h_i h 1 108) ≤ x4 → AW (m_X12_findShares (d + 3) 0 0) 0 0 43 [(0, .ref 1), (1, .int x1), (3, .int (x3 + 1))] [] (h_im h 1 113 ((h_i h 1 113) + 1)) (kI K)) ∧ (¬ (h_i h 1 108) ≤ x4 → vp_in (h_i h 1 113) 5 ∧ (Ci (m_X12_doesSee (d + 1) 0 0) [.ref 1, .int x3, .int x4] h (fun r24 h22 => Wf h22 ∧ ((r24 = 0 → vp_in (h_i h 1 113) 5 ∧ (AW (m_X12_findShares (d + 3) 0 0) 0 0 83 [(0, .ref 1), (1, .int x1), (3, .int x3), (4, .int (x4 + 1))] [] (h_im h22 287 ((h_i h 1 113) : Int32).toNatClampNeg ((h_i h 287 ((h_i h 1 113) : Int32).toNatClampNeg) ||| 0)) (kI K))) ∧ (¬ r24 = 0 → vp_in (h_i h 1 113) 5 ∧ (AW (m_X12_findShares (d + 3) 0 0) 0 0 83 [(0, .ref 1), (1, .int x1), (3, .int x3), (4, .int (x4 + 1))] [] (h_im h22 287 ((h_i h 1 113) : Int32).toNatClampNeg ((h_i h 287 ((h_i h 1 113) : Int32).toNatClampNeg) ||| ((1 : Int32) <<< (x4 &&& 31)))) (kI K)))))))) : AW (m_X12_findShares (d + 3) 0 0) 0 0 83 [(0, .ref 1), (1, .int x1), (3, .int x3), (4, .int x4)] [] h (kI K) := by
  refine aw_iload d_X12_findShares_83 3 rfl ?_
  refine aw_aload_n (i := 0) rfl d_X12_findShares_85 0 rfl ?_
  refine aw_geti (k0 := 108) kc_12 (ws_1 w) (Nat.le_of_ble_eq_true rfl) tw_1850 d_X12_findShares_86 rfl ?_
  refine aw_icmp_ge (tgt := 128) d_X12_findShares_89 rfl (fun c20 => ?_) (fun c20 => ?_)
  · have k := k.1 c20
    refine aw_aload_n (i := 0) rfl d_X12_findShares_128 0 rfl ?_
    refine aw_dup d_X12_findShares_129 rfl ?_
    refine aw_geti (k0 := 113) kc_12 (ws_1 w) (Nat.le_of_ble_eq_true rfl) tw_1855 d_X12_findShares_130 rfl ?_
    refine aw_iconst (v := 1) d_X12_findShares_133 ic_1 ?_
    refine aw_iadd d_X12_findShares_134 ?_
    refine aw_puti (k0 := 113) kc_12 (ws_1 w) (Nat.le_of_ble_eq_true rfl) tw_1855 d_X12_findShares_135 rfl rfl nf_i ?_
    refine aw_iinc (v := (x3 + 1)) [(0, .ref 1), (1, .int x1), (3, .int (x3 + 1)), (4, .int x4)] d_X12_findShares_138 2 rfl rfl (Nat.le_of_ble_eq_true rfl) rfl rfl ?_
    refine aw_goto (tgt := 43) d_X12_findShares_141 rfl ?_
    exact aw_lvp [0, 1, 2] [(0, .ref 1), (1, .int x1), (3, .int (x3 + 1))] rfl k
  · have k := k.2 c20
    refine aw_aload_n (i := 0) rfl d_X12_findShares_92 0 rfl ?_
    refine aw_getr (k0 := 112) kc_12 (ws_1 w) (Nat.le_of_ble_eq_true rfl) tw_1854 d_X12_findShares_93 rfl (wr_1_112 w) ?_
    refine aw_aload_n (i := 0) rfl d_X12_findShares_96 0 rfl ?_
    refine aw_geti (k0 := 113) kc_12 (ws_1 w) (Nat.le_of_ble_eq_true rfl) tw_1855 d_X12_findShares_97 rfl ?_
    refine aw_dup2 d_X12_findShares_100 ⟨rfl, rfl⟩ ?_
    obtain ⟨b21, k⟩ := k
    refine aw_iald (ws_287 w) b21 d_X12_findShares_101 ?_
    refine aw_aload_n (i := 0) rfl d_X12_findShares_102 0 rfl ?_
    refine aw_iload_n (i := 3) rfl d_X12_findShares_103 2 rfl ?_
    refine aw_iload d_X12_findShares_104 3 rfl ?_
    refine aw_Vi 1 [.int x3, .int x4] [.int (h_i h 287 ((h_i h 1 113) : Int32).toNatClampNeg), .int (h_i h 1 113), .ref 287] d_X12_findShares_106 (cV_X12_doesSee (d + 1) 0 0) kc_12 (ws_1 w) tw_2603 rfl (rr0 (Nat.le_of_ble_eq_true rfl) (Nat.le_of_ble_eq_true rfl)) (Nat.le_of_ble_eq_true rfl) xs0 k (fun r24 h22 kk => ?_)
    obtain ⟨w23, k⟩ := kk
    refine aw_if_eq (tgt := 119) d_X12_findShares_109 rfl (fun c25 => ?_) (fun c25 => ?_)
    · have k := k.1 c25
      refine aw_iconst (v := 0) d_X12_findShares_119 ic_0 ?_
      refine aw_ior d_X12_findShares_120 ?_
      obtain ⟨b26, k⟩ := k
      refine aw_iast (ws_287 w23) b26 d_X12_findShares_121 ?_
      refine aw_iinc (v := (x4 + 1)) [(0, .ref 1), (1, .int x1), (3, .int x3), (4, .int (x4 + 1))] d_X12_findShares_122 3 rfl rfl (Nat.le_of_ble_eq_true rfl) rfl rfl ?_
      refine aw_goto (tgt := 83) d_X12_findShares_125 rfl ?_
      exact k
    · have k := k.2 c25
      refine aw_iconst (v := 1) d_X12_findShares_112 ic_1 ?_
      refine aw_iload d_X12_findShares_113 3 rfl ?_
      refine aw_ishl d_X12_findShares_115 ?_
      refine aw_goto (tgt := 120) d_X12_findShares_116 rfl ?_
      refine aw_ior d_X12_findShares_120 ?_
      obtain ⟨b27, k⟩ := k
      refine aw_iast (ws_287 w23) b27 d_X12_findShares_121 ?_
      refine aw_iinc (v := (x4 + 1)) [(0, .ref 1), (1, .int x1), (3, .int x3), (4, .int (x4 + 1))] d_X12_findShares_122 3 rfl rfl (Nat.le_of_ble_eq_true rfl) rfl rfl ?_
      refine aw_goto (tgt := 83) d_X12_findShares_125 rfl ?_
      exact k
