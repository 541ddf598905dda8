theorem t_X12_clause (d : Nat) (h : Hp_) (w : Wf h)  (K : Hp_ → Prop) (k : Ci (m_X12_look (d + 0) 0 0) [.ref 1] h (fun r3 h1 => Wf h1 ∧ ((¬ (h_i h1 1 37) = 1 → (r3 = 33 → Cv (m_X12_condition (d + 57) 0 0) [.ref 1, .int 0] h1 (fun h7 => Wf h7 ∧ (Cv (m_X12_ask (d + 1) 0 0) [.ref 1] h7 (fun h10 => Wf h10 ∧ ((¬ (h_i h10 1 34) = (-1) → K h10) ∧ ((h_i h10 1 34) = (-1) → Cv (m_X12_sum (d + 53) 0 0) [.ref 1] h10 (fun h14 => Wf h14 ∧ (Cv (m_X12_say (d + 0) 0 0) [.ref 1, .int 3] h14 (fun h17 => Wf h17 ∧ (K h17)))))))))) ∧ (¬ r3 = 33 → (r3 = 40 → Cv (m_X12_condition (d + 57) 0 0) [.ref 1, .int 0] h1 (fun h22 => Wf h22 ∧ (Cv (m_X12_ask (d + 1) 0 0) [.ref 1] h22 (fun h25 => Wf h25 ∧ ((¬ (h_i h25 1 34) = (-1) → K h25) ∧ ((h_i h25 1 34) = (-1) → Cv (m_X12_sum (d + 53) 0 0) [.ref 1] h25 (fun h29 => Wf h29 ∧ (Cv (m_X12_say (d + 0) 0 0) [.ref 1, .int 3] h29 (fun h32 => Wf h32 ∧ (K h32)))))))))) ∧ (¬ r3 = 40 → Cv (m_X12_sum (d + 53) 0 0) [.ref 1] h1 (fun h36 => Wf h36 ∧ (((h_i h36 1 34) = (-1) → Ci (m_X12_look (d + 0) 0 0) [.ref 1] h36 (fun r42 h40 => Wf h40 ∧ (Ci (m_X12_isSign (d + 0) 0 0) [.int r42] h40 (fun r45 h43 => Wf h43 ∧ ((¬ r45 = 0 → Cv (m_X12_condition (d + 57) 0 0) [.ref 1, .int 1] h43 (fun h47 => Wf h47 ∧ (Cv (m_X12_ask (d + 1) 0 0) [.ref 1] h47 (fun h50 => Wf h50 ∧ ((¬ (h_i h50 1 34) = (-1) → K h50) ∧ ((h_i h50 1 34) = (-1) → Cv (m_X12_sum (d + 53) 0 0) [.ref 1] h50 (fun h54 => Wf h54 ∧ (Cv (m_X12_say (d + 0) 0 0) [.ref 1, .int 3] h54 (fun h57 => Wf h57 ∧ (K h57)))))))))) ∧ (r45 = 0 → AW (m_X12_clause (d + 58) 0 0) 0 0 179 [(0, .ref 1), (3, .int (h_i h1 1 36)), (4, .int ((h_i h43 1 36) - 1))] [] h43 (kV K))))))) ∧ (¬ (h_i h36 1 34) = (-1) → K h36)))))) ∧ ((h_i h1 1 37) = 1 → Cv (m_X12_condition (d + 57) 0 0) [.ref 1, .int 0] h1 (fun h60 => Wf h60 ∧ (Cv (m_X12_ask (d + 1) 0 0) [.ref 1] h60 (fun h63 => Wf h63 ∧ (((h_i h63 1 34) = (-1) → Ci (m_X12_look (d + 0) 0 0) [.ref 1] h63 (fun r69 h67 => Wf h67 ∧ ((r69 = 120 → Cv (m_X12_say (d + 0) 0 0) [.ref 1, .int 0] (h_im h67 1 33 ((h_i h67 1 33) + 1)) (fun h71 => Wf h71 ∧ ((¬ r69 = 120 → (¬ r69 = 110 → (¬ r69 = 114 → Cv (m_X12_say (d + 0) 0 0) [.ref 1, .int 3] h71 (fun h77 => Wf h77 ∧ (Cv (m_X12_say (d + 0) 0 0) [.ref 1, .int 3] h77 (fun h80 => Wf h80 ∧ (K h80))))) ∧ (r69 = 114 → Cv (m_X12_say (d + 0) 0 0) [.ref 1, .int 2] h71 (fun h83 => Wf h83 ∧ (Cv (m_X12_say (d + 0) 0 0) [.ref 1, .int 3] h83 (fun h86 => Wf h86 ∧ (K h86)))))) ∧ (r69 = 110 → Cv (m_X12_say (d + 0) 0 0) [.ref 1, .int 1] h71 (fun h89 => Wf h89 ∧ (Cv (m_X12_say (d + 0) 0 0) [.ref 1, .int 3] h89 (fun h92 => Wf h92 ∧ (K h92)))))) ∧ (r69 = 120 → Cv (m_X12_say (d + 0) 0 0) [.ref 1, .int 0] h71 (fun h95 => Wf h95 ∧ (Cv (m_X12_say (d + 0) 0 0) [.ref 1, .int 3] h95 (fun h98 => Wf h98 ∧ (K h98)))))))) ∧ (¬ r69 = 120 → (r69 = 110 → Cv (m_X12_say (d + 0) 0 0) [.ref 1, .int 0] (h_im h67 1 33 ((h_i h67 1 33) + 1)) (fun h102 => Wf h102 ∧ ((¬ r69 = 120 → (¬ r69 = 110 → (¬ r69 = 114 → Cv (m_X12_say (d + 0) 0 0) [.ref 1, .int 3] h102 (fun h108 => Wf h108 ∧ (Cv (m_X12_say (d + 0) 0 0) [.ref 1, .int 3] h108 (fun h111 => Wf h111 ∧ (K h111))))) ∧ (r69 = 114 → Cv (m_X12_say (d + 0) 0 0) [.ref 1, .int 2] h102 (fun h114 => Wf h114 ∧ (Cv (m_X12_say (d + 0) 0 0) [.ref 1, .int 3] h114 (fun h117 => Wf h117 ∧ (K h117)))))) ∧ (r69 = 110 → Cv (m_X12_say (d + 0) 0 0) [.ref 1, .int 1] h102 (fun h120 => Wf h120 ∧ (Cv (m_X12_say (d + 0) 0 0) [.ref 1, .int 3] h120 (fun h123 => Wf h123 ∧ (K h123)))))) ∧ (r69 = 120 → Cv (m_X12_say (d + 0) 0 0) [.ref 1, .int 0] h102 (fun h126 => Wf h126 ∧ (Cv (m_X12_say (d + 0) 0 0) [.ref 1, .int 3] h126 (fun h129 => Wf h129 ∧ (K h129)))))))) ∧ (¬ r69 = 110 → (r69 = 114 → Cv (m_X12_say (d + 0) 0 0) [.ref 1, .int 0] (h_im h67 1 33 ((h_i h67 1 33) + 1)) (fun h133 => Wf h133 ∧ ((¬ r69 = 120 → (¬ r69 = 110 → (¬ r69 = 114 → Cv (m_X12_say (d + 0) 0 0) [.ref 1, .int 3] h133 (fun h139 => Wf h139 ∧ (Cv (m_X12_say (d + 0) 0 0) [.ref 1, .int 3] h139 (fun h142 => Wf h142 ∧ (K h142))))) ∧ (r69 = 114 → Cv (m_X12_say (d + 0) 0 0) [.ref 1, .int 2] h133 (fun h145 => Wf h145 ∧ (Cv (m_X12_say (d + 0) 0 0) [.ref 1, .int 3] h145 (fun h148 => Wf h148 ∧ (K h148)))))) ∧ (r69 = 110 → Cv (m_X12_say (d + 0) 0 0) [.ref 1, .int 1] h133 (fun h151 => Wf h151 ∧ (Cv (m_X12_say (d + 0) 0 0) [.ref 1, .int 3] h151 (fun h154 => Wf h154 ∧ (K h154)))))) ∧ (r69 = 120 → Cv (m_X12_say (d + 0) 0 0) [.ref 1, .int 0] h133 (fun h157 => Wf h157 ∧ (Cv (m_X12_say (d + 0) 0 0) [.ref 1, .int 3] h157 (fun h160 => Wf h160 ∧ (K h160)))))))) ∧ (¬ r69 = 114 → (r69 = 116 → Cv (m_X12_say (d + 0) 0 0) [.ref 1, .int 0] (h_im h67 1 33 ((h_i h67 1 33) + 1)) (fun h164 => Wf h164 ∧ ((¬ r69 = 120 → (¬ r69 = 110 → (¬ r69 = 114 → Cv (m_X12_say (d + 0) 0 0) [.ref 1, .int 3] h164 (fun h170 => Wf h170 ∧ (Cv (m_X12_say (d + 0) 0 0) [.ref 1, .int 3] h170 (fun h173 => Wf h173 ∧ (K h173))))) ∧ (r69 = 114 → Cv (m_X12_say (d + 0) 0 0) [.ref 1, .int 2] h164 (fun h176 => Wf h176 ∧ (Cv (m_X12_say (d + 0) 0 0) [.ref 1, .int 3] h176 (fun h179 => Wf h179 ∧ (K h179)))))) ∧ (r69 = 110 → Cv (m_X12_say (d + 0) 0 0) [.ref 1, .int 1] h164 (fun h182 => Wf h182 ∧ (Cv (m_X12_say (d + 0) 0 0) [.ref 1, .int 3] h182 (fun h185 => Wf h185 ∧ (K h185)))))) ∧ (r69 = 120 → Cv (m_X12_say (d + 0) 0 0) [.ref 1, .int 0] h164 (fun h188 => Wf h188 ∧ (Cv (m_X12_say (d + 0) 0 0) [.ref 1, .int 3] h188 (fun h191 => Wf h191 ∧ (K h191)))))))) ∧ (¬ r69 = 116 → Cv (m_X12_bad (d + 0) 0 0) [.ref 1] h67 (fun h194 => Wf h194 ∧ (K h194))))))))) ∧ (¬ (h_i h63 1 34) = (-1) → K h63))))))))) : Cv (m_X12_clause (d + 58) 0 0) [.ref 1] h K := by
  refine Ct.of (fun _ _ _ => trivial) rfl (Nat.le_of_ble_eq_true rfl) ?_
  show AW (m_X12_clause (d + 58) 0 0) 0 0 0 [(0, .ref 1)] [] h (kV K)
  refine aw_aload_n (i := 0) rfl d_X12_clause_0 0 rfl ?_
  refine aw_Vi 1 [] [] d_X12_clause_1 (cV_X12_look (d + 0) 0 0) kc_12 (ws_1 w) tw_2206 rfl (rr0 (Nat.le_of_ble_eq_true rfl) (Nat.le_of_ble_eq_true rfl)) (Nat.le_of_ble_eq_true rfl) xs0 k (fun r3 h1 kk => ?_)
  obtain ⟨w2, k⟩ := kk
  refine aw_istore_n (i := 1) rfl [(0, .ref 1), (1, .int r3)] d_X12_clause_4 (Nat.le_of_ble_eq_true rfl) rfl rfl ?_
  refine aw_aload_n (i := 0) rfl d_X12_clause_5 0 rfl ?_
  refine aw_geti (k0 := 37) kc_12 (ws_1 w2) (Nat.le_of_ble_eq_true rfl) tw_1779 d_X12_clause_6 rfl ?_
  refine aw_iconst (v := 1) d_X12_clause_9 ic_1 ?_
  refine aw_icmp_ne (tgt := 121) d_X12_clause_10 rfl (fun c4 => ?_) (fun c4 => ?_)
  · have k := k.1 c4
    refine aw_iload_n (i := 1) rfl d_X12_clause_121 1 rfl ?_
    refine aw_bipush (v := 33) d_X12_clause_122 ib_33 ?_
    refine aw_icmp_eq (tgt := 137) d_X12_clause_124 rfl (fun c5 => ?_) (fun c5 => ?_)
    · have k := k.1 c5
      refine aw_iconst (v := 0) d_X12_clause_137 ic_0 ?_
      refine aw_istore_n (i := 2) rfl [(0, .ref 1), (1, .int r3), (2, .int 0)] d_X12_clause_138 (Nat.le_of_ble_eq_true rfl) rfl rfl ?_
      refine aw_iload_n (i := 2) rfl d_X12_clause_139 2 rfl ?_
      refine aw_if_eq (tgt := 248) d_X12_clause_140 rfl (fun _ => ?_) (fun c => absurd c (by decide))
      refine aw_aload_n (i := 0) rfl d_X12_clause_248 0 rfl ?_
      refine aw_iload_n (i := 2) rfl d_X12_clause_249 2 rfl ?_
      refine aw_Vv 1 [.int 0] [] d_X12_clause_250 (cV_X12_condition (d + 57) 0 0) kc_12 (ws_1 w2) tw_2233 rfl (rr0 (Nat.le_of_ble_eq_true rfl) (Nat.le_of_ble_eq_true rfl)) (Nat.le_of_ble_eq_true rfl) xs0 k (fun h7 kk => ?_)
      obtain ⟨w8, k⟩ := kk
      refine aw_aload_n (i := 0) rfl d_X12_clause_253 0 rfl ?_
      refine aw_Vv 1 [] [] d_X12_clause_254 (cV_X12_ask (d + 1) 0 0) kc_12 (ws_1 w8) tw_2275 rfl (rr0 (Nat.le_of_ble_eq_true rfl) (Nat.le_of_ble_eq_true rfl)) (Nat.le_of_ble_eq_true rfl) xs0 k (fun h10 kk => ?_)
      obtain ⟨w11, k⟩ := kk
      refine aw_aload_n (i := 0) rfl d_X12_clause_257 0 rfl ?_
      refine aw_geti (k0 := 34) kc_12 (ws_1 w11) (Nat.le_of_ble_eq_true rfl) tw_1776 d_X12_clause_258 rfl ?_
      refine aw_iconst (v := (-1)) d_X12_clause_261 ic_m1 ?_
      refine aw_icmp_ne (tgt := 274) d_X12_clause_262 rfl (fun c13 => ?_) (fun c13 => ?_)
      · have k := k.1 c13
        exact aw_vret rfl d_X12_clause_274 ⟨Nat.le_refl _, Nat.le_refl _⟩ ⟨rfl, k⟩
      · have k := k.2 c13
        refine aw_aload_n (i := 0) rfl d_X12_clause_265 0 rfl ?_
        refine aw_Vv 1 [] [] d_X12_clause_266 (cV_X12_sum (d + 53) 0 0) kc_12 (ws_1 w11) tw_2248 rfl (rr0 (Nat.le_of_ble_eq_true rfl) (Nat.le_of_ble_eq_true rfl)) (Nat.le_of_ble_eq_true rfl) xs0 k (fun h14 kk => ?_)
        obtain ⟨w15, k⟩ := kk
        refine aw_aload_n (i := 0) rfl d_X12_clause_269 0 rfl ?_
        refine aw_iconst (v := 3) d_X12_clause_270 ic_3 ?_
        refine aw_Vv 1 [.int 3] [] d_X12_clause_271 (cV_X12_say (d + 0) 0 0) kc_12 (ws_1 w15) tw_2210 rfl (rr0 (Nat.le_of_ble_eq_true rfl) (Nat.le_of_ble_eq_true rfl)) (Nat.le_of_ble_eq_true rfl) xs0 k (fun h17 kk => ?_)
        obtain ⟨w18, k⟩ := kk
        exact aw_vret rfl d_X12_clause_274 ⟨Nat.le_refl _, Nat.le_refl _⟩ ⟨rfl, k⟩
    · have k := k.2 c5
      refine aw_iload_n (i := 1) rfl d_X12_clause_127 1 rfl ?_
      refine aw_bipush (v := 40) d_X12_clause_128 ib_40 ?_
      refine aw_icmp_eq (tgt := 137) d_X12_clause_130 rfl (fun c20 => ?_) (fun c20 => ?_)
      · have k := k.1 c20
        refine aw_iconst (v := 0) d_X12_clause_137 ic_0 ?_
        refine aw_istore_n (i := 2) rfl [(0, .ref 1), (1, .int r3), (2, .int 0)] d_X12_clause_138 (Nat.le_of_ble_eq_true rfl) rfl rfl ?_
        refine aw_iload_n (i := 2) rfl d_X12_clause_139 2 rfl ?_
        refine aw_if_eq (tgt := 248) d_X12_clause_140 rfl (fun _ => ?_) (fun c => absurd c (by decide))
        refine aw_aload_n (i := 0) rfl d_X12_clause_248 0 rfl ?_
        refine aw_iload_n (i := 2) rfl d_X12_clause_249 2 rfl ?_
        refine aw_Vv 1 [.int 0] [] d_X12_clause_250 (cV_X12_condition (d + 57) 0 0) kc_12 (ws_1 w2) tw_2233 rfl (rr0 (Nat.le_of_ble_eq_true rfl) (Nat.le_of_ble_eq_true rfl)) (Nat.le_of_ble_eq_true rfl) xs0 k (fun h22 kk => ?_)
        obtain ⟨w23, k⟩ := kk
        refine aw_aload_n (i := 0) rfl d_X12_clause_253 0 rfl ?_
        refine aw_Vv 1 [] [] d_X12_clause_254 (cV_X12_ask (d + 1) 0 0) kc_12 (ws_1 w23) tw_2275 rfl (rr0 (Nat.le_of_ble_eq_true rfl) (Nat.le_of_ble_eq_true rfl)) (Nat.le_of_ble_eq_true rfl) xs0 k (fun h25 kk => ?_)
        obtain ⟨w26, k⟩ := kk
        refine aw_aload_n (i := 0) rfl d_X12_clause_257 0 rfl ?_
        refine aw_geti (k0 := 34) kc_12 (ws_1 w26) (Nat.le_of_ble_eq_true rfl) tw_1776 d_X12_clause_258 rfl ?_
        refine aw_iconst (v := (-1)) d_X12_clause_261 ic_m1 ?_
        refine aw_icmp_ne (tgt := 274) d_X12_clause_262 rfl (fun c28 => ?_) (fun c28 => ?_)
        · have k := k.1 c28
          exact aw_vret rfl d_X12_clause_274 ⟨Nat.le_refl _, Nat.le_refl _⟩ ⟨rfl, k⟩
        · have k := k.2 c28
          refine aw_aload_n (i := 0) rfl d_X12_clause_265 0 rfl ?_
          refine aw_Vv 1 [] [] d_X12_clause_266 (cV_X12_sum (d + 53) 0 0) kc_12 (ws_1 w26) tw_2248 rfl (rr0 (Nat.le_of_ble_eq_true rfl) (Nat.le_of_ble_eq_true rfl)) (Nat.le_of_ble_eq_true rfl) xs0 k (fun h29 kk => ?_)
          obtain ⟨w30, k⟩ := kk
          refine aw_aload_n (i := 0) rfl d_X12_clause_269 0 rfl ?_
          refine aw_iconst (v := 3) d_X12_clause_270 ic_3 ?_
          refine aw_Vv 1 [.int 3] [] d_X12_clause_271 (cV_X12_say (d + 0) 0 0) kc_12 (ws_1 w30) tw_2210 rfl (rr0 (Nat.le_of_ble_eq_true rfl) (Nat.le_of_ble_eq_true rfl)) (Nat.le_of_ble_eq_true rfl) xs0 k (fun h32 kk => ?_)
          obtain ⟨w33, k⟩ := kk
          exact aw_vret rfl d_X12_clause_274 ⟨Nat.le_refl _, Nat.le_refl _⟩ ⟨rfl, k⟩
      · have k := k.2 c20
        refine aw_iconst (v := 1) d_X12_clause_133 ic_1 ?_
        refine aw_goto (tgt := 138) d_X12_clause_134 rfl ?_
        refine aw_istore_n (i := 2) rfl [(0, .ref 1), (1, .int r3), (2, .int 1)] d_X12_clause_138 (Nat.le_of_ble_eq_true rfl) rfl rfl ?_
        refine aw_iload_n (i := 2) rfl d_X12_clause_139 2 rfl ?_
        refine aw_if_eq (tgt := 248) d_X12_clause_140 rfl (fun c => absurd c (by decide)) (fun _ => ?_)
        refine aw_aload_n (i := 0) rfl d_X12_clause_143 0 rfl ?_
        refine aw_geti (k0 := 36) kc_12 (ws_1 w2) (Nat.le_of_ble_eq_true rfl) tw_1778 d_X12_clause_144 rfl ?_
        refine aw_istore_n (i := 3) rfl [(0, .ref 1), (1, .int r3), (2, .int 1), (3, .int (h_i h1 1 36))] d_X12_clause_147 (Nat.le_of_ble_eq_true rfl) rfl rfl ?_
        refine aw_aload_n (i := 0) rfl d_X12_clause_148 0 rfl ?_
        refine aw_Vv 1 [] [] d_X12_clause_149 (cV_X12_sum (d + 53) 0 0) kc_12 (ws_1 w2) tw_2248 rfl (rr0 (Nat.le_of_ble_eq_true rfl) (Nat.le_of_ble_eq_true rfl)) (Nat.le_of_ble_eq_true rfl) xs0 k (fun h36 kk => ?_)
        obtain ⟨w37, k⟩ := kk
        refine aw_aload_n (i := 0) rfl d_X12_clause_152 0 rfl ?_
        refine aw_geti (k0 := 34) kc_12 (ws_1 w37) (Nat.le_of_ble_eq_true rfl) tw_1776 d_X12_clause_153 rfl ?_
        refine aw_iconst (v := (-1)) d_X12_clause_156 ic_m1 ?_
        refine aw_icmp_eq (tgt := 161) d_X12_clause_157 rfl (fun c39 => ?_) (fun c39 => ?_)
        · have k := k.1 c39
          refine aw_aload_n (i := 0) rfl d_X12_clause_161 0 rfl ?_
          refine aw_Vi 1 [] [] d_X12_clause_162 (cV_X12_look (d + 0) 0 0) kc_12 (ws_1 w37) tw_2206 rfl (rr0 (Nat.le_of_ble_eq_true rfl) (Nat.le_of_ble_eq_true rfl)) (Nat.le_of_ble_eq_true rfl) xs0 k (fun r42 h40 kk => ?_)
          obtain ⟨w41, k⟩ := kk
          refine aw_Si [.int r42] [] d_X12_clause_165 (cS_X12_isSign (d + 0) 0 0) tw_2245 rfl (rr0 (Nat.le_of_ble_eq_true rfl) (Nat.le_of_ble_eq_true rfl)) (Nat.le_of_ble_eq_true rfl) xs0 k (fun r45 h43 kk => ?_)
          obtain ⟨w44, k⟩ := kk
          refine aw_if_ne (tgt := 248) d_X12_clause_168 rfl (fun c46 => ?_) (fun c46 => ?_)
          · have k := k.1 c46
            refine aw_aload_n (i := 0) rfl d_X12_clause_248 0 rfl ?_
            refine aw_iload_n (i := 2) rfl d_X12_clause_249 2 rfl ?_
            refine aw_Vv 1 [.int 1] [] d_X12_clause_250 (cV_X12_condition (d + 57) 0 0) kc_12 (ws_1 w44) tw_2233 rfl (rr0 (Nat.le_of_ble_eq_true rfl) (Nat.le_of_ble_eq_true rfl)) (Nat.le_of_ble_eq_true rfl) xs0 k (fun h47 kk => ?_)
            obtain ⟨w48, k⟩ := kk
            refine aw_aload_n (i := 0) rfl d_X12_clause_253 0 rfl ?_
            refine aw_Vv 1 [] [] d_X12_clause_254 (cV_X12_ask (d + 1) 0 0) kc_12 (ws_1 w48) tw_2275 rfl (rr0 (Nat.le_of_ble_eq_true rfl) (Nat.le_of_ble_eq_true rfl)) (Nat.le_of_ble_eq_true rfl) xs0 k (fun h50 kk => ?_)
            obtain ⟨w51, k⟩ := kk
            refine aw_aload_n (i := 0) rfl d_X12_clause_257 0 rfl ?_
            refine aw_geti (k0 := 34) kc_12 (ws_1 w51) (Nat.le_of_ble_eq_true rfl) tw_1776 d_X12_clause_258 rfl ?_
            refine aw_iconst (v := (-1)) d_X12_clause_261 ic_m1 ?_
            refine aw_icmp_ne (tgt := 274) d_X12_clause_262 rfl (fun c53 => ?_) (fun c53 => ?_)
            · have k := k.1 c53
              exact aw_vret rfl d_X12_clause_274 ⟨Nat.le_refl _, Nat.le_refl _⟩ ⟨rfl, k⟩
            · have k := k.2 c53
              refine aw_aload_n (i := 0) rfl d_X12_clause_265 0 rfl ?_
              refine aw_Vv 1 [] [] d_X12_clause_266 (cV_X12_sum (d + 53) 0 0) kc_12 (ws_1 w51) tw_2248 rfl (rr0 (Nat.le_of_ble_eq_true rfl) (Nat.le_of_ble_eq_true rfl)) (Nat.le_of_ble_eq_true rfl) xs0 k (fun h54 kk => ?_)
              obtain ⟨w55, k⟩ := kk
              refine aw_aload_n (i := 0) rfl d_X12_clause_269 0 rfl ?_
              refine aw_iconst (v := 3) d_X12_clause_270 ic_3 ?_
              refine aw_Vv 1 [.int 3] [] d_X12_clause_271 (cV_X12_say (d + 0) 0 0) kc_12 (ws_1 w55) tw_2210 rfl (rr0 (Nat.le_of_ble_eq_true rfl) (Nat.le_of_ble_eq_true rfl)) (Nat.le_of_ble_eq_true rfl) xs0 k (fun h57 kk => ?_)
              obtain ⟨w58, k⟩ := kk
              exact aw_vret rfl d_X12_clause_274 ⟨Nat.le_refl _, Nat.le_refl _⟩ ⟨rfl, k⟩
          · have k := k.2 c46
            refine aw_aload_n (i := 0) rfl d_X12_clause_171 0 rfl ?_
            refine aw_geti (k0 := 36) kc_12 (ws_1 w44) (Nat.le_of_ble_eq_true rfl) tw_1778 d_X12_clause_172 rfl ?_
            refine aw_iconst (v := 1) d_X12_clause_175 ic_1 ?_
            refine aw_isub d_X12_clause_176 ?_
            refine aw_istore [(0, .ref 1), (1, .int r3), (2, .int 1), (3, .int (h_i h1 1 36)), (4, .int ((h_i h43 1 36) - 1))] d_X12_clause_177 (Nat.le_of_ble_eq_true rfl) rfl rfl ?_
            exact aw_lvp [0, 3, 4] [(0, .ref 1), (3, .int (h_i h1 1 36)), (4, .int ((h_i h43 1 36) - 1))] rfl k
        · have k := k.2 c39
          exact aw_vret rfl d_X12_clause_160 ⟨Nat.le_refl _, Nat.le_refl _⟩ ⟨rfl, k⟩
  · have k := k.2 c4
    refine aw_aload_n (i := 0) rfl d_X12_clause_13 0 rfl ?_
    refine aw_iconst (v := 0) d_X12_clause_14 ic_0 ?_
    refine aw_Vv 1 [.int 0] [] d_X12_clause_15 (cV_X12_condition (d + 57) 0 0) kc_12 (ws_1 w2) tw_2233 rfl (rr0 (Nat.le_of_ble_eq_true rfl) (Nat.le_of_ble_eq_true rfl)) (Nat.le_of_ble_eq_true rfl) xs0 k (fun h60 kk => ?_)
    obtain ⟨w61, k⟩ := kk
    refine aw_aload_n (i := 0) rfl d_X12_clause_18 0 rfl ?_
    refine aw_Vv 1 [] [] d_X12_clause_19 (cV_X12_ask (d + 1) 0 0) kc_12 (ws_1 w61) tw_2275 rfl (rr0 (Nat.le_of_ble_eq_true rfl) (Nat.le_of_ble_eq_true rfl)) (Nat.le_of_ble_eq_true rfl) xs0 k (fun h63 kk => ?_)
    obtain ⟨w64, k⟩ := kk
    refine aw_aload_n (i := 0) rfl d_X12_clause_22 0 rfl ?_
    refine aw_geti (k0 := 34) kc_12 (ws_1 w64) (Nat.le_of_ble_eq_true rfl) tw_1776 d_X12_clause_23 rfl ?_
    refine aw_iconst (v := (-1)) d_X12_clause_26 ic_m1 ?_
    refine aw_icmp_eq (tgt := 31) d_X12_clause_27 rfl (fun c66 => ?_) (fun c66 => ?_)
    · have k := k.1 c66
      refine aw_aload_n (i := 0) rfl d_X12_clause_31 0 rfl ?_
      refine aw_Vi 1 [] [] d_X12_clause_32 (cV_X12_look (d + 0) 0 0) kc_12 (ws_1 w64) tw_2206 rfl (rr0 (Nat.le_of_ble_eq_true rfl) (Nat.le_of_ble_eq_true rfl)) (Nat.le_of_ble_eq_true rfl) xs0 k (fun r69 h67 kk => ?_)
      obtain ⟨w68, k⟩ := kk
      refine aw_istore_n (i := 2) rfl [(0, .ref 1), (1, .int r3), (2, .int r69)] d_X12_clause_35 (Nat.le_of_ble_eq_true rfl) rfl rfl ?_
      refine aw_iload_n (i := 2) rfl d_X12_clause_36 2 rfl ?_
      refine aw_bipush (v := 120) d_X12_clause_37 ib_120 ?_
      refine aw_icmp_eq (tgt := 65) d_X12_clause_39 rfl (fun c70 => ?_) (fun c70 => ?_)
      · have k := k.1 c70
        refine aw_aload_n (i := 0) rfl d_X12_clause_65 0 rfl ?_
        refine aw_dup d_X12_clause_66 rfl ?_
        refine aw_geti (k0 := 33) kc_12 (ws_1 w68) (Nat.le_of_ble_eq_true rfl) tw_1775 d_X12_clause_67 rfl ?_
        refine aw_iconst (v := 1) d_X12_clause_70 ic_1 ?_
        refine aw_iadd d_X12_clause_71 ?_
        refine aw_puti (k0 := 33) kc_12 (ws_1 w68) (Nat.le_of_ble_eq_true rfl) tw_1775 d_X12_clause_72 rfl rfl nf_i ?_
        refine aw_aload_n (i := 0) rfl d_X12_clause_75 0 rfl ?_
        refine aw_iconst (v := 0) d_X12_clause_76 ic_0 ?_
        refine aw_Vv 1 [.int 0] [] d_X12_clause_77 (cV_X12_say (d + 0) 0 0) kc_12 (ws_1 w68) tw_2210 rfl (rr0 (Nat.le_of_ble_eq_true rfl) (Nat.le_of_ble_eq_true rfl)) (Nat.le_of_ble_eq_true rfl) xs0 k (fun h71 kk => ?_)
        obtain ⟨w72, k⟩ := kk
        refine aw_aload_n (i := 0) rfl d_X12_clause_80 0 rfl ?_
        refine aw_iload_n (i := 2) rfl d_X12_clause_81 2 rfl ?_
        refine aw_bipush (v := 120) d_X12_clause_82 ib_120 ?_
        refine aw_icmp_ne (tgt := 91) d_X12_clause_84 rfl (fun c74 => ?_) (fun c74 => ?_)
        · have k := k.1 c74
          refine aw_iload_n (i := 2) rfl d_X12_clause_91 2 rfl ?_
          refine aw_bipush (v := 110) d_X12_clause_92 ib_110 ?_
          refine aw_icmp_ne (tgt := 101) d_X12_clause_94 rfl (fun c75 => ?_) (fun c75 => ?_)
          · have k := k.1 c75
            refine aw_iload_n (i := 2) rfl d_X12_clause_101 2 rfl ?_
            refine aw_bipush (v := 114) d_X12_clause_102 ib_114 ?_
            refine aw_icmp_ne (tgt := 111) d_X12_clause_104 rfl (fun c76 => ?_) (fun c76 => ?_)
            · have k := k.1 c76
              refine aw_iconst (v := 3) d_X12_clause_111 ic_3 ?_
              refine aw_Vv 1 [.int 3] [] d_X12_clause_112 (cV_X12_say (d + 0) 0 0) kc_12 (ws_1 w72) tw_2210 rfl (rr0 (Nat.le_of_ble_eq_true rfl) (Nat.le_of_ble_eq_true rfl)) (Nat.le_of_ble_eq_true rfl) xs0 k (fun h77 kk => ?_)
              obtain ⟨w78, k⟩ := kk
              refine aw_aload_n (i := 0) rfl d_X12_clause_115 0 rfl ?_
              refine aw_iconst (v := 3) d_X12_clause_116 ic_3 ?_
              refine aw_Vv 1 [.int 3] [] d_X12_clause_117 (cV_X12_say (d + 0) 0 0) kc_12 (ws_1 w78) tw_2210 rfl (rr0 (Nat.le_of_ble_eq_true rfl) (Nat.le_of_ble_eq_true rfl)) (Nat.le_of_ble_eq_true rfl) xs0 k (fun h80 kk => ?_)
              obtain ⟨w81, k⟩ := kk
              exact aw_vret rfl d_X12_clause_120 ⟨Nat.le_refl _, Nat.le_refl _⟩ ⟨rfl, k⟩
            · have k := k.2 c76
              refine aw_iconst (v := 2) d_X12_clause_107 ic_2 ?_
              refine aw_goto (tgt := 112) d_X12_clause_108 rfl ?_
              refine aw_Vv 1 [.int 2] [] d_X12_clause_112 (cV_X12_say (d + 0) 0 0) kc_12 (ws_1 w72) tw_2210 rfl (rr0 (Nat.le_of_ble_eq_true rfl) (Nat.le_of_ble_eq_true rfl)) (Nat.le_of_ble_eq_true rfl) xs0 k (fun h83 kk => ?_)
              obtain ⟨w84, k⟩ := kk
              refine aw_aload_n (i := 0) rfl d_X12_clause_115 0 rfl ?_
              refine aw_iconst (v := 3) d_X12_clause_116 ic_3 ?_
              refine aw_Vv 1 [.int 3] [] d_X12_clause_117 (cV_X12_say (d + 0) 0 0) kc_12 (ws_1 w84) tw_2210 rfl (rr0 (Nat.le_of_ble_eq_true rfl) (Nat.le_of_ble_eq_true rfl)) (Nat.le_of_ble_eq_true rfl) xs0 k (fun h86 kk => ?_)
              obtain ⟨w87, k⟩ := kk
              exact aw_vret rfl d_X12_clause_120 ⟨Nat.le_refl _, Nat.le_refl _⟩ ⟨rfl, k⟩
          · have k := k.2 c75
            refine aw_iconst (v := 1) d_X12_clause_97 ic_1 ?_
            refine aw_goto (tgt := 112) d_X12_clause_98 rfl ?_
            refine aw_Vv 1 [.int 1] [] d_X12_clause_112 (cV_X12_say (d + 0) 0 0) kc_12 (ws_1 w72) tw_2210 rfl (rr0 (Nat.le_of_ble_eq_true rfl) (Nat.le_of_ble_eq_true rfl)) (Nat.le_of_ble_eq_true rfl) xs0 k (fun h89 kk => ?_)
            obtain ⟨w90, k⟩ := kk
            refine aw_aload_n (i := 0) rfl d_X12_clause_115 0 rfl ?_
            refine aw_iconst (v := 3) d_X12_clause_116 ic_3 ?_
            refine aw_Vv 1 [.int 3] [] d_X12_clause_117 (cV_X12_say (d + 0) 0 0) kc_12 (ws_1 w90) tw_2210 rfl (rr0 (Nat.le_of_ble_eq_true rfl) (Nat.le_of_ble_eq_true rfl)) (Nat.le_of_ble_eq_true rfl) xs0 k (fun h92 kk => ?_)
            obtain ⟨w93, k⟩ := kk
            exact aw_vret rfl d_X12_clause_120 ⟨Nat.le_refl _, Nat.le_refl _⟩ ⟨rfl, k⟩
        · have k := k.2 c74
          refine aw_iconst (v := 0) d_X12_clause_87 ic_0 ?_
          refine aw_goto (tgt := 112) d_X12_clause_88 rfl ?_
          refine aw_Vv 1 [.int 0] [] d_X12_clause_112 (cV_X12_say (d + 0) 0 0) kc_12 (ws_1 w72) tw_2210 rfl (rr0 (Nat.le_of_ble_eq_true rfl) (Nat.le_of_ble_eq_true rfl)) (Nat.le_of_ble_eq_true rfl) xs0 k (fun h95 kk => ?_)
          obtain ⟨w96, k⟩ := kk
          refine aw_aload_n (i := 0) rfl d_X12_clause_115 0 rfl ?_
          refine aw_iconst (v := 3) d_X12_clause_116 ic_3 ?_
          refine aw_Vv 1 [.int 3] [] d_X12_clause_117 (cV_X12_say (d + 0) 0 0) kc_12 (ws_1 w96) tw_2210 rfl (rr0 (Nat.le_of_ble_eq_true rfl) (Nat.le_of_ble_eq_true rfl)) (Nat.le_of_ble_eq_true rfl) xs0 k (fun h98 kk => ?_)
          obtain ⟨w99, k⟩ := kk
          exact aw_vret rfl d_X12_clause_120 ⟨Nat.le_refl _, Nat.le_refl _⟩ ⟨rfl, k⟩
      · have k := k.2 c70
        refine aw_iload_n (i := 2) rfl d_X12_clause_42 2 rfl ?_
        refine aw_bipush (v := 110) d_X12_clause_43 ib_110 ?_
        refine aw_icmp_eq (tgt := 65) d_X12_clause_45 rfl (fun c101 => ?_) (fun c101 => ?_)
        · have k := k.1 c101
          refine aw_aload_n (i := 0) rfl d_X12_clause_65 0 rfl ?_
          refine aw_dup d_X12_clause_66 rfl ?_
          refine aw_geti (k0 := 33) kc_12 (ws_1 w68) (Nat.le_of_ble_eq_true rfl) tw_1775 d_X12_clause_67 rfl ?_
          refine aw_iconst (v := 1) d_X12_clause_70 ic_1 ?_
          refine aw_iadd d_X12_clause_71 ?_
          refine aw_puti (k0 := 33) kc_12 (ws_1 w68) (Nat.le_of_ble_eq_true rfl) tw_1775 d_X12_clause_72 rfl rfl nf_i ?_
          refine aw_aload_n (i := 0) rfl d_X12_clause_75 0 rfl ?_
          refine aw_iconst (v := 0) d_X12_clause_76 ic_0 ?_
          refine aw_Vv 1 [.int 0] [] d_X12_clause_77 (cV_X12_say (d + 0) 0 0) kc_12 (ws_1 w68) tw_2210 rfl (rr0 (Nat.le_of_ble_eq_true rfl) (Nat.le_of_ble_eq_true rfl)) (Nat.le_of_ble_eq_true rfl) xs0 k (fun h102 kk => ?_)
          obtain ⟨w103, k⟩ := kk
          refine aw_aload_n (i := 0) rfl d_X12_clause_80 0 rfl ?_
          refine aw_iload_n (i := 2) rfl d_X12_clause_81 2 rfl ?_
          refine aw_bipush (v := 120) d_X12_clause_82 ib_120 ?_
          refine aw_icmp_ne (tgt := 91) d_X12_clause_84 rfl (fun c105 => ?_) (fun c105 => ?_)
          · have k := k.1 c105
            refine aw_iload_n (i := 2) rfl d_X12_clause_91 2 rfl ?_
            refine aw_bipush (v := 110) d_X12_clause_92 ib_110 ?_
            refine aw_icmp_ne (tgt := 101) d_X12_clause_94 rfl (fun c106 => ?_) (fun c106 => ?_)
            · have k := k.1 c106
              refine aw_iload_n (i := 2) rfl d_X12_clause_101 2 rfl ?_
              refine aw_bipush (v := 114) d_X12_clause_102 ib_114 ?_
              refine aw_icmp_ne (tgt := 111) d_X12_clause_104 rfl (fun c107 => ?_) (fun c107 => ?_)
              · have k := k.1 c107
                refine aw_iconst (v := 3) d_X12_clause_111 ic_3 ?_
                refine aw_Vv 1 [.int 3] [] d_X12_clause_112 (cV_X12_say (d + 0) 0 0) kc_12 (ws_1 w103) tw_2210 rfl (rr0 (Nat.le_of_ble_eq_true rfl) (Nat.le_of_ble_eq_true rfl)) (Nat.le_of_ble_eq_true rfl) xs0 k (fun h108 kk => ?_)
                obtain ⟨w109, k⟩ := kk
                refine aw_aload_n (i := 0) rfl d_X12_clause_115 0 rfl ?_
                refine aw_iconst (v := 3) d_X12_clause_116 ic_3 ?_
                refine aw_Vv 1 [.int 3] [] d_X12_clause_117 (cV_X12_say (d + 0) 0 0) kc_12 (ws_1 w109) tw_2210 rfl (rr0 (Nat.le_of_ble_eq_true rfl) (Nat.le_of_ble_eq_true rfl)) (Nat.le_of_ble_eq_true rfl) xs0 k (fun h111 kk => ?_)
                obtain ⟨w112, k⟩ := kk
                exact aw_vret rfl d_X12_clause_120 ⟨Nat.le_refl _, Nat.le_refl _⟩ ⟨rfl, k⟩
              · have k := k.2 c107
                refine aw_iconst (v := 2) d_X12_clause_107 ic_2 ?_
                refine aw_goto (tgt := 112) d_X12_clause_108 rfl ?_
                refine aw_Vv 1 [.int 2] [] d_X12_clause_112 (cV_X12_say (d + 0) 0 0) kc_12 (ws_1 w103) tw_2210 rfl (rr0 (Nat.le_of_ble_eq_true rfl) (Nat.le_of_ble_eq_true rfl)) (Nat.le_of_ble_eq_true rfl) xs0 k (fun h114 kk => ?_)
                obtain ⟨w115, k⟩ := kk
                refine aw_aload_n (i := 0) rfl d_X12_clause_115 0 rfl ?_
                refine aw_iconst (v := 3) d_X12_clause_116 ic_3 ?_
                refine aw_Vv 1 [.int 3] [] d_X12_clause_117 (cV_X12_say (d + 0) 0 0) kc_12 (ws_1 w115) tw_2210 rfl (rr0 (Nat.le_of_ble_eq_true rfl) (Nat.le_of_ble_eq_true rfl)) (Nat.le_of_ble_eq_true rfl) xs0 k (fun h117 kk => ?_)
                obtain ⟨w118, k⟩ := kk
                exact aw_vret rfl d_X12_clause_120 ⟨Nat.le_refl _, Nat.le_refl _⟩ ⟨rfl, k⟩
            · have k := k.2 c106
              refine aw_iconst (v := 1) d_X12_clause_97 ic_1 ?_
              refine aw_goto (tgt := 112) d_X12_clause_98 rfl ?_
              refine aw_Vv 1 [.int 1] [] d_X12_clause_112 (cV_X12_say (d + 0) 0 0) kc_12 (ws_1 w103) tw_2210 rfl (rr0 (Nat.le_of_ble_eq_true rfl) (Nat.le_of_ble_eq_true rfl)) (Nat.le_of_ble_eq_true rfl) xs0 k (fun h120 kk => ?_)
              obtain ⟨w121, k⟩ := kk
              refine aw_aload_n (i := 0) rfl d_X12_clause_115 0 rfl ?_
              refine aw_iconst (v := 3) d_X12_clause_116 ic_3 ?_
              refine aw_Vv 1 [.int 3] [] d_X12_clause_117 (cV_X12_say (d + 0) 0 0) kc_12 (ws_1 w121) tw_2210 rfl (rr0 (Nat.le_of_ble_eq_true rfl) (Nat.le_of_ble_eq_true rfl)) (Nat.le_of_ble_eq_true rfl) xs0 k (fun h123 kk => ?_)
              obtain ⟨w124, k⟩ := kk
              exact aw_vret rfl d_X12_clause_120 ⟨Nat.le_refl _, Nat.le_refl _⟩ ⟨rfl, k⟩
          · have k := k.2 c105
            refine aw_iconst (v := 0) d_X12_clause_87 ic_0 ?_
            refine aw_goto (tgt := 112) d_X12_clause_88 rfl ?_
            refine aw_Vv 1 [.int 0] [] d_X12_clause_112 (cV_X12_say (d + 0) 0 0) kc_12 (ws_1 w103) tw_2210 rfl (rr0 (Nat.le_of_ble_eq_true rfl) (Nat.le_of_ble_eq_true rfl)) (Nat.le_of_ble_eq_true rfl) xs0 k (fun h126 kk => ?_)
            obtain ⟨w127, k⟩ := kk
            refine aw_aload_n (i := 0) rfl d_X12_clause_115 0 rfl ?_
            refine aw_iconst (v := 3) d_X12_clause_116 ic_3 ?_
            refine aw_Vv 1 [.int 3] [] d_X12_clause_117 (cV_X12_say (d + 0) 0 0) kc_12 (ws_1 w127) tw_2210 rfl (rr0 (Nat.le_of_ble_eq_true rfl) (Nat.le_of_ble_eq_true rfl)) (Nat.le_of_ble_eq_true rfl) xs0 k (fun h129 kk => ?_)
            obtain ⟨w130, k⟩ := kk
            exact aw_vret rfl d_X12_clause_120 ⟨Nat.le_refl _, Nat.le_refl _⟩ ⟨rfl, k⟩
        · have k := k.2 c101
          refine aw_iload_n (i := 2) rfl d_X12_clause_48 2 rfl ?_
          refine aw_bipush (v := 114) d_X12_clause_49 ib_114 ?_
          refine aw_icmp_eq (tgt := 65) d_X12_clause_51 rfl (fun c132 => ?_) (fun c132 => ?_)
          · have k := k.1 c132
            refine aw_aload_n (i := 0) rfl d_X12_clause_65 0 rfl ?_
            refine aw_dup d_X12_clause_66 rfl ?_
            refine aw_geti (k0 := 33) kc_12 (ws_1 w68) (Nat.le_of_ble_eq_true rfl) tw_1775 d_X12_clause_67 rfl ?_
            refine aw_iconst (v := 1) d_X12_clause_70 ic_1 ?_
            refine aw_iadd d_X12_clause_71 ?_
            refine aw_puti (k0 := 33) kc_12 (ws_1 w68) (Nat.le_of_ble_eq_true rfl) tw_1775 d_X12_clause_72 rfl rfl nf_i ?_
            refine aw_aload_n (i := 0) rfl d_X12_clause_75 0 rfl ?_
            refine aw_iconst (v := 0) d_X12_clause_76 ic_0 ?_
            refine aw_Vv 1 [.int 0] [] d_X12_clause_77 (cV_X12_say (d + 0) 0 0) kc_12 (ws_1 w68) tw_2210 rfl (rr0 (Nat.le_of_ble_eq_true rfl) (Nat.le_of_ble_eq_true rfl)) (Nat.le_of_ble_eq_true rfl) xs0 k (fun h133 kk => ?_)
            obtain ⟨w134, k⟩ := kk
            refine aw_aload_n (i := 0) rfl d_X12_clause_80 0 rfl ?_
            refine aw_iload_n (i := 2) rfl d_X12_clause_81 2 rfl ?_
            refine aw_bipush (v := 120) d_X12_clause_82 ib_120 ?_
            refine aw_icmp_ne (tgt := 91) d_X12_clause_84 rfl (fun c136 => ?_) (fun c136 => ?_)
            · have k := k.1 c136
              refine aw_iload_n (i := 2) rfl d_X12_clause_91 2 rfl ?_
              refine aw_bipush (v := 110) d_X12_clause_92 ib_110 ?_
              refine aw_icmp_ne (tgt := 101) d_X12_clause_94 rfl (fun c137 => ?_) (fun c137 => ?_)
              · have k := k.1 c137
                refine aw_iload_n (i := 2) rfl d_X12_clause_101 2 rfl ?_
                refine aw_bipush (v := 114) d_X12_clause_102 ib_114 ?_
                refine aw_icmp_ne (tgt := 111) d_X12_clause_104 rfl (fun c138 => ?_) (fun c138 => ?_)
                · have k := k.1 c138
                  refine aw_iconst (v := 3) d_X12_clause_111 ic_3 ?_
                  refine aw_Vv 1 [.int 3] [] d_X12_clause_112 (cV_X12_say (d + 0) 0 0) kc_12 (ws_1 w134) tw_2210 rfl (rr0 (Nat.le_of_ble_eq_true rfl) (Nat.le_of_ble_eq_true rfl)) (Nat.le_of_ble_eq_true rfl) xs0 k (fun h139 kk => ?_)
                  obtain ⟨w140, k⟩ := kk
                  refine aw_aload_n (i := 0) rfl d_X12_clause_115 0 rfl ?_
                  refine aw_iconst (v := 3) d_X12_clause_116 ic_3 ?_
                  refine aw_Vv 1 [.int 3] [] d_X12_clause_117 (cV_X12_say (d + 0) 0 0) kc_12 (ws_1 w140) tw_2210 rfl (rr0 (Nat.le_of_ble_eq_true rfl) (Nat.le_of_ble_eq_true rfl)) (Nat.le_of_ble_eq_true rfl) xs0 k (fun h142 kk => ?_)
                  obtain ⟨w143, k⟩ := kk
                  exact aw_vret rfl d_X12_clause_120 ⟨Nat.le_refl _, Nat.le_refl _⟩ ⟨rfl, k⟩
                · have k := k.2 c138
                  refine aw_iconst (v := 2) d_X12_clause_107 ic_2 ?_
                  refine aw_goto (tgt := 112) d_X12_clause_108 rfl ?_
                  refine aw_Vv 1 [.int 2] [] d_X12_clause_112 (cV_X12_say (d + 0) 0 0) kc_12 (ws_1 w134) tw_2210 rfl (rr0 (Nat.le_of_ble_eq_true rfl) (Nat.le_of_ble_eq_true rfl)) (Nat.le_of_ble_eq_true rfl) xs0 k (fun h145 kk => ?_)
                  obtain ⟨w146, k⟩ := kk
                  refine aw_aload_n (i := 0) rfl d_X12_clause_115 0 rfl ?_
                  refine aw_iconst (v := 3) d_X12_clause_116 ic_3 ?_
                  refine aw_Vv 1 [.int 3] [] d_X12_clause_117 (cV_X12_say (d + 0) 0 0) kc_12 (ws_1 w146) tw_2210 rfl (rr0 (Nat.le_of_ble_eq_true rfl) (Nat.le_of_ble_eq_true rfl)) (Nat.le_of_ble_eq_true rfl) xs0 k (fun h148 kk => ?_)
                  obtain ⟨w149, k⟩ := kk
                  exact aw_vret rfl d_X12_clause_120 ⟨Nat.le_refl _, Nat.le_refl _⟩ ⟨rfl, k⟩
              · have k := k.2 c137
                refine aw_iconst (v := 1) d_X12_clause_97 ic_1 ?_
                refine aw_goto (tgt := 112) d_X12_clause_98 rfl ?_
                refine aw_Vv 1 [.int 1] [] d_X12_clause_112 (cV_X12_say (d + 0) 0 0) kc_12 (ws_1 w134) tw_2210 rfl (rr0 (Nat.le_of_ble_eq_true rfl) (Nat.le_of_ble_eq_true rfl)) (Nat.le_of_ble_eq_true rfl) xs0 k (fun h151 kk => ?_)
                obtain ⟨w152, k⟩ := kk
                refine aw_aload_n (i := 0) rfl d_X12_clause_115 0 rfl ?_
                refine aw_iconst (v := 3) d_X12_clause_116 ic_3 ?_
                refine aw_Vv 1 [.int 3] [] d_X12_clause_117 (cV_X12_say (d + 0) 0 0) kc_12 (ws_1 w152) tw_2210 rfl (rr0 (Nat.le_of_ble_eq_true rfl) (Nat.le_of_ble_eq_true rfl)) (Nat.le_of_ble_eq_true rfl) xs0 k (fun h154 kk => ?_)
                obtain ⟨w155, k⟩ := kk
                exact aw_vret rfl d_X12_clause_120 ⟨Nat.le_refl _, Nat.le_refl _⟩ ⟨rfl, k⟩
            · have k := k.2 c136
              refine aw_iconst (v := 0) d_X12_clause_87 ic_0 ?_
              refine aw_goto (tgt := 112) d_X12_clause_88 rfl ?_
              refine aw_Vv 1 [.int 0] [] d_X12_clause_112 (cV_X12_say (d + 0) 0 0) kc_12 (ws_1 w134) tw_2210 rfl (rr0 (Nat.le_of_ble_eq_true rfl) (Nat.le_of_ble_eq_true rfl)) (Nat.le_of_ble_eq_true rfl) xs0 k (fun h157 kk => ?_)
              obtain ⟨w158, k⟩ := kk
              refine aw_aload_n (i := 0) rfl d_X12_clause_115 0 rfl ?_
              refine aw_iconst (v := 3) d_X12_clause_116 ic_3 ?_
              refine aw_Vv 1 [.int 3] [] d_X12_clause_117 (cV_X12_say (d + 0) 0 0) kc_12 (ws_1 w158) tw_2210 rfl (rr0 (Nat.le_of_ble_eq_true rfl) (Nat.le_of_ble_eq_true rfl)) (Nat.le_of_ble_eq_true rfl) xs0 k (fun h160 kk => ?_)
              obtain ⟨w161, k⟩ := kk
              exact aw_vret rfl d_X12_clause_120 ⟨Nat.le_refl _, Nat.le_refl _⟩ ⟨rfl, k⟩
          · have k := k.2 c132
            refine aw_iload_n (i := 2) rfl d_X12_clause_54 2 rfl ?_
            refine aw_bipush (v := 116) d_X12_clause_55 ib_116 ?_
            refine aw_icmp_eq (tgt := 65) d_X12_clause_57 rfl (fun c163 => ?_) (fun c163 => ?_)
            · have k := k.1 c163
              refine aw_aload_n (i := 0) rfl d_X12_clause_65 0 rfl ?_
              refine aw_dup d_X12_clause_66 rfl ?_
              refine aw_geti (k0 := 33) kc_12 (ws_1 w68) (Nat.le_of_ble_eq_true rfl) tw_1775 d_X12_clause_67 rfl ?_
              refine aw_iconst (v := 1) d_X12_clause_70 ic_1 ?_
              refine aw_iadd d_X12_clause_71 ?_
              refine aw_puti (k0 := 33) kc_12 (ws_1 w68) (Nat.le_of_ble_eq_true rfl) tw_1775 d_X12_clause_72 rfl rfl nf_i ?_
              refine aw_aload_n (i := 0) rfl d_X12_clause_75 0 rfl ?_
              refine aw_iconst (v := 0) d_X12_clause_76 ic_0 ?_
              refine aw_Vv 1 [.int 0] [] d_X12_clause_77 (cV_X12_say (d + 0) 0 0) kc_12 (ws_1 w68) tw_2210 rfl (rr0 (Nat.le_of_ble_eq_true rfl) (Nat.le_of_ble_eq_true rfl)) (Nat.le_of_ble_eq_true rfl) xs0 k (fun h164 kk => ?_)
              obtain ⟨w165, k⟩ := kk
              refine aw_aload_n (i := 0) rfl d_X12_clause_80 0 rfl ?_
              refine aw_iload_n (i := 2) rfl d_X12_clause_81 2 rfl ?_
              refine aw_bipush (v := 120) d_X12_clause_82 ib_120 ?_
              refine aw_icmp_ne (tgt := 91) d_X12_clause_84 rfl (fun c167 => ?_) (fun c167 => ?_)
              · have k := k.1 c167
                refine aw_iload_n (i := 2) rfl d_X12_clause_91 2 rfl ?_
                refine aw_bipush (v := 110) d_X12_clause_92 ib_110 ?_
                refine aw_icmp_ne (tgt := 101) d_X12_clause_94 rfl (fun c168 => ?_) (fun c168 => ?_)
                · have k := k.1 c168
                  refine aw_iload_n (i := 2) rfl d_X12_clause_101 2 rfl ?_
                  refine aw_bipush (v := 114) d_X12_clause_102 ib_114 ?_
                  refine aw_icmp_ne (tgt := 111) d_X12_clause_104 rfl (fun c169 => ?_) (fun c169 => ?_)
                  · have k := k.1 c169
                    refine aw_iconst (v := 3) d_X12_clause_111 ic_3 ?_
                    refine aw_Vv 1 [.int 3] [] d_X12_clause_112 (cV_X12_say (d + 0) 0 0) kc_12 (ws_1 w165) tw_2210 rfl (rr0 (Nat.le_of_ble_eq_true rfl) (Nat.le_of_ble_eq_true rfl)) (Nat.le_of_ble_eq_true rfl) xs0 k (fun h170 kk => ?_)
                    obtain ⟨w171, k⟩ := kk
                    refine aw_aload_n (i := 0) rfl d_X12_clause_115 0 rfl ?_
                    refine aw_iconst (v := 3) d_X12_clause_116 ic_3 ?_
                    refine aw_Vv 1 [.int 3] [] d_X12_clause_117 (cV_X12_say (d + 0) 0 0) kc_12 (ws_1 w171) tw_2210 rfl (rr0 (Nat.le_of_ble_eq_true rfl) (Nat.le_of_ble_eq_true rfl)) (Nat.le_of_ble_eq_true rfl) xs0 k (fun h173 kk => ?_)
                    obtain ⟨w174, k⟩ := kk
                    exact aw_vret rfl d_X12_clause_120 ⟨Nat.le_refl _, Nat.le_refl _⟩ ⟨rfl, k⟩
                  · have k := k.2 c169
                    refine aw_iconst (v := 2) d_X12_clause_107 ic_2 ?_
                    refine aw_goto (tgt := 112) d_X12_clause_108 rfl ?_
                    refine aw_Vv 1 [.int 2] [] d_X12_clause_112 (cV_X12_say (d + 0) 0 0) kc_12 (ws_1 w165) tw_2210 rfl (rr0 (Nat.le_of_ble_eq_true rfl) (Nat.le_of_ble_eq_true rfl)) (Nat.le_of_ble_eq_true rfl) xs0 k (fun h176 kk => ?_)
                    obtain ⟨w177, k⟩ := kk
                    refine aw_aload_n (i := 0) rfl d_X12_clause_115 0 rfl ?_
                    refine aw_iconst (v := 3) d_X12_clause_116 ic_3 ?_
                    refine aw_Vv 1 [.int 3] [] d_X12_clause_117 (cV_X12_say (d + 0) 0 0) kc_12 (ws_1 w177) tw_2210 rfl (rr0 (Nat.le_of_ble_eq_true rfl) (Nat.le_of_ble_eq_true rfl)) (Nat.le_of_ble_eq_true rfl) xs0 k (fun h179 kk => ?_)
                    obtain ⟨w180, k⟩ := kk
                    exact aw_vret rfl d_X12_clause_120 ⟨Nat.le_refl _, Nat.le_refl _⟩ ⟨rfl, k⟩
                · have k := k.2 c168
                  refine aw_iconst (v := 1) d_X12_clause_97 ic_1 ?_
                  refine aw_goto (tgt := 112) d_X12_clause_98 rfl ?_
                  refine aw_Vv 1 [.int 1] [] d_X12_clause_112 (cV_X12_say (d + 0) 0 0) kc_12 (ws_1 w165) tw_2210 rfl (rr0 (Nat.le_of_ble_eq_true rfl) (Nat.le_of_ble_eq_true rfl)) (Nat.le_of_ble_eq_true rfl) xs0 k (fun h182 kk => ?_)
                  obtain ⟨w183, k⟩ := kk
                  refine aw_aload_n (i := 0) rfl d_X12_clause_115 0 rfl ?_
                  refine aw_iconst (v := 3) d_X12_clause_116 ic_3 ?_
                  refine aw_Vv 1 [.int 3] [] d_X12_clause_117 (cV_X12_say (d + 0) 0 0) kc_12 (ws_1 w183) tw_2210 rfl (rr0 (Nat.le_of_ble_eq_true rfl) (Nat.le_of_ble_eq_true rfl)) (Nat.le_of_ble_eq_true rfl) xs0 k (fun h185 kk => ?_)
                  obtain ⟨w186, k⟩ := kk
                  exact aw_vret rfl d_X12_clause_120 ⟨Nat.le_refl _, Nat.le_refl _⟩ ⟨rfl, k⟩
              · have k := k.2 c167
                refine aw_iconst (v := 0) d_X12_clause_87 ic_0 ?_
                refine aw_goto (tgt := 112) d_X12_clause_88 rfl ?_
                refine aw_Vv 1 [.int 0] [] d_X12_clause_112 (cV_X12_say (d + 0) 0 0) kc_12 (ws_1 w165) tw_2210 rfl (rr0 (Nat.le_of_ble_eq_true rfl) (Nat.le_of_ble_eq_true rfl)) (Nat.le_of_ble_eq_true rfl) xs0 k (fun h188 kk => ?_)
                obtain ⟨w189, k⟩ := kk
                refine aw_aload_n (i := 0) rfl d_X12_clause_115 0 rfl ?_
                refine aw_iconst (v := 3) d_X12_clause_116 ic_3 ?_
                refine aw_Vv 1 [.int 3] [] d_X12_clause_117 (cV_X12_say (d + 0) 0 0) kc_12 (ws_1 w189) tw_2210 rfl (rr0 (Nat.le_of_ble_eq_true rfl) (Nat.le_of_ble_eq_true rfl)) (Nat.le_of_ble_eq_true rfl) xs0 k (fun h191 kk => ?_)
                obtain ⟨w192, k⟩ := kk
                exact aw_vret rfl d_X12_clause_120 ⟨Nat.le_refl _, Nat.le_refl _⟩ ⟨rfl, k⟩
            · have k := k.2 c163
              refine aw_aload_n (i := 0) rfl d_X12_clause_60 0 rfl ?_
              refine aw_Vv 1 [] [] d_X12_clause_61 (cV_X12_bad (d + 0) 0 0) kc_12 (ws_1 w68) tw_2225 rfl (rr0 (Nat.le_of_ble_eq_true rfl) (Nat.le_of_ble_eq_true rfl)) (Nat.le_of_ble_eq_true rfl) xs0 k (fun h194 kk => ?_)
              obtain ⟨w195, k⟩ := kk
              exact aw_vret rfl d_X12_clause_64 ⟨Nat.le_refl _, Nat.le_refl _⟩ ⟨rfl, k⟩
    · have k := k.2 c66
      exact aw_vret rfl d_X12_clause_30 ⟨Nat.le_refl _, Nat.le_refl _⟩ ⟨rfl, k⟩
theorem t_X12_clause_179 (d : Nat) (h : Hp_) (w : Wf h) (x3 : Int32) (x4 : Int32) (K : Hp_ → Prop) (k : (x4 < x3 → vp_in x3 560 ∧ (vp_in (x3 + 1) 560 ∧ (vp_in (x3 + 2) 560 ∧ (Cv (m_X12_say (d + 0) 0 0) [.ref 1, .int 3] (h_im (h_im (h_im (h_im h 226 x3.toNatClampNeg 0) 226 ((x3 + 1) : Int32).toNatClampNeg 1) 226 ((x3 + 2) : Int32).toNatClampNeg 2) 1 36 ((h_i h 1 36) + 3)) (fun h201 => Wf h201 ∧ (K h201)))))) ∧ (¬ x4 < x3 → vp_in x4 560 ∧ (vp_in (x4 + 3) 560 ∧ (AW (m_X12_clause (d + 58) 0 0) 0 0 179 [(0, .ref 1), (3, .int x3), (4, .int (x4 + (-1)))] [] (h_im h 226 ((x4 + 3) : Int32).toNatClampNeg (h_i h 226 x4.toNatClampNeg)) (kV K))))) : AW (m_X12_clause (d + 58) 0 0) 0 0 179 [(0, .ref 1), (3, .int x3), (4, .int x4)] [] h (kV K) := by
  refine aw_iload d_X12_clause_179 2 rfl ?_
  refine aw_iload_n (i := 3) rfl d_X12_clause_181 1 rfl ?_
  refine aw_icmp_lt (tgt := 207) d_X12_clause_182 rfl (fun c197 => ?_) (fun c197 => ?_)
  · have k := k.1 c197
    refine aw_aload_n (i := 0) rfl d_X12_clause_207 0 rfl ?_
    refine aw_getr (k0 := 31) kc_12 (ws_1 w) (Nat.le_of_ble_eq_true rfl) tw_1773 d_X12_clause_208 rfl (wr_1_31 w) ?_
    refine aw_iload_n (i := 3) rfl d_X12_clause_211 1 rfl ?_
    refine aw_iconst (v := 0) d_X12_clause_212 ic_0 ?_
    obtain ⟨b198, k⟩ := k
    refine aw_iast (ws_226 w) b198 d_X12_clause_213 ?_
    refine aw_aload_n (i := 0) rfl d_X12_clause_214 0 rfl ?_
    refine aw_getr (k0 := 31) kc_12 (ws_1 w) (Nat.le_of_ble_eq_true rfl) tw_1773 d_X12_clause_215 rfl (wr_1_31 w) ?_
    refine aw_iload_n (i := 3) rfl d_X12_clause_218 1 rfl ?_
    refine aw_iconst (v := 1) d_X12_clause_219 ic_1 ?_
    refine aw_iadd d_X12_clause_220 ?_
    refine aw_iconst (v := 1) d_X12_clause_221 ic_1 ?_
    obtain ⟨b199, k⟩ := k
    refine aw_iast (ws_226 w) b199 d_X12_clause_222 ?_
    refine aw_aload_n (i := 0) rfl d_X12_clause_223 0 rfl ?_
    refine aw_getr (k0 := 31) kc_12 (ws_1 w) (Nat.le_of_ble_eq_true rfl) tw_1773 d_X12_clause_224 rfl (wr_1_31 w) ?_
    refine aw_iload_n (i := 3) rfl d_X12_clause_227 1 rfl ?_
    refine aw_iconst (v := 2) d_X12_clause_228 ic_2 ?_
    refine aw_iadd d_X12_clause_229 ?_
    refine aw_iconst (v := 2) d_X12_clause_230 ic_2 ?_
    obtain ⟨b200, k⟩ := k
    refine aw_iast (ws_226 w) b200 d_X12_clause_231 ?_
    refine aw_aload_n (i := 0) rfl d_X12_clause_232 0 rfl ?_
    refine aw_dup d_X12_clause_233 rfl ?_
    refine aw_geti (k0 := 36) kc_12 (ws_1 w) (Nat.le_of_ble_eq_true rfl) tw_1778 d_X12_clause_234 rfl ?_
    refine aw_vi (v2 := (h_i h 1 36)) (rfl) ?_
    refine aw_iconst (v := 3) d_X12_clause_237 ic_3 ?_
    refine aw_iadd d_X12_clause_238 ?_
    refine aw_puti (k0 := 36) kc_12 (ws_1 w) (Nat.le_of_ble_eq_true rfl) tw_1778 d_X12_clause_239 rfl rfl nf_i ?_
    refine aw_aload_n (i := 0) rfl d_X12_clause_242 0 rfl ?_
    refine aw_iconst (v := 3) d_X12_clause_243 ic_3 ?_
    refine aw_Vv 1 [.int 3] [] d_X12_clause_244 (cV_X12_say (d + 0) 0 0) kc_12 (ws_1 w) tw_2210 rfl (rr0 (Nat.le_of_ble_eq_true rfl) (Nat.le_of_ble_eq_true rfl)) (Nat.le_of_ble_eq_true rfl) xs0 k (fun h201 kk => ?_)
    obtain ⟨w202, k⟩ := kk
    exact aw_vret rfl d_X12_clause_247 ⟨Nat.le_refl _, Nat.le_refl _⟩ ⟨rfl, k⟩
  · have k := k.2 c197
    refine aw_aload_n (i := 0) rfl d_X12_clause_185 0 rfl ?_
    refine aw_getr (k0 := 31) kc_12 (ws_1 w) (Nat.le_of_ble_eq_true rfl) tw_1773 d_X12_clause_186 rfl (wr_1_31 w) ?_
    refine aw_iload d_X12_clause_189 2 rfl ?_
    refine aw_iconst (v := 3) d_X12_clause_191 ic_3 ?_
    refine aw_iadd d_X12_clause_192 ?_
    refine aw_aload_n (i := 0) rfl d_X12_clause_193 0 rfl ?_
    refine aw_getr (k0 := 31) kc_12 (ws_1 w) (Nat.le_of_ble_eq_true rfl) tw_1773 d_X12_clause_194 rfl (wr_1_31 w) ?_
    refine aw_iload d_X12_clause_197 2 rfl ?_
    obtain ⟨b204, k⟩ := k
    refine aw_iald (ws_226 w) b204 d_X12_clause_199 ?_
    obtain ⟨b205, k⟩ := k
    refine aw_iast (ws_226 w) b205 d_X12_clause_200 ?_
    refine aw_iinc (v := (x4 + (-1))) [(0, .ref 1), (3, .int x3), (4, .int (x4 + (-1)))] d_X12_clause_201 2 rfl rfl (Nat.le_of_ble_eq_true rfl) rfl rfl ?_
    refine aw_goto (tgt := 179) d_X12_clause_204 rfl ?_
    exact k
theorem t_X12_fault (d : Nat) (h : Hp_) (w : Wf h) (x1 : Int32) (K : Int32 → Hp_ → Prop) (k : ((0 ≤ x1 ∧ x1 ≤ 2) → (¬ x1 = 0 → Cv (m_X12_clause (d + 58) 0 0) [.ref 1] (h_im (h_im (h_im (h_im (h_im h 1 37 x1) 1 33 0) 1 34 (-1)) 1 35 0) 1 36 0) (fun h5 => Wf h5 ∧ (AW (m_X12_fault (d + 59) 0 0) 0 0 52 [(0, .ref 1)] [] h5 (kI K)))) ∧ (x1 = 0 → Cv (m_X12_stepsRead (d + 52) 0 0) [.ref 1] (h_im (h_im (h_im (h_im (h_im h 1 37 x1) 1 33 0) 1 34 (-1)) 1 35 0) 1 36 0) (fun h8 => Wf h8 ∧ ((¬ (h_i h8 1 34) = (-1) → K (h_i h8 1 34) h8) ∧ ((h_i h8 1 34) = (-1) → Ci (m_X12_look (d + 0) 0 0) [.ref 1] h8 (fun r14 h12 => Wf h12 ∧ ((r14 = (-1) → K (h_i h12 1 34) h12) ∧ (¬ r14 = (-1) → Cv (m_X12_bad (d + 0) 0 0) [.ref 1] h12 (fun h16 => Wf h16 ∧ (K (h_i h16 1 34) h16)))))))))) ∧ (¬ (0 ≤ x1 ∧ x1 ≤ 2) → K (-2) h)) : Ci (m_X12_fault (d + 59) 0 0) [.ref 1, .int x1] h K := by
  refine Ct.of (fun _ _ _ => trivial) rfl (Nat.le_of_ble_eq_true rfl) ?_
  show AW (m_X12_fault (d + 59) 0 0) 0 0 0 [(0, .ref 1), (1, .int x1)] [] h (kI K)
  refine aw_iload_n (i := 1) rfl d_X12_fault_0 1 rfl ?_
  refine aw_iconst (v := 0) d_X12_fault_1 ic_0 ?_
  refine aw_iconst (v := 2) d_X12_fault_2 ic_2 ?_
  refine aw_Si [.int x1, .int 0, .int 2] [] d_X12_fault_3 (cS_X12_in (d + 0) 0 0) tw_2143 rfl (rr0 (Nat.le_of_ble_eq_true rfl) (Nat.le_of_ble_eq_true rfl)) (Nat.le_of_ble_eq_true rfl) xs0 (s_X12_in _ _ x1 0 2) (fun _ _ kk => ?_)
  obtain ⟨e1, e2⟩ := kk
  rw [e1, e2]
  refine aw_ifb_ne (tgt := 12) d_X12_fault_6 rfl (fun c3 => ?_) (fun c3 => ?_)
  · have k := k.1 c3
    refine aw_aload_n (i := 0) rfl d_X12_fault_12 0 rfl ?_
    refine aw_iload_n (i := 1) rfl d_X12_fault_13 1 rfl ?_
    refine aw_puti (k0 := 37) kc_12 (ws_1 w) (Nat.le_of_ble_eq_true rfl) tw_1779 d_X12_fault_14 rfl rfl nf_i ?_
    refine aw_aload_n (i := 0) rfl d_X12_fault_17 0 rfl ?_
    refine aw_iconst (v := 0) d_X12_fault_18 ic_0 ?_
    refine aw_puti (k0 := 33) kc_12 (ws_1 w) (Nat.le_of_ble_eq_true rfl) tw_1775 d_X12_fault_19 rfl rfl nf_i ?_
    refine aw_aload_n (i := 0) rfl d_X12_fault_22 0 rfl ?_
    refine aw_iconst (v := (-1)) d_X12_fault_23 ic_m1 ?_
    refine aw_puti (k0 := 34) kc_12 (ws_1 w) (Nat.le_of_ble_eq_true rfl) tw_1776 d_X12_fault_24 rfl rfl nf_i ?_
    refine aw_aload_n (i := 0) rfl d_X12_fault_27 0 rfl ?_
    refine aw_iconst (v := 0) d_X12_fault_28 ic_0 ?_
    refine aw_puti (k0 := 35) kc_12 (ws_1 w) (Nat.le_of_ble_eq_true rfl) tw_1777 d_X12_fault_29 rfl rfl nf_i ?_
    refine aw_aload_n (i := 0) rfl d_X12_fault_32 0 rfl ?_
    refine aw_iconst (v := 0) d_X12_fault_33 ic_0 ?_
    refine aw_puti (k0 := 36) kc_12 (ws_1 w) (Nat.le_of_ble_eq_true rfl) tw_1778 d_X12_fault_34 rfl rfl nf_i ?_
    refine aw_iload_n (i := 1) rfl d_X12_fault_37 1 rfl ?_
    refine aw_if_ne (tgt := 48) d_X12_fault_38 rfl (fun c4 => ?_) (fun c4 => ?_)
    · have k := k.1 c4
      refine aw_aload_n (i := 0) rfl d_X12_fault_48 0 rfl ?_
      refine aw_Vv 1 [] [] d_X12_fault_49 (cV_X12_clause (d + 58) 0 0) kc_12 (ws_1 w) tw_2229 rfl (rr0 (Nat.le_of_ble_eq_true rfl) (Nat.le_of_ble_eq_true rfl)) (Nat.le_of_ble_eq_true rfl) xs0 k (fun h5 kk => ?_)
      obtain ⟨w6, k⟩ := kk
      exact aw_lvp [0] [(0, .ref 1)] rfl k
    · have k := k.2 c4
      refine aw_aload_n (i := 0) rfl d_X12_fault_41 0 rfl ?_
      refine aw_Vv 1 [] [] d_X12_fault_42 (cV_X12_stepsRead (d + 52) 0 0) kc_12 (ws_1 w) tw_2198 rfl (rr0 (Nat.le_of_ble_eq_true rfl) (Nat.le_of_ble_eq_true rfl)) (Nat.le_of_ble_eq_true rfl) xs0 k (fun h8 kk => ?_)
      obtain ⟨w9, k⟩ := kk
      refine aw_goto (tgt := 86) d_X12_fault_45 rfl ?_
      refine aw_aload_n (i := 0) rfl d_X12_fault_86 0 rfl ?_
      refine aw_geti (k0 := 34) kc_12 (ws_1 w9) (Nat.le_of_ble_eq_true rfl) tw_1776 d_X12_fault_87 rfl ?_
      refine aw_iconst (v := (-1)) d_X12_fault_90 ic_m1 ?_
      refine aw_icmp_ne (tgt := 106) d_X12_fault_91 rfl (fun c11 => ?_) (fun c11 => ?_)
      · have k := k.1 c11
        refine aw_aload_n (i := 0) rfl d_X12_fault_106 0 rfl ?_
        refine aw_geti (k0 := 34) kc_12 (ws_1 w9) (Nat.le_of_ble_eq_true rfl) tw_1776 d_X12_fault_107 rfl ?_
        exact aw_iret rfl d_X12_fault_110 ⟨Nat.le_refl _, Nat.le_refl _⟩ ⟨_, rfl, k⟩
      · have k := k.2 c11
        refine aw_aload_n (i := 0) rfl d_X12_fault_94 0 rfl ?_
        refine aw_Vi 1 [] [] d_X12_fault_95 (cV_X12_look (d + 0) 0 0) kc_12 (ws_1 w9) tw_2206 rfl (rr0 (Nat.le_of_ble_eq_true rfl) (Nat.le_of_ble_eq_true rfl)) (Nat.le_of_ble_eq_true rfl) xs0 k (fun r14 h12 kk => ?_)
        obtain ⟨w13, k⟩ := kk
        refine aw_iconst (v := (-1)) d_X12_fault_98 ic_m1 ?_
        refine aw_icmp_eq (tgt := 106) d_X12_fault_99 rfl (fun c15 => ?_) (fun c15 => ?_)
        · have k := k.1 c15
          refine aw_aload_n (i := 0) rfl d_X12_fault_106 0 rfl ?_
          refine aw_geti (k0 := 34) kc_12 (ws_1 w13) (Nat.le_of_ble_eq_true rfl) tw_1776 d_X12_fault_107 rfl ?_
          exact aw_iret rfl d_X12_fault_110 ⟨Nat.le_refl _, Nat.le_refl _⟩ ⟨_, rfl, k⟩
        · have k := k.2 c15
          refine aw_aload_n (i := 0) rfl d_X12_fault_102 0 rfl ?_
          refine aw_Vv 1 [] [] d_X12_fault_103 (cV_X12_bad (d + 0) 0 0) kc_12 (ws_1 w13) tw_2225 rfl (rr0 (Nat.le_of_ble_eq_true rfl) (Nat.le_of_ble_eq_true rfl)) (Nat.le_of_ble_eq_true rfl) xs0 k (fun h16 kk => ?_)
          obtain ⟨w17, k⟩ := kk
          refine aw_aload_n (i := 0) rfl d_X12_fault_106 0 rfl ?_
          refine aw_geti (k0 := 34) kc_12 (ws_1 w17) (Nat.le_of_ble_eq_true rfl) tw_1776 d_X12_fault_107 rfl ?_
          exact aw_iret rfl d_X12_fault_110 ⟨Nat.le_refl _, Nat.le_refl _⟩ ⟨_, rfl, k⟩
  · have k := k.2 c3
    refine aw_bipush (v := (-2)) d_X12_fault_9 ib_m2 ?_
    exact aw_iret rfl d_X12_fault_11 ⟨Nat.le_refl _, Nat.le_refl _⟩ ⟨_, rfl, k⟩
theorem t_X12_fault_52 (d : Nat) (h : Hp_) (w : Wf h)  (K : Int32 → Hp_ → Prop) (k : (¬ (h_i h 1 34) = (-1) → (¬ (h_i h 1 34) = (-1) → K (h_i h 1 34) h) ∧ ((h_i h 1 34) = (-1) → Ci (m_X12_look (d + 0) 0 0) [.ref 1] h (fun r23 h21 => Wf h21 ∧ ((r23 = (-1) → K (h_i h21 1 34) h21) ∧ (¬ r23 = (-1) → Cv (m_X12_bad (d + 0) 0 0) [.ref 1] h21 (fun h25 => Wf h25 ∧ (K (h_i h25 1 34) h25))))))) ∧ ((h_i h 1 34) = (-1) → Ci (m_X12_look (d + 0) 0 0) [.ref 1] h (fun r30 h28 => Wf h28 ∧ ((¬ r30 = 59 → (¬ (h_i h28 1 34) = (-1) → K (h_i h28 1 34) h28) ∧ ((h_i h28 1 34) = (-1) → Ci (m_X12_look (d + 0) 0 0) [.ref 1] h28 (fun r35 h33 => Wf h33 ∧ ((r35 = (-1) → K (h_i h33 1 34) h33) ∧ (¬ r35 = (-1) → Cv (m_X12_bad (d + 0) 0 0) [.ref 1] h33 (fun h37 => Wf h37 ∧ (K (h_i h37 1 34) h37))))))) ∧ (r30 = 59 → Cv (m_X12_clause (d + 58) 0 0) [.ref 1] (h_im h28 1 33 ((h_i h28 1 33) + 1)) (fun h40 => Wf h40 ∧ (AW (m_X12_fault (d + 59) 0 0) 0 0 52 [(0, .ref 1)] [] h40 (kI K)))))))) : AW (m_X12_fault (d + 59) 0 0) 0 0 52 [(0, .ref 1)] [] h (kI K) := by
  refine aw_aload_n (i := 0) rfl d_X12_fault_52 0 rfl ?_
  refine aw_geti (k0 := 34) kc_12 (ws_1 w) (Nat.le_of_ble_eq_true rfl) tw_1776 d_X12_fault_53 rfl ?_
  refine aw_iconst (v := (-1)) d_X12_fault_56 ic_m1 ?_
  refine aw_icmp_ne (tgt := 86) d_X12_fault_57 rfl (fun c19 => ?_) (fun c19 => ?_)
  · have k := k.1 c19
    refine aw_aload_n (i := 0) rfl d_X12_fault_86 0 rfl ?_
    refine aw_geti (k0 := 34) kc_12 (ws_1 w) (Nat.le_of_ble_eq_true rfl) tw_1776 d_X12_fault_87 rfl ?_
    refine aw_iconst (v := (-1)) d_X12_fault_90 ic_m1 ?_
    refine aw_icmp_ne (tgt := 106) d_X12_fault_91 rfl (fun c20 => ?_) (fun c20 => ?_)
    · have k := k.1 c20
      refine aw_aload_n (i := 0) rfl d_X12_fault_106 0 rfl ?_
      refine aw_geti (k0 := 34) kc_12 (ws_1 w) (Nat.le_of_ble_eq_true rfl) tw_1776 d_X12_fault_107 rfl ?_
      exact aw_iret rfl d_X12_fault_110 ⟨Nat.le_refl _, Nat.le_refl _⟩ ⟨_, rfl, k⟩
    · have k := k.2 c20
      refine aw_aload_n (i := 0) rfl d_X12_fault_94 0 rfl ?_
      refine aw_Vi 1 [] [] d_X12_fault_95 (cV_X12_look (d + 0) 0 0) kc_12 (ws_1 w) tw_2206 rfl (rr0 (Nat.le_of_ble_eq_true rfl) (Nat.le_of_ble_eq_true rfl)) (Nat.le_of_ble_eq_true rfl) xs0 k (fun r23 h21 kk => ?_)
      obtain ⟨w22, k⟩ := kk
      refine aw_iconst (v := (-1)) d_X12_fault_98 ic_m1 ?_
      refine aw_icmp_eq (tgt := 106) d_X12_fault_99 rfl (fun c24 => ?_) (fun c24 => ?_)
      · have k := k.1 c24
        refine aw_aload_n (i := 0) rfl d_X12_fault_106 0 rfl ?_
        refine aw_geti (k0 := 34) kc_12 (ws_1 w22) (Nat.le_of_ble_eq_true rfl) tw_1776 d_X12_fault_107 rfl ?_
        exact aw_iret rfl d_X12_fault_110 ⟨Nat.le_refl _, Nat.le_refl _⟩ ⟨_, rfl, k⟩
      · have k := k.2 c24
        refine aw_aload_n (i := 0) rfl d_X12_fault_102 0 rfl ?_
        refine aw_Vv 1 [] [] d_X12_fault_103 (cV_X12_bad (d + 0) 0 0) kc_12 (ws_1 w22) tw_2225 rfl (rr0 (Nat.le_of_ble_eq_true rfl) (Nat.le_of_ble_eq_true rfl)) (Nat.le_of_ble_eq_true rfl) xs0 k (fun h25 kk => ?_)
        obtain ⟨w26, k⟩ := kk
        refine aw_aload_n (i := 0) rfl d_X12_fault_106 0 rfl ?_
        refine aw_geti (k0 := 34) kc_12 (ws_1 w26) (Nat.le_of_ble_eq_true rfl) tw_1776 d_X12_fault_107 rfl ?_
        exact aw_iret rfl d_X12_fault_110 ⟨Nat.le_refl _, Nat.le_refl _⟩ ⟨_, rfl, k⟩
  · have k := k.2 c19
    refine aw_aload_n (i := 0) rfl d_X12_fault_60 0 rfl ?_
    refine aw_Vi 1 [] [] d_X12_fault_61 (cV_X12_look (d + 0) 0 0) kc_12 (ws_1 w) tw_2206 rfl (rr0 (Nat.le_of_ble_eq_true rfl) (Nat.le_of_ble_eq_true rfl)) (Nat.le_of_ble_eq_true rfl) xs0 k (fun r30 h28 kk => ?_)
    obtain ⟨w29, k⟩ := kk
    refine aw_bipush (v := 59) d_X12_fault_64 ib_59 ?_
    refine aw_icmp_ne (tgt := 86) d_X12_fault_66 rfl (fun c31 => ?_) (fun c31 => ?_)
    · have k := k.1 c31
      refine aw_aload_n (i := 0) rfl d_X12_fault_86 0 rfl ?_
      refine aw_geti (k0 := 34) kc_12 (ws_1 w29) (Nat.le_of_ble_eq_true rfl) tw_1776 d_X12_fault_87 rfl ?_
      refine aw_iconst (v := (-1)) d_X12_fault_90 ic_m1 ?_
      refine aw_icmp_ne (tgt := 106) d_X12_fault_91 rfl (fun c32 => ?_) (fun c32 => ?_)
      · have k := k.1 c32
        refine aw_aload_n (i := 0) rfl d_X12_fault_106 0 rfl ?_
        refine aw_geti (k0 := 34) kc_12 (ws_1 w29) (Nat.le_of_ble_eq_true rfl) tw_1776 d_X12_fault_107 rfl ?_
        exact aw_iret rfl d_X12_fault_110 ⟨Nat.le_refl _, Nat.le_refl _⟩ ⟨_, rfl, k⟩
      · have k := k.2 c32
        refine aw_aload_n (i := 0) rfl d_X12_fault_94 0 rfl ?_
        refine aw_Vi 1 [] [] d_X12_fault_95 (cV_X12_look (d + 0) 0 0) kc_12 (ws_1 w29) tw_2206 rfl (rr0 (Nat.le_of_ble_eq_true rfl) (Nat.le_of_ble_eq_true rfl)) (Nat.le_of_ble_eq_true rfl) xs0 k (fun r35 h33 kk => ?_)
        obtain ⟨w34, k⟩ := kk
        refine aw_iconst (v := (-1)) d_X12_fault_98 ic_m1 ?_
        refine aw_icmp_eq (tgt := 106) d_X12_fault_99 rfl (fun c36 => ?_) (fun c36 => ?_)
        · have k := k.1 c36
          refine aw_aload_n (i := 0) rfl d_X12_fault_106 0 rfl ?_
          refine aw_geti (k0 := 34) kc_12 (ws_1 w34) (Nat.le_of_ble_eq_true rfl) tw_1776 d_X12_fault_107 rfl ?_
          exact aw_iret rfl d_X12_fault_110 ⟨Nat.le_refl _, Nat.le_refl _⟩ ⟨_, rfl, k⟩
        · have k := k.2 c36
          refine aw_aload_n (i := 0) rfl d_X12_fault_102 0 rfl ?_
          refine aw_Vv 1 [] [] d_X12_fault_103 (cV_X12_bad (d + 0) 0 0) kc_12 (ws_1 w34) tw_2225 rfl (rr0 (Nat.le_of_ble_eq_true rfl) (Nat.le_of_ble_eq_true rfl)) (Nat.le_of_ble_eq_true rfl) xs0 k (fun h37 kk => ?_)
          obtain ⟨w38, k⟩ := kk
          refine aw_aload_n (i := 0) rfl d_X12_fault_106 0 rfl ?_
          refine aw_geti (k0 := 34) kc_12 (ws_1 w38) (Nat.le_of_ble_eq_true rfl) tw_1776 d_X12_fault_107 rfl ?_
          exact aw_iret rfl d_X12_fault_110 ⟨Nat.le_refl _, Nat.le_refl _⟩ ⟨_, rfl, k⟩
    · have k := k.2 c31
      refine aw_aload_n (i := 0) rfl d_X12_fault_69 0 rfl ?_
      refine aw_dup d_X12_fault_70 rfl ?_
      refine aw_geti (k0 := 33) kc_12 (ws_1 w29) (Nat.le_of_ble_eq_true rfl) tw_1775 d_X12_fault_71 rfl ?_
      refine aw_iconst (v := 1) d_X12_fault_74 ic_1 ?_
      refine aw_iadd d_X12_fault_75 ?_
      refine aw_puti (k0 := 33) kc_12 (ws_1 w29) (Nat.le_of_ble_eq_true rfl) tw_1775 d_X12_fault_76 rfl rfl nf_i ?_
      refine aw_aload_n (i := 0) rfl d_X12_fault_79 0 rfl ?_
      refine aw_Vv 1 [] [] d_X12_fault_80 (cV_X12_clause (d + 58) 0 0) kc_12 (ws_1 w29) tw_2229 rfl (rr0 (Nat.le_of_ble_eq_true rfl) (Nat.le_of_ble_eq_true rfl)) (Nat.le_of_ble_eq_true rfl) xs0 k (fun h40 kk => ?_)
      obtain ⟨w41, k⟩ := kk
      refine aw_goto (tgt := 52) d_X12_fault_83 rfl ?_
      exact k
theorem t_X12_stepRead (d : Nat) (h : Hp_) (w : Wf h)  (K : Hp_ → Prop) (k : Ci (m_X12_look (d + 0) 0 0) [.ref 1] h (fun r3 h1 => Wf h1 ∧ ((¬ r3 = 103 → (¬ r3 = 119 → (¬ r3 = 112 → (¬ r3 = 108 → (¬ r3 = 40 → Cv (m_X12_bad (d + 0) 0 0) [.ref 1] h1 (fun h9 => Wf h9 ∧ (K h9))) ∧ (r3 = 40 → (4 ≤ (h_i h1 1 35) → Cv (m_X12_bad (d + 0) 0 0) [.ref 1] h1 (fun h13 => Wf h13 ∧ (K h13))) ∧ (¬ 4 ≤ (h_i h1 1 35) → Cv (m_X12_say (d + 0) 0 0) [.ref 1, .int 4] (h_im (h_im h1 1 35 ((h_i h1 1 35) + 1)) 1 33 ((h_i h1 1 33) + 1)) (fun h16 => Wf h16 ∧ (Cv (m_X12_stepsRead (d + 52) 0 0) [.ref 1] h16 (fun h19 => Wf h19 ∧ ((¬ (h_i h19 1 34) = (-1) → (¬ (h_i h19 1 34) = (-1) → K (h_im (h_im h19 1 33 ((h_i h19 1 33) + 1)) 1 35 ((h_i h19 1 35) - 1))) ∧ ((h_i h19 1 34) = (-1) → Cv (m_X12_say (d + 0) 0 0) [.ref 1, .int 5] (h_im (h_im h19 1 33 ((h_i h19 1 33) + 1)) 1 35 ((h_i h19 1 35) - 1)) (fun h24 => Wf h24 ∧ (Ci (m_X12_within (d + 2) 0 0) [.ref 1, .int 1, .int 20] h24 (fun r29 h27 => Wf h27 ∧ (Cv (m_X12_say (d + 0) 0 0) [.ref 1, .int r29] h27 (fun h30 => Wf h30 ∧ (K h30)))))))) ∧ ((h_i h19 1 34) = (-1) → Ci (m_X12_look (d + 0) 0 0) [.ref 1] h19 (fun r35 h33 => Wf h33 ∧ ((r35 = 41 → (¬ (h_i h33 1 34) = (-1) → K (h_im (h_im h33 1 33 ((h_i h33 1 33) + 1)) 1 35 ((h_i h33 1 35) - 1))) ∧ ((h_i h33 1 34) = (-1) → Cv (m_X12_say (d + 0) 0 0) [.ref 1, .int 5] (h_im (h_im h33 1 33 ((h_i h33 1 33) + 1)) 1 35 ((h_i h33 1 35) - 1)) (fun h38 => Wf h38 ∧ (Ci (m_X12_within (d + 2) 0 0) [.ref 1, .int 1, .int 20] h38 (fun r43 h41 => Wf h41 ∧ (Cv (m_X12_say (d + 0) 0 0) [.ref 1, .int r43] h41 (fun h44 => Wf h44 ∧ (K h44)))))))) ∧ (¬ r35 = 41 → Cv (m_X12_bad (d + 0) 0 0) [.ref 1] h33 (fun h47 => Wf h47 ∧ ((¬ (h_i h47 1 34) = (-1) → K (h_im (h_im h47 1 33 ((h_i h47 1 33) + 1)) 1 35 ((h_i h47 1 35) - 1))) ∧ ((h_i h47 1 34) = (-1) → Cv (m_X12_say (d + 0) 0 0) [.ref 1, .int 5] (h_im (h_im h47 1 33 ((h_i h47 1 33) + 1)) 1 35 ((h_i h47 1 35) - 1)) (fun h51 => Wf h51 ∧ (Ci (m_X12_within (d + 2) 0 0) [.ref 1, .int 1, .int 20] h51 (fun r56 h54 => Wf h54 ∧ (Cv (m_X12_say (d + 0) 0 0) [.ref 1, .int r56] h54 (fun h57 => Wf h57 ∧ (K h57)))))))))))))))))))) ∧ (r3 = 108 → Cv (m_X12_say (d + 0) 0 0) [.ref 1, .int 3] (h_im h1 1 33 ((h_i h1 1 33) + 1)) (fun h60 => Wf h60 ∧ (K h60)))) ∧ (r3 = 112 → Cv (m_X12_say (d + 0) 0 0) [.ref 1, .int 2] (h_im h1 1 33 ((h_i h1 1 33) + 1)) (fun h63 => Wf h63 ∧ (Ci (m_X12_within (d + 2) 0 0) [.ref 1, .int 0, .int 15] h63 (fun r68 h66 => Wf h66 ∧ (Cv (m_X12_say (d + 0) 0 0) [.ref 1, .int r68] h66 (fun h69 => Wf h69 ∧ ((¬ (h_i h69 1 34) = (-1) → K h69) ∧ ((h_i h69 1 34) = (-1) → Ci (m_X12_within (d + 2) 0 0) [.ref 1, .int 0, .int 1440] h69 (fun r75 h73 => Wf h73 ∧ (Cv (m_X12_say (d + 0) 0 0) [.ref 1, .int r75] h73 (fun h76 => Wf h76 ∧ (K h76))))))))))))) ∧ (r3 = 119 → Cv (m_X12_say (d + 0) 0 0) [.ref 1, .int 1] (h_im h1 1 33 ((h_i h1 1 33) + 1)) (fun h79 => Wf h79 ∧ (Ci (m_X12_within (d + 2) 0 0) [.ref 1, .int 1, .int 240] h79 (fun r84 h82 => Wf h82 ∧ (Cv (m_X12_say (d + 0) 0 0) [.ref 1, .int r84] h82 (fun h85 => Wf h85 ∧ (K h85)))))))) ∧ (r3 = 103 → Cv (m_X12_say (d + 0) 0 0) [.ref 1, .int 0] (h_im h1 1 33 ((h_i h1 1 33) + 1)) (fun h88 => Wf h88 ∧ (Ci (m_X12_within (d + 2) 0 0) [.ref 1, .int 0, .int 15] h88 (fun r93 h91 => Wf h91 ∧ (Cv (m_X12_say (d + 0) 0 0) [.ref 1, .int r93] h91 (fun h94 => Wf h94 ∧ (K h94)))))))))) : Cv (m_X12_stepRead (d + 61) 0 0) [.ref 1] h K := by
  refine Ct.of (fun _ _ _ => trivial) rfl (Nat.le_of_ble_eq_true rfl) ?_
  show AW (m_X12_stepRead (d + 61) 0 0) 0 0 0 [(0, .ref 1)] [] h (kV K)
  refine aw_aload_n (i := 0) rfl d_X12_stepRead_0 0 rfl ?_
  refine aw_Vi 1 [] [] d_X12_stepRead_1 (cV_X12_look (d + 0) 0 0) kc_12 (ws_1 w) tw_2206 rfl (rr0 (Nat.le_of_ble_eq_true rfl) (Nat.le_of_ble_eq_true rfl)) (Nat.le_of_ble_eq_true rfl) xs0 k (fun r3 h1 kk => ?_)
  obtain ⟨w2, k⟩ := kk
  refine aw_istore_n (i := 1) rfl [(0, .ref 1), (1, .int r3)] d_X12_stepRead_4 (Nat.le_of_ble_eq_true rfl) rfl rfl ?_
  refine aw_iload_n (i := 1) rfl d_X12_stepRead_5 1 rfl ?_
  refine aw_bipush (v := 103) d_X12_stepRead_6 ib_103 ?_
  refine aw_icmp_ne (tgt := 40) d_X12_stepRead_8 rfl (fun c4 => ?_) (fun c4 => ?_)
  · have k := k.1 c4
    refine aw_iload_n (i := 1) rfl d_X12_stepRead_40 1 rfl ?_
    refine aw_bipush (v := 119) d_X12_stepRead_41 ib_119 ?_
    refine aw_icmp_ne (tgt := 76) d_X12_stepRead_43 rfl (fun c5 => ?_) (fun c5 => ?_)
    · have k := k.1 c5
      refine aw_iload_n (i := 1) rfl d_X12_stepRead_76 1 rfl ?_
      refine aw_bipush (v := 112) d_X12_stepRead_77 ib_112 ?_
      refine aw_icmp_ne (tgt := 131) d_X12_stepRead_79 rfl (fun c6 => ?_) (fun c6 => ?_)
      · have k := k.1 c6
        refine aw_iload_n (i := 1) rfl d_X12_stepRead_131 1 rfl ?_
        refine aw_bipush (v := 108) d_X12_stepRead_132 ib_108 ?_
        refine aw_icmp_ne (tgt := 155) d_X12_stepRead_134 rfl (fun c7 => ?_) (fun c7 => ?_)
        · have k := k.1 c7
          refine aw_iload_n (i := 1) rfl d_X12_stepRead_155 1 rfl ?_
          refine aw_bipush (v := 40) d_X12_stepRead_156 ib_40 ?_
          refine aw_icmp_ne (tgt := 266) d_X12_stepRead_158 rfl (fun c8 => ?_) (fun c8 => ?_)
          · have k := k.1 c8
            refine aw_aload_n (i := 0) rfl d_X12_stepRead_266 0 rfl ?_
            refine aw_Vv 1 [] [] d_X12_stepRead_267 (cV_X12_bad (d + 0) 0 0) kc_12 (ws_1 w2) tw_2225 rfl (rr0 (Nat.le_of_ble_eq_true rfl) (Nat.le_of_ble_eq_true rfl)) (Nat.le_of_ble_eq_true rfl) xs0 k (fun h9 kk => ?_)
            obtain ⟨w10, k⟩ := kk
            exact aw_vret rfl d_X12_stepRead_270 ⟨Nat.le_refl _, Nat.le_refl _⟩ ⟨rfl, k⟩
          · have k := k.2 c8
            refine aw_aload_n (i := 0) rfl d_X12_stepRead_161 0 rfl ?_
            refine aw_geti (k0 := 35) kc_12 (ws_1 w2) (Nat.le_of_ble_eq_true rfl) tw_1777 d_X12_stepRead_162 rfl ?_
            refine aw_iconst (v := 4) d_X12_stepRead_165 ic_4 ?_
            refine aw_icmp_ge (tgt := 266) d_X12_stepRead_166 rfl (fun c12 => ?_) (fun c12 => ?_)
            · have k := k.1 c12
              refine aw_aload_n (i := 0) rfl d_X12_stepRead_266 0 rfl ?_
              refine aw_Vv 1 [] [] d_X12_stepRead_267 (cV_X12_bad (d + 0) 0 0) kc_12 (ws_1 w2) tw_2225 rfl (rr0 (Nat.le_of_ble_eq_true rfl) (Nat.le_of_ble_eq_true rfl)) (Nat.le_of_ble_eq_true rfl) xs0 k (fun h13 kk => ?_)
              obtain ⟨w14, k⟩ := kk
              exact aw_vret rfl d_X12_stepRead_270 ⟨Nat.le_refl _, Nat.le_refl _⟩ ⟨rfl, k⟩
            · have k := k.2 c12
              refine aw_aload_n (i := 0) rfl d_X12_stepRead_169 0 rfl ?_
              refine aw_dup d_X12_stepRead_170 rfl ?_
              refine aw_geti (k0 := 35) kc_12 (ws_1 w2) (Nat.le_of_ble_eq_true rfl) tw_1777 d_X12_stepRead_171 rfl ?_
              refine aw_iconst (v := 1) d_X12_stepRead_174 ic_1 ?_
              refine aw_iadd d_X12_stepRead_175 ?_
              refine aw_puti (k0 := 35) kc_12 (ws_1 w2) (Nat.le_of_ble_eq_true rfl) tw_1777 d_X12_stepRead_176 rfl rfl nf_i ?_
              refine aw_aload_n (i := 0) rfl d_X12_stepRead_179 0 rfl ?_
              refine aw_dup d_X12_stepRead_180 rfl ?_
              refine aw_geti (k0 := 33) kc_12 (ws_1 w2) (Nat.le_of_ble_eq_true rfl) tw_1775 d_X12_stepRead_181 rfl ?_
              refine aw_vi (v2 := (h_i h1 1 33)) (rfl) ?_
              refine aw_iconst (v := 1) d_X12_stepRead_184 ic_1 ?_
              refine aw_iadd d_X12_stepRead_185 ?_
              refine aw_puti (k0 := 33) kc_12 (ws_1 w2) (Nat.le_of_ble_eq_true rfl) tw_1775 d_X12_stepRead_186 rfl rfl nf_i ?_
              refine aw_aload_n (i := 0) rfl d_X12_stepRead_189 0 rfl ?_
              refine aw_iconst (v := 4) d_X12_stepRead_190 ic_4 ?_
              refine aw_Vv 1 [.int 4] [] d_X12_stepRead_191 (cV_X12_say (d + 0) 0 0) kc_12 (ws_1 w2) tw_2210 rfl (rr0 (Nat.le_of_ble_eq_true rfl) (Nat.le_of_ble_eq_true rfl)) (Nat.le_of_ble_eq_true rfl) xs0 k (fun h16 kk => ?_)
              obtain ⟨w17, k⟩ := kk
              refine aw_aload_n (i := 0) rfl d_X12_stepRead_194 0 rfl ?_
              refine aw_Vv 1 [] [] d_X12_stepRead_195 (cV_X12_stepsRead (d + 52) 0 0) kc_12 (ws_1 w17) tw_2198 rfl (rr0 (Nat.le_of_ble_eq_true rfl) (Nat.le_of_ble_eq_true rfl)) (Nat.le_of_ble_eq_true rfl) xs0 k (fun h19 kk => ?_)
              obtain ⟨w20, k⟩ := kk
              refine aw_aload_n (i := 0) rfl d_X12_stepRead_198 0 rfl ?_
              refine aw_geti (k0 := 34) kc_12 (ws_1 w20) (Nat.le_of_ble_eq_true rfl) tw_1776 d_X12_stepRead_199 rfl ?_
              refine aw_iconst (v := (-1)) d_X12_stepRead_202 ic_m1 ?_
              refine aw_icmp_ne (tgt := 219) d_X12_stepRead_203 rfl (fun c22 => ?_) (fun c22 => ?_)
              · have k := k.1 c22
                refine aw_aload_n (i := 0) rfl d_X12_stepRead_219 0 rfl ?_
                refine aw_dup d_X12_stepRead_220 rfl ?_
                refine aw_geti (k0 := 33) kc_12 (ws_1 w20) (Nat.le_of_ble_eq_true rfl) tw_1775 d_X12_stepRead_221 rfl ?_
                refine aw_iconst (v := 1) d_X12_stepRead_224 ic_1 ?_
                refine aw_iadd d_X12_stepRead_225 ?_
                refine aw_puti (k0 := 33) kc_12 (ws_1 w20) (Nat.le_of_ble_eq_true rfl) tw_1775 d_X12_stepRead_226 rfl rfl nf_i ?_
                refine aw_aload_n (i := 0) rfl d_X12_stepRead_229 0 rfl ?_
                refine aw_dup d_X12_stepRead_230 rfl ?_
                refine aw_geti (k0 := 35) kc_12 (ws_1 w20) (Nat.le_of_ble_eq_true rfl) tw_1777 d_X12_stepRead_231 rfl ?_
                refine aw_vi (v2 := (h_i h19 1 35)) (rfl) ?_
                refine aw_iconst (v := 1) d_X12_stepRead_234 ic_1 ?_
                refine aw_isub d_X12_stepRead_235 ?_
                refine aw_puti (k0 := 35) kc_12 (ws_1 w20) (Nat.le_of_ble_eq_true rfl) tw_1777 d_X12_stepRead_236 rfl rfl nf_i ?_
                refine aw_aload_n (i := 0) rfl d_X12_stepRead_239 0 rfl ?_
                refine aw_geti (k0 := 34) kc_12 (ws_1 w20) (Nat.le_of_ble_eq_true rfl) tw_1776 d_X12_stepRead_240 rfl ?_
                refine aw_vi (v2 := (h_i h19 1 34)) (rfl) ?_
                refine aw_iconst (v := (-1)) d_X12_stepRead_243 ic_m1 ?_
                refine aw_icmp_ne (tgt := 270) d_X12_stepRead_244 rfl (fun c23 => ?_) (fun c23 => ?_)
                · have k := k.1 c23
                  exact aw_vret rfl d_X12_stepRead_270 ⟨Nat.le_refl _, Nat.le_refl _⟩ ⟨rfl, k⟩
                · have k := k.2 c23
                  refine aw_aload_n (i := 0) rfl d_X12_stepRead_247 0 rfl ?_
                  refine aw_iconst (v := 5) d_X12_stepRead_248 ic_5 ?_
                  refine aw_Vv 1 [.int 5] [] d_X12_stepRead_249 (cV_X12_say (d + 0) 0 0) kc_12 (ws_1 w20) tw_2210 rfl (rr0 (Nat.le_of_ble_eq_true rfl) (Nat.le_of_ble_eq_true rfl)) (Nat.le_of_ble_eq_true rfl) xs0 k (fun h24 kk => ?_)
                  obtain ⟨w25, k⟩ := kk
                  refine aw_aload_n (i := 0) rfl d_X12_stepRead_252 0 rfl ?_
                  refine aw_aload_n (i := 0) rfl d_X12_stepRead_253 0 rfl ?_
                  refine aw_iconst (v := 1) d_X12_stepRead_254 ic_1 ?_
                  refine aw_bipush (v := 20) d_X12_stepRead_255 ib_20 ?_
                  refine aw_Vi 1 [.int 1, .int 20] [.ref 1] d_X12_stepRead_257 (cV_X12_within (d + 2) 0 0) kc_12 (ws_1 w25) tw_2214 rfl (rr0 (Nat.le_of_ble_eq_true rfl) (Nat.le_of_ble_eq_true rfl)) (Nat.le_of_ble_eq_true rfl) xs0 k (fun r29 h27 kk => ?_)
                  obtain ⟨w28, k⟩ := kk
                  refine aw_Vv 1 [.int r29] [] d_X12_stepRead_260 (cV_X12_say (d + 0) 0 0) kc_12 (ws_1 w28) tw_2210 rfl (rr0 (Nat.le_of_ble_eq_true rfl) (Nat.le_of_ble_eq_true rfl)) (Nat.le_of_ble_eq_true rfl) xs0 k (fun h30 kk => ?_)
                  obtain ⟨w31, k⟩ := kk
                  refine aw_goto (tgt := 270) d_X12_stepRead_263 rfl ?_
                  exact aw_vret rfl d_X12_stepRead_270 ⟨Nat.le_refl _, Nat.le_refl _⟩ ⟨rfl, k⟩
              · have k := k.2 c22
                refine aw_aload_n (i := 0) rfl d_X12_stepRead_206 0 rfl ?_
                refine aw_Vi 1 [] [] d_X12_stepRead_207 (cV_X12_look (d + 0) 0 0) kc_12 (ws_1 w20) tw_2206 rfl (rr0 (Nat.le_of_ble_eq_true rfl) (Nat.le_of_ble_eq_true rfl)) (Nat.le_of_ble_eq_true rfl) xs0 k (fun r35 h33 kk => ?_)
                obtain ⟨w34, k⟩ := kk
                refine aw_bipush (v := 41) d_X12_stepRead_210 ib_41 ?_
                refine aw_icmp_eq (tgt := 219) d_X12_stepRead_212 rfl (fun c36 => ?_) (fun c36 => ?_)
                · have k := k.1 c36
                  refine aw_aload_n (i := 0) rfl d_X12_stepRead_219 0 rfl ?_
                  refine aw_dup d_X12_stepRead_220 rfl ?_
                  refine aw_geti (k0 := 33) kc_12 (ws_1 w34) (Nat.le_of_ble_eq_true rfl) tw_1775 d_X12_stepRead_221 rfl ?_
                  refine aw_iconst (v := 1) d_X12_stepRead_224 ic_1 ?_
                  refine aw_iadd d_X12_stepRead_225 ?_
                  refine aw_puti (k0 := 33) kc_12 (ws_1 w34) (Nat.le_of_ble_eq_true rfl) tw_1775 d_X12_stepRead_226 rfl rfl nf_i ?_
                  refine aw_aload_n (i := 0) rfl d_X12_stepRead_229 0 rfl ?_
                  refine aw_dup d_X12_stepRead_230 rfl ?_
                  refine aw_geti (k0 := 35) kc_12 (ws_1 w34) (Nat.le_of_ble_eq_true rfl) tw_1777 d_X12_stepRead_231 rfl ?_
                  refine aw_vi (v2 := (h_i h33 1 35)) (rfl) ?_
                  refine aw_iconst (v := 1) d_X12_stepRead_234 ic_1 ?_
                  refine aw_isub d_X12_stepRead_235 ?_
                  refine aw_puti (k0 := 35) kc_12 (ws_1 w34) (Nat.le_of_ble_eq_true rfl) tw_1777 d_X12_stepRead_236 rfl rfl nf_i ?_
                  refine aw_aload_n (i := 0) rfl d_X12_stepRead_239 0 rfl ?_
                  refine aw_geti (k0 := 34) kc_12 (ws_1 w34) (Nat.le_of_ble_eq_true rfl) tw_1776 d_X12_stepRead_240 rfl ?_
                  refine aw_vi (v2 := (h_i h33 1 34)) (rfl) ?_
                  refine aw_iconst (v := (-1)) d_X12_stepRead_243 ic_m1 ?_
                  refine aw_icmp_ne (tgt := 270) d_X12_stepRead_244 rfl (fun c37 => ?_) (fun c37 => ?_)
                  · have k := k.1 c37
                    exact aw_vret rfl d_X12_stepRead_270 ⟨Nat.le_refl _, Nat.le_refl _⟩ ⟨rfl, k⟩
                  · have k := k.2 c37
                    refine aw_aload_n (i := 0) rfl d_X12_stepRead_247 0 rfl ?_
                    refine aw_iconst (v := 5) d_X12_stepRead_248 ic_5 ?_
                    refine aw_Vv 1 [.int 5] [] d_X12_stepRead_249 (cV_X12_say (d + 0) 0 0) kc_12 (ws_1 w34) tw_2210 rfl (rr0 (Nat.le_of_ble_eq_true rfl) (Nat.le_of_ble_eq_true rfl)) (Nat.le_of_ble_eq_true rfl) xs0 k (fun h38 kk => ?_)
                    obtain ⟨w39, k⟩ := kk
                    refine aw_aload_n (i := 0) rfl d_X12_stepRead_252 0 rfl ?_
                    refine aw_aload_n (i := 0) rfl d_X12_stepRead_253 0 rfl ?_
                    refine aw_iconst (v := 1) d_X12_stepRead_254 ic_1 ?_
                    refine aw_bipush (v := 20) d_X12_stepRead_255 ib_20 ?_
                    refine aw_Vi 1 [.int 1, .int 20] [.ref 1] d_X12_stepRead_257 (cV_X12_within (d + 2) 0 0) kc_12 (ws_1 w39) tw_2214 rfl (rr0 (Nat.le_of_ble_eq_true rfl) (Nat.le_of_ble_eq_true rfl)) (Nat.le_of_ble_eq_true rfl) xs0 k (fun r43 h41 kk => ?_)
                    obtain ⟨w42, k⟩ := kk
                    refine aw_Vv 1 [.int r43] [] d_X12_stepRead_260 (cV_X12_say (d + 0) 0 0) kc_12 (ws_1 w42) tw_2210 rfl (rr0 (Nat.le_of_ble_eq_true rfl) (Nat.le_of_ble_eq_true rfl)) (Nat.le_of_ble_eq_true rfl) xs0 k (fun h44 kk => ?_)
                    obtain ⟨w45, k⟩ := kk
                    refine aw_goto (tgt := 270) d_X12_stepRead_263 rfl ?_
                    exact aw_vret rfl d_X12_stepRead_270 ⟨Nat.le_refl _, Nat.le_refl _⟩ ⟨rfl, k⟩
                · have k := k.2 c36
                  refine aw_aload_n (i := 0) rfl d_X12_stepRead_215 0 rfl ?_
                  refine aw_Vv 1 [] [] d_X12_stepRead_216 (cV_X12_bad (d + 0) 0 0) kc_12 (ws_1 w34) tw_2225 rfl (rr0 (Nat.le_of_ble_eq_true rfl) (Nat.le_of_ble_eq_true rfl)) (Nat.le_of_ble_eq_true rfl) xs0 k (fun h47 kk => ?_)
                  obtain ⟨w48, k⟩ := kk
                  refine aw_aload_n (i := 0) rfl d_X12_stepRead_219 0 rfl ?_
                  refine aw_dup d_X12_stepRead_220 rfl ?_
                  refine aw_geti (k0 := 33) kc_12 (ws_1 w48) (Nat.le_of_ble_eq_true rfl) tw_1775 d_X12_stepRead_221 rfl ?_
                  refine aw_iconst (v := 1) d_X12_stepRead_224 ic_1 ?_
                  refine aw_iadd d_X12_stepRead_225 ?_
                  refine aw_puti (k0 := 33) kc_12 (ws_1 w48) (Nat.le_of_ble_eq_true rfl) tw_1775 d_X12_stepRead_226 rfl rfl nf_i ?_
                  refine aw_aload_n (i := 0) rfl d_X12_stepRead_229 0 rfl ?_
                  refine aw_dup d_X12_stepRead_230 rfl ?_
                  refine aw_geti (k0 := 35) kc_12 (ws_1 w48) (Nat.le_of_ble_eq_true rfl) tw_1777 d_X12_stepRead_231 rfl ?_
                  refine aw_vi (v2 := (h_i h47 1 35)) (rfl) ?_
                  refine aw_iconst (v := 1) d_X12_stepRead_234 ic_1 ?_
                  refine aw_isub d_X12_stepRead_235 ?_
                  refine aw_puti (k0 := 35) kc_12 (ws_1 w48) (Nat.le_of_ble_eq_true rfl) tw_1777 d_X12_stepRead_236 rfl rfl nf_i ?_
                  refine aw_aload_n (i := 0) rfl d_X12_stepRead_239 0 rfl ?_
                  refine aw_geti (k0 := 34) kc_12 (ws_1 w48) (Nat.le_of_ble_eq_true rfl) tw_1776 d_X12_stepRead_240 rfl ?_
                  refine aw_vi (v2 := (h_i h47 1 34)) (rfl) ?_
                  refine aw_iconst (v := (-1)) d_X12_stepRead_243 ic_m1 ?_
                  refine aw_icmp_ne (tgt := 270) d_X12_stepRead_244 rfl (fun c50 => ?_) (fun c50 => ?_)
                  · have k := k.1 c50
                    exact aw_vret rfl d_X12_stepRead_270 ⟨Nat.le_refl _, Nat.le_refl _⟩ ⟨rfl, k⟩
                  · have k := k.2 c50
                    refine aw_aload_n (i := 0) rfl d_X12_stepRead_247 0 rfl ?_
                    refine aw_iconst (v := 5) d_X12_stepRead_248 ic_5 ?_
                    refine aw_Vv 1 [.int 5] [] d_X12_stepRead_249 (cV_X12_say (d + 0) 0 0) kc_12 (ws_1 w48) tw_2210 rfl (rr0 (Nat.le_of_ble_eq_true rfl) (Nat.le_of_ble_eq_true rfl)) (Nat.le_of_ble_eq_true rfl) xs0 k (fun h51 kk => ?_)
                    obtain ⟨w52, k⟩ := kk
                    refine aw_aload_n (i := 0) rfl d_X12_stepRead_252 0 rfl ?_
                    refine aw_aload_n (i := 0) rfl d_X12_stepRead_253 0 rfl ?_
                    refine aw_iconst (v := 1) d_X12_stepRead_254 ic_1 ?_
                    refine aw_bipush (v := 20) d_X12_stepRead_255 ib_20 ?_
                    refine aw_Vi 1 [.int 1, .int 20] [.ref 1] d_X12_stepRead_257 (cV_X12_within (d + 2) 0 0) kc_12 (ws_1 w52) tw_2214 rfl (rr0 (Nat.le_of_ble_eq_true rfl) (Nat.le_of_ble_eq_true rfl)) (Nat.le_of_ble_eq_true rfl) xs0 k (fun r56 h54 kk => ?_)
                    obtain ⟨w55, k⟩ := kk
                    refine aw_Vv 1 [.int r56] [] d_X12_stepRead_260 (cV_X12_say (d + 0) 0 0) kc_12 (ws_1 w55) tw_2210 rfl (rr0 (Nat.le_of_ble_eq_true rfl) (Nat.le_of_ble_eq_true rfl)) (Nat.le_of_ble_eq_true rfl) xs0 k (fun h57 kk => ?_)
                    obtain ⟨w58, k⟩ := kk
                    refine aw_goto (tgt := 270) d_X12_stepRead_263 rfl ?_
                    exact aw_vret rfl d_X12_stepRead_270 ⟨Nat.le_refl _, Nat.le_refl _⟩ ⟨rfl, k⟩
        · have k := k.2 c7
          refine aw_aload_n (i := 0) rfl d_X12_stepRead_137 0 rfl ?_
          refine aw_dup d_X12_stepRead_138 rfl ?_
          refine aw_geti (k0 := 33) kc_12 (ws_1 w2) (Nat.le_of_ble_eq_true rfl) tw_1775 d_X12_stepRead_139 rfl ?_
          refine aw_iconst (v := 1) d_X12_stepRead_142 ic_1 ?_
          refine aw_iadd d_X12_stepRead_143 ?_
          refine aw_puti (k0 := 33) kc_12 (ws_1 w2) (Nat.le_of_ble_eq_true rfl) tw_1775 d_X12_stepRead_144 rfl rfl nf_i ?_
          refine aw_aload_n (i := 0) rfl d_X12_stepRead_147 0 rfl ?_
          refine aw_iconst (v := 3) d_X12_stepRead_148 ic_3 ?_
          refine aw_Vv 1 [.int 3] [] d_X12_stepRead_149 (cV_X12_say (d + 0) 0 0) kc_12 (ws_1 w2) tw_2210 rfl (rr0 (Nat.le_of_ble_eq_true rfl) (Nat.le_of_ble_eq_true rfl)) (Nat.le_of_ble_eq_true rfl) xs0 k (fun h60 kk => ?_)
          obtain ⟨w61, k⟩ := kk
          refine aw_goto (tgt := 270) d_X12_stepRead_152 rfl ?_
          exact aw_vret rfl d_X12_stepRead_270 ⟨Nat.le_refl _, Nat.le_refl _⟩ ⟨rfl, k⟩
      · have k := k.2 c6
        refine aw_aload_n (i := 0) rfl d_X12_stepRead_82 0 rfl ?_
        refine aw_dup d_X12_stepRead_83 rfl ?_
        refine aw_geti (k0 := 33) kc_12 (ws_1 w2) (Nat.le_of_ble_eq_true rfl) tw_1775 d_X12_stepRead_84 rfl ?_
        refine aw_iconst (v := 1) d_X12_stepRead_87 ic_1 ?_
        refine aw_iadd d_X12_stepRead_88 ?_
        refine aw_puti (k0 := 33) kc_12 (ws_1 w2) (Nat.le_of_ble_eq_true rfl) tw_1775 d_X12_stepRead_89 rfl rfl nf_i ?_
        refine aw_aload_n (i := 0) rfl d_X12_stepRead_92 0 rfl ?_
        refine aw_iconst (v := 2) d_X12_stepRead_93 ic_2 ?_
        refine aw_Vv 1 [.int 2] [] d_X12_stepRead_94 (cV_X12_say (d + 0) 0 0) kc_12 (ws_1 w2) tw_2210 rfl (rr0 (Nat.le_of_ble_eq_true rfl) (Nat.le_of_ble_eq_true rfl)) (Nat.le_of_ble_eq_true rfl) xs0 k (fun h63 kk => ?_)
        obtain ⟨w64, k⟩ := kk
        refine aw_aload_n (i := 0) rfl d_X12_stepRead_97 0 rfl ?_
        refine aw_aload_n (i := 0) rfl d_X12_stepRead_98 0 rfl ?_
        refine aw_iconst (v := 0) d_X12_stepRead_99 ic_0 ?_
        refine aw_bipush (v := 15) d_X12_stepRead_100 ib_15 ?_
        refine aw_Vi 1 [.int 0, .int 15] [.ref 1] d_X12_stepRead_102 (cV_X12_within (d + 2) 0 0) kc_12 (ws_1 w64) tw_2214 rfl (rr0 (Nat.le_of_ble_eq_true rfl) (Nat.le_of_ble_eq_true rfl)) (Nat.le_of_ble_eq_true rfl) xs0 k (fun r68 h66 kk => ?_)
        obtain ⟨w67, k⟩ := kk
        refine aw_Vv 1 [.int r68] [] d_X12_stepRead_105 (cV_X12_say (d + 0) 0 0) kc_12 (ws_1 w67) tw_2210 rfl (rr0 (Nat.le_of_ble_eq_true rfl) (Nat.le_of_ble_eq_true rfl)) (Nat.le_of_ble_eq_true rfl) xs0 k (fun h69 kk => ?_)
        obtain ⟨w70, k⟩ := kk
        refine aw_aload_n (i := 0) rfl d_X12_stepRead_108 0 rfl ?_
        refine aw_geti (k0 := 34) kc_12 (ws_1 w70) (Nat.le_of_ble_eq_true rfl) tw_1776 d_X12_stepRead_109 rfl ?_
        refine aw_iconst (v := (-1)) d_X12_stepRead_112 ic_m1 ?_
        refine aw_icmp_ne (tgt := 270) d_X12_stepRead_113 rfl (fun c72 => ?_) (fun c72 => ?_)
        · have k := k.1 c72
          exact aw_vret rfl d_X12_stepRead_270 ⟨Nat.le_refl _, Nat.le_refl _⟩ ⟨rfl, k⟩
        · have k := k.2 c72
          refine aw_aload_n (i := 0) rfl d_X12_stepRead_116 0 rfl ?_
          refine aw_aload_n (i := 0) rfl d_X12_stepRead_117 0 rfl ?_
          refine aw_iconst (v := 0) d_X12_stepRead_118 ic_0 ?_
          refine aw_sipush (v := 1440) d_X12_stepRead_119 is_1440 ?_
          refine aw_Vi 1 [.int 0, .int 1440] [.ref 1] d_X12_stepRead_122 (cV_X12_within (d + 2) 0 0) kc_12 (ws_1 w70) tw_2214 rfl (rr0 (Nat.le_of_ble_eq_true rfl) (Nat.le_of_ble_eq_true rfl)) (Nat.le_of_ble_eq_true rfl) xs0 k (fun r75 h73 kk => ?_)
          obtain ⟨w74, k⟩ := kk
          refine aw_Vv 1 [.int r75] [] d_X12_stepRead_125 (cV_X12_say (d + 0) 0 0) kc_12 (ws_1 w74) tw_2210 rfl (rr0 (Nat.le_of_ble_eq_true rfl) (Nat.le_of_ble_eq_true rfl)) (Nat.le_of_ble_eq_true rfl) xs0 k (fun h76 kk => ?_)
          obtain ⟨w77, k⟩ := kk
          refine aw_goto (tgt := 270) d_X12_stepRead_128 rfl ?_
          exact aw_vret rfl d_X12_stepRead_270 ⟨Nat.le_refl _, Nat.le_refl _⟩ ⟨rfl, k⟩
    · have k := k.2 c5
      refine aw_aload_n (i := 0) rfl d_X12_stepRead_46 0 rfl ?_
      refine aw_dup d_X12_stepRead_47 rfl ?_
      refine aw_geti (k0 := 33) kc_12 (ws_1 w2) (Nat.le_of_ble_eq_true rfl) tw_1775 d_X12_stepRead_48 rfl ?_
      refine aw_iconst (v := 1) d_X12_stepRead_51 ic_1 ?_
      refine aw_iadd d_X12_stepRead_52 ?_
      refine aw_puti (k0 := 33) kc_12 (ws_1 w2) (Nat.le_of_ble_eq_true rfl) tw_1775 d_X12_stepRead_53 rfl rfl nf_i ?_
      refine aw_aload_n (i := 0) rfl d_X12_stepRead_56 0 rfl ?_
      refine aw_iconst (v := 1) d_X12_stepRead_57 ic_1 ?_
      refine aw_Vv 1 [.int 1] [] d_X12_stepRead_58 (cV_X12_say (d + 0) 0 0) kc_12 (ws_1 w2) tw_2210 rfl (rr0 (Nat.le_of_ble_eq_true rfl) (Nat.le_of_ble_eq_true rfl)) (Nat.le_of_ble_eq_true rfl) xs0 k (fun h79 kk => ?_)
      obtain ⟨w80, k⟩ := kk
      refine aw_aload_n (i := 0) rfl d_X12_stepRead_61 0 rfl ?_
      refine aw_aload_n (i := 0) rfl d_X12_stepRead_62 0 rfl ?_
      refine aw_iconst (v := 1) d_X12_stepRead_63 ic_1 ?_
      refine aw_sipush (v := 240) d_X12_stepRead_64 is_240 ?_
      refine aw_Vi 1 [.int 1, .int 240] [.ref 1] d_X12_stepRead_67 (cV_X12_within (d + 2) 0 0) kc_12 (ws_1 w80) tw_2214 rfl (rr0 (Nat.le_of_ble_eq_true rfl) (Nat.le_of_ble_eq_true rfl)) (Nat.le_of_ble_eq_true rfl) xs0 k (fun r84 h82 kk => ?_)
      obtain ⟨w83, k⟩ := kk
      refine aw_Vv 1 [.int r84] [] d_X12_stepRead_70 (cV_X12_say (d + 0) 0 0) kc_12 (ws_1 w83) tw_2210 rfl (rr0 (Nat.le_of_ble_eq_true rfl) (Nat.le_of_ble_eq_true rfl)) (Nat.le_of_ble_eq_true rfl) xs0 k (fun h85 kk => ?_)
      obtain ⟨w86, k⟩ := kk
      refine aw_goto (tgt := 270) d_X12_stepRead_73 rfl ?_
      exact aw_vret rfl d_X12_stepRead_270 ⟨Nat.le_refl _, Nat.le_refl _⟩ ⟨rfl, k⟩
  · have k := k.2 c4
    refine aw_aload_n (i := 0) rfl d_X12_stepRead_11 0 rfl ?_
    refine aw_dup d_X12_stepRead_12 rfl ?_
    refine aw_geti (k0 := 33) kc_12 (ws_1 w2) (Nat.le_of_ble_eq_true rfl) tw_1775 d_X12_stepRead_13 rfl ?_
    refine aw_iconst (v := 1) d_X12_stepRead_16 ic_1 ?_
    refine aw_iadd d_X12_stepRead_17 ?_
    refine aw_puti (k0 := 33) kc_12 (ws_1 w2) (Nat.le_of_ble_eq_true rfl) tw_1775 d_X12_stepRead_18 rfl rfl nf_i ?_
    refine aw_aload_n (i := 0) rfl d_X12_stepRead_21 0 rfl ?_
    refine aw_iconst (v := 0) d_X12_stepRead_22 ic_0 ?_
    refine aw_Vv 1 [.int 0] [] d_X12_stepRead_23 (cV_X12_say (d + 0) 0 0) kc_12 (ws_1 w2) tw_2210 rfl (rr0 (Nat.le_of_ble_eq_true rfl) (Nat.le_of_ble_eq_true rfl)) (Nat.le_of_ble_eq_true rfl) xs0 k (fun h88 kk => ?_)
    obtain ⟨w89, k⟩ := kk
    refine aw_aload_n (i := 0) rfl d_X12_stepRead_26 0 rfl ?_
    refine aw_aload_n (i := 0) rfl d_X12_stepRead_27 0 rfl ?_
    refine aw_iconst (v := 0) d_X12_stepRead_28 ic_0 ?_
    refine aw_bipush (v := 15) d_X12_stepRead_29 ib_15 ?_
    refine aw_Vi 1 [.int 0, .int 15] [.ref 1] d_X12_stepRead_31 (cV_X12_within (d + 2) 0 0) kc_12 (ws_1 w89) tw_2214 rfl (rr0 (Nat.le_of_ble_eq_true rfl) (Nat.le_of_ble_eq_true rfl)) (Nat.le_of_ble_eq_true rfl) xs0 k (fun r93 h91 kk => ?_)
    obtain ⟨w92, k⟩ := kk
    refine aw_Vv 1 [.int r93] [] d_X12_stepRead_34 (cV_X12_say (d + 0) 0 0) kc_12 (ws_1 w92) tw_2210 rfl (rr0 (Nat.le_of_ble_eq_true rfl) (Nat.le_of_ble_eq_true rfl)) (Nat.le_of_ble_eq_true rfl) xs0 k (fun h94 kk => ?_)
    obtain ⟨w95, k⟩ := kk
    refine aw_goto (tgt := 270) d_X12_stepRead_37 rfl ?_
    exact aw_vret rfl d_X12_stepRead_270 ⟨Nat.le_refl _, Nat.le_refl _⟩ ⟨rfl, k⟩
theorem t_X12_stepsRead (d : Nat) (h : Hp_) (w : Wf h)  (K : Hp_ → Prop) (k : Cv (m_X12_stepRead (d + 51) 0 0) [.ref 1] h (fun h1 => Wf h1 ∧ (AW (m_X12_stepsRead (d + 52) 0 0) 0 0 4 [(0, .ref 1)] [] h1 (kV K)))) : Cv (m_X12_stepsRead (d + 52) 0 0) [.ref 1] h K := by
  refine Ct.of (fun _ _ _ => trivial) rfl (Nat.le_of_ble_eq_true rfl) ?_
  show AW (m_X12_stepsRead (d + 52) 0 0) 0 0 0 [(0, .ref 1)] [] h (kV K)
  refine aw_aload_n (i := 0) rfl d_X12_stepsRead_0 0 rfl ?_
  refine aw_Vv 1 [] [] d_X12_stepsRead_1 (cV_X12_stepRead (d + 51) 0 0) kc_12 (ws_1 w) tw_2202 rfl (rr0 (Nat.le_of_ble_eq_true rfl) (Nat.le_of_ble_eq_true rfl)) (Nat.le_of_ble_eq_true rfl) xs0 k (fun h1 kk => ?_)
  obtain ⟨w2, k⟩ := kk
  exact k
theorem t_X12_stepsRead_4 (d : Nat) (h : Hp_) (w : Wf h)  (K : Hp_ → Prop) (k : (¬ (h_i h 1 34) = (-1) → K h) ∧ ((h_i h 1 34) = (-1) → Ci (m_X12_look (d + 0) 0 0) [.ref 1] h (fun r7 h5 => Wf h5 ∧ ((¬ r7 = 59 → K h5) ∧ (r7 = 59 → Cv (m_X12_stepRead (d + 51) 0 0) [.ref 1] (h_im h5 1 33 ((h_i h5 1 33) + 1)) (fun h9 => Wf h9 ∧ (AW (m_X12_stepsRead (d + 52) 0 0) 0 0 4 [(0, .ref 1)] [] h9 (kV K)))))))) : AW (m_X12_stepsRead (d + 52) 0 0) 0 0 4 [(0, .ref 1)] [] h (kV K) := by
  refine aw_aload_n (i := 0) rfl d_X12_stepsRead_4 0 rfl ?_
  refine aw_geti (k0 := 34) kc_12 (ws_1 w) (Nat.le_of_ble_eq_true rfl) tw_1776 d_X12_stepsRead_5 rfl ?_
  refine aw_iconst (v := (-1)) d_X12_stepsRead_8 ic_m1 ?_
  refine aw_icmp_ne (tgt := 38) d_X12_stepsRead_9 rfl (fun c4 => ?_) (fun c4 => ?_)
  · have k := k.1 c4
    exact aw_vret rfl d_X12_stepsRead_38 ⟨Nat.le_refl _, Nat.le_refl _⟩ ⟨rfl, k⟩
  · have k := k.2 c4
    refine aw_aload_n (i := 0) rfl d_X12_stepsRead_12 0 rfl ?_
    refine aw_Vi 1 [] [] d_X12_stepsRead_13 (cV_X12_look (d + 0) 0 0) kc_12 (ws_1 w) tw_2206 rfl (rr0 (Nat.le_of_ble_eq_true rfl) (Nat.le_of_ble_eq_true rfl)) (Nat.le_of_ble_eq_true rfl) xs0 k (fun r7 h5 kk => ?_)
    obtain ⟨w6, k⟩ := kk
    refine aw_bipush (v := 59) d_X12_stepsRead_16 ib_59 ?_
    refine aw_icmp_ne (tgt := 38) d_X12_stepsRead_18 rfl (fun c8 => ?_) (fun c8 => ?_)
    · have k := k.1 c8
      exact aw_vret rfl d_X12_stepsRead_38 ⟨Nat.le_refl _, Nat.le_refl _⟩ ⟨rfl, k⟩
    · have k := k.2 c8
      refine aw_aload_n (i := 0) rfl d_X12_stepsRead_21 0 rfl ?_
      refine aw_dup d_X12_stepsRead_22 rfl ?_
      refine aw_geti (k0 := 33) kc_12 (ws_1 w6) (Nat.le_of_ble_eq_true rfl) tw_1775 d_X12_stepsRead_23 rfl ?_
      refine aw_iconst (v := 1) d_X12_stepsRead_26 ic_1 ?_
      refine aw_iadd d_X12_stepsRead_27 ?_
      refine aw_puti (k0 := 33) kc_12 (ws_1 w6) (Nat.le_of_ble_eq_true rfl) tw_1775 d_X12_stepsRead_28 rfl rfl nf_i ?_
      refine aw_aload_n (i := 0) rfl d_X12_stepsRead_31 0 rfl ?_
      refine aw_Vv 1 [] [] d_X12_stepsRead_32 (cV_X12_stepRead (d + 51) 0 0) kc_12 (ws_1 w6) tw_2202 rfl (rr0 (Nat.le_of_ble_eq_true rfl) (Nat.le_of_ble_eq_true rfl)) (Nat.le_of_ble_eq_true rfl) xs0 k (fun h9 kk => ?_)
      obtain ⟨w10, k⟩ := kk
      refine aw_goto (tgt := 4) d_X12_stepsRead_35 rfl ?_
      exact k
theorem t_X12_text (d : Nat) (h : Hp_) (w : Wf h) (x1 : Int32) (x2 : Int32) (K : Int32 → Hp_ → Prop) (k : (¬ (0 ≤ x2 ∧ x2 ≤ 30) → K (-1) h) ∧ ((0 ≤ x2 ∧ x2 ≤ 30) → vp_in x1 2 ∧ (((h_i h 235 x1.toNatClampNeg) = 20 → K (-1) h) ∧ (¬ (h_i h 235 x1.toNatClampNeg) = 20 → Ci (m_X12_fault (d + 59) 0 0) [.ref 1, .int (x1 + 1)] h (fun r8 h6 => Wf h6 ∧ ((r8 = (-1) → vp_in x1 2 ∧ (AW (m_X12_text (d + 60) 0 0) 0 0 49 [(0, .ref 1), (1, .int x1), (2, .int x2), (3, .int ((20 * x1) + (h_i h6 235 x1.toNatClampNeg))), (4, .int 0)] [] h6 (kI K))) ∧ (¬ r8 = (-1) → K (-1) h6))))))) : Ci (m_X12_text (d + 60) 0 0) [.ref 1, .int x1, .int x2] h K := by
  refine Ct.of (fun _ _ _ => trivial) rfl (Nat.le_of_ble_eq_true rfl) ?_
  show AW (m_X12_text (d + 60) 0 0) 0 0 0 [(0, .ref 1), (1, .int x1), (2, .int x2)] [] h (kI K)
  refine aw_iload_n (i := 2) rfl d_X12_text_0 2 rfl ?_
  refine aw_iconst (v := 0) d_X12_text_1 ic_0 ?_
  refine aw_bipush (v := 30) d_X12_text_2 ib_30 ?_
  refine aw_Si [.int x2, .int 0, .int 30] [] d_X12_text_4 (cS_X12_in (d + 0) 0 0) tw_2143 rfl (rr0 (Nat.le_of_ble_eq_true rfl) (Nat.le_of_ble_eq_true rfl)) (Nat.le_of_ble_eq_true rfl) xs0 (s_X12_in _ _ x2 0 30) (fun _ _ kk => ?_)
  obtain ⟨e1, e2⟩ := kk
  rw [e1, e2]
  refine aw_ifb_eq (tgt := 32) d_X12_text_7 rfl (fun c3 => ?_) (fun c3 => ?_)
  · have k := k.1 c3
    refine aw_iconst (v := (-1)) d_X12_text_32 ic_m1 ?_
    exact aw_iret rfl d_X12_text_33 ⟨Nat.le_refl _, Nat.le_refl _⟩ ⟨_, rfl, k⟩
  · have k := k.2 c3
    refine aw_aload_n (i := 0) rfl d_X12_text_10 0 rfl ?_
    refine aw_getr (k0 := 49) kc_12 (ws_1 w) (Nat.le_of_ble_eq_true rfl) tw_1791 d_X12_text_11 rfl (wr_1_49 w) ?_
    refine aw_iload_n (i := 1) rfl d_X12_text_14 1 rfl ?_
    obtain ⟨b4, k⟩ := k
    refine aw_iald (ws_235 w) b4 d_X12_text_15 ?_
    refine aw_bipush (v := 20) d_X12_text_16 ib_20 ?_
    refine aw_icmp_eq (tgt := 32) d_X12_text_18 rfl (fun c5 => ?_) (fun c5 => ?_)
    · have k := k.1 c5
      refine aw_iconst (v := (-1)) d_X12_text_32 ic_m1 ?_
      exact aw_iret rfl d_X12_text_33 ⟨Nat.le_refl _, Nat.le_refl _⟩ ⟨_, rfl, k⟩
    · have k := k.2 c5
      refine aw_aload_n (i := 0) rfl d_X12_text_21 0 rfl ?_
      refine aw_iload_n (i := 1) rfl d_X12_text_22 1 rfl ?_
      refine aw_iconst (v := 1) d_X12_text_23 ic_1 ?_
      refine aw_iadd d_X12_text_24 ?_
      refine aw_Vi 1 [.int (x1 + 1)] [] d_X12_text_25 (cV_X12_fault (d + 59) 0 0) kc_12 (ws_1 w) tw_2194 rfl (rr0 (Nat.le_of_ble_eq_true rfl) (Nat.le_of_ble_eq_true rfl)) (Nat.le_of_ble_eq_true rfl) xs0 k (fun r8 h6 kk => ?_)
      obtain ⟨w7, k⟩ := kk
      refine aw_iconst (v := (-1)) d_X12_text_28 ic_m1 ?_
      refine aw_icmp_eq (tgt := 34) d_X12_text_29 rfl (fun c9 => ?_) (fun c9 => ?_)
      · have k := k.1 c9
        refine aw_bipush (v := 20) d_X12_text_34 ib_20 ?_
        refine aw_iload_n (i := 1) rfl d_X12_text_36 1 rfl ?_
        refine aw_imul d_X12_text_37 ?_
        refine aw_aload_n (i := 0) rfl d_X12_text_38 0 rfl ?_
        refine aw_getr (k0 := 49) kc_12 (ws_1 w7) (Nat.le_of_ble_eq_true rfl) tw_1791 d_X12_text_39 rfl (wr_1_49 w7) ?_
        refine aw_iload_n (i := 1) rfl d_X12_text_42 1 rfl ?_
        obtain ⟨b10, k⟩ := k
        refine aw_iald (ws_235 w7) b10 d_X12_text_43 ?_
        refine aw_iadd d_X12_text_44 ?_
        refine aw_istore_n (i := 3) rfl [(0, .ref 1), (1, .int x1), (2, .int x2), (3, .int ((20 * x1) + (h_i h6 235 x1.toNatClampNeg)))] d_X12_text_45 (Nat.le_of_ble_eq_true rfl) rfl rfl ?_
        refine aw_iconst (v := 0) d_X12_text_46 ic_0 ?_
        refine aw_istore [(0, .ref 1), (1, .int x1), (2, .int x2), (3, .int ((20 * x1) + (h_i h6 235 x1.toNatClampNeg))), (4, .int 0)] d_X12_text_47 (Nat.le_of_ble_eq_true rfl) rfl rfl ?_
        exact k
      · have k := k.2 c9
        refine aw_iconst (v := (-1)) d_X12_text_32 ic_m1 ?_
        exact aw_iret rfl d_X12_text_33 ⟨Nat.le_refl _, Nat.le_refl _⟩ ⟨_, rfl, k⟩
theorem t_X12_text_49 (d : Nat) (h : Hp_) (w : Wf h) (x1 : Int32) (x2 : Int32) (x3 : Int32) (x4 : Int32) (K : Int32 → Hp_ → Prop) (k : ((h_i h 1 36) ≤ x4 → vp_in x3 40 ∧ (vp_in x3 40 ∧ (vp_in x3 40 ∧ (vp_in x1 2 ∧ (vp_in x1 2 ∧ (vp_in x1 2 ∧ (K (((h_i h 235 x1.toNatClampNeg) + 1) - 1) (h_im (h_im (h_im (h_im (h_im h 232 x3.toNatClampNeg (h_i h 1 36)) 233 x3.toNatClampNeg x2) 234 x3.toNatClampNeg (h_i h 1 0)) 235 x1.toNatClampNeg ((h_i h 235 x1.toNatClampNeg) + 1)) 1 32 0)))))))) ∧ (¬ (h_i h 1 36) ≤ x4 → vp_in x4 560 ∧ (vp_in ((560 * x3) + x4) 22400 ∧ (AW (m_X12_text (d + 60) 0 0) 0 0 49 [(0, .ref 1), (1, .int x1), (2, .int x2), (3, .int x3), (4, .int (x4 + 1))] [] (h_im h 231 (((560 * x3) + x4) : Int32).toNatClampNeg (h_i h 226 x4.toNatClampNeg)) (kI K))))) : AW (m_X12_text (d + 60) 0 0) 0 0 49 [(0, .ref 1), (1, .int x1), (2, .int x2), (3, .int x3), (4, .int x4)] [] h (kI K) := by
  refine aw_iload d_X12_text_49 4 rfl ?_
  refine aw_aload_n (i := 0) rfl d_X12_text_51 0 rfl ?_
  refine aw_geti (k0 := 36) kc_12 (ws_1 w) (Nat.le_of_ble_eq_true rfl) tw_1778 d_X12_text_52 rfl ?_
  refine aw_icmp_ge (tgt := 84) d_X12_text_55 rfl (fun c11 => ?_) (fun c11 => ?_)
  · have k := k.1 c11
    refine aw_aload_n (i := 0) rfl d_X12_text_84 0 rfl ?_
    refine aw_getr (k0 := 46) kc_12 (ws_1 w) (Nat.le_of_ble_eq_true rfl) tw_1788 d_X12_text_85 rfl (wr_1_46 w) ?_
    refine aw_iload_n (i := 3) rfl d_X12_text_88 3 rfl ?_
    refine aw_aload_n (i := 0) rfl d_X12_text_89 0 rfl ?_
    refine aw_geti (k0 := 36) kc_12 (ws_1 w) (Nat.le_of_ble_eq_true rfl) tw_1778 d_X12_text_90 rfl ?_
    obtain ⟨b12, k⟩ := k
    refine aw_iast (ws_232 w) b12 d_X12_text_93 ?_
    refine aw_aload_n (i := 0) rfl d_X12_text_94 0 rfl ?_
    refine aw_getr (k0 := 47) kc_12 (ws_1 w) (Nat.le_of_ble_eq_true rfl) tw_1789 d_X12_text_95 rfl (wr_1_47 w) ?_
    refine aw_iload_n (i := 3) rfl d_X12_text_98 3 rfl ?_
    refine aw_iload_n (i := 2) rfl d_X12_text_99 2 rfl ?_
    obtain ⟨b13, k⟩ := k
    refine aw_iast (ws_233 w) b13 d_X12_text_100 ?_
    refine aw_aload_n (i := 0) rfl d_X12_text_101 0 rfl ?_
    refine aw_getr (k0 := 48) kc_12 (ws_1 w) (Nat.le_of_ble_eq_true rfl) tw_1790 d_X12_text_102 rfl (wr_1_48 w) ?_
    refine aw_iload_n (i := 3) rfl d_X12_text_105 3 rfl ?_
    refine aw_aload_n (i := 0) rfl d_X12_text_106 0 rfl ?_
    refine aw_geti (k0 := 0) kc_12 (ws_1 w) (Nat.le_of_ble_eq_true rfl) tw_1742 d_X12_text_107 rfl ?_
    refine aw_vi (v2 := (h_i h 1 0)) (rfl) ?_
    obtain ⟨b14, k⟩ := k
    refine aw_iast (ws_234 w) b14 d_X12_text_110 ?_
    refine aw_aload_n (i := 0) rfl d_X12_text_111 0 rfl ?_
    refine aw_getr (k0 := 49) kc_12 (ws_1 w) (Nat.le_of_ble_eq_true rfl) tw_1791 d_X12_text_112 rfl (wr_1_49 w) ?_
    refine aw_iload_n (i := 1) rfl d_X12_text_115 1 rfl ?_
    refine aw_dup2 d_X12_text_116 ⟨rfl, rfl⟩ ?_
    obtain ⟨b15, k⟩ := k
    refine aw_iald (ws_235 w) b15 d_X12_text_117 ?_
    refine aw_vi (v2 := (h_i h 235 x1.toNatClampNeg)) (rfl) ?_
    refine aw_iconst (v := 1) d_X12_text_118 ic_1 ?_
    refine aw_iadd d_X12_text_119 ?_
    obtain ⟨b16, k⟩ := k
    refine aw_iast (ws_235 w) b16 d_X12_text_120 ?_
    refine aw_aload_n (i := 0) rfl d_X12_text_121 0 rfl ?_
    refine aw_iconst (v := 0) d_X12_text_122 ic_0 ?_
    refine aw_puti (k0 := 32) kc_12 (ws_1 w) (Nat.le_of_ble_eq_true rfl) tw_1774 d_X12_text_123 rfl rfl nf_i ?_
    refine aw_aload_n (i := 0) rfl d_X12_text_126 0 rfl ?_
    refine aw_getr (k0 := 49) kc_12 (ws_1 w) (Nat.le_of_ble_eq_true rfl) tw_1791 d_X12_text_127 rfl (wr_1_49 w) ?_
    refine aw_iload_n (i := 1) rfl d_X12_text_130 1 rfl ?_
    obtain ⟨b17, k⟩ := k
    refine aw_iald (ws_235 w) b17 d_X12_text_131 ?_
    refine aw_vi (v2 := ((h_i h 235 x1.toNatClampNeg) + 1)) (by rw [im_ne (by decide), im_at]) ?_
    refine aw_iconst (v := 1) d_X12_text_132 ic_1 ?_
    refine aw_isub d_X12_text_133 ?_
    exact aw_iret rfl d_X12_text_134 ⟨Nat.le_refl _, Nat.le_refl _⟩ ⟨_, rfl, k⟩
  · have k := k.2 c11
    refine aw_aload_n (i := 0) rfl d_X12_text_58 0 rfl ?_
    refine aw_getr (k0 := 45) kc_12 (ws_1 w) (Nat.le_of_ble_eq_true rfl) tw_1787 d_X12_text_59 rfl (wr_1_45 w) ?_
    refine aw_sipush (v := 560) d_X12_text_62 is_560 ?_
    refine aw_iload_n (i := 3) rfl d_X12_text_65 3 rfl ?_
    refine aw_imul d_X12_text_66 ?_
    refine aw_iload d_X12_text_67 4 rfl ?_
    refine aw_iadd d_X12_text_69 ?_
    refine aw_aload_n (i := 0) rfl d_X12_text_70 0 rfl ?_
    refine aw_getr (k0 := 31) kc_12 (ws_1 w) (Nat.le_of_ble_eq_true rfl) tw_1773 d_X12_text_71 rfl (wr_1_31 w) ?_
    refine aw_iload d_X12_text_74 4 rfl ?_
    obtain ⟨b18, k⟩ := k
    refine aw_iald (ws_226 w) b18 d_X12_text_76 ?_
    obtain ⟨b19, k⟩ := k
    refine aw_iast (ws_231 w) b19 d_X12_text_77 ?_
    refine aw_iinc (v := (x4 + 1)) [(0, .ref 1), (1, .int x1), (2, .int x2), (3, .int x3), (4, .int (x4 + 1))] d_X12_text_78 4 rfl rfl (Nat.le_of_ble_eq_true rfl) rfl rfl ?_
    refine aw_goto (tgt := 49) d_X12_text_81 rfl ?_
    exact k
theorem t_X12_act (d : Nat) (h : Hp_) (w : Wf h) (x1 : Int32) (K : Int32 → Hp_ → Prop) (k : Ci (m_X12_text (d + 60) 0 0) [.ref 1, .int 0, .int x1] h (fun r3 h1 => Wf h1 ∧ (K r3 h1))) : Ci (m_X12_act (d + 61) 0 0) [.ref 1, .int x1] h K := by
  refine Ct.of (fun _ _ _ => trivial) rfl (Nat.le_of_ble_eq_true rfl) ?_
  show AW (m_X12_act (d + 61) 0 0) 0 0 0 [(0, .ref 1), (1, .int x1)] [] h (kI K)
  refine aw_aload_n (i := 0) rfl d_X12_act_0 0 rfl ?_
  refine aw_iconst (v := 0) d_X12_act_1 ic_0 ?_
  refine aw_iload_n (i := 1) rfl d_X12_act_2 1 rfl ?_
  refine aw_Vi 1 [.int 0, .int x1] [] d_X12_act_3 (cV_X12_text (d + 60) 0 0) kc_12 (ws_1 w) tw_2296 rfl (rr0 (Nat.le_of_ble_eq_true rfl) (Nat.le_of_ble_eq_true rfl)) (Nat.le_of_ble_eq_true rfl) xs0 k (fun r3 h1 kk => ?_)
  obtain ⟨w2, k⟩ := kk
  exact aw_iret rfl d_X12_act_6 ⟨Nat.le_refl _, Nat.le_refl _⟩ ⟨_, rfl, k⟩
theorem t_X12_pay (d : Nat) (h : Hp_) (w : Wf h) (x1 : Int32) (K : Int32 → Hp_ → Prop) (k : Ci (m_X12_text (d + 60) 0 0) [.ref 1, .int 1, .int x1] h (fun r3 h1 => Wf h1 ∧ (K r3 h1))) : Ci (m_X12_pay (d + 61) 0 0) [.ref 1, .int x1] h K := by
  refine Ct.of (fun _ _ _ => trivial) rfl (Nat.le_of_ble_eq_true rfl) ?_
  show AW (m_X12_pay (d + 61) 0 0) 0 0 0 [(0, .ref 1), (1, .int x1)] [] h (kI K)
  refine aw_aload_n (i := 0) rfl d_X12_pay_0 0 rfl ?_
  refine aw_iconst (v := 1) d_X12_pay_1 ic_1 ?_
  refine aw_iload_n (i := 1) rfl d_X12_pay_2 1 rfl ?_
  refine aw_Vi 1 [.int 1, .int x1] [] d_X12_pay_3 (cV_X12_text (d + 60) 0 0) kc_12 (ws_1 w) tw_2296 rfl (rr0 (Nat.le_of_ble_eq_true rfl) (Nat.le_of_ble_eq_true rfl)) (Nat.le_of_ble_eq_true rfl) xs0 k (fun r3 h1 kk => ?_)
  obtain ⟨w2, k⟩ := kk
  exact aw_iret rfl d_X12_pay_6 ⟨Nat.le_refl _, Nat.le_refl _⟩ ⟨_, rfl, k⟩
theorem t_X12_beat (d : Nat) (h : Hp_) (w : Wf h)  (K : Int32 → Hp_ → Prop) (k : ((h_i h 1 42) = 12 → K (-1) h) ∧ (¬ (h_i h 1 42) = 12 → Ci (m_X12_fault (d + 59) 0 0) [.ref 1, .int 0] h (fun r4 h2 => Wf h2 ∧ ((r4 = (-1) → Ci (m_X12_unfold (d + 0) 0 0) [.ref 1, .int 0, .int 1] (h_im h2 1 43 0) (fun r8 h6 => Wf h6 ∧ ((¬ r8 = 0 → vp_in (h_i h6 1 42) 12 ∧ (K (((h_i h6 1 42) + 1) - 1) (h_im (h_im (h_im h6 227 ((h_i h6 1 42) : Int32).toNatClampNeg (h_i h6 1 43)) 1 42 ((h_i h6 1 42) + 1)) 1 32 0))) ∧ (r8 = 0 → K (-1) h6)))) ∧ (¬ r4 = (-1) → K (-1) h2))))) : Ci (m_X12_beat (d + 60) 0 0) [.ref 1] h K := by
  refine Ct.of (fun _ _ _ => trivial) rfl (Nat.le_of_ble_eq_true rfl) ?_
  show AW (m_X12_beat (d + 60) 0 0) 0 0 0 [(0, .ref 1)] [] h (kI K)
  refine aw_aload_n (i := 0) rfl d_X12_beat_0 0 rfl ?_
  refine aw_geti (k0 := 42) kc_12 (ws_1 w) (Nat.le_of_ble_eq_true rfl) tw_1784 d_X12_beat_1 rfl ?_
  refine aw_bipush (v := 12) d_X12_beat_4 ib_12 ?_
  refine aw_icmp_eq (tgt := 18) d_X12_beat_6 rfl (fun c1 => ?_) (fun c1 => ?_)
  · have k := k.1 c1
    refine aw_iconst (v := (-1)) d_X12_beat_18 ic_m1 ?_
    exact aw_iret rfl d_X12_beat_19 ⟨Nat.le_refl _, Nat.le_refl _⟩ ⟨_, rfl, k⟩
  · have k := k.2 c1
    refine aw_aload_n (i := 0) rfl d_X12_beat_9 0 rfl ?_
    refine aw_iconst (v := 0) d_X12_beat_10 ic_0 ?_
    refine aw_Vi 1 [.int 0] [] d_X12_beat_11 (cV_X12_fault (d + 59) 0 0) kc_12 (ws_1 w) tw_2194 rfl (rr0 (Nat.le_of_ble_eq_true rfl) (Nat.le_of_ble_eq_true rfl)) (Nat.le_of_ble_eq_true rfl) xs0 k (fun r4 h2 kk => ?_)
    obtain ⟨w3, k⟩ := kk
    refine aw_iconst (v := (-1)) d_X12_beat_14 ic_m1 ?_
    refine aw_icmp_eq (tgt := 20) d_X12_beat_15 rfl (fun c5 => ?_) (fun c5 => ?_)
    · have k := k.1 c5
      refine aw_aload_n (i := 0) rfl d_X12_beat_20 0 rfl ?_
      refine aw_iconst (v := 0) d_X12_beat_21 ic_0 ?_
      refine aw_puti (k0 := 43) kc_12 (ws_1 w3) (Nat.le_of_ble_eq_true rfl) tw_1785 d_X12_beat_22 rfl rfl nf_i ?_
      refine aw_aload_n (i := 0) rfl d_X12_beat_25 0 rfl ?_
      refine aw_iconst (v := 0) d_X12_beat_26 ic_0 ?_
      refine aw_iconst (v := 1) d_X12_beat_27 ic_1 ?_
      refine aw_Vi 1 [.int 0, .int 1] [] d_X12_beat_28 (cV_X12_unfold (d + 0) 0 0) kc_12 (ws_1 w3) tw_2279 rfl (rr0 (Nat.le_of_ble_eq_true rfl) (Nat.le_of_ble_eq_true rfl)) (Nat.le_of_ble_eq_true rfl) xs0 k (fun r8 h6 kk => ?_)
      obtain ⟨w7, k⟩ := kk
      refine aw_if_ne (tgt := 36) d_X12_beat_31 rfl (fun c9 => ?_) (fun c9 => ?_)
      · have k := k.1 c9
        refine aw_aload_n (i := 0) rfl d_X12_beat_36 0 rfl ?_
        refine aw_getr (k0 := 38) kc_12 (ws_1 w7) (Nat.le_of_ble_eq_true rfl) tw_1780 d_X12_beat_37 rfl (wr_1_38 w7) ?_
        refine aw_aload_n (i := 0) rfl d_X12_beat_40 0 rfl ?_
        refine aw_geti (k0 := 42) kc_12 (ws_1 w7) (Nat.le_of_ble_eq_true rfl) tw_1784 d_X12_beat_41 rfl ?_
        refine aw_aload_n (i := 0) rfl d_X12_beat_44 0 rfl ?_
        refine aw_geti (k0 := 43) kc_12 (ws_1 w7) (Nat.le_of_ble_eq_true rfl) tw_1785 d_X12_beat_45 rfl ?_
        obtain ⟨b10, k⟩ := k
        refine aw_iast (ws_227 w7) b10 d_X12_beat_48 ?_
        refine aw_aload_n (i := 0) rfl d_X12_beat_49 0 rfl ?_
        refine aw_dup d_X12_beat_50 rfl ?_
        refine aw_geti (k0 := 42) kc_12 (ws_1 w7) (Nat.le_of_ble_eq_true rfl) tw_1784 d_X12_beat_51 rfl ?_
        refine aw_vi (v2 := (h_i h6 1 42)) (rfl) ?_
        refine aw_iconst (v := 1) d_X12_beat_54 ic_1 ?_
        refine aw_iadd d_X12_beat_55 ?_
        refine aw_puti (k0 := 42) kc_12 (ws_1 w7) (Nat.le_of_ble_eq_true rfl) tw_1784 d_X12_beat_56 rfl rfl nf_i ?_
        refine aw_aload_n (i := 0) rfl d_X12_beat_59 0 rfl ?_
        refine aw_iconst (v := 0) d_X12_beat_60 ic_0 ?_
        refine aw_puti (k0 := 32) kc_12 (ws_1 w7) (Nat.le_of_ble_eq_true rfl) tw_1774 d_X12_beat_61 rfl rfl nf_i ?_
        refine aw_aload_n (i := 0) rfl d_X12_beat_64 0 rfl ?_
        refine aw_geti (k0 := 42) kc_12 (ws_1 w7) (Nat.le_of_ble_eq_true rfl) tw_1784 d_X12_beat_65 rfl ?_
        refine aw_vi (v2 := ((h_i h6 1 42) + 1)) (rfl) ?_
        refine aw_iconst (v := 1) d_X12_beat_68 ic_1 ?_
        refine aw_isub d_X12_beat_69 ?_
        exact aw_iret rfl d_X12_beat_70 ⟨Nat.le_refl _, Nat.le_refl _⟩ ⟨_, rfl, k⟩
      · have k := k.2 c9
        refine aw_iconst (v := (-1)) d_X12_beat_34 ic_m1 ?_
        exact aw_iret rfl d_X12_beat_35 ⟨Nat.le_refl _, Nat.le_refl _⟩ ⟨_, rfl, k⟩
    · have k := k.2 c5
      refine aw_iconst (v := (-1)) d_X12_beat_18 ic_m1 ?_
      exact aw_iret rfl d_X12_beat_19 ⟨Nat.le_refl _, Nat.le_refl _⟩ ⟨_, rfl, k⟩
