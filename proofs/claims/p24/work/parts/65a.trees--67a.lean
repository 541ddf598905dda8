section
theorem t_X12_clause (d : Nat) (h : Hp_) (w : Wf h)  (K : Hp_ → Prop) (k : Ci (m_X12_look (d + 0) 0 0) [.ref 1] h (fun r3 h1 => Wf h1 ∧ ((¬ (h_i h1 1 37) = 1 → (r3 = 33 → Cv (m_X12_condition (d + 57) 0 0) [.ref 1, .int 0] h1 (fun h7 => Wf h7 ∧ (Cv (m_X12_ask (d + 1) 0 0) [.ref 1] h7 (fun h10 => Wf h10 ∧ ((¬ (h_i h10 1 34) = (-1) → K h10) ∧ ((h_i h10 1 34) = (-1) → Cv (m_X12_sum (d + 53) 0 0) [.ref 1] h10 (fun h14 => Wf h14 ∧ (Cv (m_X12_say (d + 0) 0 0) [.ref 1, .int 3] h14 (fun h17 => Wf h17 ∧ (K h17)))))))))) ∧ (¬ r3 = 33 → (r3 = 40 → Cv (m_X12_condition (d + 57) 0 0) [.ref 1, .int 0] h1 (fun h22 => Wf h22 ∧ (Cv (m_X12_ask (d + 1) 0 0) [.ref 1] h22 (fun h25 => Wf h25 ∧ ((¬ (h_i h25 1 34) = (-1) → K h25) ∧ ((h_i h25 1 34) = (-1) → Cv (m_X12_sum (d + 53) 0 0) [.ref 1] h25 (fun h29 => Wf h29 ∧ (Cv (m_X12_say (d + 0) 0 0) [.ref 1, .int 3] h29 (fun h32 => Wf h32 ∧ (K h32)))))))))) ∧ (¬ r3 = 40 → Cv (m_X12_sum (d + 53) 0 0) [.ref 1] h1 (fun h36 => Wf h36 ∧ (((h_i h36 1 34) = (-1) → Ci (m_X12_look (d + 0) 0 0) [.ref 1] h36 (fun r42 h40 => Wf h40 ∧ (Ci (m_X12_isSign (d + 0) 0 0) [.int r42] h40 (fun r45 h43 => Wf h43 ∧ ((¬ r45 = 0 → Cv (m_X12_condition (d + 57) 0 0) [.ref 1, .int 1] h43 (fun h47 => Wf h47 ∧ (Cv (m_X12_ask (d + 1) 0 0) [.ref 1] h47 (fun h50 => Wf h50 ∧ ((¬ (h_i h50 1 34) = (-1) → K h50) ∧ ((h_i h50 1 34) = (-1) → Cv (m_X12_sum (d + 53) 0 0) [.ref 1] h50 (fun h54 => Wf h54 ∧ (Cv (m_X12_say (d + 0) 0 0) [.ref 1, .int 3] h54 (fun h57 => Wf h57 ∧ (K h57)))))))))) ∧ (r45 = 0 → AW (m_X12_clause (d + 58) 0 0) 0 0 179 [(0, .ref 1), (3, .int (h_i h1 1 36)), (4, .int ((h_i h43 1 36) - 1))] [] h43 (kV K))))))) ∧ (¬ (h_i h36 1 34) = (-1) → K h36)))))) ∧ ((h_i h1 1 37) = 1 → Cv (m_X12_condition (d + 57) 0 0) [.ref 1, .int 0] h1 (fun h60 => Wf h60 ∧ (Cv (m_X12_ask (d + 1) 0 0) [.ref 1] h60 (fun h63 => Wf h63 ∧ (((h_i h63 1 34) = (-1) → Ci (m_X12_look (d + 0) 0 0) [.ref 1] h63 (fun r69 h67 => Wf h67 ∧ ((r69 = 120 → Cv (m_X12_say (d + 0) 0 0) [.ref 1, .int 0] (h_im h67 1 33 ((h_i h67 1 33) + 1)) (fun h71 => Wf h71 ∧ ((¬ r69 = 120 → (¬ r69 = 110 → (¬ r69 = 114 → Cv (m_X12_say (d + 0) 0 0) [.ref 1, .int 3] h71 (fun h77 => Wf h77 ∧ (Cv (m_X12_say (d + 0) 0 0) [.ref 1, .int 3] h77 (fun h80 => Wf h80 ∧ (K h80))))) ∧ (r69 = 114 → Cv (m_X12_say (d + 0) 0 0) [.ref 1, .int 2] h71 (fun h83 => Wf h83 ∧ (Cv (m_X12_say (d + 0) 0 0) [.ref 1, .int 3] h83 (fun h86 => Wf h86 ∧ (K h86)))))) ∧ (r69 = 110 → Cv (m_X12_say (d + 0) 0 0) [.ref 1, .int 1] h71 (fun h89 => Wf h89 ∧ (Cv (m_X12_say (d + 0) 0 0) [.ref 1, .int 3] h89 (fun h92 => Wf h92 ∧ (K h92)))))) ∧ (r69 = 120 → Cv (m_X12_say (d + 0) 0 0) [.ref 1, .int 0] h71 (fun h95 => Wf h95 ∧ (Cv (m_X12_say (d + 0) 0 0) [.ref 1, .int 3] h95 (fun h98 => Wf h98 ∧ (K h98)))))))) ∧ (¬ r69 = 120 → (r69 = 110 → Cv (m_X12_say (d + 0) 0 0) [.ref 1, .int 0] (h_im h67 1 33 ((h_i h67 1 33) + 1)) (fun h102 => Wf h102 ∧ ((¬ r69 = 120 → (¬ r69 = 110 → (¬ r69 = 114 → Cv (m_X12_say (d + 0) 0 0) [.ref 1, .int 3] h102 (fun h108 => Wf h108 ∧ (Cv (m_X12_say (d + 0) 0 0) [.ref 1, .int 3] h108 (fun h111 => Wf h111 ∧ (K h111))))) ∧ (r69 = 114 → Cv (m_X12_say (d + 0) 0 0) [.ref 1, .int 2] h102 (fun h114 => Wf h114 ∧ (Cv (m_X12_say (d + 0) 0 0) [.ref 1, .int 3] h114 (fun h117 => Wf h117 ∧ (K h117)))))) ∧ (r69 = 110 → Cv (m_X12_say (d + 0) 0 0) [.ref 1, .int 1] h102 (fun h120 => Wf h120 ∧ (Cv (m_X12_say (d + 0) 0 0) [.ref 1, .int 3] h120 (fun h123 => Wf h123 ∧ (K h123)))))) ∧ (r69 = 120 → Cv (m_X12_say (d + 0) 0 0) [.ref 1, .int 0] h102 (fun h126 => Wf h126 ∧ (Cv (m_X12_say (d + 0) 0 0) [.ref 1, .int 3] h126 (fun h129 => Wf h129 ∧ (K h129)))))))) ∧ (¬ r69 = 110 → (r69 = 114 → Cv (m_X12_say (d + 0) 0 0) [.ref 1, .int 0] (h_im h67 1 33 ((h_i h67 1 33) + 1)) (fun h133 => Wf h133 ∧ ((¬ r69 = 120 → (¬ r69 = 110 → (¬ r69 = 114 → Cv (m_X12_say (d + 0) 0 0) [.ref 1, .int 3] h133 (fun h139 => Wf h139 ∧ (Cv (m_X12_say (d + 0) 0 0) [.ref 1, .int 3] h139 (fun h142 => Wf h142 ∧ (K h142))))) ∧ (r69 = 114 → Cv (m_X12_say (d + 0) 0 0) [.ref 1, .int 2] h133 (fun h145 => Wf h145 ∧ (Cv (m_X12_say (d + 0) 0 0) [.ref 1, .int 3] h145 (fun h148 => Wf h148 ∧ (K h148)))))) ∧ (r69 = 110 → Cv (m_X12_say (d + 0) 0 0) [.ref 1, .int 1] h133 (fun h151 => Wf h151 ∧ (Cv (m_X12_say (d + 0) 0 0) [.ref 1, .int 3] h151 (fun h154 => Wf h154 ∧ (K h154)))))) ∧ (r69 = 120 → Cv (m_X12_say (d + 0) 0 0) [.ref 1, .int 0] h133 (fun h157 => Wf h157 ∧ (Cv (m_X12_say (d + 0) 0 0) [.ref 1, .int 3] h157 (fun h160 => Wf h160 ∧ (K h160)))))))) ∧ (¬ r69 = 114 → (r69 = 116 → Cv (m_X12_say (d + 0) 0 0) [.ref 1, .int 0] (h_im h67 1 33 ((h_i h67 1 33) + 1)) (fun h164 => Wf h164 ∧ ((¬ r69 = 120 → (¬ r69 = 110 → (¬ r69 = 114 → Cv (m_X12_say (d + 0) 0 0) [.ref 1, .int 3] h164 (fun h170 => Wf h170 ∧ (Cv (m_X12_say (d + 0) 0 0) [.ref 1, .int 3] h170 (fun h173 => Wf h173 ∧ (K h173))))) ∧ (r69 = 114 → Cv (m_X12_say (d + 0) 0 0) [.ref 1, .int 2] h164 (fun h176 => Wf h176 ∧ (Cv (m_X12_say (d + 0) 0 0) [.ref 1, .int 3] h176 (fun h179 => Wf h179 ∧ (K h179)))))) ∧ (r69 = 110 → Cv (m_X12_say (d + 0) 0 0) [.ref 1, .int 1] h164 (fun h182 => Wf h182 ∧ (Cv (m_X12_say (d + 0) 0 0) [.ref 1, .int 3] h182 (fun h185 => Wf h185 ∧ (K h185)))))) ∧ (r69 = 120 → Cv (m_X12_say (d + 0) 0 0) [.ref 1, .int 0] h164 (fun h188 => Wf h188 ∧ (Cv (m_X12_say (d + 0) 0 0) [.ref 1, .int 3] h188 (fun h191 => Wf h191 ∧ (K h191)))))))) ∧ (¬ r69 = 116 → Cv (m_X12_bad (d + 0) 0 0) [.ref 1] h67 (fun h194 => Wf h194 ∧ (K h194))))))))) ∧ (¬ (h_i h63 1 34) = (-1) → K h63))))))))) : Cv (m_X12_clause (d + 58) 0 0) [.ref 1] h K := by
  refine Ct.of (fun _ _ _ => trivial) pn_X12 (Nat.le_of_ble_eq_true rfl) ?_
  show AW (m_X12_clause (d + 58) 0 0) 0 0 0 [(0, .ref 1)] [] h (kV K)
  refine aw_aload_n (i := 0) rfl d_X12_clause_0 0 rfl ?_
  refine aw_Vi 1 [] [] d_X12_clause_1 (cV_X12_look (d + 0) 0 0) kc_12 (ws_1 w) tw_2206 rfl (rr0 (Nat.le_of_ble_eq_true rfl) (Nat.le_of_ble_eq_true rfl)) (Nat.le_of_ble_eq_true rfl) xs0 k (fun r3 h1 kk => ?_)
  obtain ⟨w2, k⟩ := kk
  refine aw_istore_n (i := 1) rfl [(0, .ref 1), (1, .int r3)] d_X12_clause_4 (Nat.le_of_ble_eq_true rfl) rfl rfl ?_
  refine aw_aload_n (i := 0) rfl d_X12_clause_5 0 rfl ?_
  refine aw_geti (k0 := 37) kc_12 (ws_1 w2) (Nat.le_of_ble_eq_true rfl) tw_1779 d_X12_clause_6 rfl ?_
  refine aw_iconst (v := 1) d_X12_clause_9 ic_1 ?_
  refine aw_icmp_ne (tgt := 121) d_X12_clause_10 rfl (fun c4 => ?_) (fun c4 => ?_)
  · have k := k.1 c4
    refine aw_iload_n (i := 1) rfl d_X12_clause_121 1 rfl ?_
    refine aw_bipush (v := 33) d_X12_clause_122 ib_33 ?_
    refine aw_icmp_eq (tgt := 137) d_X12_clause_124 rfl (fun c5 => ?_) (fun c5 => ?_)
    · have k := k.1 c5
      refine aw_iconst (v := 0) d_X12_clause_137 ic_0 ?_
      refine aw_istore_n (i := 2) rfl [(0, .ref 1), (1, .int r3), (2, .int 0)] d_X12_clause_138 (Nat.le_of_ble_eq_true rfl) rfl rfl ?_
      refine aw_iload_n (i := 2) rfl d_X12_clause_139 2 rfl ?_
      refine aw_if_eq (tgt := 248) d_X12_clause_140 rfl (fun _ => ?_) (fun c => absurd c (by decide))
      refine aw_aload_n (i := 0) rfl d_X12_clause_248 0 rfl ?_
      refine aw_iload_n (i := 2) rfl d_X12_clause_249 2 rfl ?_
      refine aw_Vv 1 [.int 0] [] d_X12_clause_250 (cV_X12_condition (d + 57) 0 0) kc_12 (ws_1 w2) tw_2233 rfl (rr0 (Nat.le_of_ble_eq_true rfl) (Nat.le_of_ble_eq_true rfl)) (Nat.le_of_ble_eq_true rfl) xs0 k (fun h7 kk => ?_)
      obtain ⟨w8, k⟩ := kk
      refine aw_aload_n (i := 0) rfl d_X12_clause_253 0 rfl ?_
      refine aw_Vv 1 [] [] d_X12_clause_254 (cV_X12_ask (d + 1) 0 0) kc_12 (ws_1 w8) tw_2275 rfl (rr0 (Nat.le_of_ble_eq_true rfl) (Nat.le_of_ble_eq_true rfl)) (Nat.le_of_ble_eq_true rfl) xs0 k (fun h10 kk => ?_)
      obtain ⟨w11, k⟩ := kk
      refine aw_aload_n (i := 0) rfl d_X12_clause_257 0 rfl ?_
      refine aw_geti (k0 := 34) kc_12 (ws_1 w11) (Nat.le_of_ble_eq_true rfl) tw_1776 d_X12_clause_258 rfl ?_
      refine aw_iconst (v := (-1)) d_X12_clause_261 ic_m1 ?_
      refine aw_icmp_ne (tgt := 274) d_X12_clause_262 rfl (fun c13 => ?_) (fun c13 => ?_)
      · have k := k.1 c13
        exact aw_vret rfl d_X12_clause_274 ⟨Nat.le_refl _, Nat.le_refl _⟩ ⟨rfl, k⟩
      · have k := k.2 c13
        refine aw_aload_n (i := 0) rfl d_X12_clause_265 0 rfl ?_
        refine aw_Vv 1 [] [] d_X12_clause_266 (cV_X12_sum (d + 53) 0 0) kc_12 (ws_1 w11) tw_2248 rfl (rr0 (Nat.le_of_ble_eq_true rfl) (Nat.le_of_ble_eq_true rfl)) (Nat.le_of_ble_eq_true rfl) xs0 k (fun h14 kk => ?_)
        obtain ⟨w15, k⟩ := kk
        refine aw_aload_n (i := 0) rfl d_X12_clause_269 0 rfl ?_
        refine aw_iconst (v := 3) d_X12_clause_270 ic_3 ?_
        refine aw_Vv 1 [.int 3] [] d_X12_clause_271 (cV_X12_say (d + 0) 0 0) kc_12 (ws_1 w15) tw_2210 rfl (rr0 (Nat.le_of_ble_eq_true rfl) (Nat.le_of_ble_eq_true rfl)) (Nat.le_of_ble_eq_true rfl) xs0 k (fun h17 kk => ?_)
        obtain ⟨w18, k⟩ := kk
        exact aw_vret rfl d_X12_clause_274 ⟨Nat.le_refl _, Nat.le_refl _⟩ ⟨rfl, k⟩
    · have k := k.2 c5
      refine aw_iload_n (i := 1) rfl d_X12_clause_127 1 rfl ?_
      refine aw_bipush (v := 40) d_X12_clause_128 ib_40 ?_
      refine aw_icmp_eq (tgt := 137) d_X12_clause_130 rfl (fun c20 => ?_) (fun c20 => ?_)
      · have k := k.1 c20
        refine aw_iconst (v := 0) d_X12_clause_137 ic_0 ?_
        refine aw_istore_n (i := 2) rfl [(0, .ref 1), (1, .int r3), (2, .int 0)] d_X12_clause_138 (Nat.le_of_ble_eq_true rfl) rfl rfl ?_
        refine aw_iload_n (i := 2) rfl d_X12_clause_139 2 rfl ?_
        refine aw_if_eq (tgt := 248) d_X12_clause_140 rfl (fun _ => ?_) (fun c => absurd c (by decide))
        refine aw_aload_n (i := 0) rfl d_X12_clause_248 0 rfl ?_
        refine aw_iload_n (i := 2) rfl d_X12_clause_249 2 rfl ?_
        refine aw_Vv 1 [.int 0] [] d_X12_clause_250 (cV_X12_condition (d + 57) 0 0) kc_12 (ws_1 w2) tw_2233 rfl (rr0 (Nat.le_of_ble_eq_true rfl) (Nat.le_of_ble_eq_true rfl)) (Nat.le_of_ble_eq_true rfl) xs0 k (fun h22 kk => ?_)
        obtain ⟨w23, k⟩ := kk
        refine aw_aload_n (i := 0) rfl d_X12_clause_253 0 rfl ?_
        refine aw_Vv 1 [] [] d_X12_clause_254 (cV_X12_ask (d + 1) 0 0) kc_12 (ws_1 w23) tw_2275 rfl (rr0 (Nat.le_of_ble_eq_true rfl) (Nat.le_of_ble_eq_true rfl)) (Nat.le_of_ble_eq_true rfl) xs0 k (fun h25 kk => ?_)
        obtain ⟨w26, k⟩ := kk
        refine aw_aload_n (i := 0) rfl d_X12_clause_257 0 rfl ?_
        refine aw_geti (k0 := 34) kc_12 (ws_1 w26) (Nat.le_of_ble_eq_true rfl) tw_1776 d_X12_clause_258 rfl ?_
        refine aw_iconst (v := (-1)) d_X12_clause_261 ic_m1 ?_
        refine aw_icmp_ne (tgt := 274) d_X12_clause_262 rfl (fun c28 => ?_) (fun c28 => ?_)
        · have k := k.1 c28
          exact aw_vret rfl d_X12_clause_274 ⟨Nat.le_refl _, Nat.le_refl _⟩ ⟨rfl, k⟩
        · have k := k.2 c28
          refine aw_aload_n (i := 0) rfl d_X12_clause_265 0 rfl ?_
          refine aw_Vv 1 [] [] d_X12_clause_266 (cV_X12_sum (d + 53) 0 0) kc_12 (ws_1 w26) tw_2248 rfl (rr0 (Nat.le_of_ble_eq_true rfl) (Nat.le_of_ble_eq_true rfl)) (Nat.le_of_ble_eq_true rfl) xs0 k (fun h29 kk => ?_)
          obtain ⟨w30, k⟩ := kk
          refine aw_aload_n (i := 0) rfl d_X12_clause_269 0 rfl ?_
          refine aw_iconst (v := 3) d_X12_clause_270 ic_3 ?_
          refine aw_Vv 1 [.int 3] [] d_X12_clause_271 (cV_X12_say (d + 0) 0 0) kc_12 (ws_1 w30) tw_2210 rfl (rr0 (Nat.le_of_ble_eq_true rfl) (Nat.le_of_ble_eq_true rfl)) (Nat.le_of_ble_eq_true rfl) xs0 k (fun h32 kk => ?_)
          obtain ⟨w33, k⟩ := kk
          exact aw_vret rfl d_X12_clause_274 ⟨Nat.le_refl _, Nat.le_refl _⟩ ⟨rfl, k⟩
      · have k := k.2 c20
        refine aw_iconst (v := 1) d_X12_clause_133 ic_1 ?_
        refine aw_goto (tgt := 138) d_X12_clause_134 rfl ?_
        refine aw_istore_n (i := 2) rfl [(0, .ref 1), (1, .int r3), (2, .int 1)] d_X12_clause_138 (Nat.le_of_ble_eq_true rfl) rfl rfl ?_
        refine aw_iload_n (i := 2) rfl d_X12_clause_139 2 rfl ?_
        refine aw_if_eq (tgt := 248) d_X12_clause_140 rfl (fun c => absurd c (by decide)) (fun _ => ?_)
        refine aw_aload_n (i := 0) rfl d_X12_clause_143 0 rfl ?_
        refine aw_geti (k0 := 36) kc_12 (ws_1 w2) (Nat.le_of_ble_eq_true rfl) tw_1778 d_X12_clause_144 rfl ?_
        refine aw_istore_n (i := 3) rfl [(0, .ref 1), (1, .int r3), (2, .int 1), (3, .int (h_i h1 1 36))] d_X12_clause_147 (Nat.le_of_ble_eq_true rfl) rfl rfl ?_
        refine aw_aload_n (i := 0) rfl d_X12_clause_148 0 rfl ?_
        refine aw_Vv 1 [] [] d_X12_clause_149 (cV_X12_sum (d + 53) 0 0) kc_12 (ws_1 w2) tw_2248 rfl (rr0 (Nat.le_of_ble_eq_true rfl) (Nat.le_of_ble_eq_true rfl)) (Nat.le_of_ble_eq_true rfl) xs0 k (fun h36 kk => ?_)
        obtain ⟨w37, k⟩ := kk
        refine aw_aload_n (i := 0) rfl d_X12_clause_152 0 rfl ?_
        refine aw_geti (k0 := 34) kc_12 (ws_1 w37) (Nat.le_of_ble_eq_true rfl) tw_1776 d_X12_clause_153 rfl ?_
        refine aw_iconst (v := (-1)) d_X12_clause_156 ic_m1 ?_
        refine aw_icmp_eq (tgt := 161) d_X12_clause_157 rfl (fun c39 => ?_) (fun c39 => ?_)
        · have k := k.1 c39
          refine aw_aload_n (i := 0) rfl d_X12_clause_161 0 rfl ?_
          refine aw_Vi 1 [] [] d_X12_clause_162 (cV_X12_look (d + 0) 0 0) kc_12 (ws_1 w37) tw_2206 rfl (rr0 (Nat.le_of_ble_eq_true rfl) (Nat.le_of_ble_eq_true rfl)) (Nat.le_of_ble_eq_true rfl) xs0 k (fun r42 h40 kk => ?_)
          obtain ⟨w41, k⟩ := kk
          refine aw_Si [.int r42] [] d_X12_clause_165 (cS_X12_isSign (d + 0) 0 0) tw_2245 rfl (rr0 (Nat.le_of_ble_eq_true rfl) (Nat.le_of_ble_eq_true rfl)) (Nat.le_of_ble_eq_true rfl) xs0 k (fun r45 h43 kk => ?_)
          obtain ⟨w44, k⟩ := kk
          refine aw_if_ne (tgt := 248) d_X12_clause_168 rfl (fun c46 => ?_) (fun c46 => ?_)
          · have k := k.1 c46
            refine aw_aload_n (i := 0) rfl d_X12_clause_248 0 rfl ?_
            refine aw_iload_n (i := 2) rfl d_X12_clause_249 2 rfl ?_
            refine aw_Vv 1 [.int 1] [] d_X12_clause_250 (cV_X12_condition (d + 57) 0 0) kc_12 (ws_1 w44) tw_2233 rfl (rr0 (Nat.le_of_ble_eq_true rfl) (Nat.le_of_ble_eq_true rfl)) (Nat.le_of_ble_eq_true rfl) xs0 k (fun h47 kk => ?_)
            obtain ⟨w48, k⟩ := kk
            refine aw_aload_n (i := 0) rfl d_X12_clause_253 0 rfl ?_
            refine aw_Vv 1 [] [] d_X12_clause_254 (cV_X12_ask (d + 1) 0 0) kc_12 (ws_1 w48) tw_2275 rfl (rr0 (Nat.le_of_ble_eq_true rfl) (Nat.le_of_ble_eq_true rfl)) (Nat.le_of_ble_eq_true rfl) xs0 k (fun h50 kk => ?_)
            obtain ⟨w51, k⟩ := kk
            refine aw_aload_n (i := 0) rfl d_X12_clause_257 0 rfl ?_
            refine aw_geti (k0 := 34) kc_12 (ws_1 w51) (Nat.le_of_ble_eq_true rfl) tw_1776 d_X12_clause_258 rfl ?_
            refine aw_iconst (v := (-1)) d_X12_clause_261 ic_m1 ?_
            refine aw_icmp_ne (tgt := 274) d_X12_clause_262 rfl (fun c53 => ?_) (fun c53 => ?_)
            · have k := k.1 c53
              exact aw_vret rfl d_X12_clause_274 ⟨Nat.le_refl _, Nat.le_refl _⟩ ⟨rfl, k⟩
            · have k := k.2 c53
              refine aw_aload_n (i := 0) rfl d_X12_clause_265 0 rfl ?_
              refine aw_Vv 1 [] [] d_X12_clause_266 (cV_X12_sum (d + 53) 0 0) kc_12 (ws_1 w51) tw_2248 rfl (rr0 (Nat.le_of_ble_eq_true rfl) (Nat.le_of_ble_eq_true rfl)) (Nat.le_of_ble_eq_true rfl) xs0 k (fun h54 kk => ?_)
              obtain ⟨w55, k⟩ := kk
              refine aw_aload_n (i := 0) rfl d_X12_clause_269 0 rfl ?_
              refine aw_iconst (v := 3) d_X12_clause_270 ic_3 ?_
              refine aw_Vv 1 [.int 3] [] d_X12_clause_271 (cV_X12_say (d + 0) 0 0) kc_12 (ws_1 w55) tw_2210 rfl (rr0 (Nat.le_of_ble_eq_true rfl) (Nat.le_of_ble_eq_true rfl)) (Nat.le_of_ble_eq_true rfl) xs0 k (fun h57 kk => ?_)
              obtain ⟨w58, k⟩ := kk
              exact aw_vret rfl d_X12_clause_274 ⟨Nat.le_refl _, Nat.le_refl _⟩ ⟨rfl, k⟩
          · have k := k.2 c46
            refine aw_aload_n (i := 0) rfl d_X12_clause_171 0 rfl ?_
            refine aw_geti (k0 := 36) kc_12 (ws_1 w44) (Nat.le_of_ble_eq_true rfl) tw_1778 d_X12_clause_172 rfl ?_
            refine aw_iconst (v := 1) d_X12_clause_175 ic_1 ?_
            refine aw_isub d_X12_clause_176 ?_
            refine aw_istore [(0, .ref 1), (1, .int r3), (2, .int 1), (3, .int (h_i h1 1 36)), (4, .int ((h_i h43 1 36) - 1))] d_X12_clause_177 (Nat.le_of_ble_eq_true rfl) rfl rfl ?_
            exact aw_lvp [0, 3, 4] [(0, .ref 1), (3, .int (h_i h1 1 36)), (4, .int ((h_i h43 1 36) - 1))] rfl k
        · have k := k.2 c39
          exact aw_vret rfl d_X12_clause_160 ⟨Nat.le_refl _, Nat.le_refl _⟩ ⟨rfl, k⟩
  · have k := k.2 c4
    refine aw_aload_n (i := 0) rfl d_X12_clause_13 0 rfl ?_
    refine aw_iconst (v := 0) d_X12_clause_14 ic_0 ?_
    refine aw_Vv 1 [.int 0] [] d_X12_clause_15 (cV_X12_condition (d + 57) 0 0) kc_12 (ws_1 w2) tw_2233 rfl (rr0 (Nat.le_of_ble_eq_true rfl) (Nat.le_of_ble_eq_true rfl)) (Nat.le_of_ble_eq_true rfl) xs0 k (fun h60 kk => ?_)
    obtain ⟨w61, k⟩ := kk
    refine aw_aload_n (i := 0) rfl d_X12_clause_18 0 rfl ?_
    refine aw_Vv 1 [] [] d_X12_clause_19 (cV_X12_ask (d + 1) 0 0) kc_12 (ws_1 w61) tw_2275 rfl (rr0 (Nat.le_of_ble_eq_true rfl) (Nat.le_of_ble_eq_true rfl)) (Nat.le_of_ble_eq_true rfl) xs0 k (fun h63 kk => ?_)
    obtain ⟨w64, k⟩ := kk
    refine aw_aload_n (i := 0) rfl d_X12_clause_22 0 rfl ?_
    refine aw_geti (k0 := 34) kc_12 (ws_1 w64) (Nat.le_of_ble_eq_true rfl) tw_1776 d_X12_clause_23 rfl ?_
    refine aw_iconst (v := (-1)) d_X12_clause_26 ic_m1 ?_
    refine aw_icmp_eq (tgt := 31) d_X12_clause_27 rfl (fun c66 => ?_) (fun c66 => ?_)
    · have k := k.1 c66
      refine aw_aload_n (i := 0) rfl d_X12_clause_31 0 rfl ?_
      refine aw_Vi 1 [] [] d_X12_clause_32 (cV_X12_look (d + 0) 0 0) kc_12 (ws_1 w64) tw_2206 rfl (rr0 (Nat.le_of_ble_eq_true rfl) (Nat.le_of_ble_eq_true rfl)) (Nat.le_of_ble_eq_true rfl) xs0 k (fun r69 h67 kk => ?_)
      obtain ⟨w68, k⟩ := kk
      refine aw_istore_n (i := 2) rfl [(0, .ref 1), (1, .int r3), (2, .int r69)] d_X12_clause_35 (Nat.le_of_ble_eq_true rfl) rfl rfl ?_
      refine aw_iload_n (i := 2) rfl d_X12_clause_36 2 rfl ?_
      refine aw_bipush (v := 120) d_X12_clause_37 ib_120 ?_
      refine aw_icmp_eq (tgt := 65) d_X12_clause_39 rfl (fun c70 => ?_) (fun c70 => ?_)
      · have k := k.1 c70
        refine aw_aload_n (i := 0) rfl d_X12_clause_65 0 rfl ?_
        refine aw_dup d_X12_clause_66 rfl ?_
        refine aw_geti (k0 := 33) kc_12 (ws_1 w68) (Nat.le_of_ble_eq_true rfl) tw_1775 d_X12_clause_67 rfl ?_
        refine aw_iconst (v := 1) d_X12_clause_70 ic_1 ?_
        refine aw_iadd d_X12_clause_71 ?_
        refine aw_puti (k0 := 33) kc_12 (ws_1 w68) (Nat.le_of_ble_eq_true rfl) tw_1775 d_X12_clause_72 rfl rfl nf_i ?_
        refine aw_aload_n (i := 0) rfl d_X12_clause_75 0 rfl ?_
        refine aw_iconst (v := 0) d_X12_clause_76 ic_0 ?_
        refine aw_Vv 1 [.int 0] [] d_X12_clause_77 (cV_X12_say (d + 0) 0 0) kc_12 (ws_1 w68) tw_2210 rfl (rr0 (Nat.le_of_ble_eq_true rfl) (Nat.le_of_ble_eq_true rfl)) (Nat.le_of_ble_eq_true rfl) xs0 k (fun h71 kk => ?_)
        obtain ⟨w72, k⟩ := kk
        refine aw_aload_n (i := 0) rfl d_X12_clause_80 0 rfl ?_
        refine aw_iload_n (i := 2) rfl d_X12_clause_81 2 rfl ?_
        refine aw_bipush (v := 120) d_X12_clause_82 ib_120 ?_
        refine aw_icmp_ne (tgt := 91) d_X12_clause_84 rfl (fun c74 => ?_) (fun c74 => ?_)
        · have k := k.1 c74
          refine aw_iload_n (i := 2) rfl d_X12_clause_91 2 rfl ?_
          refine aw_bipush (v := 110) d_X12_clause_92 ib_110 ?_
          refine aw_icmp_ne (tgt := 101) d_X12_clause_94 rfl (fun c75 => ?_) (fun c75 => ?_)
          · have k := k.1 c75
            refine aw_iload_n (i := 2) rfl d_X12_clause_101 2 rfl ?_
            refine aw_bipush (v := 114) d_X12_clause_102 ib_114 ?_
            refine aw_icmp_ne (tgt := 111) d_X12_clause_104 rfl (fun c76 => ?_) (fun c76 => ?_)
            · have k := k.1 c76
              refine aw_iconst (v := 3) d_X12_clause_111 ic_3 ?_
              refine aw_Vv 1 [.int 3] [] d_X12_clause_112 (cV_X12_say (d + 0) 0 0) kc_12 (ws_1 w72) tw_2210 rfl (rr0 (Nat.le_of_ble_eq_true rfl) (Nat.le_of_ble_eq_true rfl)) (Nat.le_of_ble_eq_true rfl) xs0 k (fun h77 kk => ?_)
              obtain ⟨w78, k⟩ := kk
              refine aw_aload_n (i := 0) rfl d_X12_clause_115 0 rfl ?_
              refine aw_iconst (v := 3) d_X12_clause_116 ic_3 ?_
              refine aw_Vv 1 [.int 3] [] d_X12_clause_117 (cV_X12_say (d + 0) 0 0) kc_12 (ws_1 w78) tw_2210 rfl (rr0 (Nat.le_of_ble_eq_true rfl) (Nat.le_of_ble_eq_true rfl)) (Nat.le_of_ble_eq_true rfl) xs0 k (fun h80 kk => ?_)
              obtain ⟨w81, k⟩ := kk
              exact aw_vret rfl d_X12_clause_120 ⟨Nat.le_refl _, Nat.le_refl _⟩ ⟨rfl, k⟩
            · have k := k.2 c76
              refine aw_iconst (v := 2) d_X12_clause_107 ic_2 ?_
              refine aw_goto (tgt := 112) d_X12_clause_108 rfl ?_
              refine aw_Vv 1 [.int 2] [] d_X12_clause_112 (cV_X12_say (d + 0) 0 0) kc_12 (ws_1 w72) tw_2210 rfl (rr0 (Nat.le_of_ble_eq_true rfl) (Nat.le_of_ble_eq_true rfl)) (Nat.le_of_ble_eq_true rfl) xs0 k (fun h83 kk => ?_)
              obtain ⟨w84, k⟩ := kk
              refine aw_aload_n (i := 0) rfl d_X12_clause_115 0 rfl ?_
              refine aw_iconst (v := 3) d_X12_clause_116 ic_3 ?_
              refine aw_Vv 1 [.int 3] [] d_X12_clause_117 (cV_X12_say (d + 0) 0 0) kc_12 (ws_1 w84) tw_2210 rfl (rr0 (Nat.le_of_ble_eq_true rfl) (Nat.le_of_ble_eq_true rfl)) (Nat.le_of_ble_eq_true rfl) xs0 k (fun h86 kk => ?_)
              obtain ⟨w87, k⟩ := kk
              exact aw_vret rfl d_X12_clause_120 ⟨Nat.le_refl _, Nat.le_refl _⟩ ⟨rfl, k⟩
          · have k := k.2 c75
            refine aw_iconst (v := 1) d_X12_clause_97 ic_1 ?_
            refine aw_goto (tgt := 112) d_X12_clause_98 rfl ?_
            refine aw_Vv 1 [.int 1] [] d_X12_clause_112 (cV_X12_say (d + 0) 0 0) kc_12 (ws_1 w72) tw_2210 rfl (rr0 (Nat.le_of_ble_eq_true rfl) (Nat.le_of_ble_eq_true rfl)) (Nat.le_of_ble_eq_true rfl) xs0 k (fun h89 kk => ?_)
            obtain ⟨w90, k⟩ := kk
            refine aw_aload_n (i := 0) rfl d_X12_clause_115 0 rfl ?_
            refine aw_iconst (v := 3) d_X12_clause_116 ic_3 ?_
            refine aw_Vv 1 [.int 3] [] d_X12_clause_117 (cV_X12_say (d + 0) 0 0) kc_12 (ws_1 w90) tw_2210 rfl (rr0 (Nat.le_of_ble_eq_true rfl) (Nat.le_of_ble_eq_true rfl)) (Nat.le_of_ble_eq_true rfl) xs0 k (fun h92 kk => ?_)
            obtain ⟨w93, k⟩ := kk
            exact aw_vret rfl d_X12_clause_120 ⟨Nat.le_refl _, Nat.le_refl _⟩ ⟨rfl, k⟩
        · have k := k.2 c74
          refine aw_iconst (v := 0) d_X12_clause_87 ic_0 ?_
          refine aw_goto (tgt := 112) d_X12_clause_88 rfl ?_
          refine aw_Vv 1 [.int 0] [] d_X12_clause_112 (cV_X12_say (d + 0) 0 0) kc_12 (ws_1 w72) tw_2210 rfl (rr0 (Nat.le_of_ble_eq_true rfl) (Nat.le_of_ble_eq_true rfl)) (Nat.le_of_ble_eq_true rfl) xs0 k (fun h95 kk => ?_)
          obtain ⟨w96, k⟩ := kk
          refine aw_aload_n (i := 0) rfl d_X12_clause_115 0 rfl ?_
          refine aw_iconst (v := 3) d_X12_clause_116 ic_3 ?_
          refine aw_Vv 1 [.int 3] [] d_X12_clause_117 (cV_X12_say (d + 0) 0 0) kc_12 (ws_1 w96) tw_2210 rfl (rr0 (Nat.le_of_ble_eq_true rfl) (Nat.le_of_ble_eq_true rfl)) (Nat.le_of_ble_eq_true rfl) xs0 k (fun h98 kk => ?_)
          obtain ⟨w99, k⟩ := kk
          exact aw_vret rfl d_X12_clause_120 ⟨Nat.le_refl _, Nat.le_refl _⟩ ⟨rfl, k⟩
      · have k := k.2 c70
        refine aw_iload_n (i := 2) rfl d_X12_clause_42 2 rfl ?_
        refine aw_bipush (v := 110) d_X12_clause_43 ib_110 ?_
        refine aw_icmp_eq (tgt := 65) d_X12_clause_45 rfl (fun c101 => ?_) (fun c101 => ?_)
        · have k := k.1 c101
          refine aw_aload_n (i := 0) rfl d_X12_clause_65 0 rfl ?_
          refine aw_dup d_X12_clause_66 rfl ?_
          refine aw_geti (k0 := 33) kc_12 (ws_1 w68) (Nat.le_of_ble_eq_true rfl) tw_1775 d_X12_clause_67 rfl ?_
          refine aw_iconst (v := 1) d_X12_clause_70 ic_1 ?_
          refine aw_iadd d_X12_clause_71 ?_
          refine aw_puti (k0 := 33) kc_12 (ws_1 w68) (Nat.le_of_ble_eq_true rfl) tw_1775 d_X12_clause_72 rfl rfl nf_i ?_
          refine aw_aload_n (i := 0) rfl d_X12_clause_75 0 rfl ?_
          refine aw_iconst (v := 0) d_X12_clause_76 ic_0 ?_
          refine aw_Vv 1 [.int 0] [] d_X12_clause_77 (cV_X12_say (d + 0) 0 0) kc_12 (ws_1 w68) tw_2210 rfl (rr0 (Nat.le_of_ble_eq_true rfl) (Nat.le_of_ble_eq_true rfl)) (Nat.le_of_ble_eq_true rfl) xs0 k (fun h102 kk => ?_)
          obtain ⟨w103, k⟩ := kk
          refine aw_aload_n (i := 0) rfl d_X12_clause_80 0 rfl ?_
          refine aw_iload_n (i := 2) rfl d_X12_clause_81 2 rfl ?_
          refine aw_bipush (v := 120) d_X12_clause_82 ib_120 ?_
          refine aw_icmp_ne (tgt := 91) d_X12_clause_84 rfl (fun c105 => ?_) (fun c105 => ?_)
          · have k := k.1 c105
            refine aw_iload_n (i := 2) rfl d_X12_clause_91 2 rfl ?_
            refine aw_bipush (v := 110) d_X12_clause_92 ib_110 ?_
            refine aw_icmp_ne (tgt := 101) d_X12_clause_94 rfl (fun c106 => ?_) (fun c106 => ?_)
            · have k := k.1 c106
              refine aw_iload_n (i := 2) rfl d_X12_clause_101 2 rfl ?_
              refine aw_bipush (v := 114) d_X12_clause_102 ib_114 ?_
              refine aw_icmp_ne (tgt := 111) d_X12_clause_104 rfl (fun c107 => ?_) (fun c107 => ?_)
              · have k := k.1 c107
                refine aw_iconst (v := 3) d_X12_clause_111 ic_3 ?_
                refine aw_Vv 1 [.int 3] [] d_X12_clause_112 (cV_X12_say (d + 0) 0 0) kc_12 (ws_1 w103) tw_2210 rfl (rr0 (Nat.le_of_ble_eq_true rfl) (Nat.le_of_ble_eq_true rfl)) (Nat.le_of_ble_eq_true rfl) xs0 k (fun h108 kk => ?_)
                obtain ⟨w109, k⟩ := kk
                refine aw_aload_n (i := 0) rfl d_X12_clause_115 0 rfl ?_
                refine aw_iconst (v := 3) d_X12_clause_116 ic_3 ?_
                refine aw_Vv 1 [.int 3] [] d_X12_clause_117 (cV_X12_say (d + 0) 0 0) kc_12 (ws_1 w109) tw_2210 rfl (rr0 (Nat.le_of_ble_eq_true rfl) (Nat.le_of_ble_eq_true rfl)) (Nat.le_of_ble_eq_true rfl) xs0 k (fun h111 kk => ?_)
                obtain ⟨w112, k⟩ := kk
                exact aw_vret rfl d_X12_clause_120 ⟨Nat.le_refl _, Nat.le_refl _⟩ ⟨rfl, k⟩
              · have k := k.2 c107
                refine aw_iconst (v := 2) d_X12_clause_107 ic_2 ?_
                refine aw_goto (tgt := 112) d_X12_clause_108 rfl ?_
                refine aw_Vv 1 [.int 2] [] d_X12_clause_112 (cV_X12_say (d + 0) 0 0) kc_12 (ws_1 w103) tw_2210 rfl (rr0 (Nat.le_of_ble_eq_true rfl) (Nat.le_of_ble_eq_true rfl)) (Nat.le_of_ble_eq_true rfl) xs0 k (fun h114 kk => ?_)
                obtain ⟨w115, k⟩ := kk
                refine aw_aload_n (i := 0) rfl d_X12_clause_115 0 rfl ?_
                refine aw_iconst (v := 3) d_X12_clause_116 ic_3 ?_
                refine aw_Vv 1 [.int 3] [] d_X12_clause_117 (cV_X12_say (d + 0) 0 0) kc_12 (ws_1 w115) tw_2210 rfl (rr0 (Nat.le_of_ble_eq_true rfl) (Nat.le_of_ble_eq_true rfl)) (Nat.le_of_ble_eq_true rfl) xs0 k (fun h117 kk => ?_)
                obtain ⟨w118, k⟩ := kk
                exact aw_vret rfl d_X12_clause_120 ⟨Nat.le_refl _, Nat.le_refl _⟩ ⟨rfl, k⟩
            · have k := k.2 c106
              refine aw_iconst (v := 1) d_X12_clause_97 ic_1 ?_
              refine aw_goto (tgt := 112) d_X12_clause_98 rfl ?_
              refine aw_Vv 1 [.int 1] [] d_X12_clause_112 (cV_X12_say (d + 0) 0 0) kc_12 (ws_1 w103) tw_2210 rfl (rr0 (Nat.le_of_ble_eq_true rfl) (Nat.le_of_ble_eq_true rfl)) (Nat.le_of_ble_eq_true rfl) xs0 k (fun h120 kk => ?_)
              obtain ⟨w121, k⟩ := kk
              refine aw_aload_n (i := 0) rfl d_X12_clause_115 0 rfl ?_
              refine aw_iconst (v := 3) d_X12_clause_116 ic_3 ?_
              refine aw_Vv 1 [.int 3] [] d_X12_clause_117 (cV_X12_say (d + 0) 0 0) kc_12 (ws_1 w121) tw_2210 rfl (rr0 (Nat.le_of_ble_eq_true rfl) (Nat.le_of_ble_eq_true rfl)) (Nat.le_of_ble_eq_true rfl) xs0 k (fun h123 kk => ?_)
              obtain ⟨w124, k⟩ := kk
              exact aw_vret rfl d_X12_clause_120 ⟨Nat.le_refl _, Nat.le_refl _⟩ ⟨rfl, k⟩
          · have k := k.2 c105
            refine aw_iconst (v := 0) d_X12_clause_87 ic_0 ?_
            refine aw_goto (tgt := 112) d_X12_clause_88 rfl ?_
            refine aw_Vv 1 [.int 0] [] d_X12_clause_112 (cV_X12_say (d + 0) 0 0) kc_12 (ws_1 w103) tw_2210 rfl (rr0 (Nat.le_of_ble_eq_true rfl) (Nat.le_of_ble_eq_true rfl)) (Nat.le_of_ble_eq_true rfl) xs0 k (fun h126 kk => ?_)
            obtain ⟨w127, k⟩ := kk
            refine aw_aload_n (i := 0) rfl d_X12_clause_115 0 rfl ?_
            refine aw_iconst (v := 3) d_X12_clause_116 ic_3 ?_
            refine aw_Vv 1 [.int 3] [] d_X12_clause_117 (cV_X12_say (d + 0) 0 0) kc_12 (ws_1 w127) tw_2210 rfl (rr0 (Nat.le_of_ble_eq_true rfl) (Nat.le_of_ble_eq_true rfl)) (Nat.le_of_ble_eq_true rfl) xs0 k (fun h129 kk => ?_)
            obtain ⟨w130, k⟩ := kk
            exact aw_vret rfl d_X12_clause_120 ⟨Nat.le_refl _, Nat.le_refl _⟩ ⟨rfl, k⟩
        · have k := k.2 c101
          refine aw_iload_n (i := 2) rfl d_X12_clause_48 2 rfl ?_
          refine aw_bipush (v := 114) d_X12_clause_49 ib_114 ?_
          refine aw_icmp_eq (tgt := 65) d_X12_clause_51 rfl (fun c132 => ?_) (fun c132 => ?_)
          · have k := k.1 c132
            refine aw_aload_n (i := 0) rfl d_X12_clause_65 0 rfl ?_
            refine aw_dup d_X12_clause_66 rfl ?_
            refine aw_geti (k0 := 33) kc_12 (ws_1 w68) (Nat.le_of_ble_eq_true rfl) tw_1775 d_X12_clause_67 rfl ?_
            refine aw_iconst (v := 1) d_X12_clause_70 ic_1 ?_
            refine aw_iadd d_X12_clause_71 ?_
            refine aw_puti (k0 := 33) kc_12 (ws_1 w68) (Nat.le_of_ble_eq_true rfl) tw_1775 d_X12_clause_72 rfl rfl nf_i ?_
            refine aw_aload_n (i := 0) rfl d_X12_clause_75 0 rfl ?_
            refine aw_iconst (v := 0) d_X12_clause_76 ic_0 ?_
            refine aw_Vv 1 [.int 0] [] d_X12_clause_77 (cV_X12_say (d + 0) 0 0) kc_12 (ws_1 w68) tw_2210 rfl (rr0 (Nat.le_of_ble_eq_true rfl) (Nat.le_of_ble_eq_true rfl)) (Nat.le_of_ble_eq_true rfl) xs0 k (fun h133 kk => ?_)
            obtain ⟨w134, k⟩ := kk
            refine aw_aload_n (i := 0) rfl d_X12_clause_80 0 rfl ?_
            refine aw_iload_n (i := 2) rfl d_X12_clause_81 2 rfl ?_
            refine aw_bipush (v := 120) d_X12_clause_82 ib_120 ?_
            refine aw_icmp_ne (tgt := 91) d_X12_clause_84 rfl (fun c136 => ?_) (fun c136 => ?_)
            · have k := k.1 c136
              refine aw_iload_n (i := 2) rfl d_X12_clause_91 2 rfl ?_
              refine aw_bipush (v := 110) d_X12_clause_92 ib_110 ?_
              refine aw_icmp_ne (tgt := 101) d_X12_clause_94 rfl (fun c137 => ?_) (fun c137 => ?_)
              · have k := k.1 c137
                refine aw_iload_n (i := 2) rfl d_X12_clause_101 2 rfl ?_
                refine aw_bipush (v := 114) d_X12_clause_102 ib_114 ?_
                refine aw_icmp_ne (tgt := 111) d_X12_clause_104 rfl (fun c138 => ?_) (fun c138 => ?_)
                · have k := k.1 c138
                  refine aw_iconst (v := 3) d_X12_clause_111 ic_3 ?_
                  refine aw_Vv 1 [.int 3] [] d_X12_clause_112 (cV_X12_say (d + 0) 0 0) kc_12 (ws_1 w134) tw_2210 rfl (rr0 (Nat.le_of_ble_eq_true rfl) (Nat.le_of_ble_eq_true rfl)) (Nat.le_of_ble_eq_true rfl) xs0 k (fun h139 kk => ?_)
                  obtain ⟨w140, k⟩ := kk
                  refine aw_aload_n (i := 0) rfl d_X12_clause_115 0 rfl ?_
                  refine aw_iconst (v := 3) d_X12_clause_116 ic_3 ?_
                  refine aw_Vv 1 [.int 3] [] d_X12_clause_117 (cV_X12_say (d + 0) 0 0) kc_12 (ws_1 w140) tw_2210 rfl (rr0 (Nat.le_of_ble_eq_true rfl) (Nat.le_of_ble_eq_true rfl)) (Nat.le_of_ble_eq_true rfl) xs0 k (fun h142 kk => ?_)
                  obtain ⟨w143, k⟩ := kk
                  exact aw_vret rfl d_X12_clause_120 ⟨Nat.le_refl _, Nat.le_refl _⟩ ⟨rfl, k⟩
                · have k := k.2 c138
                  refine aw_iconst (v := 2) d_X12_clause_107 ic_2 ?_
                  refine aw_goto (tgt := 112) d_X12_clause_108 rfl ?_
                  refine aw_Vv 1 [.int 2] [] d_X12_clause_112 (cV_X12_say (d + 0) 0 0) kc_12 (ws_1 w134) tw_2210 rfl (rr0 (Nat.le_of_ble_eq_true rfl) (Nat.le_of_ble_eq_true rfl)) (Nat.le_of_ble_eq_true rfl) xs0 k (fun h145 kk => ?_)
                  obtain ⟨w146, k⟩ := kk
                  refine aw_aload_n (i := 0) rfl d_X12_clause_115 0 rfl ?_
                  refine aw_iconst (v := 3) d_X12_clause_116 ic_3 ?_
                  refine aw_Vv 1 [.int 3] [] d_X12_clause_117 (cV_X12_say (d + 0) 0 0) kc_12 (ws_1 w146) tw_2210 rfl (rr0 (Nat.le_of_ble_eq_true rfl) (Nat.le_of_ble_eq_true rfl)) (Nat.le_of_ble_eq_true rfl) xs0 k (fun h148 kk => ?_)
                  obtain ⟨w149, k⟩ := kk
                  exact aw_vret rfl d_X12_clause_120 ⟨Nat.le_refl _, Nat.le_refl _⟩ ⟨rfl, k⟩
              · have k := k.2 c137
                refine aw_iconst (v := 1) d_X12_clause_97 ic_1 ?_
                refine aw_goto (tgt := 112) d_X12_clause_98 rfl ?_
                refine aw_Vv 1 [.int 1] [] d_X12_clause_112 (cV_X12_say (d + 0) 0 0) kc_12 (ws_1 w134) tw_2210 rfl (rr0 (Nat.le_of_ble_eq_true rfl) (Nat.le_of_ble_eq_true rfl)) (Nat.le_of_ble_eq_true rfl) xs0 k (fun h151 kk => ?_)
                obtain ⟨w152, k⟩ := kk
                refine aw_aload_n (i := 0) rfl d_X12_clause_115 0 rfl ?_
                refine aw_iconst (v := 3) d_X12_clause_116 ic_3 ?_
                refine aw_Vv 1 [.int 3] [] d_X12_clause_117 (cV_X12_say (d + 0) 0 0) kc_12 (ws_1 w152) tw_2210 rfl (rr0 (Nat.le_of_ble_eq_true rfl) (Nat.le_of_ble_eq_true rfl)) (Nat.le_of_ble_eq_true rfl) xs0 k (fun h154 kk => ?_)
                obtain ⟨w155, k⟩ := kk
                exact aw_vret rfl d_X12_clause_120 ⟨Nat.le_refl _, Nat.le_refl _⟩ ⟨rfl, k⟩
            · have k := k.2 c136
              refine aw_iconst (v := 0) d_X12_clause_87 ic_0 ?_
              refine aw_goto (tgt := 112) d_X12_clause_88 rfl ?_
              refine aw_Vv 1 [.int 0] [] d_X12_clause_112 (cV_X12_say (d + 0) 0 0) kc_12 (ws_1 w134) tw_2210 rfl (rr0 (Nat.le_of_ble_eq_true rfl) (Nat.le_of_ble_eq_true rfl)) (Nat.le_of_ble_eq_true rfl) xs0 k (fun h157 kk => ?_)
              obtain ⟨w158, k⟩ := kk
              refine aw_aload_n (i := 0) rfl d_X12_clause_115 0 rfl ?_
              refine aw_iconst (v := 3) d_X12_clause_116 ic_3 ?_
              refine aw_Vv 1 [.int 3] [] d_X12_clause_117 (cV_X12_say (d + 0) 0 0) kc_12 (ws_1 w158) tw_2210 rfl (rr0 (Nat.le_of_ble_eq_true rfl) (Nat.le_of_ble_eq_true rfl)) (Nat.le_of_ble_eq_true rfl) xs0 k (fun h160 kk => ?_)
              obtain ⟨w161, k⟩ := kk
              exact aw_vret rfl d_X12_clause_120 ⟨Nat.le_refl _, Nat.le_refl _⟩ ⟨rfl, k⟩
          · have k := k.2 c132
            refine aw_iload_n (i := 2) rfl d_X12_clause_54 2 rfl ?_
            refine aw_bipush (v := 116) d_X12_clause_55 ib_116 ?_
            refine aw_icmp_eq (tgt := 65) d_X12_clause_57 rfl (fun c163 => ?_) (fun c163 => ?_)
            · have k := k.1 c163
              refine aw_aload_n (i := 0) rfl d_X12_clause_65 0 rfl ?_
              refine aw_dup d_X12_clause_66 rfl ?_
              refine aw_geti (k0 := 33) kc_12 (ws_1 w68) (Nat.le_of_ble_eq_true rfl) tw_1775 d_X12_clause_67 rfl ?_
              refine aw_iconst (v := 1) d_X12_clause_70 ic_1 ?_
              refine aw_iadd d_X12_clause_71 ?_
              refine aw_puti (k0 := 33) kc_12 (ws_1 w68) (Nat.le_of_ble_eq_true rfl) tw_1775 d_X12_clause_72 rfl rfl nf_i ?_
              refine aw_aload_n (i := 0) rfl d_X12_clause_75 0 rfl ?_
              refine aw_iconst (v := 0) d_X12_clause_76 ic_0 ?_
              refine aw_Vv 1 [.int 0] [] d_X12_clause_77 (cV_X12_say (d + 0) 0 0) kc_12 (ws_1 w68) tw_2210 rfl (rr0 (Nat.le_of_ble_eq_true rfl) (Nat.le_of_ble_eq_true rfl)) (Nat.le_of_ble_eq_true rfl) xs0 k (fun h164 kk => ?_)
              obtain ⟨w165, k⟩ := kk
              refine aw_aload_n (i := 0) rfl d_X12_clause_80 0 rfl ?_
              refine aw_iload_n (i := 2) rfl d_X12_clause_81 2 rfl ?_
              refine aw_bipush (v := 120) d_X12_clause_82 ib_120 ?_
              refine aw_icmp_ne (tgt := 91) d_X12_clause_84 rfl (fun c167 => ?_) (fun c167 => ?_)
              · have k := k.1 c167
                refine aw_iload_n (i := 2) rfl d_X12_clause_91 2 rfl ?_
                refine aw_bipush (v := 110) d_X12_clause_92 ib_110 ?_
                refine aw_icmp_ne (tgt := 101) d_X12_clause_94 rfl (fun c168 => ?_) (fun c168 => ?_)
                · have k := k.1 c168
                  refine aw_iload_n (i := 2) rfl d_X12_clause_101 2 rfl ?_
                  refine aw_bipush (v := 114) d_X12_clause_102 ib_114 ?_
                  refine aw_icmp_ne (tgt := 111) d_X12_clause_104 rfl (fun c169 => ?_) (fun c169 => ?_)
                  · have k := k.1 c169
                    refine aw_iconst (v := 3) d_X12_clause_111 ic_3 ?_
                    refine aw_Vv 1 [.int 3] [] d_X12_clause_112 (cV_X12_say (d + 0) 0 0) kc_12 (ws_1 w165) tw_2210 rfl (rr0 (Nat.le_of_ble_eq_true rfl) (Nat.le_of_ble_eq_true rfl)) (Nat.le_of_ble_eq_true rfl) xs0 k (fun h170 kk => ?_)
                    obtain ⟨w171, k⟩ := kk
                    refine aw_aload_n (i := 0) rfl d_X12_clause_115 0 rfl ?_
                    refine aw_iconst (v := 3) d_X12_clause_116 ic_3 ?_
                    refine aw_Vv 1 [.int 3] [] d_X12_clause_117 (cV_X12_say (d + 0) 0 0) kc_12 (ws_1 w171) tw_2210 rfl (rr0 (Nat.le_of_ble_eq_true rfl) (Nat.le_of_ble_eq_true rfl)) (Nat.le_of_ble_eq_true rfl) xs0 k (fun h173 kk => ?_)
                    obtain ⟨w174, k⟩ := kk
                    exact aw_vret rfl d_X12_clause_120 ⟨Nat.le_refl _, Nat.le_refl _⟩ ⟨rfl, k⟩
                  · have k := k.2 c169
                    refine aw_iconst (v := 2) d_X12_clause_107 ic_2 ?_
                    refine aw_goto (tgt := 112) d_X12_clause_108 rfl ?_
                    refine aw_Vv 1 [.int 2] [] d_X12_clause_112 (cV_X12_say (d + 0) 0 0) kc_12 (ws_1 w165) tw_2210 rfl (rr0 (Nat.le_of_ble_eq_true rfl) (Nat.le_of_ble_eq_true rfl)) (Nat.le_of_ble_eq_true rfl) xs0 k (fun h176 kk => ?_)
                    obtain ⟨w177, k⟩ := kk
                    refine aw_aload_n (i := 0) rfl d_X12_clause_115 0 rfl ?_
                    refine aw_iconst (v := 3) d_X12_clause_116 ic_3 ?_
                    refine aw_Vv 1 [.int 3] [] d_X12_clause_117 (cV_X12_say (d + 0) 0 0) kc_12 (ws_1 w177) tw_2210 rfl (rr0 (Nat.le_of_ble_eq_true rfl) (Nat.le_of_ble_eq_true rfl)) (Nat.le_of_ble_eq_true rfl) xs0 k (fun h179 kk => ?_)
                    obtain ⟨w180, k⟩ := kk
                    exact aw_vret rfl d_X12_clause_120 ⟨Nat.le_refl _, Nat.le_refl _⟩ ⟨rfl, k⟩
                · have k := k.2 c168
                  refine aw_iconst (v := 1) d_X12_clause_97 ic_1 ?_
                  refine aw_goto (tgt := 112) d_X12_clause_98 rfl ?_
                  refine aw_Vv 1 [.int 1] [] d_X12_clause_112 (cV_X12_say (d + 0) 0 0) kc_12 (ws_1 w165) tw_2210 rfl (rr0 (Nat.le_of_ble_eq_true rfl) (Nat.le_of_ble_eq_true rfl)) (Nat.le_of_ble_eq_true rfl) xs0 k (fun h182 kk => ?_)
                  obtain ⟨w183, k⟩ := kk
                  refine aw_aload_n (i := 0) rfl d_X12_clause_115 0 rfl ?_
                  refine aw_iconst (v := 3) d_X12_clause_116 ic_3 ?_
                  refine aw_Vv 1 [.int 3] [] d_X12_clause_117 (cV_X12_say (d + 0) 0 0) kc_12 (ws_1 w183) tw_2210 rfl (rr0 (Nat.le_of_ble_eq_true rfl) (Nat.le_of_ble_eq_true rfl)) (Nat.le_of_ble_eq_true rfl) xs0 k (fun h185 kk => ?_)
                  obtain ⟨w186, k⟩ := kk
                  exact aw_vret rfl d_X12_clause_120 ⟨Nat.le_refl _, Nat.le_refl _⟩ ⟨rfl, k⟩
              · have k := k.2 c167
                refine aw_iconst (v := 0) d_X12_clause_87 ic_0 ?_
                refine aw_goto (tgt := 112) d_X12_clause_88 rfl ?_
                refine aw_Vv 1 [.int 0] [] d_X12_clause_112 (cV_X12_say (d + 0) 0 0) kc_12 (ws_1 w165) tw_2210 rfl (rr0 (Nat.le_of_ble_eq_true rfl) (Nat.le_of_ble_eq_true rfl)) (Nat.le_of_ble_eq_true rfl) xs0 k (fun h188 kk => ?_)
                obtain ⟨w189, k⟩ := kk
                refine aw_aload_n (i := 0) rfl d_X12_clause_115 0 rfl ?_
                refine aw_iconst (v := 3) d_X12_clause_116 ic_3 ?_
                refine aw_Vv 1 [.int 3] [] d_X12_clause_117 (cV_X12_say (d + 0) 0 0) kc_12 (ws_1 w189) tw_2210 rfl (rr0 (Nat.le_of_ble_eq_true rfl) (Nat.le_of_ble_eq_true rfl)) (Nat.le_of_ble_eq_true rfl) xs0 k (fun h191 kk => ?_)
                obtain ⟨w192, k⟩ := kk
                exact aw_vret rfl d_X12_clause_120 ⟨Nat.le_refl _, Nat.le_refl _⟩ ⟨rfl, k⟩
            · have k := k.2 c163
              refine aw_aload_n (i := 0) rfl d_X12_clause_60 0 rfl ?_
              refine aw_Vv 1 [] [] d_X12_clause_61 (cV_X12_bad (d + 0) 0 0) kc_12 (ws_1 w68) tw_2225 rfl (rr0 (Nat.le_of_ble_eq_true rfl) (Nat.le_of_ble_eq_true rfl)) (Nat.le_of_ble_eq_true rfl) xs0 k (fun h194 kk => ?_)
              obtain ⟨w195, k⟩ := kk
              exact aw_vret rfl d_X12_clause_64 ⟨Nat.le_refl _, Nat.le_refl _⟩ ⟨rfl, k⟩
    · have k := k.2 c66
      exact aw_vret rfl d_X12_clause_30 ⟨Nat.le_refl _, Nat.le_refl _⟩ ⟨rfl, k⟩
theorem t_X12_clause_179 (d : Nat) (h : Hp_) (w : Wf h) (x3 : Int32) (x4 : Int32) (K : Hp_ → Prop) (k : (x4 < x3 → vp_in x3 560 ∧ (vp_in (x3 + 1) 560 ∧ (vp_in (x3 + 2) 560 ∧ (Cv (m_X12_say (d + 0) 0 0) [.ref 1, .int 3] (h_im (h_im (h_im (h_im h 226 x3.toNatClampNeg 0) 226 ((x3 + 1) : Int32).toNatClampNeg 1) 226 ((x3 + 2) : Int32).toNatClampNeg 2) 1 36 ((h_i h 1 36) + 3)) (fun h201 => Wf h201 ∧ (K h201)))))) ∧ (¬ x4 < x3 → vp_in x4 560 ∧ (vp_in (x4 + 3) 560 ∧ (AW (m_X12_clause (d + 58) 0 0) 0 0 179 [(0, .ref 1), (3, .int x3), (4, .int (x4 + (-1)))] [] (h_im h 226 ((x4 + 3) : Int32).toNatClampNeg (h_i h 226 x4.toNatClampNeg)) (kV K))))) : AW (m_X12_clause (d + 58) 0 0) 0 0 179 [(0, .ref 1), (3, .int x3), (4, .int x4)] [] h (kV K) := by
  refine aw_iload d_X12_clause_179 2 rfl ?_
  refine aw_iload_n (i := 3) rfl d_X12_clause_181 1 rfl ?_
  refine aw_icmp_lt (tgt := 207) d_X12_clause_182 rfl (fun c197 => ?_) (fun c197 => ?_)
  · have k := k.1 c197
    refine aw_aload_n (i := 0) rfl d_X12_clause_207 0 rfl ?_
    refine aw_getr (k0 := 31) kc_12 (ws_1 w) (Nat.le_of_ble_eq_true rfl) tw_1773 d_X12_clause_208 rfl (wr_1_31 w) ?_
    refine aw_iload_n (i := 3) rfl d_X12_clause_211 1 rfl ?_
    refine aw_iconst (v := 0) d_X12_clause_212 ic_0 ?_
    obtain ⟨b198, k⟩ := k
    refine aw_iast (ws_226 w) b198 d_X12_clause_213 ?_
    refine aw_aload_n (i := 0) rfl d_X12_clause_214 0 rfl ?_
    refine aw_getr (k0 := 31) kc_12 (ws_1 w) (Nat.le_of_ble_eq_true rfl) tw_1773 d_X12_clause_215 rfl (wr_1_31 w) ?_
    refine aw_iload_n (i := 3) rfl d_X12_clause_218 1 rfl ?_
    refine aw_iconst (v := 1) d_X12_clause_219 ic_1 ?_
    refine aw_iadd d_X12_clause_220 ?_
    refine aw_iconst (v := 1) d_X12_clause_221 ic_1 ?_
    obtain ⟨b199, k⟩ := k
    refine aw_iast (ws_226 w) b199 d_X12_clause_222 ?_
    refine aw_aload_n (i := 0) rfl d_X12_clause_223 0 rfl ?_
    refine aw_getr (k0 := 31) kc_12 (ws_1 w) (Nat.le_of_ble_eq_true rfl) tw_1773 d_X12_clause_224 rfl (wr_1_31 w) ?_
    refine aw_iload_n (i := 3) rfl d_X12_clause_227 1 rfl ?_
    refine aw_iconst (v := 2) d_X12_clause_228 ic_2 ?_
    refine aw_iadd d_X12_clause_229 ?_
    refine aw_iconst (v := 2) d_X12_clause_230 ic_2 ?_
    obtain ⟨b200, k⟩ := k
    refine aw_iast (ws_226 w) b200 d_X12_clause_231 ?_
    refine aw_aload_n (i := 0) rfl d_X12_clause_232 0 rfl ?_
    refine aw_dup d_X12_clause_233 rfl ?_
    refine aw_geti (k0 := 36) kc_12 (ws_1 w) (Nat.le_of_ble_eq_true rfl) tw_1778 d_X12_clause_234 rfl ?_
    refine aw_vi (v2 := (h_i h 1 36)) (rfl) ?_
    refine aw_iconst (v := 3) d_X12_clause_237 ic_3 ?_
    refine aw_iadd d_X12_clause_238 ?_
    refine aw_puti (k0 := 36) kc_12 (ws_1 w) (Nat.le_of_ble_eq_true rfl) tw_1778 d_X12_clause_239 rfl rfl nf_i ?_
    refine aw_aload_n (i := 0) rfl d_X12_clause_242 0 rfl ?_
    refine aw_iconst (v := 3) d_X12_clause_243 ic_3 ?_
    refine aw_Vv 1 [.int 3] [] d_X12_clause_244 (cV_X12_say (d + 0) 0 0) kc_12 (ws_1 w) tw_2210 rfl (rr0 (Nat.le_of_ble_eq_true rfl) (Nat.le_of_ble_eq_true rfl)) (Nat.le_of_ble_eq_true rfl) xs0 k (fun h201 kk => ?_)
    obtain ⟨w202, k⟩ := kk
    exact aw_vret rfl d_X12_clause_247 ⟨Nat.le_refl _, Nat.le_refl _⟩ ⟨rfl, k⟩
  · have k := k.2 c197
    refine aw_aload_n (i := 0) rfl d_X12_clause_185 0 rfl ?_
    refine aw_getr (k0 := 31) kc_12 (ws_1 w) (Nat.le_of_ble_eq_true rfl) tw_1773 d_X12_clause_186 rfl (wr_1_31 w) ?_
    refine aw_iload d_X12_clause_189 2 rfl ?_
    refine aw_iconst (v := 3) d_X12_clause_191 ic_3 ?_
    refine aw_iadd d_X12_clause_192 ?_
    refine aw_aload_n (i := 0) rfl d_X12_clause_193 0 rfl ?_
    refine aw_getr (k0 := 31) kc_12 (ws_1 w) (Nat.le_of_ble_eq_true rfl) tw_1773 d_X12_clause_194 rfl (wr_1_31 w) ?_
    refine aw_iload d_X12_clause_197 2 rfl ?_
    obtain ⟨b204, k⟩ := k
    refine aw_iald (ws_226 w) b204 d_X12_clause_199 ?_
    obtain ⟨b205, k⟩ := k
    refine aw_iast (ws_226 w) b205 d_X12_clause_200 ?_
    refine aw_iinc (v := (x4 + (-1))) [(0, .ref 1), (3, .int x3), (4, .int (x4 + (-1)))] d_X12_clause_201 2 rfl rfl (Nat.le_of_ble_eq_true rfl) rfl rfl ?_
    refine aw_goto (tgt := 179) d_X12_clause_204 rfl ?_
    exact k
theorem t_X12_fault (d : Nat) (h : Hp_) (w : Wf h) (x1 : Int32) (K : Int32 → Hp_ → Prop) (k : ((0 ≤ x1 ∧ x1 ≤ 2) → (¬ x1 = 0 → Cv (m_X12_clause (d + 58) 0 0) [.ref 1] (h_im (h_im (h_im (h_im (h_im h 1 37 x1) 1 33 0) 1 34 (-1)) 1 35 0) 1 36 0) (fun h5 => Wf h5 ∧ (AW (m_X12_fault (d + 59) 0 0) 0 0 52 [(0, .ref 1)] [] h5 (kI K)))) ∧ (x1 = 0 → Cv (m_X12_stepsRead (d + 52) 0 0) [.ref 1] (h_im (h_im (h_im (h_im (h_im h 1 37 x1) 1 33 0) 1 34 (-1)) 1 35 0) 1 36 0) (fun h8 => Wf h8 ∧ ((¬ (h_i h8 1 34) = (-1) → K (h_i h8 1 34) h8) ∧ ((h_i h8 1 34) = (-1) → Ci (m_X12_look (d + 0) 0 0) [.ref 1] h8 (fun r14 h12 => Wf h12 ∧ ((r14 = (-1) → K (h_i h12 1 34) h12) ∧ (¬ r14 = (-1) → Cv (m_X12_bad (d + 0) 0 0) [.ref 1] h12 (fun h16 => Wf h16 ∧ (K (h_i h16 1 34) h16)))))))))) ∧ (¬ (0 ≤ x1 ∧ x1 ≤ 2) → K (-2) h)) : Ci (m_X12_fault (d + 59) 0 0) [.ref 1, .int x1] h K := by
  refine Ct.of (fun _ _ _ => trivial) pn_X12 (Nat.le_of_ble_eq_true rfl) ?_
  show AW (m_X12_fault (d + 59) 0 0) 0 0 0 [(0, .ref 1), (1, .int x1)] [] h (kI K)
  refine aw_iload_n (i := 1) rfl d_X12_fault_0 1 rfl ?_
  refine aw_iconst (v := 0) d_X12_fault_1 ic_0 ?_
  refine aw_iconst (v := 2) d_X12_fault_2 ic_2 ?_
  refine aw_Si [.int x1, .int 0, .int 2] [] d_X12_fault_3 (cS_X12_in (d + 0) 0 0) tw_2143 rfl (rr0 (Nat.le_of_ble_eq_true rfl) (Nat.le_of_ble_eq_true rfl)) (Nat.le_of_ble_eq_true rfl) xs0 (s_X12_in _ _ x1 0 2) (fun _ _ kk => ?_)
  obtain ⟨e1, e2⟩ := kk
  rw [e1, e2]
  refine aw_ifb_ne (tgt := 12) d_X12_fault_6 rfl (fun c3 => ?_) (fun c3 => ?_)
  · have k := k.1 c3
    refine aw_aload_n (i := 0) rfl d_X12_fault_12 0 rfl ?_
    refine aw_iload_n (i := 1) rfl d_X12_fault_13 1 rfl ?_
    refine aw_puti (k0 := 37) kc_12 (ws_1 w) (Nat.le_of_ble_eq_true rfl) tw_1779 d_X12_fault_14 rfl rfl nf_i ?_
    refine aw_aload_n (i := 0) rfl d_X12_fault_17 0 rfl ?_
    refine aw_iconst (v := 0) d_X12_fault_18 ic_0 ?_
    refine aw_puti (k0 := 33) kc_12 (ws_1 w) (Nat.le_of_ble_eq_true rfl) tw_1775 d_X12_fault_19 rfl rfl nf_i ?_
    refine aw_aload_n (i := 0) rfl d_X12_fault_22 0 rfl ?_
    refine aw_iconst (v := (-1)) d_X12_fault_23 ic_m1 ?_
    refine aw_puti (k0 := 34) kc_12 (ws_1 w) (Nat.le_of_ble_eq_true rfl) tw_1776 d_X12_fault_24 rfl rfl nf_i ?_
    refine aw_aload_n (i := 0) rfl d_X12_fault_27 0 rfl ?_
    refine aw_iconst (v := 0) d_X12_fault_28 ic_0 ?_
    refine aw_puti (k0 := 35) kc_12 (ws_1 w) (Nat.le_of_ble_eq_true rfl) tw_1777 d_X12_fault_29 rfl rfl nf_i ?_
    refine aw_aload_n (i := 0) rfl d_X12_fault_32 0 rfl ?_
    refine aw_iconst (v := 0) d_X12_fault_33 ic_0 ?_
    refine aw_puti (k0 := 36) kc_12 (ws_1 w) (Nat.le_of_ble_eq_true rfl) tw_1778 d_X12_fault_34 rfl rfl nf_i ?_
    refine aw_iload_n (i := 1) rfl d_X12_fault_37 1 rfl ?_
    refine aw_if_ne (tgt := 48) d_X12_fault_38 rfl (fun c4 => ?_) (fun c4 => ?_)
    · have k := k.1 c4
      refine aw_aload_n (i := 0) rfl d_X12_fault_48 0 rfl ?_
      refine aw_Vv 1 [] [] d_X12_fault_49 (cV_X12_clause (d + 58) 0 0) kc_12 (ws_1 w) tw_2229 rfl (rr0 (Nat.le_of_ble_eq_true rfl) (Nat.le_of_ble_eq_true rfl)) (Nat.le_of_ble_eq_true rfl) xs0 k (fun h5 kk => ?_)
      obtain ⟨w6, k⟩ := kk
      exact aw_lvp [0] [(0, .ref 1)] rfl k
    · have k := k.2 c4
      refine aw_aload_n (i := 0) rfl d_X12_fault_41 0 rfl ?_
      refine aw_Vv 1 [] [] d_X12_fault_42 (cV_X12_stepsRead (d + 52) 0 0) kc_12 (ws_1 w) tw_2198 rfl (rr0 (Nat.le_of_ble_eq_true rfl) (Nat.le_of_ble_eq_true rfl)) (Nat.le_of_ble_eq_true rfl) xs0 k (fun h8 kk => ?_)
      obtain ⟨w9, k⟩ := kk
      refine aw_goto (tgt := 86) d_X12_fault_45 rfl ?_
      refine aw_aload_n (i := 0) rfl d_X12_fault_86 0 rfl ?_
      refine aw_geti (k0 := 34) kc_12 (ws_1 w9) (Nat.le_of_ble_eq_true rfl) tw_1776 d_X12_fault_87 rfl ?_
      refine aw_iconst (v := (-1)) d_X12_fault_90 ic_m1 ?_
      refine aw_icmp_ne (tgt := 106) d_X12_fault_91 rfl (fun c11 => ?_) (fun c11 => ?_)
      · have k := k.1 c11
        refine aw_aload_n (i := 0) rfl d_X12_fault_106 0 rfl ?_
        refine aw_geti (k0 := 34) kc_12 (ws_1 w9) (Nat.le_of_ble_eq_true rfl) tw_1776 d_X12_fault_107 rfl ?_
        exact aw_iret rfl d_X12_fault_110 ⟨Nat.le_refl _, Nat.le_refl _⟩ ⟨_, rfl, k⟩
      · have k := k.2 c11
        refine aw_aload_n (i := 0) rfl d_X12_fault_94 0 rfl ?_
        refine aw_Vi 1 [] [] d_X12_fault_95 (cV_X12_look (d + 0) 0 0) kc_12 (ws_1 w9) tw_2206 rfl (rr0 (Nat.le_of_ble_eq_true rfl) (Nat.le_of_ble_eq_true rfl)) (Nat.le_of_ble_eq_true rfl) xs0 k (fun r14 h12 kk => ?_)
        obtain ⟨w13, k⟩ := kk
        refine aw_iconst (v := (-1)) d_X12_fault_98 ic_m1 ?_
        refine aw_icmp_eq (tgt := 106) d_X12_fault_99 rfl (fun c15 => ?_) (fun c15 => ?_)
        · have k := k.1 c15
          refine aw_aload_n (i := 0) rfl d_X12_fault_106 0 rfl ?_
          refine aw_geti (k0 := 34) kc_12 (ws_1 w13) (Nat.le_of_ble_eq_true rfl) tw_1776 d_X12_fault_107 rfl ?_
          exact aw_iret rfl d_X12_fault_110 ⟨Nat.le_refl _, Nat.le_refl _⟩ ⟨_, rfl, k⟩
        · have k := k.2 c15
          refine aw_aload_n (i := 0) rfl d_X12_fault_102 0 rfl ?_
          refine aw_Vv 1 [] [] d_X12_fault_103 (cV_X12_bad (d + 0) 0 0) kc_12 (ws_1 w13) tw_2225 rfl (rr0 (Nat.le_of_ble_eq_true rfl) (Nat.le_of_ble_eq_true rfl)) (Nat.le_of_ble_eq_true rfl) xs0 k (fun h16 kk => ?_)
          obtain ⟨w17, k⟩ := kk
          refine aw_aload_n (i := 0) rfl d_X12_fault_106 0 rfl ?_
          refine aw_geti (k0 := 34) kc_12 (ws_1 w17) (Nat.le_of_ble_eq_true rfl) tw_1776 d_X12_fault_107 rfl ?_
          exact aw_iret rfl d_X12_fault_110 ⟨Nat.le_refl _, Nat.le_refl _⟩ ⟨_, rfl, k⟩
  · have k := k.2 c3
    refine aw_bipush (v := (-2)) d_X12_fault_9 ib_m2 ?_
    exact aw_iret rfl d_X12_fault_11 ⟨Nat.le_refl _, Nat.le_refl _⟩ ⟨_, rfl, k⟩
theorem t_X12_fault_52 (d : Nat) (h : Hp_) (w : Wf h)  (K : Int32 → Hp_ → Prop) (k : (¬ (h_i h 1 34) = (-1) → (¬ (h_i h 1 34) = (-1) → K (h_i h 1 34) h) ∧ ((h_i h 1 34) = (-1) → Ci (m_X12_look (d + 0) 0 0) [.ref 1] h (fun r23 h21 => Wf h21 ∧ ((r23 = (-1) → K (h_i h21 1 34) h21) ∧ (¬ r23 = (-1) → Cv (m_X12_bad (d + 0) 0 0) [.ref 1] h21 (fun h25 => Wf h25 ∧ (K (h_i h25 1 34) h25))))))) ∧ ((h_i h 1 34) = (-1) → Ci (m_X12_look (d + 0) 0 0) [.ref 1] h (fun r30 h28 => Wf h28 ∧ ((¬ r30 = 59 → (¬ (h_i h28 1 34) = (-1) → K (h_i h28 1 34) h28) ∧ ((h_i h28 1 34) = (-1) → Ci (m_X12_look (d + 0) 0 0) [.ref 1] h28 (fun r35 h33 => Wf h33 ∧ ((r35 = (-1) → K (h_i h33 1 34) h33) ∧ (¬ r35 = (-1) → Cv (m_X12_bad (d + 0) 0 0) [.ref 1] h33 (fun h37 => Wf h37 ∧ (K (h_i h37 1 34) h37))))))) ∧ (r30 = 59 → Cv (m_X12_clause (d + 58) 0 0) [.ref 1] (h_im h28 1 33 ((h_i h28 1 33) + 1)) (fun h40 => Wf h40 ∧ (AW (m_X12_fault (d + 59) 0 0) 0 0 52 [(0, .ref 1)] [] h40 (kI K)))))))) : AW (m_X12_fault (d + 59) 0 0) 0 0 52 [(0, .ref 1)] [] h (kI K) := by
  refine aw_aload_n (i := 0) rfl d_X12_fault_52 0 rfl ?_
  refine aw_geti (k0 := 34) kc_12 (ws_1 w) (Nat.le_of_ble_eq_true rfl) tw_1776 d_X12_fault_53 rfl ?_
  refine aw_iconst (v := (-1)) d_X12_fault_56 ic_m1 ?_
  refine aw_icmp_ne (tgt := 86) d_X12_fault_57 rfl (fun c19 => ?_) (fun c19 => ?_)
  · have k := k.1 c19
    refine aw_aload_n (i := 0) rfl d_X12_fault_86 0 rfl ?_
    refine aw_geti (k0 := 34) kc_12 (ws_1 w) (Nat.le_of_ble_eq_true rfl) tw_1776 d_X12_fault_87 rfl ?_
    refine aw_iconst (v := (-1)) d_X12_fault_90 ic_m1 ?_
    refine aw_icmp_ne (tgt := 106) d_X12_fault_91 rfl (fun c20 => ?_) (fun c20 => ?_)
    · have k := k.1 c20
      refine aw_aload_n (i := 0) rfl d_X12_fault_106 0 rfl ?_
      refine aw_geti (k0 := 34) kc_12 (ws_1 w) (Nat.le_of_ble_eq_true rfl) tw_1776 d_X12_fault_107 rfl ?_
      exact aw_iret rfl d_X12_fault_110 ⟨Nat.le_refl _, Nat.le_refl _⟩ ⟨_, rfl, k⟩
    · have k := k.2 c20
      refine aw_aload_n (i := 0) rfl d_X12_fault_94 0 rfl ?_
      refine aw_Vi 1 [] [] d_X12_fault_95 (cV_X12_look (d + 0) 0 0) kc_12 (ws_1 w) tw_2206 rfl (rr0 (Nat.le_of_ble_eq_true rfl) (Nat.le_of_ble_eq_true rfl)) (Nat.le_of_ble_eq_true rfl) xs0 k (fun r23 h21 kk => ?_)
      obtain ⟨w22, k⟩ := kk
      refine aw_iconst (v := (-1)) d_X12_fault_98 ic_m1 ?_
      refine aw_icmp_eq (tgt := 106) d_X12_fault_99 rfl (fun c24 => ?_) (fun c24 => ?_)
      · have k := k.1 c24
        refine aw_aload_n (i := 0) rfl d_X12_fault_106 0 rfl ?_
        refine aw_geti (k0 := 34) kc_12 (ws_1 w22) (Nat.le_of_ble_eq_true rfl) tw_1776 d_X12_fault_107 rfl ?_
        exact aw_iret rfl d_X12_fault_110 ⟨Nat.le_refl _, Nat.le_refl _⟩ ⟨_, rfl, k⟩
      · have k := k.2 c24
        refine aw_aload_n (i := 0) rfl d_X12_fault_102 0 rfl ?_
        refine aw_Vv 1 [] [] d_X12_fault_103 (cV_X12_bad (d + 0) 0 0) kc_12 (ws_1 w22) tw_2225 rfl (rr0 (Nat.le_of_ble_eq_true rfl) (Nat.le_of_ble_eq_true rfl)) (Nat.le_of_ble_eq_true rfl) xs0 k (fun h25 kk => ?_)
        obtain ⟨w26, k⟩ := kk
        refine aw_aload_n (i := 0) rfl d_X12_fault_106 0 rfl ?_
        refine aw_geti (k0 := 34) kc_12 (ws_1 w26) (Nat.le_of_ble_eq_true rfl) tw_1776 d_X12_fault_107 rfl ?_
        exact aw_iret rfl d_X12_fault_110 ⟨Nat.le_refl _, Nat.le_refl _⟩ ⟨_, rfl, k⟩
  · have k := k.2 c19
    refine aw_aload_n (i := 0) rfl d_X12_fault_60 0 rfl ?_
    refine aw_Vi 1 [] [] d_X12_fault_61 (cV_X12_look (d + 0) 0 0) kc_12 (ws_1 w) tw_2206 rfl (rr0 (Nat.le_of_ble_eq_true rfl) (Nat.le_of_ble_eq_true rfl)) (Nat.le_of_ble_eq_true rfl) xs0 k (fun r30 h28 kk => ?_)
    obtain ⟨w29, k⟩ := kk
    refine aw_bipush (v := 59) d_X12_fault_64 ib_59 ?_
    refine aw_icmp_ne (tgt := 86) d_X12_fault_66 rfl (fun c31 => ?_) (fun c31 => ?_)
    · have k := k.1 c31
      refine aw_aload_n (i := 0) rfl d_X12_fault_86 0 rfl ?_
      refine aw_geti (k0 := 34) kc_12 (ws_1 w29) (Nat.le_of_ble_eq_true rfl) tw_1776 d_X12_fault_87 rfl ?_
      refine aw_iconst (v := (-1)) d_X12_fault_90 ic_m1 ?_
      refine aw_icmp_ne (tgt := 106) d_X12_fault_91 rfl (fun c32 => ?_) (fun c32 => ?_)
      · have k := k.1 c32
        refine aw_aload_n (i := 0) rfl d_X12_fault_106 0 rfl ?_
        refine aw_geti (k0 := 34) kc_12 (ws_1 w29) (Nat.le_of_ble_eq_true rfl) tw_1776 d_X12_fault_107 rfl ?_
        exact aw_iret rfl d_X12_fault_110 ⟨Nat.le_refl _, Nat.le_refl _⟩ ⟨_, rfl, k⟩
      · have k := k.2 c32
        refine aw_aload_n (i := 0) rfl d_X12_fault_94 0 rfl ?_
        refine aw_Vi 1 [] [] d_X12_fault_95 (cV_X12_look (d + 0) 0 0) kc_12 (ws_1 w29) tw_2206 rfl (rr0 (Nat.le_of_ble_eq_true rfl) (Nat.le_of_ble_eq_true rfl)) (Nat.le_of_ble_eq_true rfl) xs0 k (fun r35 h33 kk => ?_)
        obtain ⟨w34, k⟩ := kk
        refine aw_iconst (v := (-1)) d_X12_fault_98 ic_m1 ?_
        refine aw_icmp_eq (tgt := 106) d_X12_fault_99 rfl (fun c36 => ?_) (fun c36 => ?_)
        · have k := k.1 c36
          refine aw_aload_n (i := 0) rfl d_X12_fault_106 0 rfl ?_
          refine aw_geti (k0 := 34) kc_12 (ws_1 w34) (Nat.le_of_ble_eq_true rfl) tw_1776 d_X12_fault_107 rfl ?_
          exact aw_iret rfl d_X12_fault_110 ⟨Nat.le_refl _, Nat.le_refl _⟩ ⟨_, rfl, k⟩
        · have k := k.2 c36
          refine aw_aload_n (i := 0) rfl d_X12_fault_102 0 rfl ?_
          refine aw_Vv 1 [] [] d_X12_fault_103 (cV_X12_bad (d + 0) 0 0) kc_12 (ws_1 w34) tw_2225 rfl (rr0 (Nat.le_of_ble_eq_true rfl) (Nat.le_of_ble_eq_true rfl)) (Nat.le_of_ble_eq_true rfl) xs0 k (fun h37 kk => ?_)
          obtain ⟨w38, k⟩ := kk
          refine aw_aload_n (i := 0) rfl d_X12_fault_106 0 rfl ?_
          refine aw_geti (k0 := 34) kc_12 (ws_1 w38) (Nat.le_of_ble_eq_true rfl) tw_1776 d_X12_fault_107 rfl ?_
          exact aw_iret rfl d_X12_fault_110 ⟨Nat.le_refl _, Nat.le_refl _⟩ ⟨_, rfl, k⟩
    · have k := k.2 c31
      refine aw_aload_n (i := 0) rfl d_X12_fault_69 0 rfl ?_
      refine aw_dup d_X12_fault_70 rfl ?_
      refine aw_geti (k0 := 33) kc_12 (ws_1 w29) (Nat.le_of_ble_eq_true rfl) tw_1775 d_X12_fault_71 rfl ?_
      refine aw_iconst (v := 1) d_X12_fault_74 ic_1 ?_
      refine aw_iadd d_X12_fault_75 ?_
      refine aw_puti (k0 := 33) kc_12 (ws_1 w29) (Nat.le_of_ble_eq_true rfl) tw_1775 d_X12_fault_76 rfl rfl nf_i ?_
      refine aw_aload_n (i := 0) rfl d_X12_fault_79 0 rfl ?_
      refine aw_Vv 1 [] [] d_X12_fault_80 (cV_X12_clause (d + 58) 0 0) kc_12 (ws_1 w29) tw_2229 rfl (rr0 (Nat.le_of_ble_eq_true rfl) (Nat.le_of_ble_eq_true rfl)) (Nat.le_of_ble_eq_true rfl) xs0 k (fun h40 kk => ?_)
      obtain ⟨w41, k⟩ := kk
      refine aw_goto (tgt := 52) d_X12_fault_83 rfl ?_
      exact k
theorem t_X12_stepRead (d : Nat) (h : Hp_) (w : Wf h)  (K : Hp_ → Prop) (k : Ci (m_X12_look (d + 0) 0 0) [.ref 1] h (fun r3 h1 => Wf h1 ∧ ((¬ r3 = 103 → (¬ r3 = 119 → (¬ r3 = 112 → (¬ r3 = 108 → (¬ r3 = 40 → Cv (m_X12_bad (d + 0) 0 0) [.ref 1] h1 (fun h9 => Wf h9 ∧ (K h9))) ∧ (r3 = 40 → (4 ≤ (h_i h1 1 35) → Cv (m_X12_bad (d + 0) 0 0) [.ref 1] h1 (fun h13 => Wf h13 ∧ (K h13))) ∧ (¬ 4 ≤ (h_i h1 1 35) → Cv (m_X12_say (d + 0) 0 0) [.ref 1, .int 4] (h_im (h_im h1 1 35 ((h_i h1 1 35) + 1)) 1 33 ((h_i h1 1 33) + 1)) (fun h16 => Wf h16 ∧ (Cv (m_X12_stepsRead (d + 52) 0 0) [.ref 1] h16 (fun h19 => Wf h19 ∧ ((¬ (h_i h19 1 34) = (-1) → (¬ (h_i h19 1 34) = (-1) → K (h_im (h_im h19 1 33 ((h_i h19 1 33) + 1)) 1 35 ((h_i h19 1 35) - 1))) ∧ ((h_i h19 1 34) = (-1) → Cv (m_X12_say (d + 0) 0 0) [.ref 1, .int 5] (h_im (h_im h19 1 33 ((h_i h19 1 33) + 1)) 1 35 ((h_i h19 1 35) - 1)) (fun h24 => Wf h24 ∧ (Ci (m_X12_within (d + 2) 0 0) [.ref 1, .int 1, .int 20] h24 (fun r29 h27 => Wf h27 ∧ (Cv (m_X12_say (d + 0) 0 0) [.ref 1, .int r29] h27 (fun h30 => Wf h30 ∧ (K h30)))))))) ∧ ((h_i h19 1 34) = (-1) → Ci (m_X12_look (d + 0) 0 0) [.ref 1] h19 (fun r35 h33 => Wf h33 ∧ ((r35 = 41 → (¬ (h_i h33 1 34) = (-1) → K (h_im (h_im h33 1 33 ((h_i h33 1 33) + 1)) 1 35 ((h_i h33 1 35) - 1))) ∧ ((h_i h33 1 34) = (-1) → Cv (m_X12_say (d + 0) 0 0) [.ref 1, .int 5] (h_im (h_im h33 1 33 ((h_i h33 1 33) + 1)) 1 35 ((h_i h33 1 35) - 1)) (fun h38 => Wf h38 ∧ (Ci (m_X12_within (d + 2) 0 0) [.ref 1, .int 1, .int 20] h38 (fun r43 h41 => Wf h41 ∧ (Cv (m_X12_say (d + 0) 0 0) [.ref 1, .int r43] h41 (fun h44 => Wf h44 ∧ (K h44)))))))) ∧ (¬ r35 = 41 → Cv (m_X12_bad (d + 0) 0 0) [.ref 1] h33 (fun h47 => Wf h47 ∧ ((¬ (h_i h47 1 34) = (-1) → K (h_im (h_im h47 1 33 ((h_i h47 1 33) + 1)) 1 35 ((h_i h47 1 35) - 1))) ∧ ((h_i h47 1 34) = (-1) → Cv (m_X12_say (d + 0) 0 0) [.ref 1, .int 5] (h_im (h_im h47 1 33 ((h_i h47 1 33) + 1)) 1 35 ((h_i h47 1 35) - 1)) (fun h51 => Wf h51 ∧ (Ci (m_X12_within (d + 2) 0 0) [.ref 1, .int 1, .int 20] h51 (fun r56 h54 => Wf h54 ∧ (Cv (m_X12_say (d + 0) 0 0) [.ref 1, .int r56] h54 (fun h57 => Wf h57 ∧ (K h57)))))))))))))))))))) ∧ (r3 = 108 → Cv (m_X12_say (d + 0) 0 0) [.ref 1, .int 3] (h_im h1 1 33 ((h_i h1 1 33) + 1)) (fun h60 => Wf h60 ∧ (K h60)))) ∧ (r3 = 112 → Cv (m_X12_say (d + 0) 0 0) [.ref 1, .int 2] (h_im h1 1 33 ((h_i h1 1 33) + 1)) (fun h63 => Wf h63 ∧ (Ci (m_X12_within (d + 2) 0 0) [.ref 1, .int 0, .int 15] h63 (fun r68 h66 => Wf h66 ∧ (Cv (m_X12_say (d + 0) 0 0) [.ref 1, .int r68] h66 (fun h69 => Wf h69 ∧ ((¬ (h_i h69 1 34) = (-1) → K h69) ∧ ((h_i h69 1 34) = (-1) → Ci (m_X12_within (d + 2) 0 0) [.ref 1, .int 0, .int 1440] h69 (fun r75 h73 => Wf h73 ∧ (Cv (m_X12_say (d + 0) 0 0) [.ref 1, .int r75] h73 (fun h76 => Wf h76 ∧ (K h76))))))))))))) ∧ (r3 = 119 → Cv (m_X12_say (d + 0) 0 0) [.ref 1, .int 1] (h_im h1 1 33 ((h_i h1 1 33) + 1)) (fun h79 => Wf h79 ∧ (Ci (m_X12_within (d + 2) 0 0) [.ref 1, .int 1, .int 240] h79 (fun r84 h82 => Wf h82 ∧ (Cv (m_X12_say (d + 0) 0 0) [.ref 1, .int r84] h82 (fun h85 => Wf h85 ∧ (K h85)))))))) ∧ (r3 = 103 → Cv (m_X12_say (d + 0) 0 0) [.ref 1, .int 0] (h_im h1 1 33 ((h_i h1 1 33) + 1)) (fun h88 => Wf h88 ∧ (Ci (m_X12_within (d + 2) 0 0) [.ref 1, .int 0, .int 15] h88 (fun r93 h91 => Wf h91 ∧ (Cv (m_X12_say (d + 0) 0 0) [.ref 1, .int r93] h91 (fun h94 => Wf h94 ∧ (K h94)))))))))) : Cv (m_X12_stepRead (d + 61) 0 0) [.ref 1] h K := by
  refine Ct.of (fun _ _ _ => trivial) pn_X12 (Nat.le_of_ble_eq_true rfl) ?_
  show AW (m_X12_stepRead (d + 61) 0 0) 0 0 0 [(0, .ref 1)] [] h (kV K)
  refine aw_aload_n (i := 0) rfl d_X12_stepRead_0 0 rfl ?_
  refine aw_Vi 1 [] [] d_X12_stepRead_1 (cV_X12_look (d + 0) 0 0) kc_12 (ws_1 w) tw_2206 rfl (rr0 (Nat.le_of_ble_eq_true rfl) (Nat.le_of_ble_eq_true rfl)) (Nat.le_of_ble_eq_true rfl) xs0 k (fun r3 h1 kk => ?_)
  obtain ⟨w2, k⟩ := kk
  refine aw_istore_n (i := 1) rfl [(0, .ref 1), (1, .int r3)] d_X12_stepRead_4 (Nat.le_of_ble_eq_true rfl) rfl rfl ?_
  refine aw_iload_n (i := 1) rfl d_X12_stepRead_5 1 rfl ?_
  refine aw_bipush (v := 103) d_X12_stepRead_6 ib_103 ?_
  refine aw_icmp_ne (tgt := 40) d_X12_stepRead_8 rfl (fun c4 => ?_) (fun c4 => ?_)
  · have k := k.1 c4
    refine aw_iload_n (i := 1) rfl d_X12_stepRead_40 1 rfl ?_
    refine aw_bipush (v := 119) d_X12_stepRead_41 ib_119 ?_
    refine aw_icmp_ne (tgt := 76) d_X12_stepRead_43 rfl (fun c5 => ?_) (fun c5 => ?_)
    · have k := k.1 c5
      refine aw_iload_n (i := 1) rfl d_X12_stepRead_76 1 rfl ?_
      refine aw_bipush (v := 112) d_X12_stepRead_77 ib_112 ?_
      refine aw_icmp_ne (tgt := 131) d_X12_stepRead_79 rfl (fun c6 => ?_) (fun c6 => ?_)
      · have k := k.1 c6
        refine aw_iload_n (i := 1) rfl d_X12_stepRead_131 1 rfl ?_
        refine aw_bipush (v := 108) d_X12_stepRead_132 ib_108 ?_
        refine aw_icmp_ne (tgt := 155) d_X12_stepRead_134 rfl (fun c7 => ?_) (fun c7 => ?_)
        · have k := k.1 c7
          refine aw_iload_n (i := 1) rfl d_X12_stepRead_155 1 rfl ?_
          refine aw_bipush (v := 40) d_X12_stepRead_156 ib_40 ?_
          refine aw_icmp_ne (tgt := 266) d_X12_stepRead_158 rfl (fun c8 => ?_) (fun c8 => ?_)
          · have k := k.1 c8
            refine aw_aload_n (i := 0) rfl d_X12_stepRead_266 0 rfl ?_
            refine aw_Vv 1 [] [] d_X12_stepRead_267 (cV_X12_bad (d + 0) 0 0) kc_12 (ws_1 w2) tw_2225 rfl (rr0 (Nat.le_of_ble_eq_true rfl) (Nat.le_of_ble_eq_true rfl)) (Nat.le_of_ble_eq_true rfl) xs0 k (fun h9 kk => ?_)
            obtain ⟨w10, k⟩ := kk
            exact aw_vret rfl d_X12_stepRead_270 ⟨Nat.le_refl _, Nat.le_refl _⟩ ⟨rfl, k⟩
          · have k := k.2 c8
            refine aw_aload_n (i := 0) rfl d_X12_stepRead_161 0 rfl ?_
            refine aw_geti (k0 := 35) kc_12 (ws_1 w2) (Nat.le_of_ble_eq_true rfl) tw_1777 d_X12_stepRead_162 rfl ?_
            refine aw_iconst (v := 4) d_X12_stepRead_165 ic_4 ?_
            refine aw_icmp_ge (tgt := 266) d_X12_stepRead_166 rfl (fun c12 => ?_) (fun c12 => ?_)
            · have k := k.1 c12
              refine aw_aload_n (i := 0) rfl d_X12_stepRead_266 0 rfl ?_
              refine aw_Vv 1 [] [] d_X12_stepRead_267 (cV_X12_bad (d + 0) 0 0) kc_12 (ws_1 w2) tw_2225 rfl (rr0 (Nat.le_of_ble_eq_true rfl) (Nat.le_of_ble_eq_true rfl)) (Nat.le_of_ble_eq_true rfl) xs0 k (fun h13 kk => ?_)
              obtain ⟨w14, k⟩ := kk
              exact aw_vret rfl d_X12_stepRead_270 ⟨Nat.le_refl _, Nat.le_refl _⟩ ⟨rfl, k⟩
            · have k := k.2 c12
              refine aw_aload_n (i := 0) rfl d_X12_stepRead_169 0 rfl ?_
              refine aw_dup d_X12_stepRead_170 rfl ?_
              refine aw_geti (k0 := 35) kc_12 (ws_1 w2) (Nat.le_of_ble_eq_true rfl) tw_1777 d_X12_stepRead_171 rfl ?_
              refine aw_iconst (v := 1) d_X12_stepRead_174 ic_1 ?_
              refine aw_iadd d_X12_stepRead_175 ?_
              refine aw_puti (k0 := 35) kc_12 (ws_1 w2) (Nat.le_of_ble_eq_true rfl) tw_1777 d_X12_stepRead_176 rfl rfl nf_i ?_
              refine aw_aload_n (i := 0) rfl d_X12_stepRead_179 0 rfl ?_
              refine aw_dup d_X12_stepRead_180 rfl ?_
              refine aw_geti (k0 := 33) kc_12 (ws_1 w2) (Nat.le_of_ble_eq_true rfl) tw_1775 d_X12_stepRead_181 rfl ?_
              refine aw_vi (v2 := (h_i h1 1 33)) (rfl) ?_
              refine aw_iconst (v := 1) d_X12_stepRead_184 ic_1 ?_
              refine aw_iadd d_X12_stepRead_185 ?_
              refine aw_puti (k0 := 33) kc_12 (ws_1 w2) (Nat.le_of_ble_eq_true rfl) tw_1775 d_X12_stepRead_186 rfl rfl nf_i ?_
              refine aw_aload_n (i := 0) rfl d_X12_stepRead_189 0 rfl ?_
              refine aw_iconst (v := 4) d_X12_stepRead_190 ic_4 ?_
              refine aw_Vv 1 [.int 4] [] d_X12_stepRead_191 (cV_X12_say (d + 0) 0 0) kc_12 (ws_1 w2) tw_2210 rfl (rr0 (Nat.le_of_ble_eq_true rfl) (Nat.le_of_ble_eq_true rfl)) (Nat.le_of_ble_eq_true rfl) xs0 k (fun h16 kk => ?_)
              obtain ⟨w17, k⟩ := kk
              refine aw_aload_n (i := 0) rfl d_X12_stepRead_194 0 rfl ?_
              refine aw_Vv 1 [] [] d_X12_stepRead_195 (cV_X12_stepsRead (d + 52) 0 0) kc_12 (ws_1 w17) tw_2198 rfl (rr0 (Nat.le_of_ble_eq_true rfl) (Nat.le_of_ble_eq_true rfl)) (Nat.le_of_ble_eq_true rfl) xs0 k (fun h19 kk => ?_)
              obtain ⟨w20, k⟩ := kk
              refine aw_aload_n (i := 0) rfl d_X12_stepRead_198 0 rfl ?_
              refine aw_geti (k0 := 34) kc_12 (ws_1 w20) (Nat.le_of_ble_eq_true rfl) tw_1776 d_X12_stepRead_199 rfl ?_
              refine aw_iconst (v := (-1)) d_X12_stepRead_202 ic_m1 ?_
              refine aw_icmp_ne (tgt := 219) d_X12_stepRead_203 rfl (fun c22 => ?_) (fun c22 => ?_)
              · have k := k.1 c22
                refine aw_aload_n (i := 0) rfl d_X12_stepRead_219 0 rfl ?_
                refine aw_dup d_X12_stepRead_220 rfl ?_
                refine aw_geti (k0 := 33) kc_12 (ws_1 w20) (Nat.le_of_ble_eq_true rfl) tw_1775 d_X12_stepRead_221 rfl ?_
                refine aw_iconst (v := 1) d_X12_stepRead_224 ic_1 ?_
                refine aw_iadd d_X12_stepRead_225 ?_
                refine aw_puti (k0 := 33) kc_12 (ws_1 w20) (Nat.le_of_ble_eq_true rfl) tw_1775 d_X12_stepRead_226 rfl rfl nf_i ?_
                refine aw_aload_n (i := 0) rfl d_X12_stepRead_229 0 rfl ?_
                refine aw_dup d_X12_stepRead_230 rfl ?_
                refine aw_geti (k0 := 35) kc_12 (ws_1 w20) (Nat.le_of_ble_eq_true rfl) tw_1777 d_X12_stepRead_231 rfl ?_
                refine aw_vi (v2 := (h_i h19 1 35)) (rfl) ?_
                refine aw_iconst (v := 1) d_X12_stepRead_234 ic_1 ?_
                refine aw_isub d_X12_stepRead_235 ?_
                refine aw_puti (k0 := 35) kc_12 (ws_1 w20) (Nat.le_of_ble_eq_true rfl) tw_1777 d_X12_stepRead_236 rfl rfl nf_i ?_
                refine aw_aload_n (i := 0) rfl d_X12_stepRead_239 0 rfl ?_
                refine aw_geti (k0 := 34) kc_12 (ws_1 w20) (Nat.le_of_ble_eq_true rfl) tw_1776 d_X12_stepRead_240 rfl ?_
                refine aw_vi (v2 := (h_i h19 1 34)) (rfl) ?_
                refine aw_iconst (v := (-1)) d_X12_stepRead_243 ic_m1 ?_
                refine aw_icmp_ne (tgt := 270) d_X12_stepRead_244 rfl (fun c23 => ?_) (fun c23 => ?_)
                · have k := k.1 c23
                  exact aw_vret rfl d_X12_stepRead_270 ⟨Nat.le_refl _, Nat.le_refl _⟩ ⟨rfl, k⟩
                · have k := k.2 c23
                  refine aw_aload_n (i := 0) rfl d_X12_stepRead_247 0 rfl ?_
                  refine aw_iconst (v := 5) d_X12_stepRead_248 ic_5 ?_
                  refine aw_Vv 1 [.int 5] [] d_X12_stepRead_249 (cV_X12_say (d + 0) 0 0) kc_12 (ws_1 w20) tw_2210 rfl (rr0 (Nat.le_of_ble_eq_true rfl) (Nat.le_of_ble_eq_true rfl)) (Nat.le_of_ble_eq_true rfl) xs0 k (fun h24 kk => ?_)
                  obtain ⟨w25, k⟩ := kk
                  refine aw_aload_n (i := 0) rfl d_X12_stepRead_252 0 rfl ?_
                  refine aw_aload_n (i := 0) rfl d_X12_stepRead_253 0 rfl ?_
                  refine aw_iconst (v := 1) d_X12_stepRead_254 ic_1 ?_
                  refine aw_bipush (v := 20) d_X12_stepRead_255 ib_20 ?_
                  refine aw_Vi 1 [.int 1, .int 20] [.ref 1] d_X12_stepRead_257 (cV_X12_within (d + 2) 0 0) kc_12 (ws_1 w25) tw_2214 rfl (rr0 (Nat.le_of_ble_eq_true rfl) (Nat.le_of_ble_eq_true rfl)) (Nat.le_of_ble_eq_true rfl) xs0 k (fun r29 h27 kk => ?_)
                  obtain ⟨w28, k⟩ := kk
                  refine aw_Vv 1 [.int r29] [] d_X12_stepRead_260 (cV_X12_say (d + 0) 0 0) kc_12 (ws_1 w28) tw_2210 rfl (rr0 (Nat.le_of_ble_eq_true rfl) (Nat.le_of_ble_eq_true rfl)) (Nat.le_of_ble_eq_true rfl) xs0 k (fun h30 kk => ?_)
                  obtain ⟨w31, k⟩ := kk
                  refine aw_goto (tgt := 270) d_X12_stepRead_263 rfl ?_
                  exact aw_vret rfl d_X12_stepRead_270 ⟨Nat.le_refl _, Nat.le_refl _⟩ ⟨rfl, k⟩
              · have k := k.2 c22
                refine aw_aload_n (i := 0) rfl d_X12_stepRead_206 0 rfl ?_
                refine aw_Vi 1 [] [] d_X12_stepRead_207 (cV_X12_look (d + 0) 0 0) kc_12 (ws_1 w20) tw_2206 rfl (rr0 (Nat.le_of_ble_eq_true rfl) (Nat.le_of_ble_eq_true rfl)) (Nat.le_of_ble_eq_true rfl) xs0 k (fun r35 h33 kk => ?_)
                obtain ⟨w34, k⟩ := kk
                refine aw_bipush (v := 41) d_X12_stepRead_210 ib_41 ?_
                refine aw_icmp_eq (tgt := 219) d_X12_stepRead_212 rfl (fun c36 => ?_) (fun c36 => ?_)
                · have k := k.1 c36
                  refine aw_aload_n (i := 0) rfl d_X12_stepRead_219 0 rfl ?_
                  refine aw_dup d_X12_stepRead_220 rfl ?_
                  refine aw_geti (k0 := 33) kc_12 (ws_1 w34) (Nat.le_of_ble_eq_true rfl) tw_1775 d_X12_stepRead_221 rfl ?_
                  refine aw_iconst (v := 1) d_X12_stepRead_224 ic_1 ?_
                  refine aw_iadd d_X12_stepRead_225 ?_
                  refine aw_puti (k0 := 33) kc_12 (ws_1 w34) (Nat.le_of_ble_eq_true rfl) tw_1775 d_X12_stepRead_226 rfl rfl nf_i ?_
                  refine aw_aload_n (i := 0) rfl d_X12_stepRead_229 0 rfl ?_
                  refine aw_dup d_X12_stepRead_230 rfl ?_
                  refine aw_geti (k0 := 35) kc_12 (ws_1 w34) (Nat.le_of_ble_eq_true rfl) tw_1777 d_X12_stepRead_231 rfl ?_
                  refine aw_vi (v2 := (h_i h33 1 35)) (rfl) ?_
                  refine aw_iconst (v := 1) d_X12_stepRead_234 ic_1 ?_
                  refine aw_isub d_X12_stepRead_235 ?_
                  refine aw_puti (k0 := 35) kc_12 (ws_1 w34) (Nat.le_of_ble_eq_true rfl) tw_1777 d_X12_stepRead_236 rfl rfl nf_i ?_
                  refine aw_aload_n (i := 0) rfl d_X12_stepRead_239 0 rfl ?_
                  refine aw_geti (k0 := 34) kc_12 (ws_1 w34) (Nat.le_of_ble_eq_true rfl) tw_1776 d_X12_stepRead_240 rfl ?_
                  refine aw_vi (v2 := (h_i h33 1 34)) (rfl) ?_
                  refine aw_iconst (v := (-1)) d_X12_stepRead_243 ic_m1 ?_
                  refine aw_icmp_ne (tgt := 270) d_X12_stepRead_244 rfl (fun c37 => ?_) (fun c37 => ?_)
                  · have k := k.1 c37
                    exact aw_vret rfl d_X12_stepRead_270 ⟨Nat.le_refl _, Nat.le_refl _⟩ ⟨rfl, k⟩
                  · have k := k.2 c37
                    refine aw_aload_n (i := 0) rfl d_X12_stepRead_247 0 rfl ?_
                    refine aw_iconst (v := 5) d_X12_stepRead_248 ic_5 ?_
                    refine aw_Vv 1 [.int 5] [] d_X12_stepRead_249 (cV_X12_say (d + 0) 0 0) kc_12 (ws_1 w34) tw_2210 rfl (rr0 (Nat.le_of_ble_eq_true rfl) (Nat.le_of_ble_eq_true rfl)) (Nat.le_of_ble_eq_true rfl) xs0 k (fun h38 kk => ?_)
                    obtain ⟨w39, k⟩ := kk
                    refine aw_aload_n (i := 0) rfl d_X12_stepRead_252 0 rfl ?_
                    refine aw_aload_n (i := 0) rfl d_X12_stepRead_253 0 rfl ?_
                    refine aw_iconst (v := 1) d_X12_stepRead_254 ic_1 ?_
                    refine aw_bipush (v := 20) d_X12_stepRead_255 ib_20 ?_
                    refine aw_Vi 1 [.int 1, .int 20] [.ref 1] d_X12_stepRead_257 (cV_X12_within (d + 2) 0 0) kc_12 (ws_1 w39) tw_2214 rfl (rr0 (Nat.le_of_ble_eq_true rfl) (Nat.le_of_ble_eq_true rfl)) (Nat.le_of_ble_eq_true rfl) xs0 k (fun r43 h41 kk => ?_)
                    obtain ⟨w42, k⟩ := kk
                    refine aw_Vv 1 [.int r43] [] d_X12_stepRead_260 (cV_X12_say (d + 0) 0 0) kc_12 (ws_1 w42) tw_2210 rfl (rr0 (Nat.le_of_ble_eq_true rfl) (Nat.le_of_ble_eq_true rfl)) (Nat.le_of_ble_eq_true rfl) xs0 k (fun h44 kk => ?_)
                    obtain ⟨w45, k⟩ := kk
                    refine aw_goto (tgt := 270) d_X12_stepRead_263 rfl ?_
                    exact aw_vret rfl d_X12_stepRead_270 ⟨Nat.le_refl _, Nat.le_refl _⟩ ⟨rfl, k⟩
                · have k := k.2 c36
                  refine aw_aload_n (i := 0) rfl d_X12_stepRead_215 0 rfl ?_
                  refine aw_Vv 1 [] [] d_X12_stepRead_216 (cV_X12_bad (d + 0) 0 0) kc_12 (ws_1 w34) tw_2225 rfl (rr0 (Nat.le_of_ble_eq_true rfl) (Nat.le_of_ble_eq_true rfl)) (Nat.le_of_ble_eq_true rfl) xs0 k (fun h47 kk => ?_)
                  obtain ⟨w48, k⟩ := kk
                  refine aw_aload_n (i := 0) rfl d_X12_stepRead_219 0 rfl ?_
                  refine aw_dup d_X12_stepRead_220 rfl ?_
                  refine aw_geti (k0 := 33) kc_12 (ws_1 w48) (Nat.le_of_ble_eq_true rfl) tw_1775 d_X12_stepRead_221 rfl ?_
                  refine aw_iconst (v := 1) d_X12_stepRead_224 ic_1 ?_
                  refine aw_iadd d_X12_stepRead_225 ?_
                  refine aw_puti (k0 := 33) kc_12 (ws_1 w48) (Nat.le_of_ble_eq_true rfl) tw_1775 d_X12_stepRead_226 rfl rfl nf_i ?_
                  refine aw_aload_n (i := 0) rfl d_X12_stepRead_229 0 rfl ?_
                  refine aw_dup d_X12_stepRead_230 rfl ?_
                  refine aw_geti (k0 := 35) kc_12 (ws_1 w48) (Nat.le_of_ble_eq_true rfl) tw_1777 d_X12_stepRead_231 rfl ?_
                  refine aw_vi (v2 := (h_i h47 1 35)) (rfl) ?_
                  refine aw_iconst (v := 1) d_X12_stepRead_234 ic_1 ?_
                  refine aw_isub d_X12_stepRead_235 ?_
                  refine aw_puti (k0 := 35) kc_12 (ws_1 w48) (Nat.le_of_ble_eq_true rfl) tw_1777 d_X12_stepRead_236 rfl rfl nf_i ?_
                  refine aw_aload_n (i := 0) rfl d_X12_stepRead_239 0 rfl ?_
                  refine aw_geti (k0 := 34) kc_12 (ws_1 w48) (Nat.le_of_ble_eq_true rfl) tw_1776 d_X12_stepRead_240 rfl ?_
                  refine aw_vi (v2 := (h_i h47 1 34)) (rfl) ?_
                  refine aw_iconst (v := (-1)) d_X12_stepRead_243 ic_m1 ?_
                  refine aw_icmp_ne (tgt := 270) d_X12_stepRead_244 rfl (fun c50 => ?_) (fun c50 => ?_)
                  · have k := k.1 c50
                    exact aw_vret rfl d_X12_stepRead_270 ⟨Nat.le_refl _, Nat.le_refl _⟩ ⟨rfl, k⟩
                  · have k := k.2 c50
                    refine aw_aload_n (i := 0) rfl d_X12_stepRead_247 0 rfl ?_
                    refine aw_iconst (v := 5) d_X12_stepRead_248 ic_5 ?_
                    refine aw_Vv 1 [.int 5] [] d_X12_stepRead_249 (cV_X12_say (d + 0) 0 0) kc_12 (ws_1 w48) tw_2210 rfl (rr0 (Nat.le_of_ble_eq_true rfl) (Nat.le_of_ble_eq_true rfl)) (Nat.le_of_ble_eq_true rfl) xs0 k (fun h51 kk => ?_)
                    obtain ⟨w52, k⟩ := kk
                    refine aw_aload_n (i := 0) rfl d_X12_stepRead_252 0 rfl ?_
                    refine aw_aload_n (i := 0) rfl d_X12_stepRead_253 0 rfl ?_
                    refine aw_iconst (v := 1) d_X12_stepRead_254 ic_1 ?_
                    refine aw_bipush (v := 20) d_X12_stepRead_255 ib_20 ?_
                    refine aw_Vi 1 [.int 1, .int 20] [.ref 1] d_X12_stepRead_257 (cV_X12_within (d + 2) 0 0) kc_12 (ws_1 w52) tw_2214 rfl (rr0 (Nat.le_of_ble_eq_true rfl) (Nat.le_of_ble_eq_true rfl)) (Nat.le_of_ble_eq_true rfl) xs0 k (fun r56 h54 kk => ?_)
                    obtain ⟨w55, k⟩ := kk
                    refine aw_Vv 1 [.int r56] [] d_X12_stepRead_260 (cV_X12_say (d + 0) 0 0) kc_12 (ws_1 w55) tw_2210 rfl (rr0 (Nat.le_of_ble_eq_true rfl) (Nat.le_of_ble_eq_true rfl)) (Nat.le_of_ble_eq_true rfl) xs0 k (fun h57 kk => ?_)
                    obtain ⟨w58, k⟩ := kk
                    refine aw_goto (tgt := 270) d_X12_stepRead_263 rfl ?_
                    exact aw_vret rfl d_X12_stepRead_270 ⟨Nat.le_refl _, Nat.le_refl _⟩ ⟨rfl, k⟩
        · have k := k.2 c7
          refine aw_aload_n (i := 0) rfl d_X12_stepRead_137 0 rfl ?_
          refine aw_dup d_X12_stepRead_138 rfl ?_
          refine aw_geti (k0 := 33) kc_12 (ws_1 w2) (Nat.le_of_ble_eq_true rfl) tw_1775 d_X12_stepRead_139 rfl ?_
          refine aw_iconst (v := 1) d_X12_stepRead_142 ic_1 ?_
          refine aw_iadd d_X12_stepRead_143 ?_
          refine aw_puti (k0 := 33) kc_12 (ws_1 w2) (Nat.le_of_ble_eq_true rfl) tw_1775 d_X12_stepRead_144 rfl rfl nf_i ?_
          refine aw_aload_n (i := 0) rfl d_X12_stepRead_147 0 rfl ?_
          refine aw_iconst (v := 3) d_X12_stepRead_148 ic_3 ?_
          refine aw_Vv 1 [.int 3] [] d_X12_stepRead_149 (cV_X12_say (d + 0) 0 0) kc_12 (ws_1 w2) tw_2210 rfl (rr0 (Nat.le_of_ble_eq_true rfl) (Nat.le_of_ble_eq_true rfl)) (Nat.le_of_ble_eq_true rfl) xs0 k (fun h60 kk => ?_)
          obtain ⟨w61, k⟩ := kk
          refine aw_goto (tgt := 270) d_X12_stepRead_152 rfl ?_
          exact aw_vret rfl d_X12_stepRead_270 ⟨Nat.le_refl _, Nat.le_refl _⟩ ⟨rfl, k⟩
      · have k := k.2 c6
        refine aw_aload_n (i := 0) rfl d_X12_stepRead_82 0 rfl ?_
        refine aw_dup d_X12_stepRead_83 rfl ?_
        refine aw_geti (k0 := 33) kc_12 (ws_1 w2) (Nat.le_of_ble_eq_true rfl) tw_1775 d_X12_stepRead_84 rfl ?_
        refine aw_iconst (v := 1) d_X12_stepRead_87 ic_1 ?_
        refine aw_iadd d_X12_stepRead_88 ?_
        refine aw_puti (k0 := 33) kc_12 (ws_1 w2) (Nat.le_of_ble_eq_true rfl) tw_1775 d_X12_stepRead_89 rfl rfl nf_i ?_
        refine aw_aload_n (i := 0) rfl d_X12_stepRead_92 0 rfl ?_
        refine aw_iconst (v := 2) d_X12_stepRead_93 ic_2 ?_
        refine aw_Vv 1 [.int 2] [] d_X12_stepRead_94 (cV_X12_say (d + 0) 0 0) kc_12 (ws_1 w2) tw_2210 rfl (rr0 (Nat.le_of_ble_eq_true rfl) (Nat.le_of_ble_eq_true rfl)) (Nat.le_of_ble_eq_true rfl) xs0 k (fun h63 kk => ?_)
        obtain ⟨w64, k⟩ := kk
        refine aw_aload_n (i := 0) rfl d_X12_stepRead_97 0 rfl ?_
        refine aw_aload_n (i := 0) rfl d_X12_stepRead_98 0 rfl ?_
        refine aw_iconst (v := 0) d_X12_stepRead_99 ic_0 ?_
        refine aw_bipush (v := 15) d_X12_stepRead_100 ib_15 ?_
        refine aw_Vi 1 [.int 0, .int 15] [.ref 1] d_X12_stepRead_102 (cV_X12_within (d + 2) 0 0) kc_12 (ws_1 w64) tw_2214 rfl (rr0 (Nat.le_of_ble_eq_true rfl) (Nat.le_of_ble_eq_true rfl)) (Nat.le_of_ble_eq_true rfl) xs0 k (fun r68 h66 kk => ?_)
        obtain ⟨w67, k⟩ := kk
        refine aw_Vv 1 [.int r68] [] d_X12_stepRead_105 (cV_X12_say (d + 0) 0 0) kc_12 (ws_1 w67) tw_2210 rfl (rr0 (Nat.le_of_ble_eq_true rfl) (Nat.le_of_ble_eq_true rfl)) (Nat.le_of_ble_eq_true rfl) xs0 k (fun h69 kk => ?_)
        obtain ⟨w70, k⟩ := kk
        refine aw_aload_n (i := 0) rfl d_X12_stepRead_108 0 rfl ?_
        refine aw_geti (k0 := 34) kc_12 (ws_1 w70) (Nat.le_of_ble_eq_true rfl) tw_1776 d_X12_stepRead_109 rfl ?_
        refine aw_iconst (v := (-1)) d_X12_stepRead_112 ic_m1 ?_
        refine aw_icmp_ne (tgt := 270) d_X12_stepRead_113 rfl (fun c72 => ?_) (fun c72 => ?_)
        · have k := k.1 c72
          exact aw_vret rfl d_X12_stepRead_270 ⟨Nat.le_refl _, Nat.le_refl _⟩ ⟨rfl, k⟩
        · have k := k.2 c72
          refine aw_aload_n (i := 0) rfl d_X12_stepRead_116 0 rfl ?_
          refine aw_aload_n (i := 0) rfl d_X12_stepRead_117 0 rfl ?_
          refine aw_iconst (v := 0) d_X12_stepRead_118 ic_0 ?_
          refine aw_sipush (v := 1440) d_X12_stepRead_119 is_1440 ?_
          refine aw_Vi 1 [.int 0, .int 1440] [.ref 1] d_X12_stepRead_122 (cV_X12_within (d + 2) 0 0) kc_12 (ws_1 w70) tw_2214 rfl (rr0 (Nat.le_of_ble_eq_true rfl) (Nat.le_of_ble_eq_true rfl)) (Nat.le_of_ble_eq_true rfl) xs0 k (fun r75 h73 kk => ?_)
          obtain ⟨w74, k⟩ := kk
          refine aw_Vv 1 [.int r75] [] d_X12_stepRead_125 (cV_X12_say (d + 0) 0 0) kc_12 (ws_1 w74) tw_2210 rfl (rr0 (Nat.le_of_ble_eq_true rfl) (Nat.le_of_ble_eq_true rfl)) (Nat.le_of_ble_eq_true rfl) xs0 k (fun h76 kk => ?_)
          obtain ⟨w77, k⟩ := kk
          refine aw_goto (tgt := 270) d_X12_stepRead_128 rfl ?_
          exact aw_vret rfl d_X12_stepRead_270 ⟨Nat.le_refl _, Nat.le_refl _⟩ ⟨rfl, k⟩
    · have k := k.2 c5
      refine aw_aload_n (i := 0) rfl d_X12_stepRead_46 0 rfl ?_
      refine aw_dup d_X12_stepRead_47 rfl ?_
      refine aw_geti (k0 := 33) kc_12 (ws_1 w2) (Nat.le_of_ble_eq_true rfl) tw_1775 d_X12_stepRead_48 rfl ?_
      refine aw_iconst (v := 1) d_X12_stepRead_51 ic_1 ?_
      refine aw_iadd d_X12_stepRead_52 ?_
      refine aw_puti (k0 := 33) kc_12 (ws_1 w2) (Nat.le_of_ble_eq_true rfl) tw_1775 d_X12_stepRead_53 rfl rfl nf_i ?_
      refine aw_aload_n (i := 0) rfl d_X12_stepRead_56 0 rfl ?_
      refine aw_iconst (v := 1) d_X12_stepRead_57 ic_1 ?_
      refine aw_Vv 1 [.int 1] [] d_X12_stepRead_58 (cV_X12_say (d + 0) 0 0) kc_12 (ws_1 w2) tw_2210 rfl (rr0 (Nat.le_of_ble_eq_true rfl) (Nat.le_of_ble_eq_true rfl)) (Nat.le_of_ble_eq_true rfl) xs0 k (fun h79 kk => ?_)
      obtain ⟨w80, k⟩ := kk
      refine aw_aload_n (i := 0) rfl d_X12_stepRead_61 0 rfl ?_
      refine aw_aload_n (i := 0) rfl d_X12_stepRead_62 0 rfl ?_
      refine aw_iconst (v := 1) d_X12_stepRead_63 ic_1 ?_
      refine aw_sipush (v := 240) d_X12_stepRead_64 is_240 ?_
      refine aw_Vi 1 [.int 1, .int 240] [.ref 1] d_X12_stepRead_67 (cV_X12_within (d + 2) 0 0) kc_12 (ws_1 w80) tw_2214 rfl (rr0 (Nat.le_of_ble_eq_true rfl) (Nat.le_of_ble_eq_true rfl)) (Nat.le_of_ble_eq_true rfl) xs0 k (fun r84 h82 kk => ?_)
      obtain ⟨w83, k⟩ := kk
      refine aw_Vv 1 [.int r84] [] d_X12_stepRead_70 (cV_X12_say (d + 0) 0 0) kc_12 (ws_1 w83) tw_2210 rfl (rr0 (Nat.le_of_ble_eq_true rfl) (Nat.le_of_ble_eq_true rfl)) (Nat.le_of_ble_eq_true rfl) xs0 k (fun h85 kk => ?_)
      obtain ⟨w86, k⟩ := kk
      refine aw_goto (tgt := 270) d_X12_stepRead_73 rfl ?_
      exact aw_vret rfl d_X12_stepRead_270 ⟨Nat.le_refl _, Nat.le_refl _⟩ ⟨rfl, k⟩
  · have k := k.2 c4
    refine aw_aload_n (i := 0) rfl d_X12_stepRead_11 0 rfl ?_
    refine aw_dup d_X12_stepRead_12 rfl ?_
    refine aw_geti (k0 := 33) kc_12 (ws_1 w2) (Nat.le_of_ble_eq_true rfl) tw_1775 d_X12_stepRead_13 rfl ?_
    refine aw_iconst (v := 1) d_X12_stepRead_16 ic_1 ?_
    refine aw_iadd d_X12_stepRead_17 ?_
    refine aw_puti (k0 := 33) kc_12 (ws_1 w2) (Nat.le_of_ble_eq_true rfl) tw_1775 d_X12_stepRead_18 rfl rfl nf_i ?_
    refine aw_aload_n (i := 0) rfl d_X12_stepRead_21 0 rfl ?_
    refine aw_iconst (v := 0) d_X12_stepRead_22 ic_0 ?_
    refine aw_Vv 1 [.int 0] [] d_X12_stepRead_23 (cV_X12_say (d + 0) 0 0) kc_12 (ws_1 w2) tw_2210 rfl (rr0 (Nat.le_of_ble_eq_true rfl) (Nat.le_of_ble_eq_true rfl)) (Nat.le_of_ble_eq_true rfl) xs0 k (fun h88 kk => ?_)
    obtain ⟨w89, k⟩ := kk
    refine aw_aload_n (i := 0) rfl d_X12_stepRead_26 0 rfl ?_
    refine aw_aload_n (i := 0) rfl d_X12_stepRead_27 0 rfl ?_
    refine aw_iconst (v := 0) d_X12_stepRead_28 ic_0 ?_
    refine aw_bipush (v := 15) d_X12_stepRead_29 ib_15 ?_
    refine aw_Vi 1 [.int 0, .int 15] [.ref 1] d_X12_stepRead_31 (cV_X12_within (d + 2) 0 0) kc_12 (ws_1 w89) tw_2214 rfl (rr0 (Nat.le_of_ble_eq_true rfl) (Nat.le_of_ble_eq_true rfl)) (Nat.le_of_ble_eq_true rfl) xs0 k (fun r93 h91 kk => ?_)
    obtain ⟨w92, k⟩ := kk
    refine aw_Vv 1 [.int r93] [] d_X12_stepRead_34 (cV_X12_say (d + 0) 0 0) kc_12 (ws_1 w92) tw_2210 rfl (rr0 (Nat.le_of_ble_eq_true rfl) (Nat.le_of_ble_eq_true rfl)) (Nat.le_of_ble_eq_true rfl) xs0 k (fun h94 kk => ?_)
    obtain ⟨w95, k⟩ := kk
    refine aw_goto (tgt := 270) d_X12_stepRead_37 rfl ?_
    exact aw_vret rfl d_X12_stepRead_270 ⟨Nat.le_refl _, Nat.le_refl _⟩ ⟨rfl, k⟩
theorem t_X12_stepsRead (d : Nat) (h : Hp_) (w : Wf h)  (K : Hp_ → Prop) (k : Cv (m_X12_stepRead (d + 51) 0 0) [.ref 1] h (fun h1 => Wf h1 ∧ (AW (m_X12_stepsRead (d + 52) 0 0) 0 0 4 [(0, .ref 1)] [] h1 (kV K)))) : Cv (m_X12_stepsRead (d + 52) 0 0) [.ref 1] h K := by
  refine Ct.of (fun _ _ _ => trivial) pn_X12 (Nat.le_of_ble_eq_true rfl) ?_
  show AW (m_X12_stepsRead (d + 52) 0 0) 0 0 0 [(0, .ref 1)] [] h (kV K)
  refine aw_aload_n (i := 0) rfl d_X12_stepsRead_0 0 rfl ?_
  refine aw_Vv 1 [] [] d_X12_stepsRead_1 (cV_X12_stepRead (d + 51) 0 0) kc_12 (ws_1 w) tw_2202 rfl (rr0 (Nat.le_of_ble_eq_true rfl) (Nat.le_of_ble_eq_true rfl)) (Nat.le_of_ble_eq_true rfl) xs0 k (fun h1 kk => ?_)
  obtain ⟨w2, k⟩ := kk
  exact k
theorem t_X12_stepsRead_4 (d : Nat) (h : Hp_) (w : Wf h)  (K : Hp_ → Prop) (k : (¬ (h_i h 1 34) = (-1) → K h) ∧ ((h_i h 1 34) = (-1) → Ci (m_X12_look (d + 0) 0 0) [.ref 1] h (fun r7 h5 => Wf h5 ∧ ((¬ r7 = 59 → K h5) ∧ (r7 = 59 → Cv (m_X12_stepRead (d + 51) 0 0) [.ref 1] (h_im h5 1 33 ((h_i h5 1 33) + 1)) (fun h9 => Wf h9 ∧ (AW (m_X12_stepsRead (d + 52) 0 0) 0 0 4 [(0, .ref 1)] [] h9 (kV K)))))))) : AW (m_X12_stepsRead (d + 52) 0 0) 0 0 4 [(0, .ref 1)] [] h (kV K) := by
  refine aw_aload_n (i := 0) rfl d_X12_stepsRead_4 0 rfl ?_
  refine aw_geti (k0 := 34) kc_12 (ws_1 w) (Nat.le_of_ble_eq_true rfl) tw_1776 d_X12_stepsRead_5 rfl ?_
  refine aw_iconst (v := (-1)) d_X12_stepsRead_8 ic_m1 ?_
  refine aw_icmp_ne (tgt := 38) d_X12_stepsRead_9 rfl (fun c4 => ?_) (fun c4 => ?_)
  · have k := k.1 c4
    exact aw_vret rfl d_X12_stepsRead_38 ⟨Nat.le_refl _, Nat.le_refl _⟩ ⟨rfl, k⟩
  · have k := k.2 c4
    refine aw_aload_n (i := 0) rfl d_X12_stepsRead_12 0 rfl ?_
    refine aw_Vi 1 [] [] d_X12_stepsRead_13 (cV_X12_look (d + 0) 0 0) kc_12 (ws_1 w) tw_2206 rfl (rr0 (Nat.le_of_ble_eq_true rfl) (Nat.le_of_ble_eq_true rfl)) (Nat.le_of_ble_eq_true rfl) xs0 k (fun r7 h5 kk => ?_)
    obtain ⟨w6, k⟩ := kk
    refine aw_bipush (v := 59) d_X12_stepsRead_16 ib_59 ?_
    refine aw_icmp_ne (tgt := 38) d_X12_stepsRead_18 rfl (fun c8 => ?_) (fun c8 => ?_)
    · have k := k.1 c8
      exact aw_vret rfl d_X12_stepsRead_38 ⟨Nat.le_refl _, Nat.le_refl _⟩ ⟨rfl, k⟩
    · have k := k.2 c8
      refine aw_aload_n (i := 0) rfl d_X12_stepsRead_21 0 rfl ?_
      refine aw_dup d_X12_stepsRead_22 rfl ?_
      refine aw_geti (k0 := 33) kc_12 (ws_1 w6) (Nat.le_of_ble_eq_true rfl) tw_1775 d_X12_stepsRead_23 rfl ?_
      refine aw_iconst (v := 1) d_X12_stepsRead_26 ic_1 ?_
      refine aw_iadd d_X12_stepsRead_27 ?_
      refine aw_puti (k0 := 33) kc_12 (ws_1 w6) (Nat.le_of_ble_eq_true rfl) tw_1775 d_X12_stepsRead_28 rfl rfl nf_i ?_
      refine aw_aload_n (i := 0) rfl d_X12_stepsRead_31 0 rfl ?_
      refine aw_Vv 1 [] [] d_X12_stepsRead_32 (cV_X12_stepRead (d + 51) 0 0) kc_12 (ws_1 w6) tw_2202 rfl (rr0 (Nat.le_of_ble_eq_true rfl) (Nat.le_of_ble_eq_true rfl)) (Nat.le_of_ble_eq_true rfl) xs0 k (fun h9 kk => ?_)
      obtain ⟨w10, k⟩ := kk
      refine aw_goto (tgt := 4) d_X12_stepsRead_35 rfl ?_
      exact k
theorem t_X12_text (d : Nat) (h : Hp_) (w : Wf h) (x1 : Int32) (x2 : Int32) (K : Int32 → Hp_ → Prop) (k : (¬ (0 ≤ x2 ∧ x2 ≤ 30) → K (-1) h) ∧ ((0 ≤ x2 ∧ x2 ≤ 30) → vp_in x1 2 ∧ (((h_i h 235 x1.toNatClampNeg) = 20 → K (-1) h) ∧ (¬ (h_i h 235 x1.toNatClampNeg) = 20 → Ci (m_X12_fault (d + 59) 0 0) [.ref 1, .int (x1 + 1)] h (fun r8 h6 => Wf h6 ∧ ((r8 = (-1) → vp_in x1 2 ∧ (AW (m_X12_text (d + 60) 0 0) 0 0 49 [(0, .ref 1), (1, .int x1), (2, .int x2), (3, .int ((20 * x1) + (h_i h6 235 x1.toNatClampNeg))), (4, .int 0)] [] h6 (kI K))) ∧ (¬ r8 = (-1) → K (-1) h6))))))) : Ci (m_X12_text (d + 60) 0 0) [.ref 1, .int x1, .int x2] h K := by
  refine Ct.of (fun _ _ _ => trivial) pn_X12 (Nat.le_of_ble_eq_true rfl) ?_
  show AW (m_X12_text (d + 60) 0 0) 0 0 0 [(0, .ref 1), (1, .int x1), (2, .int x2)] [] h (kI K)
  refine aw_iload_n (i := 2) rfl d_X12_text_0 2 rfl ?_
  refine aw_iconst (v := 0) d_X12_text_1 ic_0 ?_
  refine aw_bipush (v := 30) d_X12_text_2 ib_30 ?_
  refine aw_Si [.int x2, .int 0, .int 30] [] d_X12_text_4 (cS_X12_in (d + 0) 0 0) tw_2143 rfl (rr0 (Nat.le_of_ble_eq_true rfl) (Nat.le_of_ble_eq_true rfl)) (Nat.le_of_ble_eq_true rfl) xs0 (s_X12_in _ _ x2 0 30) (fun _ _ kk => ?_)
  obtain ⟨e1, e2⟩ := kk
  rw [e1, e2]
  refine aw_ifb_eq (tgt := 32) d_X12_text_7 rfl (fun c3 => ?_) (fun c3 => ?_)
  · have k := k.1 c3
    refine aw_iconst (v := (-1)) d_X12_text_32 ic_m1 ?_
    exact aw_iret rfl d_X12_text_33 ⟨Nat.le_refl _, Nat.le_refl _⟩ ⟨_, rfl, k⟩
  · have k := k.2 c3
    refine aw_aload_n (i := 0) rfl d_X12_text_10 0 rfl ?_
    refine aw_getr (k0 := 49) kc_12 (ws_1 w) (Nat.le_of_ble_eq_true rfl) tw_1791 d_X12_text_11 rfl (wr_1_49 w) ?_
    refine aw_iload_n (i := 1) rfl d_X12_text_14 1 rfl ?_
    obtain ⟨b4, k⟩ := k
    refine aw_iald (ws_235 w) b4 d_X12_text_15 ?_
    refine aw_bipush (v := 20) d_X12_text_16 ib_20 ?_
    refine aw_icmp_eq (tgt := 32) d_X12_text_18 rfl (fun c5 => ?_) (fun c5 => ?_)
    · have k := k.1 c5
      refine aw_iconst (v := (-1)) d_X12_text_32 ic_m1 ?_
      exact aw_iret rfl d_X12_text_33 ⟨Nat.le_refl _, Nat.le_refl _⟩ ⟨_, rfl, k⟩
    · have k := k.2 c5
      refine aw_aload_n (i := 0) rfl d_X12_text_21 0 rfl ?_
      refine aw_iload_n (i := 1) rfl d_X12_text_22 1 rfl ?_
      refine aw_iconst (v := 1) d_X12_text_23 ic_1 ?_
      refine aw_iadd d_X12_text_24 ?_
      refine aw_Vi 1 [.int (x1 + 1)] [] d_X12_text_25 (cV_X12_fault (d + 59) 0 0) kc_12 (ws_1 w) tw_2194 rfl (rr0 (Nat.le_of_ble_eq_true rfl) (Nat.le_of_ble_eq_true rfl)) (Nat.le_of_ble_eq_true rfl) xs0 k (fun r8 h6 kk => ?_)
      obtain ⟨w7, k⟩ := kk
      refine aw_iconst (v := (-1)) d_X12_text_28 ic_m1 ?_
      refine aw_icmp_eq (tgt := 34) d_X12_text_29 rfl (fun c9 => ?_) (fun c9 => ?_)
      · have k := k.1 c9
        refine aw_bipush (v := 20) d_X12_text_34 ib_20 ?_
        refine aw_iload_n (i := 1) rfl d_X12_text_36 1 rfl ?_
        refine aw_imul d_X12_text_37 ?_
        refine aw_aload_n (i := 0) rfl d_X12_text_38 0 rfl ?_
        refine aw_getr (k0 := 49) kc_12 (ws_1 w7) (Nat.le_of_ble_eq_true rfl) tw_1791 d_X12_text_39 rfl (wr_1_49 w7) ?_
        refine aw_iload_n (i := 1) rfl d_X12_text_42 1 rfl ?_
        obtain ⟨b10, k⟩ := k
        refine aw_iald (ws_235 w7) b10 d_X12_text_43 ?_
        refine aw_iadd d_X12_text_44 ?_
        refine aw_istore_n (i := 3) rfl [(0, .ref 1), (1, .int x1), (2, .int x2), (3, .int ((20 * x1) + (h_i h6 235 x1.toNatClampNeg)))] d_X12_text_45 (Nat.le_of_ble_eq_true rfl) rfl rfl ?_
        refine aw_iconst (v := 0) d_X12_text_46 ic_0 ?_
        refine aw_istore [(0, .ref 1), (1, .int x1), (2, .int x2), (3, .int ((20 * x1) + (h_i h6 235 x1.toNatClampNeg))), (4, .int 0)] d_X12_text_47 (Nat.le_of_ble_eq_true rfl) rfl rfl ?_
        exact k
      · have k := k.2 c9
        refine aw_iconst (v := (-1)) d_X12_text_32 ic_m1 ?_
        exact aw_iret rfl d_X12_text_33 ⟨Nat.le_refl _, Nat.le_refl _⟩ ⟨_, rfl, k⟩
theorem t_X12_text_49 (d : Nat) (h : Hp_) (w : Wf h) (x1 : Int32) (x2 : Int32) (x3 : Int32) (x4 : Int32) (K : Int32 → Hp_ → Prop) (k : ((h_i h 1 36) ≤ x4 → vp_in x3 40 ∧ (vp_in x3 40 ∧ (vp_in x3 40 ∧ (vp_in x1 2 ∧ (vp_in x1 2 ∧ (vp_in x1 2 ∧ (K (((h_i h 235 x1.toNatClampNeg) + 1) - 1) (h_im (h_im (h_im (h_im (h_im h 232 x3.toNatClampNeg (h_i h 1 36)) 233 x3.toNatClampNeg x2) 234 x3.toNatClampNeg (h_i h 1 0)) 235 x1.toNatClampNeg ((h_i h 235 x1.toNatClampNeg) + 1)) 1 32 0)))))))) ∧ (¬ (h_i h 1 36) ≤ x4 → vp_in x4 560 ∧ (vp_in ((560 * x3) + x4) 22400 ∧ (AW (m_X12_text (d + 60) 0 0) 0 0 49 [(0, .ref 1), (1, .int x1), (2, .int x2), (3, .int x3), (4, .int (x4 + 1))] [] (h_im h 231 (((560 * x3) + x4) : Int32).toNatClampNeg (h_i h 226 x4.toNatClampNeg)) (kI K))))) : AW (m_X12_text (d + 60) 0 0) 0 0 49 [(0, .ref 1), (1, .int x1), (2, .int x2), (3, .int x3), (4, .int x4)] [] h (kI K) := by
  refine aw_iload d_X12_text_49 4 rfl ?_
  refine aw_aload_n (i := 0) rfl d_X12_text_51 0 rfl ?_
  refine aw_geti (k0 := 36) kc_12 (ws_1 w) (Nat.le_of_ble_eq_true rfl) tw_1778 d_X12_text_52 rfl ?_
  refine aw_icmp_ge (tgt := 84) d_X12_text_55 rfl (fun c11 => ?_) (fun c11 => ?_)
  · have k := k.1 c11
    refine aw_aload_n (i := 0) rfl d_X12_text_84 0 rfl ?_
    refine aw_getr (k0 := 46) kc_12 (ws_1 w) (Nat.le_of_ble_eq_true rfl) tw_1788 d_X12_text_85 rfl (wr_1_46 w) ?_
    refine aw_iload_n (i := 3) rfl d_X12_text_88 3 rfl ?_
    refine aw_aload_n (i := 0) rfl d_X12_text_89 0 rfl ?_
    refine aw_geti (k0 := 36) kc_12 (ws_1 w) (Nat.le_of_ble_eq_true rfl) tw_1778 d_X12_text_90 rfl ?_
    obtain ⟨b12, k⟩ := k
    refine aw_iast (ws_232 w) b12 d_X12_text_93 ?_
    refine aw_aload_n (i := 0) rfl d_X12_text_94 0 rfl ?_
    refine aw_getr (k0 := 47) kc_12 (ws_1 w) (Nat.le_of_ble_eq_true rfl) tw_1789 d_X12_text_95 rfl (wr_1_47 w) ?_
    refine aw_iload_n (i := 3) rfl d_X12_text_98 3 rfl ?_
    refine aw_iload_n (i := 2) rfl d_X12_text_99 2 rfl ?_
    obtain ⟨b13, k⟩ := k
    refine aw_iast (ws_233 w) b13 d_X12_text_100 ?_
    refine aw_aload_n (i := 0) rfl d_X12_text_101 0 rfl ?_
    refine aw_getr (k0 := 48) kc_12 (ws_1 w) (Nat.le_of_ble_eq_true rfl) tw_1790 d_X12_text_102 rfl (wr_1_48 w) ?_
    refine aw_iload_n (i := 3) rfl d_X12_text_105 3 rfl ?_
    refine aw_aload_n (i := 0) rfl d_X12_text_106 0 rfl ?_
    refine aw_geti (k0 := 0) kc_12 (ws_1 w) (Nat.le_of_ble_eq_true rfl) tw_1742 d_X12_text_107 rfl ?_
    refine aw_vi (v2 := (h_i h 1 0)) (rfl) ?_
    obtain ⟨b14, k⟩ := k
    refine aw_iast (ws_234 w) b14 d_X12_text_110 ?_
    refine aw_aload_n (i := 0) rfl d_X12_text_111 0 rfl ?_
    refine aw_getr (k0 := 49) kc_12 (ws_1 w) (Nat.le_of_ble_eq_true rfl) tw_1791 d_X12_text_112 rfl (wr_1_49 w) ?_
    refine aw_iload_n (i := 1) rfl d_X12_text_115 1 rfl ?_
    refine aw_dup2 d_X12_text_116 ⟨rfl, rfl⟩ ?_
    obtain ⟨b15, k⟩ := k
    refine aw_iald (ws_235 w) b15 d_X12_text_117 ?_
    refine aw_vi (v2 := (h_i h 235 x1.toNatClampNeg)) (rfl) ?_
    refine aw_iconst (v := 1) d_X12_text_118 ic_1 ?_
    refine aw_iadd d_X12_text_119 ?_
    obtain ⟨b16, k⟩ := k
    refine aw_iast (ws_235 w) b16 d_X12_text_120 ?_
    refine aw_aload_n (i := 0) rfl d_X12_text_121 0 rfl ?_
    refine aw_iconst (v := 0) d_X12_text_122 ic_0 ?_
    refine aw_puti (k0 := 32) kc_12 (ws_1 w) (Nat.le_of_ble_eq_true rfl) tw_1774 d_X12_text_123 rfl rfl nf_i ?_
    refine aw_aload_n (i := 0) rfl d_X12_text_126 0 rfl ?_
    refine aw_getr (k0 := 49) kc_12 (ws_1 w) (Nat.le_of_ble_eq_true rfl) tw_1791 d_X12_text_127 rfl (wr_1_49 w) ?_
    refine aw_iload_n (i := 1) rfl d_X12_text_130 1 rfl ?_
    obtain ⟨b17, k⟩ := k
    refine aw_iald (ws_235 w) b17 d_X12_text_131 ?_
    refine aw_vi (v2 := ((h_i h 235 x1.toNatClampNeg) + 1)) (by rw [im_ne (by decide), im_at]) ?_
    refine aw_iconst (v := 1) d_X12_text_132 ic_1 ?_
    refine aw_isub d_X12_text_133 ?_
    exact aw_iret rfl d_X12_text_134 ⟨Nat.le_refl _, Nat.le_refl _⟩ ⟨_, rfl, k⟩
  · have k := k.2 c11
    refine aw_aload_n (i := 0) rfl d_X12_text_58 0 rfl ?_
    refine aw_getr (k0 := 45) kc_12 (ws_1 w) (Nat.le_of_ble_eq_true rfl) tw_1787 d_X12_text_59 rfl (wr_1_45 w) ?_
    refine aw_sipush (v := 560) d_X12_text_62 is_560 ?_
    refine aw_iload_n (i := 3) rfl d_X12_text_65 3 rfl ?_
    refine aw_imul d_X12_text_66 ?_
    refine aw_iload d_X12_text_67 4 rfl ?_
    refine aw_iadd d_X12_text_69 ?_
    refine aw_aload_n (i := 0) rfl d_X12_text_70 0 rfl ?_
    refine aw_getr (k0 := 31) kc_12 (ws_1 w) (Nat.le_of_ble_eq_true rfl) tw_1773 d_X12_text_71 rfl (wr_1_31 w) ?_
    refine aw_iload d_X12_text_74 4 rfl ?_
    obtain ⟨b18, k⟩ := k
    refine aw_iald (ws_226 w) b18 d_X12_text_76 ?_
    obtain ⟨b19, k⟩ := k
    refine aw_iast (ws_231 w) b19 d_X12_text_77 ?_
    refine aw_iinc (v := (x4 + 1)) [(0, .ref 1), (1, .int x1), (2, .int x2), (3, .int x3), (4, .int (x4 + 1))] d_X12_text_78 4 rfl rfl (Nat.le_of_ble_eq_true rfl) rfl rfl ?_
    refine aw_goto (tgt := 49) d_X12_text_81 rfl ?_
    exact k
theorem t_X12_act (d : Nat) (h : Hp_) (w : Wf h) (x1 : Int32) (K : Int32 → Hp_ → Prop) (k : Ci (m_X12_text (d + 60) 0 0) [.ref 1, .int 0, .int x1] h (fun r3 h1 => Wf h1 ∧ (K r3 h1))) : Ci (m_X12_act (d + 61) 0 0) [.ref 1, .int x1] h K := by
  refine Ct.of (fun _ _ _ => trivial) pn_X12 (Nat.le_of_ble_eq_true rfl) ?_
  show AW (m_X12_act (d + 61) 0 0) 0 0 0 [(0, .ref 1), (1, .int x1)] [] h (kI K)
  refine aw_aload_n (i := 0) rfl d_X12_act_0 0 rfl ?_
  refine aw_iconst (v := 0) d_X12_act_1 ic_0 ?_
  refine aw_iload_n (i := 1) rfl d_X12_act_2 1 rfl ?_
  refine aw_Vi 1 [.int 0, .int x1] [] d_X12_act_3 (cV_X12_text (d + 60) 0 0) kc_12 (ws_1 w) tw_2296 rfl (rr0 (Nat.le_of_ble_eq_true rfl) (Nat.le_of_ble_eq_true rfl)) (Nat.le_of_ble_eq_true rfl) xs0 k (fun r3 h1 kk => ?_)
  obtain ⟨w2, k⟩ := kk
  exact aw_iret rfl d_X12_act_6 ⟨Nat.le_refl _, Nat.le_refl _⟩ ⟨_, rfl, k⟩
theorem t_X12_pay (d : Nat) (h : Hp_) (w : Wf h) (x1 : Int32) (K : Int32 → Hp_ → Prop) (k : Ci (m_X12_text (d + 60) 0 0) [.ref 1, .int 1, .int x1] h (fun r3 h1 => Wf h1 ∧ (K r3 h1))) : Ci (m_X12_pay (d + 61) 0 0) [.ref 1, .int x1] h K := by
  refine Ct.of (fun _ _ _ => trivial) pn_X12 (Nat.le_of_ble_eq_true rfl) ?_
  show AW (m_X12_pay (d + 61) 0 0) 0 0 0 [(0, .ref 1), (1, .int x1)] [] h (kI K)
  refine aw_aload_n (i := 0) rfl d_X12_pay_0 0 rfl ?_
  refine aw_iconst (v := 1) d_X12_pay_1 ic_1 ?_
  refine aw_iload_n (i := 1) rfl d_X12_pay_2 1 rfl ?_
  refine aw_Vi 1 [.int 1, .int x1] [] d_X12_pay_3 (cV_X12_text (d + 60) 0 0) kc_12 (ws_1 w) tw_2296 rfl (rr0 (Nat.le_of_ble_eq_true rfl) (Nat.le_of_ble_eq_true rfl)) (Nat.le_of_ble_eq_true rfl) xs0 k (fun r3 h1 kk => ?_)
  obtain ⟨w2, k⟩ := kk
  exact aw_iret rfl d_X12_pay_6 ⟨Nat.le_refl _, Nat.le_refl _⟩ ⟨_, rfl, k⟩
theorem t_X12_beat (d : Nat) (h : Hp_) (w : Wf h)  (K : Int32 → Hp_ → Prop) (k : ((h_i h 1 42) = 12 → K (-1) h) ∧ (¬ (h_i h 1 42) = 12 → Ci (m_X12_fault (d + 59) 0 0) [.ref 1, .int 0] h (fun r4 h2 => Wf h2 ∧ ((r4 = (-1) → Ci (m_X12_unfold (d + 0) 0 0) [.ref 1, .int 0, .int 1] (h_im h2 1 43 0) (fun r8 h6 => Wf h6 ∧ ((¬ r8 = 0 → vp_in (h_i h6 1 42) 12 ∧ (K (((h_i h6 1 42) + 1) - 1) (h_im (h_im (h_im h6 227 ((h_i h6 1 42) : Int32).toNatClampNeg (h_i h6 1 43)) 1 42 ((h_i h6 1 42) + 1)) 1 32 0))) ∧ (r8 = 0 → K (-1) h6)))) ∧ (¬ r4 = (-1) → K (-1) h2))))) : Ci (m_X12_beat (d + 60) 0 0) [.ref 1] h K := by
  refine Ct.of (fun _ _ _ => trivial) pn_X12 (Nat.le_of_ble_eq_true rfl) ?_
  show AW (m_X12_beat (d + 60) 0 0) 0 0 0 [(0, .ref 1)] [] h (kI K)
  refine aw_aload_n (i := 0) rfl d_X12_beat_0 0 rfl ?_
  refine aw_geti (k0 := 42) kc_12 (ws_1 w) (Nat.le_of_ble_eq_true rfl) tw_1784 d_X12_beat_1 rfl ?_
  refine aw_bipush (v := 12) d_X12_beat_4 ib_12 ?_
  refine aw_icmp_eq (tgt := 18) d_X12_beat_6 rfl (fun c1 => ?_) (fun c1 => ?_)
  · have k := k.1 c1
    refine aw_iconst (v := (-1)) d_X12_beat_18 ic_m1 ?_
    exact aw_iret rfl d_X12_beat_19 ⟨Nat.le_refl _, Nat.le_refl _⟩ ⟨_, rfl, k⟩
  · have k := k.2 c1
    refine aw_aload_n (i := 0) rfl d_X12_beat_9 0 rfl ?_
    refine aw_iconst (v := 0) d_X12_beat_10 ic_0 ?_
    refine aw_Vi 1 [.int 0] [] d_X12_beat_11 (cV_X12_fault (d + 59) 0 0) kc_12 (ws_1 w) tw_2194 rfl (rr0 (Nat.le_of_ble_eq_true rfl) (Nat.le_of_ble_eq_true rfl)) (Nat.le_of_ble_eq_true rfl) xs0 k (fun r4 h2 kk => ?_)
    obtain ⟨w3, k⟩ := kk
    refine aw_iconst (v := (-1)) d_X12_beat_14 ic_m1 ?_
    refine aw_icmp_eq (tgt := 20) d_X12_beat_15 rfl (fun c5 => ?_) (fun c5 => ?_)
    · have k := k.1 c5
      refine aw_aload_n (i := 0) rfl d_X12_beat_20 0 rfl ?_
      refine aw_iconst (v := 0) d_X12_beat_21 ic_0 ?_
      refine aw_puti (k0 := 43) kc_12 (ws_1 w3) (Nat.le_of_ble_eq_true rfl) tw_1785 d_X12_beat_22 rfl rfl nf_i ?_
      refine aw_aload_n (i := 0) rfl d_X12_beat_25 0 rfl ?_
      refine aw_iconst (v := 0) d_X12_beat_26 ic_0 ?_
      refine aw_iconst (v := 1) d_X12_beat_27 ic_1 ?_
      refine aw_Vi 1 [.int 0, .int 1] [] d_X12_beat_28 (cV_X12_unfold (d + 0) 0 0) kc_12 (ws_1 w3) tw_2279 rfl (rr0 (Nat.le_of_ble_eq_true rfl) (Nat.le_of_ble_eq_true rfl)) (Nat.le_of_ble_eq_true rfl) xs0 k (fun r8 h6 kk => ?_)
      obtain ⟨w7, k⟩ := kk
      refine aw_if_ne (tgt := 36) d_X12_beat_31 rfl (fun c9 => ?_) (fun c9 => ?_)
      · have k := k.1 c9
        refine aw_aload_n (i := 0) rfl d_X12_beat_36 0 rfl ?_
        refine aw_getr (k0 := 38) kc_12 (ws_1 w7) (Nat.le_of_ble_eq_true rfl) tw_1780 d_X12_beat_37 rfl (wr_1_38 w7) ?_
        refine aw_aload_n (i := 0) rfl d_X12_beat_40 0 rfl ?_
        refine aw_geti (k0 := 42) kc_12 (ws_1 w7) (Nat.le_of_ble_eq_true rfl) tw_1784 d_X12_beat_41 rfl ?_
        refine aw_aload_n (i := 0) rfl d_X12_beat_44 0 rfl ?_
        refine aw_geti (k0 := 43) kc_12 (ws_1 w7) (Nat.le_of_ble_eq_true rfl) tw_1785 d_X12_beat_45 rfl ?_
        obtain ⟨b10, k⟩ := k
        refine aw_iast (ws_227 w7) b10 d_X12_beat_48 ?_
        refine aw_aload_n (i := 0) rfl d_X12_beat_49 0 rfl ?_
        refine aw_dup d_X12_beat_50 rfl ?_
        refine aw_geti (k0 := 42) kc_12 (ws_1 w7) (Nat.le_of_ble_eq_true rfl) tw_1784 d_X12_beat_51 rfl ?_
        refine aw_vi (v2 := (h_i h6 1 42)) (rfl) ?_
        refine aw_iconst (v := 1) d_X12_beat_54 ic_1 ?_
        refine aw_iadd d_X12_beat_55 ?_
        refine aw_puti (k0 := 42) kc_12 (ws_1 w7) (Nat.le_of_ble_eq_true rfl) tw_1784 d_X12_beat_56 rfl rfl nf_i ?_
        refine aw_aload_n (i := 0) rfl d_X12_beat_59 0 rfl ?_
        refine aw_iconst (v := 0) d_X12_beat_60 ic_0 ?_
        refine aw_puti (k0 := 32) kc_12 (ws_1 w7) (Nat.le_of_ble_eq_true rfl) tw_1774 d_X12_beat_61 rfl rfl nf_i ?_
        refine aw_aload_n (i := 0) rfl d_X12_beat_64 0 rfl ?_
        refine aw_geti (k0 := 42) kc_12 (ws_1 w7) (Nat.le_of_ble_eq_true rfl) tw_1784 d_X12_beat_65 rfl ?_
        refine aw_vi (v2 := ((h_i h6 1 42) + 1)) (rfl) ?_
        refine aw_iconst (v := 1) d_X12_beat_68 ic_1 ?_
        refine aw_isub d_X12_beat_69 ?_
        exact aw_iret rfl d_X12_beat_70 ⟨Nat.le_refl _, Nat.le_refl _⟩ ⟨_, rfl, k⟩
      · have k := k.2 c9
        refine aw_iconst (v := (-1)) d_X12_beat_34 ic_m1 ?_
        exact aw_iret rfl d_X12_beat_35 ⟨Nat.le_refl _, Nat.le_refl _⟩ ⟨_, rfl, k⟩
    · have k := k.2 c5
      refine aw_iconst (v := (-1)) d_X12_beat_18 ic_m1 ?_
      exact aw_iret rfl d_X12_beat_19 ⟨Nat.le_refl _, Nat.le_refl _⟩ ⟨_, rfl, k⟩
end
section
theorem t_X12_unfold (d : Nat) (h : Hp_) (w : Wf h) (x1 : Int32) (x2 : Int32) (K : Int32 → Hp_ → Prop) (k : AW (m_X12_unfold (d + 1) 0 0) 0 0 5 [(0, .ref 1), (2, .int x2)] [] (h_im h 1 44 x1) (kI K)) : Ci (m_X12_unfold (d + 1) 0 0) [.ref 1, .int x1, .int x2] h K := by
  refine Ct.of (fun _ _ _ => trivial) pn_X12 (Nat.le_of_ble_eq_true rfl) ?_
  show AW (m_X12_unfold (d + 1) 0 0) 0 0 0 [(0, .ref 1), (1, .int x1), (2, .int x2)] [] h (kI K)
  refine aw_aload_n (i := 0) rfl d_X12_unfold_0 0 rfl ?_
  refine aw_iload_n (i := 1) rfl d_X12_unfold_1 1 rfl ?_
  refine aw_puti (k0 := 44) kc_12 (ws_1 w) (Nat.le_of_ble_eq_true rfl) tw_1786 d_X12_unfold_2 rfl rfl nf_i ?_
  exact aw_lvp [0, 2] [(0, .ref 1), (2, .int x2)] rfl k
theorem t_X12_unfold_5 (d : Nat) (h : Hp_) (w : Wf h) (x2 : Int32) (K : Int32 → Hp_ → Prop) (k : ((h_i h 1 36) ≤ (h_i h 1 44) → K 1 h) ∧ (¬ (h_i h 1 36) ≤ (h_i h 1 44) → vp_in (h_i h 1 44) 560 ∧ (((h_i h 226 ((h_i h 1 44) : Int32).toNatClampNeg) = 5 → K 1 h) ∧ (¬ (h_i h 226 ((h_i h 1 44) : Int32).toNatClampNeg) = 5 → vp_in (h_i h 1 44) 560 ∧ ((¬ (h_i h 226 ((h_i h 1 44) : Int32).toNatClampNeg) = 4 → (¬ (h_i h 1 43) = 150 → (¬ 12 = (h_i h 1 42) → AW (m_X12_unfold (d + 1) 0 0) 0 0 158 [(0, .ref 1), (2, .int x2), (3, .int (h_i h 226 ((h_i h 1 44) : Int32).toNatClampNeg))] [.int ((150 * (h_i h 1 42)) + (h_i h 1 43))] h (kI K)) ∧ (12 = (h_i h 1 42) → AW (m_X12_unfold (d + 1) 0 0) 0 0 158 [(0, .ref 1), (2, .int x2), (3, .int (h_i h 226 ((h_i h 1 44) : Int32).toNatClampNeg))] [.int 0] h (kI K))) ∧ ((h_i h 1 43) = 150 → K 0 h)) ∧ ((h_i h 226 ((h_i h 1 44) : Int32).toNatClampNeg) = 4 → Ci (m_X12_unfold (d + 0) 0 0) [.ref 1, .int ((h_i h 1 44) + 1), .int x2] h (fun r10 h8 => Wf h8 ∧ ((¬ r10 = 0 → vp_in ((h_i h8 1 44) + 1) 560 ∧ (AW (m_X12_unfold (d + 1) 0 0) 0 0 84 [(0, .ref 1), (2, .int x2), (4, .int ((h_i h 1 44) + 1)), (5, .int (h_i h8 1 44)), (6, .int (h_i h8 226 (((h_i h8 1 44) + 1) : Int32).toNatClampNeg)), (7, .int 1)] [] h8 (kI K))) ∧ (r10 = 0 → K 0 h8))))))))) : AW (m_X12_unfold (d + 1) 0 0) 0 0 5 [(0, .ref 1), (2, .int x2)] [] h (kI K) := by
  refine aw_aload_n (i := 0) rfl d_X12_unfold_5 0 rfl ?_
  refine aw_geti (k0 := 44) kc_12 (ws_1 w) (Nat.le_of_ble_eq_true rfl) tw_1786 d_X12_unfold_6 rfl ?_
  refine aw_aload_n (i := 0) rfl d_X12_unfold_9 0 rfl ?_
  refine aw_geti (k0 := 36) kc_12 (ws_1 w) (Nat.le_of_ble_eq_true rfl) tw_1778 d_X12_unfold_10 rfl ?_
  refine aw_icmp_ge (tgt := 267) d_X12_unfold_13 rfl (fun c1 => ?_) (fun c1 => ?_)
  · have k := k.1 c1
    refine aw_iconst (v := 1) d_X12_unfold_267 ic_1 ?_
    exact aw_zret rfl rfl d_X12_unfold_268 ⟨Nat.le_refl _, Nat.le_refl _⟩ ⟨_, rfl, k⟩
  · have k := k.2 c1
    refine aw_aload_n (i := 0) rfl d_X12_unfold_16 0 rfl ?_
    refine aw_getr (k0 := 31) kc_12 (ws_1 w) (Nat.le_of_ble_eq_true rfl) tw_1773 d_X12_unfold_17 rfl (wr_1_31 w) ?_
    refine aw_aload_n (i := 0) rfl d_X12_unfold_20 0 rfl ?_
    refine aw_geti (k0 := 44) kc_12 (ws_1 w) (Nat.le_of_ble_eq_true rfl) tw_1786 d_X12_unfold_21 rfl ?_
    obtain ⟨b2, k⟩ := k
    refine aw_iald (ws_226 w) b2 d_X12_unfold_24 ?_
    refine aw_iconst (v := 5) d_X12_unfold_25 ic_5 ?_
    refine aw_icmp_eq (tgt := 267) d_X12_unfold_26 rfl (fun c3 => ?_) (fun c3 => ?_)
    · have k := k.1 c3
      refine aw_iconst (v := 1) d_X12_unfold_267 ic_1 ?_
      exact aw_zret rfl rfl d_X12_unfold_268 ⟨Nat.le_refl _, Nat.le_refl _⟩ ⟨_, rfl, k⟩
    · have k := k.2 c3
      refine aw_aload_n (i := 0) rfl d_X12_unfold_29 0 rfl ?_
      refine aw_getr (k0 := 31) kc_12 (ws_1 w) (Nat.le_of_ble_eq_true rfl) tw_1773 d_X12_unfold_30 rfl (wr_1_31 w) ?_
      refine aw_aload_n (i := 0) rfl d_X12_unfold_33 0 rfl ?_
      refine aw_geti (k0 := 44) kc_12 (ws_1 w) (Nat.le_of_ble_eq_true rfl) tw_1786 d_X12_unfold_34 rfl ?_
      obtain ⟨b4, k⟩ := k
      refine aw_iald (ws_226 w) b4 d_X12_unfold_37 ?_
      refine aw_istore_n (i := 3) rfl [(0, .ref 1), (2, .int x2), (3, .int (h_i h 226 ((h_i h 1 44) : Int32).toNatClampNeg))] d_X12_unfold_38 (Nat.le_of_ble_eq_true rfl) rfl rfl ?_
      refine aw_iload_n (i := 3) rfl d_X12_unfold_39 2 rfl ?_
      refine aw_iconst (v := 4) d_X12_unfold_40 ic_4 ?_
      refine aw_icmp_ne (tgt := 120) d_X12_unfold_41 rfl (fun c5 => ?_) (fun c5 => ?_)
      · have k := k.1 c5
        refine aw_aload_n (i := 0) rfl d_X12_unfold_120 0 rfl ?_
        refine aw_geti (k0 := 43) kc_12 (ws_1 w) (Nat.le_of_ble_eq_true rfl) tw_1785 d_X12_unfold_121 rfl ?_
        refine aw_sipush (v := 150) d_X12_unfold_124 is_150 ?_
        refine aw_icmp_ne (tgt := 132) d_X12_unfold_127 rfl (fun c6 => ?_) (fun c6 => ?_)
        · have k := k.1 c6
          refine aw_bipush (v := 12) d_X12_unfold_132 ib_12 ?_
          refine aw_aload_n (i := 0) rfl d_X12_unfold_134 0 rfl ?_
          refine aw_geti (k0 := 42) kc_12 (ws_1 w) (Nat.le_of_ble_eq_true rfl) tw_1784 d_X12_unfold_135 rfl ?_
          refine aw_icmp_ne (tgt := 145) d_X12_unfold_138 rfl (fun c7 => ?_) (fun c7 => ?_)
          · have k := k.1 c7
            refine aw_sipush (v := 150) d_X12_unfold_145 is_150 ?_
            refine aw_aload_n (i := 0) rfl d_X12_unfold_148 0 rfl ?_
            refine aw_geti (k0 := 42) kc_12 (ws_1 w) (Nat.le_of_ble_eq_true rfl) tw_1784 d_X12_unfold_149 rfl ?_
            refine aw_imul d_X12_unfold_152 ?_
            refine aw_aload_n (i := 0) rfl d_X12_unfold_153 0 rfl ?_
            refine aw_geti (k0 := 43) kc_12 (ws_1 w) (Nat.le_of_ble_eq_true rfl) tw_1785 d_X12_unfold_154 rfl ?_
            refine aw_iadd d_X12_unfold_157 ?_
            exact k
          · have k := k.2 c7
            refine aw_iconst (v := 0) d_X12_unfold_141 ic_0 ?_
            refine aw_goto (tgt := 158) d_X12_unfold_142 rfl ?_
            exact k
        · have k := k.2 c6
          refine aw_iconst (v := 0) d_X12_unfold_130 ic_0 ?_
          exact aw_zret rfl rfl d_X12_unfold_131 ⟨Nat.le_refl _, Nat.le_refl _⟩ ⟨_, rfl, k⟩
      · have k := k.2 c5
        refine aw_aload_n (i := 0) rfl d_X12_unfold_44 0 rfl ?_
        refine aw_geti (k0 := 44) kc_12 (ws_1 w) (Nat.le_of_ble_eq_true rfl) tw_1786 d_X12_unfold_45 rfl ?_
        refine aw_iconst (v := 1) d_X12_unfold_48 ic_1 ?_
        refine aw_iadd d_X12_unfold_49 ?_
        refine aw_istore [(0, .ref 1), (2, .int x2), (3, .int (h_i h 226 ((h_i h 1 44) : Int32).toNatClampNeg)), (4, .int ((h_i h 1 44) + 1))] d_X12_unfold_50 (Nat.le_of_ble_eq_true rfl) rfl rfl ?_
        refine aw_aload_n (i := 0) rfl d_X12_unfold_52 0 rfl ?_
        refine aw_iload d_X12_unfold_53 3 rfl ?_
        refine aw_iload_n (i := 2) rfl d_X12_unfold_55 1 rfl ?_
        refine aw_Vi 1 [.int ((h_i h 1 44) + 1), .int x2] [] d_X12_unfold_56 (cV_X12_unfold (d + 0) 0 0) kc_12 (ws_1 w) tw_2279 rfl (rr0 (Nat.le_of_ble_eq_true rfl) (Nat.le_of_ble_eq_true rfl)) (Nat.le_of_ble_eq_true rfl) xs0 k (fun r10 h8 kk => ?_)
        obtain ⟨w9, k⟩ := kk
        refine aw_if_ne (tgt := 64) d_X12_unfold_59 rfl (fun c11 => ?_) (fun c11 => ?_)
        · have k := k.1 c11
          refine aw_aload_n (i := 0) rfl d_X12_unfold_64 0 rfl ?_
          refine aw_geti (k0 := 44) kc_12 (ws_1 w9) (Nat.le_of_ble_eq_true rfl) tw_1786 d_X12_unfold_65 rfl ?_
          refine aw_istore [(0, .ref 1), (2, .int x2), (3, .int (h_i h 226 ((h_i h 1 44) : Int32).toNatClampNeg)), (4, .int ((h_i h 1 44) + 1)), (5, .int (h_i h8 1 44))] d_X12_unfold_68 (Nat.le_of_ble_eq_true rfl) rfl rfl ?_
          refine aw_aload_n (i := 0) rfl d_X12_unfold_70 0 rfl ?_
          refine aw_getr (k0 := 31) kc_12 (ws_1 w9) (Nat.le_of_ble_eq_true rfl) tw_1773 d_X12_unfold_71 rfl (wr_1_31 w9) ?_
          refine aw_iload d_X12_unfold_74 4 rfl ?_
          refine aw_iconst (v := 1) d_X12_unfold_76 ic_1 ?_
          refine aw_iadd d_X12_unfold_77 ?_
          obtain ⟨b12, k⟩ := k
          refine aw_iald (ws_226 w9) b12 d_X12_unfold_78 ?_
          refine aw_istore [(0, .ref 1), (2, .int x2), (3, .int (h_i h 226 ((h_i h 1 44) : Int32).toNatClampNeg)), (4, .int ((h_i h 1 44) + 1)), (5, .int (h_i h8 1 44)), (6, .int (h_i h8 226 (((h_i h8 1 44) + 1) : Int32).toNatClampNeg))] d_X12_unfold_79 (Nat.le_of_ble_eq_true rfl) rfl rfl ?_
          refine aw_iconst (v := 1) d_X12_unfold_81 ic_1 ?_
          refine aw_istore [(0, .ref 1), (2, .int x2), (3, .int (h_i h 226 ((h_i h 1 44) : Int32).toNatClampNeg)), (4, .int ((h_i h 1 44) + 1)), (5, .int (h_i h8 1 44)), (6, .int (h_i h8 226 (((h_i h8 1 44) + 1) : Int32).toNatClampNeg)), (7, .int 1)] d_X12_unfold_82 (Nat.le_of_ble_eq_true rfl) rfl rfl ?_
          exact aw_lvp [0, 1, 3, 4, 5, 6] [(0, .ref 1), (2, .int x2), (4, .int ((h_i h 1 44) + 1)), (5, .int (h_i h8 1 44)), (6, .int (h_i h8 226 (((h_i h8 1 44) + 1) : Int32).toNatClampNeg)), (7, .int 1)] rfl k
        · have k := k.2 c11
          refine aw_iconst (v := 0) d_X12_unfold_62 ic_0 ?_
          exact aw_zret rfl rfl d_X12_unfold_63 ⟨Nat.le_refl _, Nat.le_refl _⟩ ⟨_, rfl, k⟩
theorem t_X12_unfold_158 (d : Nat) (h : Hp_) (w : Wf h) (x2 : Int32) (x3 : Int32) (s0 : Int32) (K : Int32 → Hp_ → Prop) (k : (x2 = 0 → (¬ x3 = 3 → (¬ x3 = 2 → AW (m_X12_unfold (d + 1) 0 0) 0 0 5 [(0, .ref 1), (2, .int x2)] [] (h_im (h_im h 1 43 ((h_i h 1 43) + 1)) 1 44 ((h_i h 1 44) + 2)) (kI K)) ∧ (x3 = 2 → AW (m_X12_unfold (d + 1) 0 0) 0 0 5 [(0, .ref 1), (2, .int x2)] [] (h_im (h_im h 1 43 ((h_i h 1 43) + 1)) 1 44 ((h_i h 1 44) + 3)) (kI K))) ∧ (x3 = 3 → AW (m_X12_unfold (d + 1) 0 0) 0 0 5 [(0, .ref 1), (2, .int x2)] [] (h_im (h_im h 1 43 ((h_i h 1 43) + 1)) 1 44 ((h_i h 1 44) + 1)) (kI K))) ∧ (¬ x2 = 0 → vp_in s0 1800 ∧ ((¬ x3 = 3 → vp_in ((h_i h 1 44) + 1) 560 ∧ (vp_in s0 1800 ∧ ((¬ x3 = 2 → vp_in s0 1800 ∧ ((¬ x3 = 3 → (¬ x3 = 2 → AW (m_X12_unfold (d + 1) 0 0) 0 0 5 [(0, .ref 1), (2, .int x2)] [] (h_im (h_im (h_im (h_im (h_im h 228 s0.toNatClampNeg x3) 229 s0.toNatClampNeg (h_i h 226 (((h_i h 1 44) + 1) : Int32).toNatClampNeg)) 230 s0.toNatClampNeg 0) 1 43 ((h_i h 1 43) + 1)) 1 44 ((h_i h 1 44) + 2)) (kI K)) ∧ (x3 = 2 → AW (m_X12_unfold (d + 1) 0 0) 0 0 5 [(0, .ref 1), (2, .int x2)] [] (h_im (h_im (h_im (h_im (h_im h 228 s0.toNatClampNeg x3) 229 s0.toNatClampNeg (h_i h 226 (((h_i h 1 44) + 1) : Int32).toNatClampNeg)) 230 s0.toNatClampNeg 0) 1 43 ((h_i h 1 43) + 1)) 1 44 ((h_i h 1 44) + 3)) (kI K))) ∧ (x3 = 3 → AW (m_X12_unfold (d + 1) 0 0) 0 0 5 [(0, .ref 1), (2, .int x2)] [] (h_im (h_im (h_im (h_im (h_im h 228 s0.toNatClampNeg x3) 229 s0.toNatClampNeg (h_i h 226 (((h_i h 1 44) + 1) : Int32).toNatClampNeg)) 230 s0.toNatClampNeg 0) 1 43 ((h_i h 1 43) + 1)) 1 44 ((h_i h 1 44) + 1)) (kI K)))) ∧ (x3 = 2 → vp_in ((h_i h 1 44) + 2) 560 ∧ (vp_in s0 1800 ∧ ((¬ x3 = 3 → (¬ x3 = 2 → AW (m_X12_unfold (d + 1) 0 0) 0 0 5 [(0, .ref 1), (2, .int x2)] [] (h_im (h_im (h_im (h_im (h_im h 228 s0.toNatClampNeg x3) 229 s0.toNatClampNeg (h_i h 226 (((h_i h 1 44) + 1) : Int32).toNatClampNeg)) 230 s0.toNatClampNeg (h_i h 226 (((h_i h 1 44) + 2) : Int32).toNatClampNeg)) 1 43 ((h_i h 1 43) + 1)) 1 44 ((h_i h 1 44) + 2)) (kI K)) ∧ (x3 = 2 → AW (m_X12_unfold (d + 1) 0 0) 0 0 5 [(0, .ref 1), (2, .int x2)] [] (h_im (h_im (h_im (h_im (h_im h 228 s0.toNatClampNeg x3) 229 s0.toNatClampNeg (h_i h 226 (((h_i h 1 44) + 1) : Int32).toNatClampNeg)) 230 s0.toNatClampNeg (h_i h 226 (((h_i h 1 44) + 2) : Int32).toNatClampNeg)) 1 43 ((h_i h 1 43) + 1)) 1 44 ((h_i h 1 44) + 3)) (kI K))) ∧ (x3 = 3 → AW (m_X12_unfold (d + 1) 0 0) 0 0 5 [(0, .ref 1), (2, .int x2)] [] (h_im (h_im (h_im (h_im (h_im h 228 s0.toNatClampNeg x3) 229 s0.toNatClampNeg (h_i h 226 (((h_i h 1 44) + 1) : Int32).toNatClampNeg)) 230 s0.toNatClampNeg (h_i h 226 (((h_i h 1 44) + 2) : Int32).toNatClampNeg)) 1 43 ((h_i h 1 43) + 1)) 1 44 ((h_i h 1 44) + 1)) (kI K)))))))) ∧ (x3 = 3 → vp_in s0 1800 ∧ ((¬ x3 = 2 → vp_in s0 1800 ∧ ((¬ x3 = 3 → (¬ x3 = 2 → AW (m_X12_unfold (d + 1) 0 0) 0 0 5 [(0, .ref 1), (2, .int x2)] [] (h_im (h_im (h_im (h_im (h_im h 228 s0.toNatClampNeg x3) 229 s0.toNatClampNeg 0) 230 s0.toNatClampNeg 0) 1 43 ((h_i h 1 43) + 1)) 1 44 ((h_i h 1 44) + 2)) (kI K)) ∧ (x3 = 2 → AW (m_X12_unfold (d + 1) 0 0) 0 0 5 [(0, .ref 1), (2, .int x2)] [] (h_im (h_im (h_im (h_im (h_im h 228 s0.toNatClampNeg x3) 229 s0.toNatClampNeg 0) 230 s0.toNatClampNeg 0) 1 43 ((h_i h 1 43) + 1)) 1 44 ((h_i h 1 44) + 3)) (kI K))) ∧ (x3 = 3 → AW (m_X12_unfold (d + 1) 0 0) 0 0 5 [(0, .ref 1), (2, .int x2)] [] (h_im (h_im (h_im (h_im (h_im h 228 s0.toNatClampNeg x3) 229 s0.toNatClampNeg 0) 230 s0.toNatClampNeg 0) 1 43 ((h_i h 1 43) + 1)) 1 44 ((h_i h 1 44) + 1)) (kI K)))) ∧ (x3 = 2 → vp_in ((h_i h 1 44) + 2) 560 ∧ (vp_in s0 1800 ∧ ((¬ x3 = 3 → (¬ x3 = 2 → AW (m_X12_unfold (d + 1) 0 0) 0 0 5 [(0, .ref 1), (2, .int x2)] [] (h_im (h_im (h_im (h_im (h_im h 228 s0.toNatClampNeg x3) 229 s0.toNatClampNeg 0) 230 s0.toNatClampNeg (h_i h 226 (((h_i h 1 44) + 2) : Int32).toNatClampNeg)) 1 43 ((h_i h 1 43) + 1)) 1 44 ((h_i h 1 44) + 2)) (kI K)) ∧ (x3 = 2 → AW (m_X12_unfold (d + 1) 0 0) 0 0 5 [(0, .ref 1), (2, .int x2)] [] (h_im (h_im (h_im (h_im (h_im h 228 s0.toNatClampNeg x3) 229 s0.toNatClampNeg 0) 230 s0.toNatClampNeg (h_i h 226 (((h_i h 1 44) + 2) : Int32).toNatClampNeg)) 1 43 ((h_i h 1 43) + 1)) 1 44 ((h_i h 1 44) + 3)) (kI K))) ∧ (x3 = 3 → AW (m_X12_unfold (d + 1) 0 0) 0 0 5 [(0, .ref 1), (2, .int x2)] [] (h_im (h_im (h_im (h_im (h_im h 228 s0.toNatClampNeg x3) 229 s0.toNatClampNeg 0) 230 s0.toNatClampNeg (h_i h 226 (((h_i h 1 44) + 2) : Int32).toNatClampNeg)) 1 43 ((h_i h 1 43) + 1)) 1 44 ((h_i h 1 44) + 1)) (kI K)))))))))) : AW (m_X12_unfold (d + 1) 0 0) 0 0 158 [(0, .ref 1), (2, .int x2), (3, .int x3)] [.int s0] h (kI K) := by
  refine aw_istore [(0, .ref 1), (2, .int x2), (3, .int x3), (4, .int s0)] d_X12_unfold_158 (Nat.le_of_ble_eq_true rfl) rfl rfl ?_
  refine aw_iload_n (i := 2) rfl d_X12_unfold_160 1 rfl ?_
  refine aw_if_eq (tgt := 226) d_X12_unfold_161 rfl (fun c13 => ?_) (fun c13 => ?_)
  · have k := k.1 c13
    refine aw_aload_n (i := 0) rfl d_X12_unfold_226 0 rfl ?_
    refine aw_dup d_X12_unfold_227 rfl ?_
    refine aw_geti (k0 := 43) kc_12 (ws_1 w) (Nat.le_of_ble_eq_true rfl) tw_1785 d_X12_unfold_228 rfl ?_
    refine aw_iconst (v := 1) d_X12_unfold_231 ic_1 ?_
    refine aw_iadd d_X12_unfold_232 ?_
    refine aw_puti (k0 := 43) kc_12 (ws_1 w) (Nat.le_of_ble_eq_true rfl) tw_1785 d_X12_unfold_233 rfl rfl nf_i ?_
    refine aw_aload_n (i := 0) rfl d_X12_unfold_236 0 rfl ?_
    refine aw_dup d_X12_unfold_237 rfl ?_
    refine aw_geti (k0 := 44) kc_12 (ws_1 w) (Nat.le_of_ble_eq_true rfl) tw_1786 d_X12_unfold_238 rfl ?_
    refine aw_vi (v2 := (h_i h 1 44)) (rfl) ?_
    refine aw_iload_n (i := 3) rfl d_X12_unfold_241 2 rfl ?_
    refine aw_iconst (v := 3) d_X12_unfold_242 ic_3 ?_
    refine aw_icmp_ne (tgt := 250) d_X12_unfold_243 rfl (fun c14 => ?_) (fun c14 => ?_)
    · have k := k.1 c14
      refine aw_iload_n (i := 3) rfl d_X12_unfold_250 2 rfl ?_
      refine aw_iconst (v := 2) d_X12_unfold_251 ic_2 ?_
      refine aw_icmp_ne (tgt := 259) d_X12_unfold_252 rfl (fun c15 => ?_) (fun c15 => ?_)
      · have k := k.1 c15
        refine aw_iconst (v := 2) d_X12_unfold_259 ic_2 ?_
        refine aw_iadd d_X12_unfold_260 ?_
        refine aw_puti (k0 := 44) kc_12 (ws_1 w) (Nat.le_of_ble_eq_true rfl) tw_1786 d_X12_unfold_261 rfl rfl nf_i ?_
        refine aw_goto (tgt := 5) d_X12_unfold_264 rfl ?_
        exact aw_lvp [0, 1] [(0, .ref 1), (2, .int x2)] rfl k
      · have k := k.2 c15
        refine aw_iconst (v := 3) d_X12_unfold_255 ic_3 ?_
        refine aw_goto (tgt := 260) d_X12_unfold_256 rfl ?_
        refine aw_iadd d_X12_unfold_260 ?_
        refine aw_puti (k0 := 44) kc_12 (ws_1 w) (Nat.le_of_ble_eq_true rfl) tw_1786 d_X12_unfold_261 rfl rfl nf_i ?_
        refine aw_goto (tgt := 5) d_X12_unfold_264 rfl ?_
        exact aw_lvp [0, 1] [(0, .ref 1), (2, .int x2)] rfl k
    · have k := k.2 c14
      refine aw_iconst (v := 1) d_X12_unfold_246 ic_1 ?_
      refine aw_goto (tgt := 260) d_X12_unfold_247 rfl ?_
      refine aw_iadd d_X12_unfold_260 ?_
      refine aw_puti (k0 := 44) kc_12 (ws_1 w) (Nat.le_of_ble_eq_true rfl) tw_1786 d_X12_unfold_261 rfl rfl nf_i ?_
      refine aw_goto (tgt := 5) d_X12_unfold_264 rfl ?_
      exact aw_lvp [0, 1] [(0, .ref 1), (2, .int x2)] rfl k
  · have k := k.2 c13
    refine aw_aload_n (i := 0) rfl d_X12_unfold_164 0 rfl ?_
    refine aw_getr (k0 := 39) kc_12 (ws_1 w) (Nat.le_of_ble_eq_true rfl) tw_1781 d_X12_unfold_165 rfl (wr_1_39 w) ?_
    refine aw_iload d_X12_unfold_168 3 rfl ?_
    refine aw_iload_n (i := 3) rfl d_X12_unfold_170 2 rfl ?_
    obtain ⟨b16, k⟩ := k
    refine aw_iast (ws_228 w) b16 d_X12_unfold_171 ?_
    refine aw_aload_n (i := 0) rfl d_X12_unfold_172 0 rfl ?_
    refine aw_getr (k0 := 40) kc_12 (ws_1 w) (Nat.le_of_ble_eq_true rfl) tw_1782 d_X12_unfold_173 rfl (wr_1_40 w) ?_
    refine aw_iload d_X12_unfold_176 3 rfl ?_
    refine aw_iload_n (i := 3) rfl d_X12_unfold_178 2 rfl ?_
    refine aw_iconst (v := 3) d_X12_unfold_179 ic_3 ?_
    refine aw_icmp_ne (tgt := 187) d_X12_unfold_180 rfl (fun c17 => ?_) (fun c17 => ?_)
    · have k := k.1 c17
      refine aw_aload_n (i := 0) rfl d_X12_unfold_187 0 rfl ?_
      refine aw_getr (k0 := 31) kc_12 (ws_1 w) (Nat.le_of_ble_eq_true rfl) tw_1773 d_X12_unfold_188 rfl (wr_1_31 w) ?_
      refine aw_aload_n (i := 0) rfl d_X12_unfold_191 0 rfl ?_
      refine aw_geti (k0 := 44) kc_12 (ws_1 w) (Nat.le_of_ble_eq_true rfl) tw_1786 d_X12_unfold_192 rfl ?_
      refine aw_vi (v2 := (h_i h 1 44)) (rfl) ?_
      refine aw_iconst (v := 1) d_X12_unfold_195 ic_1 ?_
      refine aw_iadd d_X12_unfold_196 ?_
      obtain ⟨b18, k⟩ := k
      refine aw_iald (ws_226 w) b18 d_X12_unfold_197 ?_
      refine aw_vi (v2 := (h_i h 226 (((h_i h 1 44) + 1) : Int32).toNatClampNeg)) (rfl) ?_
      obtain ⟨b19, k⟩ := k
      refine aw_iast (ws_229 w) b19 d_X12_unfold_198 ?_
      refine aw_aload_n (i := 0) rfl d_X12_unfold_199 0 rfl ?_
      refine aw_getr (k0 := 41) kc_12 (ws_1 w) (Nat.le_of_ble_eq_true rfl) tw_1783 d_X12_unfold_200 rfl (wr_1_41 w) ?_
      refine aw_iload d_X12_unfold_203 3 rfl ?_
      refine aw_iload_n (i := 3) rfl d_X12_unfold_205 2 rfl ?_
      refine aw_iconst (v := 2) d_X12_unfold_206 ic_2 ?_
      refine aw_icmp_ne (tgt := 224) d_X12_unfold_207 rfl (fun c20 => ?_) (fun c20 => ?_)
      · have k := k.1 c20
        refine aw_iconst (v := 0) d_X12_unfold_224 ic_0 ?_
        obtain ⟨b21, k⟩ := k
        refine aw_iast (ws_230 w) b21 d_X12_unfold_225 ?_
        refine aw_aload_n (i := 0) rfl d_X12_unfold_226 0 rfl ?_
        refine aw_dup d_X12_unfold_227 rfl ?_
        refine aw_geti (k0 := 43) kc_12 (ws_1 w) (Nat.le_of_ble_eq_true rfl) tw_1785 d_X12_unfold_228 rfl ?_
        refine aw_vi (v2 := (h_i h 1 43)) (rfl) ?_
        refine aw_iconst (v := 1) d_X12_unfold_231 ic_1 ?_
        refine aw_iadd d_X12_unfold_232 ?_
        refine aw_puti (k0 := 43) kc_12 (ws_1 w) (Nat.le_of_ble_eq_true rfl) tw_1785 d_X12_unfold_233 rfl rfl nf_i ?_
        refine aw_aload_n (i := 0) rfl d_X12_unfold_236 0 rfl ?_
        refine aw_dup d_X12_unfold_237 rfl ?_
        refine aw_geti (k0 := 44) kc_12 (ws_1 w) (Nat.le_of_ble_eq_true rfl) tw_1786 d_X12_unfold_238 rfl ?_
        refine aw_vi (v2 := (h_i h 1 44)) (rfl) ?_
        refine aw_iload_n (i := 3) rfl d_X12_unfold_241 2 rfl ?_
        refine aw_iconst (v := 3) d_X12_unfold_242 ic_3 ?_
        refine aw_icmp_ne (tgt := 250) d_X12_unfold_243 rfl (fun c22 => ?_) (fun c22 => ?_)
        · have k := k.1 c22
          refine aw_iload_n (i := 3) rfl d_X12_unfold_250 2 rfl ?_
          refine aw_iconst (v := 2) d_X12_unfold_251 ic_2 ?_
          refine aw_icmp_ne (tgt := 259) d_X12_unfold_252 rfl (fun c23 => ?_) (fun c23 => ?_)
          · have k := k.1 c23
            refine aw_iconst (v := 2) d_X12_unfold_259 ic_2 ?_
            refine aw_iadd d_X12_unfold_260 ?_
            refine aw_puti (k0 := 44) kc_12 (ws_1 w) (Nat.le_of_ble_eq_true rfl) tw_1786 d_X12_unfold_261 rfl rfl nf_i ?_
            refine aw_goto (tgt := 5) d_X12_unfold_264 rfl ?_
            exact aw_lvp [0, 1] [(0, .ref 1), (2, .int x2)] rfl k
          · have k := k.2 c23
            refine aw_iconst (v := 3) d_X12_unfold_255 ic_3 ?_
            refine aw_goto (tgt := 260) d_X12_unfold_256 rfl ?_
            refine aw_iadd d_X12_unfold_260 ?_
            refine aw_puti (k0 := 44) kc_12 (ws_1 w) (Nat.le_of_ble_eq_true rfl) tw_1786 d_X12_unfold_261 rfl rfl nf_i ?_
            refine aw_goto (tgt := 5) d_X12_unfold_264 rfl ?_
            exact aw_lvp [0, 1] [(0, .ref 1), (2, .int x2)] rfl k
        · have k := k.2 c22
          refine aw_iconst (v := 1) d_X12_unfold_246 ic_1 ?_
          refine aw_goto (tgt := 260) d_X12_unfold_247 rfl ?_
          refine aw_iadd d_X12_unfold_260 ?_
          refine aw_puti (k0 := 44) kc_12 (ws_1 w) (Nat.le_of_ble_eq_true rfl) tw_1786 d_X12_unfold_261 rfl rfl nf_i ?_
          refine aw_goto (tgt := 5) d_X12_unfold_264 rfl ?_
          exact aw_lvp [0, 1] [(0, .ref 1), (2, .int x2)] rfl k
      · have k := k.2 c20
        refine aw_aload_n (i := 0) rfl d_X12_unfold_210 0 rfl ?_
        refine aw_getr (k0 := 31) kc_12 (ws_1 w) (Nat.le_of_ble_eq_true rfl) tw_1773 d_X12_unfold_211 rfl (wr_1_31 w) ?_
        refine aw_aload_n (i := 0) rfl d_X12_unfold_214 0 rfl ?_
        refine aw_geti (k0 := 44) kc_12 (ws_1 w) (Nat.le_of_ble_eq_true rfl) tw_1786 d_X12_unfold_215 rfl ?_
        refine aw_vi (v2 := (h_i h 1 44)) (rfl) ?_
        refine aw_iconst (v := 2) d_X12_unfold_218 ic_2 ?_
        refine aw_iadd d_X12_unfold_219 ?_
        obtain ⟨b24, k⟩ := k
        refine aw_iald (ws_226 w) b24 d_X12_unfold_220 ?_
        refine aw_vi (v2 := (h_i h 226 (((h_i h 1 44) + 2) : Int32).toNatClampNeg)) (rfl) ?_
        refine aw_goto (tgt := 225) d_X12_unfold_221 rfl ?_
        obtain ⟨b25, k⟩ := k
        refine aw_iast (ws_230 w) b25 d_X12_unfold_225 ?_
        refine aw_aload_n (i := 0) rfl d_X12_unfold_226 0 rfl ?_
        refine aw_dup d_X12_unfold_227 rfl ?_
        refine aw_geti (k0 := 43) kc_12 (ws_1 w) (Nat.le_of_ble_eq_true rfl) tw_1785 d_X12_unfold_228 rfl ?_
        refine aw_vi (v2 := (h_i h 1 43)) (rfl) ?_
        refine aw_iconst (v := 1) d_X12_unfold_231 ic_1 ?_
        refine aw_iadd d_X12_unfold_232 ?_
        refine aw_puti (k0 := 43) kc_12 (ws_1 w) (Nat.le_of_ble_eq_true rfl) tw_1785 d_X12_unfold_233 rfl rfl nf_i ?_
        refine aw_aload_n (i := 0) rfl d_X12_unfold_236 0 rfl ?_
        refine aw_dup d_X12_unfold_237 rfl ?_
        refine aw_geti (k0 := 44) kc_12 (ws_1 w) (Nat.le_of_ble_eq_true rfl) tw_1786 d_X12_unfold_238 rfl ?_
        refine aw_vi (v2 := (h_i h 1 44)) (rfl) ?_
        refine aw_iload_n (i := 3) rfl d_X12_unfold_241 2 rfl ?_
        refine aw_iconst (v := 3) d_X12_unfold_242 ic_3 ?_
        refine aw_icmp_ne (tgt := 250) d_X12_unfold_243 rfl (fun c26 => ?_) (fun c26 => ?_)
        · have k := k.1 c26
          refine aw_iload_n (i := 3) rfl d_X12_unfold_250 2 rfl ?_
          refine aw_iconst (v := 2) d_X12_unfold_251 ic_2 ?_
          refine aw_icmp_ne (tgt := 259) d_X12_unfold_252 rfl (fun c27 => ?_) (fun c27 => ?_)
          · have k := k.1 c27
            refine aw_iconst (v := 2) d_X12_unfold_259 ic_2 ?_
            refine aw_iadd d_X12_unfold_260 ?_
            refine aw_puti (k0 := 44) kc_12 (ws_1 w) (Nat.le_of_ble_eq_true rfl) tw_1786 d_X12_unfold_261 rfl rfl nf_i ?_
            refine aw_goto (tgt := 5) d_X12_unfold_264 rfl ?_
            exact aw_lvp [0, 1] [(0, .ref 1), (2, .int x2)] rfl k
          · have k := k.2 c27
            refine aw_iconst (v := 3) d_X12_unfold_255 ic_3 ?_
            refine aw_goto (tgt := 260) d_X12_unfold_256 rfl ?_
            refine aw_iadd d_X12_unfold_260 ?_
            refine aw_puti (k0 := 44) kc_12 (ws_1 w) (Nat.le_of_ble_eq_true rfl) tw_1786 d_X12_unfold_261 rfl rfl nf_i ?_
            refine aw_goto (tgt := 5) d_X12_unfold_264 rfl ?_
            exact aw_lvp [0, 1] [(0, .ref 1), (2, .int x2)] rfl k
        · have k := k.2 c26
          refine aw_iconst (v := 1) d_X12_unfold_246 ic_1 ?_
          refine aw_goto (tgt := 260) d_X12_unfold_247 rfl ?_
          refine aw_iadd d_X12_unfold_260 ?_
          refine aw_puti (k0 := 44) kc_12 (ws_1 w) (Nat.le_of_ble_eq_true rfl) tw_1786 d_X12_unfold_261 rfl rfl nf_i ?_
          refine aw_goto (tgt := 5) d_X12_unfold_264 rfl ?_
          exact aw_lvp [0, 1] [(0, .ref 1), (2, .int x2)] rfl k
    · have k := k.2 c17
      refine aw_iconst (v := 0) d_X12_unfold_183 ic_0 ?_
      refine aw_goto (tgt := 198) d_X12_unfold_184 rfl ?_
      obtain ⟨b28, k⟩ := k
      refine aw_iast (ws_229 w) b28 d_X12_unfold_198 ?_
      refine aw_aload_n (i := 0) rfl d_X12_unfold_199 0 rfl ?_
      refine aw_getr (k0 := 41) kc_12 (ws_1 w) (Nat.le_of_ble_eq_true rfl) tw_1783 d_X12_unfold_200 rfl (wr_1_41 w) ?_
      refine aw_iload d_X12_unfold_203 3 rfl ?_
      refine aw_iload_n (i := 3) rfl d_X12_unfold_205 2 rfl ?_
      refine aw_iconst (v := 2) d_X12_unfold_206 ic_2 ?_
      refine aw_icmp_ne (tgt := 224) d_X12_unfold_207 rfl (fun c29 => ?_) (fun c29 => ?_)
      · have k := k.1 c29
        refine aw_iconst (v := 0) d_X12_unfold_224 ic_0 ?_
        obtain ⟨b30, k⟩ := k
        refine aw_iast (ws_230 w) b30 d_X12_unfold_225 ?_
        refine aw_aload_n (i := 0) rfl d_X12_unfold_226 0 rfl ?_
        refine aw_dup d_X12_unfold_227 rfl ?_
        refine aw_geti (k0 := 43) kc_12 (ws_1 w) (Nat.le_of_ble_eq_true rfl) tw_1785 d_X12_unfold_228 rfl ?_
        refine aw_vi (v2 := (h_i h 1 43)) (rfl) ?_
        refine aw_iconst (v := 1) d_X12_unfold_231 ic_1 ?_
        refine aw_iadd d_X12_unfold_232 ?_
        refine aw_puti (k0 := 43) kc_12 (ws_1 w) (Nat.le_of_ble_eq_true rfl) tw_1785 d_X12_unfold_233 rfl rfl nf_i ?_
        refine aw_aload_n (i := 0) rfl d_X12_unfold_236 0 rfl ?_
        refine aw_dup d_X12_unfold_237 rfl ?_
        refine aw_geti (k0 := 44) kc_12 (ws_1 w) (Nat.le_of_ble_eq_true rfl) tw_1786 d_X12_unfold_238 rfl ?_
        refine aw_vi (v2 := (h_i h 1 44)) (rfl) ?_
        refine aw_iload_n (i := 3) rfl d_X12_unfold_241 2 rfl ?_
        refine aw_iconst (v := 3) d_X12_unfold_242 ic_3 ?_
        refine aw_icmp_ne (tgt := 250) d_X12_unfold_243 rfl (fun c31 => ?_) (fun c31 => ?_)
        · have k := k.1 c31
          refine aw_iload_n (i := 3) rfl d_X12_unfold_250 2 rfl ?_
          refine aw_iconst (v := 2) d_X12_unfold_251 ic_2 ?_
          refine aw_icmp_ne (tgt := 259) d_X12_unfold_252 rfl (fun c32 => ?_) (fun c32 => ?_)
          · have k := k.1 c32
            refine aw_iconst (v := 2) d_X12_unfold_259 ic_2 ?_
            refine aw_iadd d_X12_unfold_260 ?_
            refine aw_puti (k0 := 44) kc_12 (ws_1 w) (Nat.le_of_ble_eq_true rfl) tw_1786 d_X12_unfold_261 rfl rfl nf_i ?_
            refine aw_goto (tgt := 5) d_X12_unfold_264 rfl ?_
            exact aw_lvp [0, 1] [(0, .ref 1), (2, .int x2)] rfl k
          · have k := k.2 c32
            refine aw_iconst (v := 3) d_X12_unfold_255 ic_3 ?_
            refine aw_goto (tgt := 260) d_X12_unfold_256 rfl ?_
            refine aw_iadd d_X12_unfold_260 ?_
            refine aw_puti (k0 := 44) kc_12 (ws_1 w) (Nat.le_of_ble_eq_true rfl) tw_1786 d_X12_unfold_261 rfl rfl nf_i ?_
            refine aw_goto (tgt := 5) d_X12_unfold_264 rfl ?_
            exact aw_lvp [0, 1] [(0, .ref 1), (2, .int x2)] rfl k
        · have k := k.2 c31
          refine aw_iconst (v := 1) d_X12_unfold_246 ic_1 ?_
          refine aw_goto (tgt := 260) d_X12_unfold_247 rfl ?_
          refine aw_iadd d_X12_unfold_260 ?_
          refine aw_puti (k0 := 44) kc_12 (ws_1 w) (Nat.le_of_ble_eq_true rfl) tw_1786 d_X12_unfold_261 rfl rfl nf_i ?_
          refine aw_goto (tgt := 5) d_X12_unfold_264 rfl ?_
          exact aw_lvp [0, 1] [(0, .ref 1), (2, .int x2)] rfl k
      · have k := k.2 c29
        refine aw_aload_n (i := 0) rfl d_X12_unfold_210 0 rfl ?_
        refine aw_getr (k0 := 31) kc_12 (ws_1 w) (Nat.le_of_ble_eq_true rfl) tw_1773 d_X12_unfold_211 rfl (wr_1_31 w) ?_
        refine aw_aload_n (i := 0) rfl d_X12_unfold_214 0 rfl ?_
        refine aw_geti (k0 := 44) kc_12 (ws_1 w) (Nat.le_of_ble_eq_true rfl) tw_1786 d_X12_unfold_215 rfl ?_
        refine aw_vi (v2 := (h_i h 1 44)) (rfl) ?_
        refine aw_iconst (v := 2) d_X12_unfold_218 ic_2 ?_
        refine aw_iadd d_X12_unfold_219 ?_
        obtain ⟨b33, k⟩ := k
        refine aw_iald (ws_226 w) b33 d_X12_unfold_220 ?_
        refine aw_vi (v2 := (h_i h 226 (((h_i h 1 44) + 2) : Int32).toNatClampNeg)) (rfl) ?_
        refine aw_goto (tgt := 225) d_X12_unfold_221 rfl ?_
        obtain ⟨b34, k⟩ := k
        refine aw_iast (ws_230 w) b34 d_X12_unfold_225 ?_
        refine aw_aload_n (i := 0) rfl d_X12_unfold_226 0 rfl ?_
        refine aw_dup d_X12_unfold_227 rfl ?_
        refine aw_geti (k0 := 43) kc_12 (ws_1 w) (Nat.le_of_ble_eq_true rfl) tw_1785 d_X12_unfold_228 rfl ?_
        refine aw_vi (v2 := (h_i h 1 43)) (rfl) ?_
        refine aw_iconst (v := 1) d_X12_unfold_231 ic_1 ?_
        refine aw_iadd d_X12_unfold_232 ?_
        refine aw_puti (k0 := 43) kc_12 (ws_1 w) (Nat.le_of_ble_eq_true rfl) tw_1785 d_X12_unfold_233 rfl rfl nf_i ?_
        refine aw_aload_n (i := 0) rfl d_X12_unfold_236 0 rfl ?_
        refine aw_dup d_X12_unfold_237 rfl ?_
        refine aw_geti (k0 := 44) kc_12 (ws_1 w) (Nat.le_of_ble_eq_true rfl) tw_1786 d_X12_unfold_238 rfl ?_
        refine aw_vi (v2 := (h_i h 1 44)) (rfl) ?_
        refine aw_iload_n (i := 3) rfl d_X12_unfold_241 2 rfl ?_
        refine aw_iconst (v := 3) d_X12_unfold_242 ic_3 ?_
        refine aw_icmp_ne (tgt := 250) d_X12_unfold_243 rfl (fun c35 => ?_) (fun c35 => ?_)
        · have k := k.1 c35
          refine aw_iload_n (i := 3) rfl d_X12_unfold_250 2 rfl ?_
          refine aw_iconst (v := 2) d_X12_unfold_251 ic_2 ?_
          refine aw_icmp_ne (tgt := 259) d_X12_unfold_252 rfl (fun c36 => ?_) (fun c36 => ?_)
          · have k := k.1 c36
            refine aw_iconst (v := 2) d_X12_unfold_259 ic_2 ?_
            refine aw_iadd d_X12_unfold_260 ?_
            refine aw_puti (k0 := 44) kc_12 (ws_1 w) (Nat.le_of_ble_eq_true rfl) tw_1786 d_X12_unfold_261 rfl rfl nf_i ?_
            refine aw_goto (tgt := 5) d_X12_unfold_264 rfl ?_
            exact aw_lvp [0, 1] [(0, .ref 1), (2, .int x2)] rfl k
          · have k := k.2 c36
            refine aw_iconst (v := 3) d_X12_unfold_255 ic_3 ?_
            refine aw_goto (tgt := 260) d_X12_unfold_256 rfl ?_
            refine aw_iadd d_X12_unfold_260 ?_
            refine aw_puti (k0 := 44) kc_12 (ws_1 w) (Nat.le_of_ble_eq_true rfl) tw_1786 d_X12_unfold_261 rfl rfl nf_i ?_
            refine aw_goto (tgt := 5) d_X12_unfold_264 rfl ?_
            exact aw_lvp [0, 1] [(0, .ref 1), (2, .int x2)] rfl k
        · have k := k.2 c35
          refine aw_iconst (v := 1) d_X12_unfold_246 ic_1 ?_
          refine aw_goto (tgt := 260) d_X12_unfold_247 rfl ?_
          refine aw_iadd d_X12_unfold_260 ?_
          refine aw_puti (k0 := 44) kc_12 (ws_1 w) (Nat.le_of_ble_eq_true rfl) tw_1786 d_X12_unfold_261 rfl rfl nf_i ?_
          refine aw_goto (tgt := 5) d_X12_unfold_264 rfl ?_
          exact aw_lvp [0, 1] [(0, .ref 1), (2, .int x2)] rfl k
theorem t_X12_unfold_84 (d : Nat) (h : Hp_) (w : Wf h) (x2 : Int32) (x4 : Int32) (x5 : Int32) (x6 : Int32) (x7 : Int32) (K : Int32 → Hp_ → Prop) (k : (x6 ≤ x7 → AW (m_X12_unfold (d + 1) 0 0) 0 0 5 [(0, .ref 1), (2, .int x2)] [] (h_im h 1 44 (x5 + 2)) (kI K)) ∧ (¬ x6 ≤ x7 → Ci (m_X12_unfold (d + 0) 0 0) [.ref 1, .int x4, .int x2] h (fun r40 h38 => Wf h38 ∧ ((¬ r40 = 0 → AW (m_X12_unfold (d + 1) 0 0) 0 0 84 [(0, .ref 1), (2, .int x2), (4, .int x4), (5, .int x5), (6, .int x6), (7, .int (x7 + 1))] [] h38 (kI K)) ∧ (r40 = 0 → K 0 h38))))) : AW (m_X12_unfold (d + 1) 0 0) 0 0 84 [(0, .ref 1), (2, .int x2), (4, .int x4), (5, .int x5), (6, .int x6), (7, .int x7)] [] h (kI K) := by
  refine aw_iload d_X12_unfold_84 5 rfl ?_
  refine aw_iload d_X12_unfold_86 4 rfl ?_
  refine aw_icmp_ge (tgt := 109) d_X12_unfold_88 rfl (fun c37 => ?_) (fun c37 => ?_)
  · have k := k.1 c37
    refine aw_aload_n (i := 0) rfl d_X12_unfold_109 0 rfl ?_
    refine aw_iload d_X12_unfold_110 3 rfl ?_
    refine aw_iconst (v := 2) d_X12_unfold_112 ic_2 ?_
    refine aw_iadd d_X12_unfold_113 ?_
    refine aw_puti (k0 := 44) kc_12 (ws_1 w) (Nat.le_of_ble_eq_true rfl) tw_1786 d_X12_unfold_114 rfl rfl nf_i ?_
    refine aw_goto (tgt := 5) d_X12_unfold_117 rfl ?_
    exact aw_lvp [0, 1] [(0, .ref 1), (2, .int x2)] rfl k
  · have k := k.2 c37
    refine aw_aload_n (i := 0) rfl d_X12_unfold_91 0 rfl ?_
    refine aw_iload d_X12_unfold_92 2 rfl ?_
    refine aw_iload_n (i := 2) rfl d_X12_unfold_94 1 rfl ?_
    refine aw_Vi 1 [.int x4, .int x2] [] d_X12_unfold_95 (cV_X12_unfold (d + 0) 0 0) kc_12 (ws_1 w) tw_2279 rfl (rr0 (Nat.le_of_ble_eq_true rfl) (Nat.le_of_ble_eq_true rfl)) (Nat.le_of_ble_eq_true rfl) xs0 k (fun r40 h38 kk => ?_)
    obtain ⟨w39, k⟩ := kk
    refine aw_if_ne (tgt := 103) d_X12_unfold_98 rfl (fun c41 => ?_) (fun c41 => ?_)
    · have k := k.1 c41
      refine aw_iinc (v := (x7 + 1)) [(0, .ref 1), (2, .int x2), (4, .int x4), (5, .int x5), (6, .int x6), (7, .int (x7 + 1))] d_X12_unfold_103 5 rfl rfl (Nat.le_of_ble_eq_true rfl) rfl rfl ?_
      refine aw_goto (tgt := 84) d_X12_unfold_106 rfl ?_
      exact k
    · have k := k.2 c41
      refine aw_iconst (v := 0) d_X12_unfold_101 ic_0 ?_
      exact aw_zret rfl rfl d_X12_unfold_102 ⟨Nat.le_refl _, Nat.le_refl _⟩ ⟨_, rfl, k⟩
end
section
theorem t_X12_rankOn (d : Nat) (h : Hp_) (w : Wf h) (x1 : Int32) (x2 : Int32) (x3 : Int32) (K : Int32 → Hp_ → Prop) (k : vp_in x1 12 ∧ (AW (m_X12_rankOn (d + 0) 0 0) 0 0 14 [(0, .ref 1), (1, .int x1), (2, .int x2), (3, .int x3), (4, .int (h_i h 204 x1.toNatClampNeg)), (5, .int (-1)), (6, .int 0)] [] h (kI K))) : Ci (m_X12_rankOn (d + 0) 0 0) [.ref 1, .int x1, .int x2, .int x3] h K := by
  refine Ct.of (fun _ _ _ => trivial) pn_X12 (Nat.le_of_ble_eq_true rfl) ?_
  show AW (m_X12_rankOn (d + 0) 0 0) 0 0 0 [(0, .ref 1), (1, .int x1), (2, .int x2), (3, .int x3)] [] h (kI K)
  refine aw_aload_n (i := 0) rfl d_X12_rankOn_0 0 rfl ?_
  refine aw_getr (k0 := 8) kc_12 (ws_1 w) (Nat.le_of_ble_eq_true rfl) tw_1750 d_X12_rankOn_1 rfl (wr_1_8 w) ?_
  refine aw_iload_n (i := 1) rfl d_X12_rankOn_4 1 rfl ?_
  obtain ⟨b1, k⟩ := k
  refine aw_iald (ws_204 w) b1 d_X12_rankOn_5 ?_
  refine aw_istore [(0, .ref 1), (1, .int x1), (2, .int x2), (3, .int x3), (4, .int (h_i h 204 x1.toNatClampNeg))] d_X12_rankOn_6 (Nat.le_of_ble_eq_true rfl) rfl rfl ?_
  refine aw_iconst (v := (-1)) d_X12_rankOn_8 ic_m1 ?_
  refine aw_istore [(0, .ref 1), (1, .int x1), (2, .int x2), (3, .int x3), (4, .int (h_i h 204 x1.toNatClampNeg)), (5, .int (-1))] d_X12_rankOn_9 (Nat.le_of_ble_eq_true rfl) rfl rfl ?_
  refine aw_iconst (v := 0) d_X12_rankOn_11 ic_0 ?_
  refine aw_istore [(0, .ref 1), (1, .int x1), (2, .int x2), (3, .int x3), (4, .int (h_i h 204 x1.toNatClampNeg)), (5, .int (-1)), (6, .int 0)] d_X12_rankOn_12 (Nat.le_of_ble_eq_true rfl) rfl rfl ?_
  exact k
theorem t_X12_rankOn_14 (d : Nat) (h : Hp_) (w : Wf h) (x1 : Int32) (x2 : Int32) (x3 : Int32) (x4 : Int32) (x5 : Int32) (x6 : Int32) (K : Int32 → Hp_ → Prop) (k : ((h_i h 1 29) ≤ x6 → K x4 h) ∧ (¬ (h_i h 1 29) ≤ x6 → vp_in x6 40 ∧ ((¬ (h_i h 221 x6.toNatClampNeg) = x1 → AW (m_X12_rankOn (d + 0) 0 0) 0 0 14 [(0, .ref 1), (1, .int x1), (2, .int x2), (3, .int x3), (4, .int x4), (5, .int x5), (6, .int (x6 + 1))] [] h (kI K)) ∧ ((h_i h 221 x6.toNatClampNeg) = x1 → vp_in x6 40 ∧ ((x3 < (h_i h 224 x6.toNatClampNeg) → AW (m_X12_rankOn (d + 0) 0 0) 0 0 14 [(0, .ref 1), (1, .int x1), (2, .int x2), (3, .int x3), (4, .int x4), (5, .int x5), (6, .int (x6 + 1))] [] h (kI K)) ∧ (¬ x3 < (h_i h 224 x6.toNatClampNeg) → vp_in x6 40 ∧ ((x2 < (h_i h 223 x6.toNatClampNeg) → AW (m_X12_rankOn (d + 0) 0 0) 0 0 14 [(0, .ref 1), (1, .int x1), (2, .int x2), (3, .int x3), (4, .int x4), (5, .int x5), (6, .int (x6 + 1))] [] h (kI K)) ∧ (¬ x2 < (h_i h 223 x6.toNatClampNeg) → vp_in x6 40 ∧ (((h_i h 223 x6.toNatClampNeg) < x5 → AW (m_X12_rankOn (d + 0) 0 0) 0 0 14 [(0, .ref 1), (1, .int x1), (2, .int x2), (3, .int x3), (4, .int x4), (5, .int x5), (6, .int (x6 + 1))] [] h (kI K)) ∧ (¬ (h_i h 223 x6.toNatClampNeg) < x5 → vp_in x6 40 ∧ (vp_in x6 40 ∧ (AW (m_X12_rankOn (d + 0) 0 0) 0 0 14 [(0, .ref 1), (1, .int x1), (2, .int x2), (3, .int x3), (4, .int (h_i h 222 x6.toNatClampNeg)), (5, .int (h_i h 223 x6.toNatClampNeg)), (6, .int (x6 + 1))] [] h (kI K))))))))))))) : AW (m_X12_rankOn (d + 0) 0 0) 0 0 14 [(0, .ref 1), (1, .int x1), (2, .int x2), (3, .int x3), (4, .int x4), (5, .int x5), (6, .int x6)] [] h (kI K) := by
  refine aw_iload d_X12_rankOn_14 6 rfl ?_
  refine aw_aload_n (i := 0) rfl d_X12_rankOn_16 0 rfl ?_
  refine aw_geti (k0 := 29) kc_12 (ws_1 w) (Nat.le_of_ble_eq_true rfl) tw_1771 d_X12_rankOn_17 rfl ?_
  refine aw_icmp_ge (tgt := 92) d_X12_rankOn_20 rfl (fun c2 => ?_) (fun c2 => ?_)
  · have k := k.1 c2
    refine aw_iload d_X12_rankOn_92 4 rfl ?_
    exact aw_iret rfl d_X12_rankOn_94 ⟨Nat.le_refl _, Nat.le_refl _⟩ ⟨_, rfl, k⟩
  · have k := k.2 c2
    refine aw_aload_n (i := 0) rfl d_X12_rankOn_23 0 rfl ?_
    refine aw_getr (k0 := 25) kc_12 (ws_1 w) (Nat.le_of_ble_eq_true rfl) tw_1767 d_X12_rankOn_24 rfl (wr_1_25 w) ?_
    refine aw_iload d_X12_rankOn_27 6 rfl ?_
    obtain ⟨b3, k⟩ := k
    refine aw_iald (ws_221 w) b3 d_X12_rankOn_29 ?_
    refine aw_iload_n (i := 1) rfl d_X12_rankOn_30 1 rfl ?_
    refine aw_icmp_ne (tgt := 86) d_X12_rankOn_31 rfl (fun c4 => ?_) (fun c4 => ?_)
    · have k := k.1 c4
      refine aw_iinc (v := (x6 + 1)) [(0, .ref 1), (1, .int x1), (2, .int x2), (3, .int x3), (4, .int x4), (5, .int x5), (6, .int (x6 + 1))] d_X12_rankOn_86 6 rfl rfl (Nat.le_of_ble_eq_true rfl) rfl rfl ?_
      refine aw_goto (tgt := 14) d_X12_rankOn_89 rfl ?_
      exact k
    · have k := k.2 c4
      refine aw_aload_n (i := 0) rfl d_X12_rankOn_34 0 rfl ?_
      refine aw_getr (k0 := 28) kc_12 (ws_1 w) (Nat.le_of_ble_eq_true rfl) tw_1770 d_X12_rankOn_35 rfl (wr_1_28 w) ?_
      refine aw_iload d_X12_rankOn_38 6 rfl ?_
      obtain ⟨b5, k⟩ := k
      refine aw_iald (ws_224 w) b5 d_X12_rankOn_40 ?_
      refine aw_iload_n (i := 3) rfl d_X12_rankOn_41 3 rfl ?_
      refine aw_icmp_gt (tgt := 86) d_X12_rankOn_42 rfl (fun c6 => ?_) (fun c6 => ?_)
      · have k := k.1 c6
        refine aw_iinc (v := (x6 + 1)) [(0, .ref 1), (1, .int x1), (2, .int x2), (3, .int x3), (4, .int x4), (5, .int x5), (6, .int (x6 + 1))] d_X12_rankOn_86 6 rfl rfl (Nat.le_of_ble_eq_true rfl) rfl rfl ?_
        refine aw_goto (tgt := 14) d_X12_rankOn_89 rfl ?_
        exact k
      · have k := k.2 c6
        refine aw_aload_n (i := 0) rfl d_X12_rankOn_45 0 rfl ?_
        refine aw_getr (k0 := 27) kc_12 (ws_1 w) (Nat.le_of_ble_eq_true rfl) tw_1769 d_X12_rankOn_46 rfl (wr_1_27 w) ?_
        refine aw_iload d_X12_rankOn_49 6 rfl ?_
        obtain ⟨b7, k⟩ := k
        refine aw_iald (ws_223 w) b7 d_X12_rankOn_51 ?_
        refine aw_iload_n (i := 2) rfl d_X12_rankOn_52 2 rfl ?_
        refine aw_icmp_gt (tgt := 86) d_X12_rankOn_53 rfl (fun c8 => ?_) (fun c8 => ?_)
        · have k := k.1 c8
          refine aw_iinc (v := (x6 + 1)) [(0, .ref 1), (1, .int x1), (2, .int x2), (3, .int x3), (4, .int x4), (5, .int x5), (6, .int (x6 + 1))] d_X12_rankOn_86 6 rfl rfl (Nat.le_of_ble_eq_true rfl) rfl rfl ?_
          refine aw_goto (tgt := 14) d_X12_rankOn_89 rfl ?_
          exact k
        · have k := k.2 c8
          refine aw_aload_n (i := 0) rfl d_X12_rankOn_56 0 rfl ?_
          refine aw_getr (k0 := 27) kc_12 (ws_1 w) (Nat.le_of_ble_eq_true rfl) tw_1769 d_X12_rankOn_57 rfl (wr_1_27 w) ?_
          refine aw_iload d_X12_rankOn_60 6 rfl ?_
          obtain ⟨b9, k⟩ := k
          refine aw_iald (ws_223 w) b9 d_X12_rankOn_62 ?_
          refine aw_iload d_X12_rankOn_63 5 rfl ?_
          refine aw_icmp_lt (tgt := 86) d_X12_rankOn_65 rfl (fun c10 => ?_) (fun c10 => ?_)
          · have k := k.1 c10
            refine aw_iinc (v := (x6 + 1)) [(0, .ref 1), (1, .int x1), (2, .int x2), (3, .int x3), (4, .int x4), (5, .int x5), (6, .int (x6 + 1))] d_X12_rankOn_86 6 rfl rfl (Nat.le_of_ble_eq_true rfl) rfl rfl ?_
            refine aw_goto (tgt := 14) d_X12_rankOn_89 rfl ?_
            exact k
          · have k := k.2 c10
            refine aw_aload_n (i := 0) rfl d_X12_rankOn_68 0 rfl ?_
            refine aw_getr (k0 := 26) kc_12 (ws_1 w) (Nat.le_of_ble_eq_true rfl) tw_1768 d_X12_rankOn_69 rfl (wr_1_26 w) ?_
            refine aw_iload d_X12_rankOn_72 6 rfl ?_
            obtain ⟨b11, k⟩ := k
            refine aw_iald (ws_222 w) b11 d_X12_rankOn_74 ?_
            refine aw_istore [(0, .ref 1), (1, .int x1), (2, .int x2), (3, .int x3), (4, .int (h_i h 222 x6.toNatClampNeg)), (5, .int x5), (6, .int x6)] d_X12_rankOn_75 (Nat.le_of_ble_eq_true rfl) rfl rfl ?_
            refine aw_aload_n (i := 0) rfl d_X12_rankOn_77 0 rfl ?_
            refine aw_getr (k0 := 27) kc_12 (ws_1 w) (Nat.le_of_ble_eq_true rfl) tw_1769 d_X12_rankOn_78 rfl (wr_1_27 w) ?_
            refine aw_iload d_X12_rankOn_81 6 rfl ?_
            obtain ⟨b12, k⟩ := k
            refine aw_iald (ws_223 w) b12 d_X12_rankOn_83 ?_
            refine aw_istore [(0, .ref 1), (1, .int x1), (2, .int x2), (3, .int x3), (4, .int (h_i h 222 x6.toNatClampNeg)), (5, .int (h_i h 223 x6.toNatClampNeg)), (6, .int x6)] d_X12_rankOn_84 (Nat.le_of_ble_eq_true rfl) rfl rfl ?_
            refine aw_iinc (v := (x6 + 1)) [(0, .ref 1), (1, .int x1), (2, .int x2), (3, .int x3), (4, .int (h_i h 222 x6.toNatClampNeg)), (5, .int (h_i h 223 x6.toNatClampNeg)), (6, .int (x6 + 1))] d_X12_rankOn_86 6 rfl rfl (Nat.le_of_ble_eq_true rfl) rfl rfl ?_
            refine aw_goto (tgt := 14) d_X12_rankOn_89 rfl ?_
            exact k
theorem t_X12_stateOf (d : Nat) (h : Hp_) (w : Wf h) (x1 : Int32) (x2 : Int32) (K : Int32 → Hp_ → Prop) (k : vp_in x1 400 ∧ (((h_i h 241 x1.toNatClampNeg) = (-1) → vp_in x1 400 ∧ (((h_i h 242 x1.toNatClampNeg) = (-1) → K 0 h) ∧ (¬ (h_i h 242 x1.toNatClampNeg) = (-1) → vp_in x1 400 ∧ ((x2 < (h_i h 242 x1.toNatClampNeg) → K 0 h) ∧ (¬ x2 < (h_i h 242 x1.toNatClampNeg) → K 2 h))))) ∧ (¬ (h_i h 241 x1.toNatClampNeg) = (-1) → vp_in x1 400 ∧ ((x2 < (h_i h 241 x1.toNatClampNeg) → vp_in x1 400 ∧ (((h_i h 242 x1.toNatClampNeg) = (-1) → K 0 h) ∧ (¬ (h_i h 242 x1.toNatClampNeg) = (-1) → vp_in x1 400 ∧ ((x2 < (h_i h 242 x1.toNatClampNeg) → K 0 h) ∧ (¬ x2 < (h_i h 242 x1.toNatClampNeg) → K 2 h))))) ∧ (¬ x2 < (h_i h 241 x1.toNatClampNeg) → K 1 h))))) : Ci (m_X12_stateOf (d + 0) 0 0) [.ref 1, .int x1, .int x2] h K := by
  refine Ct.of (fun _ _ _ => trivial) pn_X12 (Nat.le_of_ble_eq_true rfl) ?_
  show AW (m_X12_stateOf (d + 0) 0 0) 0 0 0 [(0, .ref 1), (1, .int x1), (2, .int x2)] [] h (kI K)
  refine aw_aload_n (i := 0) rfl d_X12_stateOf_0 0 rfl ?_
  refine aw_getr (k0 := 56) kc_12 (ws_1 w) (Nat.le_of_ble_eq_true rfl) tw_1798 d_X12_stateOf_1 rfl (wr_1_56 w) ?_
  refine aw_iload_n (i := 1) rfl d_X12_stateOf_4 1 rfl ?_
  obtain ⟨b1, k⟩ := k
  refine aw_iald (ws_241 w) b1 d_X12_stateOf_5 ?_
  refine aw_iconst (v := (-1)) d_X12_stateOf_6 ic_m1 ?_
  refine aw_icmp_eq (tgt := 22) d_X12_stateOf_7 rfl (fun c2 => ?_) (fun c2 => ?_)
  · have k := k.1 c2
    refine aw_aload_n (i := 0) rfl d_X12_stateOf_22 0 rfl ?_
    refine aw_getr (k0 := 57) kc_12 (ws_1 w) (Nat.le_of_ble_eq_true rfl) tw_1799 d_X12_stateOf_23 rfl (wr_1_57 w) ?_
    refine aw_iload_n (i := 1) rfl d_X12_stateOf_26 1 rfl ?_
    obtain ⟨b3, k⟩ := k
    refine aw_iald (ws_242 w) b3 d_X12_stateOf_27 ?_
    refine aw_iconst (v := (-1)) d_X12_stateOf_28 ic_m1 ?_
    refine aw_icmp_eq (tgt := 46) d_X12_stateOf_29 rfl (fun c4 => ?_) (fun c4 => ?_)
    · have k := k.1 c4
      refine aw_iconst (v := 0) d_X12_stateOf_46 ic_0 ?_
      exact aw_iret rfl d_X12_stateOf_47 ⟨Nat.le_refl _, Nat.le_refl _⟩ ⟨_, rfl, k⟩
    · have k := k.2 c4
      refine aw_aload_n (i := 0) rfl d_X12_stateOf_32 0 rfl ?_
      refine aw_getr (k0 := 57) kc_12 (ws_1 w) (Nat.le_of_ble_eq_true rfl) tw_1799 d_X12_stateOf_33 rfl (wr_1_57 w) ?_
      refine aw_iload_n (i := 1) rfl d_X12_stateOf_36 1 rfl ?_
      obtain ⟨b5, k⟩ := k
      refine aw_iald (ws_242 w) b5 d_X12_stateOf_37 ?_
      refine aw_iload_n (i := 2) rfl d_X12_stateOf_38 2 rfl ?_
      refine aw_icmp_gt (tgt := 46) d_X12_stateOf_39 rfl (fun c6 => ?_) (fun c6 => ?_)
      · have k := k.1 c6
        refine aw_iconst (v := 0) d_X12_stateOf_46 ic_0 ?_
        exact aw_iret rfl d_X12_stateOf_47 ⟨Nat.le_refl _, Nat.le_refl _⟩ ⟨_, rfl, k⟩
      · have k := k.2 c6
        refine aw_iconst (v := 2) d_X12_stateOf_42 ic_2 ?_
        refine aw_goto (tgt := 47) d_X12_stateOf_43 rfl ?_
        exact aw_iret rfl d_X12_stateOf_47 ⟨Nat.le_refl _, Nat.le_refl _⟩ ⟨_, rfl, k⟩
  · have k := k.2 c2
    refine aw_aload_n (i := 0) rfl d_X12_stateOf_10 0 rfl ?_
    refine aw_getr (k0 := 56) kc_12 (ws_1 w) (Nat.le_of_ble_eq_true rfl) tw_1798 d_X12_stateOf_11 rfl (wr_1_56 w) ?_
    refine aw_iload_n (i := 1) rfl d_X12_stateOf_14 1 rfl ?_
    obtain ⟨b7, k⟩ := k
    refine aw_iald (ws_241 w) b7 d_X12_stateOf_15 ?_
    refine aw_iload_n (i := 2) rfl d_X12_stateOf_16 2 rfl ?_
    refine aw_icmp_gt (tgt := 22) d_X12_stateOf_17 rfl (fun c8 => ?_) (fun c8 => ?_)
    · have k := k.1 c8
      refine aw_aload_n (i := 0) rfl d_X12_stateOf_22 0 rfl ?_
      refine aw_getr (k0 := 57) kc_12 (ws_1 w) (Nat.le_of_ble_eq_true rfl) tw_1799 d_X12_stateOf_23 rfl (wr_1_57 w) ?_
      refine aw_iload_n (i := 1) rfl d_X12_stateOf_26 1 rfl ?_
      obtain ⟨b9, k⟩ := k
      refine aw_iald (ws_242 w) b9 d_X12_stateOf_27 ?_
      refine aw_iconst (v := (-1)) d_X12_stateOf_28 ic_m1 ?_
      refine aw_icmp_eq (tgt := 46) d_X12_stateOf_29 rfl (fun c10 => ?_) (fun c10 => ?_)
      · have k := k.1 c10
        refine aw_iconst (v := 0) d_X12_stateOf_46 ic_0 ?_
        exact aw_iret rfl d_X12_stateOf_47 ⟨Nat.le_refl _, Nat.le_refl _⟩ ⟨_, rfl, k⟩
      · have k := k.2 c10
        refine aw_aload_n (i := 0) rfl d_X12_stateOf_32 0 rfl ?_
        refine aw_getr (k0 := 57) kc_12 (ws_1 w) (Nat.le_of_ble_eq_true rfl) tw_1799 d_X12_stateOf_33 rfl (wr_1_57 w) ?_
        refine aw_iload_n (i := 1) rfl d_X12_stateOf_36 1 rfl ?_
        obtain ⟨b11, k⟩ := k
        refine aw_iald (ws_242 w) b11 d_X12_stateOf_37 ?_
        refine aw_iload_n (i := 2) rfl d_X12_stateOf_38 2 rfl ?_
        refine aw_icmp_gt (tgt := 46) d_X12_stateOf_39 rfl (fun c12 => ?_) (fun c12 => ?_)
        · have k := k.1 c12
          refine aw_iconst (v := 0) d_X12_stateOf_46 ic_0 ?_
          exact aw_iret rfl d_X12_stateOf_47 ⟨Nat.le_refl _, Nat.le_refl _⟩ ⟨_, rfl, k⟩
        · have k := k.2 c12
          refine aw_iconst (v := 2) d_X12_stateOf_42 ic_2 ?_
          refine aw_goto (tgt := 47) d_X12_stateOf_43 rfl ?_
          exact aw_iret rfl d_X12_stateOf_47 ⟨Nat.le_refl _, Nat.le_refl _⟩ ⟨_, rfl, k⟩
    · have k := k.2 c8
      refine aw_iconst (v := 1) d_X12_stateOf_20 ic_1 ?_
      exact aw_iret rfl d_X12_stateOf_21 ⟨Nat.le_refl _, Nat.le_refl _⟩ ⟨_, rfl, k⟩
theorem t_X12_causeOf (d : Nat) (h : Hp_) (w : Wf h) (x1 : Int32) (x2 : Int32) (K : Int32 → Hp_ → Prop) (k : vp_in x1 400 ∧ (AW (m_X12_causeOf (d + 0) 0 0) 0 0 10 [(0, .ref 1), (1, .int x1), (2, .int x2), (3, .int (h_i h 243 x1.toNatClampNeg)), (4, .int 0)] [] h (kI K))) : Ci (m_X12_causeOf (d + 0) 0 0) [.ref 1, .int x1, .int x2] h K := by
  refine Ct.of (fun _ _ _ => trivial) pn_X12 (Nat.le_of_ble_eq_true rfl) ?_
  show AW (m_X12_causeOf (d + 0) 0 0) 0 0 0 [(0, .ref 1), (1, .int x1), (2, .int x2)] [] h (kI K)
  refine aw_aload_n (i := 0) rfl d_X12_causeOf_0 0 rfl ?_
  refine aw_getr (k0 := 58) kc_12 (ws_1 w) (Nat.le_of_ble_eq_true rfl) tw_1800 d_X12_causeOf_1 rfl (wr_1_58 w) ?_
  refine aw_iload_n (i := 1) rfl d_X12_causeOf_4 1 rfl ?_
  obtain ⟨b1, k⟩ := k
  refine aw_iald (ws_243 w) b1 d_X12_causeOf_5 ?_
  refine aw_istore_n (i := 3) rfl [(0, .ref 1), (1, .int x1), (2, .int x2), (3, .int (h_i h 243 x1.toNatClampNeg))] d_X12_causeOf_6 (Nat.le_of_ble_eq_true rfl) rfl rfl ?_
  refine aw_iconst (v := 0) d_X12_causeOf_7 ic_0 ?_
  refine aw_istore [(0, .ref 1), (1, .int x1), (2, .int x2), (3, .int (h_i h 243 x1.toNatClampNeg)), (4, .int 0)] d_X12_causeOf_8 (Nat.le_of_ble_eq_true rfl) rfl rfl ?_
  exact k
theorem t_X12_causeOf_10 (d : Nat) (h : Hp_) (w : Wf h) (x1 : Int32) (x2 : Int32) (x3 : Int32) (x4 : Int32) (K : Int32 → Hp_ → Prop) (k : ((h_i h 1 64) ≤ x4 → K x3 h) ∧ (¬ (h_i h 1 64) ≤ x4 → vp_in x4 200 ∧ ((¬ (h_i h 245 x4.toNatClampNeg) = x1 → AW (m_X12_causeOf (d + 0) 0 0) 0 0 10 [(0, .ref 1), (1, .int x1), (2, .int x2), (3, .int x3), (4, .int (x4 + 1))] [] h (kI K)) ∧ ((h_i h 245 x4.toNatClampNeg) = x1 → vp_in x4 200 ∧ ((x2 < (h_i h 247 x4.toNatClampNeg) → AW (m_X12_causeOf (d + 0) 0 0) 0 0 10 [(0, .ref 1), (1, .int x1), (2, .int x2), (3, .int x3), (4, .int (x4 + 1))] [] h (kI K)) ∧ (¬ x2 < (h_i h 247 x4.toNatClampNeg) → vp_in x4 200 ∧ (AW (m_X12_causeOf (d + 0) 0 0) 0 0 10 [(0, .ref 1), (1, .int x1), (2, .int x2), (3, .int (h_i h 246 x4.toNatClampNeg)), (4, .int (x4 + 1))] [] h (kI K)))))))) : AW (m_X12_causeOf (d + 0) 0 0) 0 0 10 [(0, .ref 1), (1, .int x1), (2, .int x2), (3, .int x3), (4, .int x4)] [] h (kI K) := by
  refine aw_iload d_X12_causeOf_10 4 rfl ?_
  refine aw_aload_n (i := 0) rfl d_X12_causeOf_12 0 rfl ?_
  refine aw_geti (k0 := 64) kc_12 (ws_1 w) (Nat.le_of_ble_eq_true rfl) tw_1806 d_X12_causeOf_13 rfl ?_
  refine aw_icmp_ge (tgt := 55) d_X12_causeOf_16 rfl (fun c2 => ?_) (fun c2 => ?_)
  · have k := k.1 c2
    refine aw_iload_n (i := 3) rfl d_X12_causeOf_55 3 rfl ?_
    exact aw_iret rfl d_X12_causeOf_56 ⟨Nat.le_refl _, Nat.le_refl _⟩ ⟨_, rfl, k⟩
  · have k := k.2 c2
    refine aw_aload_n (i := 0) rfl d_X12_causeOf_19 0 rfl ?_
    refine aw_getr (k0 := 60) kc_12 (ws_1 w) (Nat.le_of_ble_eq_true rfl) tw_1802 d_X12_causeOf_20 rfl (wr_1_60 w) ?_
    refine aw_iload d_X12_causeOf_23 4 rfl ?_
    obtain ⟨b3, k⟩ := k
    refine aw_iald (ws_245 w) b3 d_X12_causeOf_25 ?_
    refine aw_iload_n (i := 1) rfl d_X12_causeOf_26 1 rfl ?_
    refine aw_icmp_ne (tgt := 49) d_X12_causeOf_27 rfl (fun c4 => ?_) (fun c4 => ?_)
    · have k := k.1 c4
      refine aw_iinc (v := (x4 + 1)) [(0, .ref 1), (1, .int x1), (2, .int x2), (3, .int x3), (4, .int (x4 + 1))] d_X12_causeOf_49 4 rfl rfl (Nat.le_of_ble_eq_true rfl) rfl rfl ?_
      refine aw_goto (tgt := 10) d_X12_causeOf_52 rfl ?_
      exact k
    · have k := k.2 c4
      refine aw_aload_n (i := 0) rfl d_X12_causeOf_30 0 rfl ?_
      refine aw_getr (k0 := 62) kc_12 (ws_1 w) (Nat.le_of_ble_eq_true rfl) tw_1804 d_X12_causeOf_31 rfl (wr_1_62 w) ?_
      refine aw_iload d_X12_causeOf_34 4 rfl ?_
      obtain ⟨b5, k⟩ := k
      refine aw_iald (ws_247 w) b5 d_X12_causeOf_36 ?_
      refine aw_iload_n (i := 2) rfl d_X12_causeOf_37 2 rfl ?_
      refine aw_icmp_gt (tgt := 49) d_X12_causeOf_38 rfl (fun c6 => ?_) (fun c6 => ?_)
      · have k := k.1 c6
        refine aw_iinc (v := (x4 + 1)) [(0, .ref 1), (1, .int x1), (2, .int x2), (3, .int x3), (4, .int (x4 + 1))] d_X12_causeOf_49 4 rfl rfl (Nat.le_of_ble_eq_true rfl) rfl rfl ?_
        refine aw_goto (tgt := 10) d_X12_causeOf_52 rfl ?_
        exact k
      · have k := k.2 c6
        refine aw_aload_n (i := 0) rfl d_X12_causeOf_41 0 rfl ?_
        refine aw_getr (k0 := 61) kc_12 (ws_1 w) (Nat.le_of_ble_eq_true rfl) tw_1803 d_X12_causeOf_42 rfl (wr_1_61 w) ?_
        refine aw_iload d_X12_causeOf_45 4 rfl ?_
        obtain ⟨b7, k⟩ := k
        refine aw_iald (ws_246 w) b7 d_X12_causeOf_47 ?_
        refine aw_istore_n (i := 3) rfl [(0, .ref 1), (1, .int x1), (2, .int x2), (3, .int (h_i h 246 x4.toNatClampNeg)), (4, .int x4)] d_X12_causeOf_48 (Nat.le_of_ble_eq_true rfl) rfl rfl ?_
        refine aw_iinc (v := (x4 + 1)) [(0, .ref 1), (1, .int x1), (2, .int x2), (3, .int (h_i h 246 x4.toNatClampNeg)), (4, .int (x4 + 1))] d_X12_causeOf_49 4 rfl rfl (Nat.le_of_ble_eq_true rfl) rfl rfl ?_
        refine aw_goto (tgt := 10) d_X12_causeOf_52 rfl ?_
        exact k
theorem t_X12_forceOf (d : Nat) (h : Hp_) (x1 : Int32) (x2 : Int32) (x3 : Int32) (K : Int32 → Hp_ → Prop) (k : AW (m_X12_forceOf (d + 0) 0 0) 0 0 6 [(0, .ref 1), (1, .int x1), (2, .int x2), (3, .int x3), (4, .int (-1)), (5, .int 0)] [] h (kI K)) : Ci (m_X12_forceOf (d + 0) 0 0) [.ref 1, .int x1, .int x2, .int x3] h K := by
  refine Ct.of (fun _ _ _ => trivial) pn_X12 (Nat.le_of_ble_eq_true rfl) ?_
  show AW (m_X12_forceOf (d + 0) 0 0) 0 0 0 [(0, .ref 1), (1, .int x1), (2, .int x2), (3, .int x3)] [] h (kI K)
  refine aw_iconst (v := (-1)) d_X12_forceOf_0 ic_m1 ?_
  refine aw_istore [(0, .ref 1), (1, .int x1), (2, .int x2), (3, .int x3), (4, .int (-1))] d_X12_forceOf_1 (Nat.le_of_ble_eq_true rfl) rfl rfl ?_
  refine aw_iconst (v := 0) d_X12_forceOf_3 ic_0 ?_
  refine aw_istore [(0, .ref 1), (1, .int x1), (2, .int x2), (3, .int x3), (4, .int (-1)), (5, .int 0)] d_X12_forceOf_4 (Nat.le_of_ble_eq_true rfl) rfl rfl ?_
  exact k
theorem t_X12_forceOf_6 (d : Nat) (h : Hp_) (w : Wf h) (x1 : Int32) (x2 : Int32) (x3 : Int32) (x4 : Int32) (x5 : Int32) (K : Int32 → Hp_ → Prop) (k : vp_in x1 2 ∧ (((h_i h 235 x1.toNatClampNeg) ≤ x5 → K x4 h) ∧ (¬ (h_i h 235 x1.toNatClampNeg) ≤ x5 → vp_in ((20 * x1) + x5) 40 ∧ ((x3 < (h_i h 234 (((20 * x1) + x5) : Int32).toNatClampNeg) → AW (m_X12_forceOf (d + 0) 0 0) 0 0 6 [(0, .ref 1), (1, .int x1), (2, .int x2), (3, .int x3), (4, .int x4), (5, .int (x5 + 1))] [] h (kI K)) ∧ (¬ x3 < (h_i h 234 (((20 * x1) + x5) : Int32).toNatClampNeg) → vp_in ((20 * x1) + x5) 40 ∧ ((x2 < (h_i h 233 (((20 * x1) + x5) : Int32).toNatClampNeg) → AW (m_X12_forceOf (d + 0) 0 0) 0 0 6 [(0, .ref 1), (1, .int x1), (2, .int x2), (3, .int x3), (4, .int x4), (5, .int (x5 + 1))] [] h (kI K)) ∧ (¬ x2 < (h_i h 233 (((20 * x1) + x5) : Int32).toNatClampNeg) → (x4 = (-1) → AW (m_X12_forceOf (d + 0) 0 0) 0 0 6 [(0, .ref 1), (1, .int x1), (2, .int x2), (3, .int x3), (4, .int x5), (5, .int (x5 + 1))] [] h (kI K)) ∧ (¬ x4 = (-1) → vp_in ((20 * x1) + x5) 40 ∧ (vp_in ((20 * x1) + x4) 40 ∧ (((h_i h 233 (((20 * x1) + x5) : Int32).toNatClampNeg) < (h_i h 233 (((20 * x1) + x4) : Int32).toNatClampNeg) → AW (m_X12_forceOf (d + 0) 0 0) 0 0 6 [(0, .ref 1), (1, .int x1), (2, .int x2), (3, .int x3), (4, .int x4), (5, .int (x5 + 1))] [] h (kI K)) ∧ (¬ (h_i h 233 (((20 * x1) + x5) : Int32).toNatClampNeg) < (h_i h 233 (((20 * x1) + x4) : Int32).toNatClampNeg) → AW (m_X12_forceOf (d + 0) 0 0) 0 0 6 [(0, .ref 1), (1, .int x1), (2, .int x2), (3, .int x3), (4, .int x5), (5, .int (x5 + 1))] [] h (kI K)))))))))))) : AW (m_X12_forceOf (d + 0) 0 0) 0 0 6 [(0, .ref 1), (1, .int x1), (2, .int x2), (3, .int x3), (4, .int x4), (5, .int x5)] [] h (kI K) := by
  refine aw_iload d_X12_forceOf_6 5 rfl ?_
  refine aw_aload_n (i := 0) rfl d_X12_forceOf_8 0 rfl ?_
  refine aw_getr (k0 := 49) kc_12 (ws_1 w) (Nat.le_of_ble_eq_true rfl) tw_1791 d_X12_forceOf_9 rfl (wr_1_49 w) ?_
  refine aw_iload_n (i := 1) rfl d_X12_forceOf_12 1 rfl ?_
  obtain ⟨b1, k⟩ := k
  refine aw_iald (ws_235 w) b1 d_X12_forceOf_13 ?_
  refine aw_icmp_ge (tgt := 86) d_X12_forceOf_14 rfl (fun c2 => ?_) (fun c2 => ?_)
  · have k := k.1 c2
    refine aw_iload d_X12_forceOf_86 4 rfl ?_
    exact aw_iret rfl d_X12_forceOf_88 ⟨Nat.le_refl _, Nat.le_refl _⟩ ⟨_, rfl, k⟩
  · have k := k.2 c2
    refine aw_bipush (v := 20) d_X12_forceOf_17 ib_20 ?_
    refine aw_iload_n (i := 1) rfl d_X12_forceOf_19 1 rfl ?_
    refine aw_imul d_X12_forceOf_20 ?_
    refine aw_iload d_X12_forceOf_21 5 rfl ?_
    refine aw_iadd d_X12_forceOf_23 ?_
    refine aw_istore [(0, .ref 1), (1, .int x1), (2, .int x2), (3, .int x3), (4, .int x4), (5, .int x5), (6, .int ((20 * x1) + x5))] d_X12_forceOf_24 (Nat.le_of_ble_eq_true rfl) rfl rfl ?_
    refine aw_aload_n (i := 0) rfl d_X12_forceOf_26 0 rfl ?_
    refine aw_getr (k0 := 48) kc_12 (ws_1 w) (Nat.le_of_ble_eq_true rfl) tw_1790 d_X12_forceOf_27 rfl (wr_1_48 w) ?_
    refine aw_iload d_X12_forceOf_30 6 rfl ?_
    obtain ⟨b3, k⟩ := k
    refine aw_iald (ws_234 w) b3 d_X12_forceOf_32 ?_
    refine aw_iload_n (i := 3) rfl d_X12_forceOf_33 3 rfl ?_
    refine aw_icmp_gt (tgt := 80) d_X12_forceOf_34 rfl (fun c4 => ?_) (fun c4 => ?_)
    · have k := k.1 c4
      refine aw_iinc (v := (x5 + 1)) [(0, .ref 1), (1, .int x1), (2, .int x2), (3, .int x3), (4, .int x4), (5, .int (x5 + 1)), (6, .int ((20 * x1) + x5))] d_X12_forceOf_80 5 rfl rfl (Nat.le_of_ble_eq_true rfl) rfl rfl ?_
      refine aw_goto (tgt := 6) d_X12_forceOf_83 rfl ?_
      exact aw_lvp [0, 1, 2, 3, 4, 5] [(0, .ref 1), (1, .int x1), (2, .int x2), (3, .int x3), (4, .int x4), (5, .int (x5 + 1))] rfl k
    · have k := k.2 c4
      refine aw_aload_n (i := 0) rfl d_X12_forceOf_37 0 rfl ?_
      refine aw_getr (k0 := 47) kc_12 (ws_1 w) (Nat.le_of_ble_eq_true rfl) tw_1789 d_X12_forceOf_38 rfl (wr_1_47 w) ?_
      refine aw_iload d_X12_forceOf_41 6 rfl ?_
      obtain ⟨b5, k⟩ := k
      refine aw_iald (ws_233 w) b5 d_X12_forceOf_43 ?_
      refine aw_iload_n (i := 2) rfl d_X12_forceOf_44 2 rfl ?_
      refine aw_icmp_gt (tgt := 80) d_X12_forceOf_45 rfl (fun c6 => ?_) (fun c6 => ?_)
      · have k := k.1 c6
        refine aw_iinc (v := (x5 + 1)) [(0, .ref 1), (1, .int x1), (2, .int x2), (3, .int x3), (4, .int x4), (5, .int (x5 + 1)), (6, .int ((20 * x1) + x5))] d_X12_forceOf_80 5 rfl rfl (Nat.le_of_ble_eq_true rfl) rfl rfl ?_
        refine aw_goto (tgt := 6) d_X12_forceOf_83 rfl ?_
        exact aw_lvp [0, 1, 2, 3, 4, 5] [(0, .ref 1), (1, .int x1), (2, .int x2), (3, .int x3), (4, .int x4), (5, .int (x5 + 1))] rfl k
      · have k := k.2 c6
        refine aw_iload d_X12_forceOf_48 4 rfl ?_
        refine aw_iconst (v := (-1)) d_X12_forceOf_50 ic_m1 ?_
        refine aw_icmp_eq (tgt := 76) d_X12_forceOf_51 rfl (fun c7 => ?_) (fun c7 => ?_)
        · have k := k.1 c7
          refine aw_iload d_X12_forceOf_76 5 rfl ?_
          refine aw_istore [(0, .ref 1), (1, .int x1), (2, .int x2), (3, .int x3), (4, .int x5), (5, .int x5), (6, .int ((20 * x1) + x5))] d_X12_forceOf_78 (Nat.le_of_ble_eq_true rfl) rfl rfl ?_
          refine aw_iinc (v := (x5 + 1)) [(0, .ref 1), (1, .int x1), (2, .int x2), (3, .int x3), (4, .int x5), (5, .int (x5 + 1)), (6, .int ((20 * x1) + x5))] d_X12_forceOf_80 5 rfl rfl (Nat.le_of_ble_eq_true rfl) rfl rfl ?_
          refine aw_goto (tgt := 6) d_X12_forceOf_83 rfl ?_
          exact aw_lvp [0, 1, 2, 3, 4, 5] [(0, .ref 1), (1, .int x1), (2, .int x2), (3, .int x3), (4, .int x5), (5, .int (x5 + 1))] rfl k
        · have k := k.2 c7
          refine aw_aload_n (i := 0) rfl d_X12_forceOf_54 0 rfl ?_
          refine aw_getr (k0 := 47) kc_12 (ws_1 w) (Nat.le_of_ble_eq_true rfl) tw_1789 d_X12_forceOf_55 rfl (wr_1_47 w) ?_
          refine aw_iload d_X12_forceOf_58 6 rfl ?_
          obtain ⟨b8, k⟩ := k
          refine aw_iald (ws_233 w) b8 d_X12_forceOf_60 ?_
          refine aw_aload_n (i := 0) rfl d_X12_forceOf_61 0 rfl ?_
          refine aw_getr (k0 := 47) kc_12 (ws_1 w) (Nat.le_of_ble_eq_true rfl) tw_1789 d_X12_forceOf_62 rfl (wr_1_47 w) ?_
          refine aw_bipush (v := 20) d_X12_forceOf_65 ib_20 ?_
          refine aw_iload_n (i := 1) rfl d_X12_forceOf_67 1 rfl ?_
          refine aw_imul d_X12_forceOf_68 ?_
          refine aw_iload d_X12_forceOf_69 4 rfl ?_
          refine aw_iadd d_X12_forceOf_71 ?_
          obtain ⟨b9, k⟩ := k
          refine aw_iald (ws_233 w) b9 d_X12_forceOf_72 ?_
          refine aw_icmp_lt (tgt := 80) d_X12_forceOf_73 rfl (fun c10 => ?_) (fun c10 => ?_)
          · have k := k.1 c10
            refine aw_iinc (v := (x5 + 1)) [(0, .ref 1), (1, .int x1), (2, .int x2), (3, .int x3), (4, .int x4), (5, .int (x5 + 1)), (6, .int ((20 * x1) + x5))] d_X12_forceOf_80 5 rfl rfl (Nat.le_of_ble_eq_true rfl) rfl rfl ?_
            refine aw_goto (tgt := 6) d_X12_forceOf_83 rfl ?_
            exact aw_lvp [0, 1, 2, 3, 4, 5] [(0, .ref 1), (1, .int x1), (2, .int x2), (3, .int x3), (4, .int x4), (5, .int (x5 + 1))] rfl k
          · have k := k.2 c10
            refine aw_iload d_X12_forceOf_76 5 rfl ?_
            refine aw_istore [(0, .ref 1), (1, .int x1), (2, .int x2), (3, .int x3), (4, .int x5), (5, .int x5), (6, .int ((20 * x1) + x5))] d_X12_forceOf_78 (Nat.le_of_ble_eq_true rfl) rfl rfl ?_
            refine aw_iinc (v := (x5 + 1)) [(0, .ref 1), (1, .int x1), (2, .int x2), (3, .int x3), (4, .int x5), (5, .int (x5 + 1)), (6, .int ((20 * x1) + x5))] d_X12_forceOf_80 5 rfl rfl (Nat.le_of_ble_eq_true rfl) rfl rfl ?_
            refine aw_goto (tgt := 6) d_X12_forceOf_83 rfl ?_
            exact aw_lvp [0, 1, 2, 3, 4, 5] [(0, .ref 1), (1, .int x1), (2, .int x2), (3, .int x3), (4, .int x5), (5, .int (x5 + 1))] rfl k
theorem t_X12_lets (d : Nat) (h : Hp_) (x1 : Int32) (x2 : Int32) (K : Int32 → Hp_ → Prop) (k : AW (m_X12_lets (d + 6) 0 0) 0 0 2 [(0, .ref 1), (1, .int x1), (2, .int x2), (3, .int 0)] [] h (kI K)) : Ci (m_X12_lets (d + 6) 0 0) [.ref 1, .int x1, .int x2] h K := by
  refine Ct.of (fun _ _ _ => trivial) pn_X12 (Nat.le_of_ble_eq_true rfl) ?_
  show AW (m_X12_lets (d + 6) 0 0) 0 0 0 [(0, .ref 1), (1, .int x1), (2, .int x2)] [] h (kI K)
  refine aw_iconst (v := 0) d_X12_lets_0 ic_0 ?_
  refine aw_istore_n (i := 3) rfl [(0, .ref 1), (1, .int x1), (2, .int x2), (3, .int 0)] d_X12_lets_1 (Nat.le_of_ble_eq_true rfl) rfl rfl ?_
  exact k
theorem t_X12_lets_2 (d : Nat) (h : Hp_) (w : Wf h) (x1 : Int32) (x2 : Int32) (x3 : Int32) (K : Int32 → Hp_ → Prop) (k : (9 ≤ x3 → vp_in x1 300 ∧ (Ci (m_X12_forceOf (d + 0) 0 0) [.ref 1, .int 0, .int ((h_i h 257 x1.toNatClampNeg) / 1440), .int x2] h (fun r5 h3 => Wf h3 ∧ (Ci (m_X12_tell (d + 4) 0 0) [.ref 1, .int 0, .int r5] h3 (fun r8 h6 => Wf h6 ∧ (K r8 h6)))))) ∧ (¬ 9 ≤ x3 → Ci (m_X12_letterFor (d + 5) 0 0) [.int x3] h (fun r11 h9 => Wf h9 ∧ (vp_in ((9 * x1) + x3) 2700 ∧ (vp_in r11 128 ∧ (AW (m_X12_lets (d + 6) 0 0) 0 0 2 [(0, .ref 1), (1, .int x1), (2, .int x2), (3, .int (x3 + 1))] [] (h_im h9 236 r11.toNatClampNeg (h_i h9 261 (((9 * x1) + x3) : Int32).toNatClampNeg)) (kI K))))))) : AW (m_X12_lets (d + 6) 0 0) 0 0 2 [(0, .ref 1), (1, .int x1), (2, .int x2), (3, .int x3)] [] h (kI K) := by
  refine aw_iload_n (i := 3) rfl d_X12_lets_2 3 rfl ?_
  refine aw_bipush (v := 9) d_X12_lets_3 ib_9 ?_
  refine aw_icmp_ge (tgt := 34) d_X12_lets_5 rfl (fun c1 => ?_) (fun c1 => ?_)
  · have k := k.1 c1
    refine aw_aload_n (i := 0) rfl d_X12_lets_34 0 rfl ?_
    refine aw_iconst (v := 0) d_X12_lets_35 ic_0 ?_
    refine aw_aload_n (i := 0) rfl d_X12_lets_36 0 rfl ?_
    refine aw_iconst (v := 0) d_X12_lets_37 ic_0 ?_
    refine aw_aload_n (i := 0) rfl d_X12_lets_38 0 rfl ?_
    refine aw_getr (k0 := 74) kc_12 (ws_1 w) (Nat.le_of_ble_eq_true rfl) tw_1816 d_X12_lets_39 rfl (wr_1_74 w) ?_
    refine aw_iload_n (i := 1) rfl d_X12_lets_42 1 rfl ?_
    obtain ⟨b2, k⟩ := k
    refine aw_iald (ws_257 w) b2 d_X12_lets_43 ?_
    refine aw_sipush (v := 1440) d_X12_lets_44 is_1440 ?_
    refine aw_idiv d_X12_lets_47 (by decide) ?_
    refine aw_iload_n (i := 2) rfl d_X12_lets_48 2 rfl ?_
    refine aw_Vi 1 [.int 0, .int ((h_i h 257 x1.toNatClampNeg) / 1440), .int x2] [.int 0, .ref 1] d_X12_lets_49 (cV_X12_forceOf (d + 0) 0 0) kc_12 (ws_1 w) tw_2308 rfl (rr0 (Nat.le_of_ble_eq_true rfl) (Nat.le_of_ble_eq_true rfl)) (Nat.le_of_ble_eq_true rfl) xs0 k (fun r5 h3 kk => ?_)
    obtain ⟨w4, k⟩ := kk
    refine aw_Vi 1 [.int 0, .int r5] [] d_X12_lets_52 (cV_X12_tell (d + 4) 0 0) kc_12 (ws_1 w4) tw_2424 rfl (rr0 (Nat.le_of_ble_eq_true rfl) (Nat.le_of_ble_eq_true rfl)) (Nat.le_of_ble_eq_true rfl) xs0 k (fun r8 h6 kk => ?_)
    obtain ⟨w7, k⟩ := kk
    exact aw_iret rfl d_X12_lets_55 ⟨Nat.le_refl _, Nat.le_refl _⟩ ⟨_, rfl, k⟩
  · have k := k.2 c1
    refine aw_aload_n (i := 0) rfl d_X12_lets_8 0 rfl ?_
    refine aw_getr (k0 := 50) kc_12 (ws_1 w) (Nat.le_of_ble_eq_true rfl) tw_1792 d_X12_lets_9 rfl (wr_1_50 w) ?_
    refine aw_iload_n (i := 3) rfl d_X12_lets_12 3 rfl ?_
    refine aw_Si [.int x3] [.ref 236] d_X12_lets_13 (cS_X12_letterFor (d + 5) 0 0) tw_2400 rfl (rr0 (Nat.le_of_ble_eq_true rfl) (Nat.le_of_ble_eq_true rfl)) (Nat.le_of_ble_eq_true rfl) xs0 k (fun r11 h9 kk => ?_)
    obtain ⟨w10, k⟩ := kk
    refine aw_aload_n (i := 0) rfl d_X12_lets_16 0 rfl ?_
    refine aw_getr (k0 := 78) kc_12 (ws_1 w10) (Nat.le_of_ble_eq_true rfl) tw_1820 d_X12_lets_17 rfl (wr_1_78 w10) ?_
    refine aw_bipush (v := 9) d_X12_lets_20 ib_9 ?_
    refine aw_iload_n (i := 1) rfl d_X12_lets_22 1 rfl ?_
    refine aw_imul d_X12_lets_23 ?_
    refine aw_iload_n (i := 3) rfl d_X12_lets_24 3 rfl ?_
    refine aw_iadd d_X12_lets_25 ?_
    obtain ⟨b12, k⟩ := k
    refine aw_iald (ws_261 w10) b12 d_X12_lets_26 ?_
    obtain ⟨b13, k⟩ := k
    refine aw_iast (ws_236 w10) b13 d_X12_lets_27 ?_
    refine aw_iinc (v := (x3 + 1)) [(0, .ref 1), (1, .int x1), (2, .int x2), (3, .int (x3 + 1))] d_X12_lets_28 3 rfl rfl (Nat.le_of_ble_eq_true rfl) rfl rfl ?_
    refine aw_goto (tgt := 2) d_X12_lets_31 rfl ?_
    exact k
theorem t_X12_payOf (d : Nat) (h : Hp_) (x1 : Int32) (x2 : Int32) (x3 : Int32) (K : Int32 → Hp_ → Prop) (k : AW (m_X12_payOf (d + 7) 0 0) 0 0 9 [(0, .ref 1), (1, .int x1), (2, .int x2), (3, .int x3), (4, .int 0), (5, .int 0), (6, .int 0)] [] h (kI K)) : Ci (m_X12_payOf (d + 7) 0 0) [.ref 1, .int x1, .int x2, .int x3] h K := by
  refine Ct.of (fun _ _ _ => trivial) pn_X12 (Nat.le_of_ble_eq_true rfl) ?_
  show AW (m_X12_payOf (d + 7) 0 0) 0 0 0 [(0, .ref 1), (1, .int x1), (2, .int x2), (3, .int x3)] [] h (kI K)
  refine aw_iconst (v := 0) d_X12_payOf_0 ic_0 ?_
  refine aw_istore [(0, .ref 1), (1, .int x1), (2, .int x2), (3, .int x3), (4, .int 0)] d_X12_payOf_1 (Nat.le_of_ble_eq_true rfl) rfl rfl ?_
  refine aw_iconst (v := 0) d_X12_payOf_3 ic_0 ?_
  refine aw_istore [(0, .ref 1), (1, .int x1), (2, .int x2), (3, .int x3), (4, .int 0), (5, .int 0)] d_X12_payOf_4 (Nat.le_of_ble_eq_true rfl) rfl rfl ?_
  refine aw_iconst (v := 0) d_X12_payOf_6 ic_0 ?_
  refine aw_istore [(0, .ref 1), (1, .int x1), (2, .int x2), (3, .int x3), (4, .int 0), (5, .int 0), (6, .int 0)] d_X12_payOf_7 (Nat.le_of_ble_eq_true rfl) rfl rfl ?_
  exact k
theorem t_X12_payOf_9 (d : Nat) (h : Hp_) (w : Wf h) (x1 : Int32) (x2 : Int32) (x3 : Int32) (x4 : Int32) (x5 : Int32) (x6 : Int32) (K : Int32 → Hp_ → Prop) (k : ((h_i h 1 63) ≤ x6 → AW (m_X12_payOf (d + 7) 0 0) 0 0 128 [(0, .ref 1), (1, .int x1), (2, .int x2), (3, .int x3), (4, .int x4), (5, .int x5), (6, .int 0), (7, .int 0), (8, .int 0)] [] h (kI K)) ∧ (¬ (h_i h 1 63) ≤ x6 → vp_in x6 400 ∧ ((¬ (h_i h 238 x6.toNatClampNeg) = x1 → AW (m_X12_payOf (d + 7) 0 0) 0 0 9 [(0, .ref 1), (1, .int x1), (2, .int x2), (3, .int x3), (4, .int x4), (5, .int x5), (6, .int (x6 + 1))] [] h (kI K)) ∧ ((h_i h 238 x6.toNatClampNeg) = x1 → vp_in x6 400 ∧ ((((h_i h 240 x6.toNatClampNeg) / 1440) = x2 → Ci (m_X12_stateOf (d + 0) 0 0) [.ref 1, .int x6, .int x3] h (fun r8 h6 => Wf h6 ∧ ((¬ r8 = 2 → (¬ r8 = 1 → AW (m_X12_payOf (d + 7) 0 0) 0 0 9 [(0, .ref 1), (1, .int x1), (2, .int x2), (3, .int x3), (4, .int (x4 + 0)), (5, .int (x5 + 0)), (6, .int (x6 + 1))] [] h6 (kI K)) ∧ (r8 = 1 → AW (m_X12_payOf (d + 7) 0 0) 0 0 9 [(0, .ref 1), (1, .int x1), (2, .int x2), (3, .int x3), (4, .int (x4 + 1)), (5, .int (x5 + 0)), (6, .int (x6 + 1))] [] h6 (kI K))) ∧ (r8 = 2 → Ci (m_X12_causeOf (d + 0) 0 0) [.ref 1, .int x6, .int x3] h6 (fun r17 h15 => Wf h15 ∧ ((¬ r8 = 1 → (r17 = 1 → AW (m_X12_payOf (d + 7) 0 0) 0 0 9 [(0, .ref 1), (1, .int x1), (2, .int x2), (3, .int x3), (4, .int (x4 + 0)), (5, .int (x5 + 1)), (6, .int (x6 + 1))] [] h15 (kI K)) ∧ (¬ r17 = 1 → (r17 < 5 → AW (m_X12_payOf (d + 7) 0 0) 0 0 9 [(0, .ref 1), (1, .int x1), (2, .int x2), (3, .int x3), (4, .int (x4 + 0)), (5, .int (x5 + 0)), (6, .int (x6 + 1))] [] h15 (kI K)) ∧ (¬ r17 < 5 → AW (m_X12_payOf (d + 7) 0 0) 0 0 9 [(0, .ref 1), (1, .int x1), (2, .int x2), (3, .int x3), (4, .int (x4 + 0)), (5, .int (x5 + 1)), (6, .int (x6 + 1))] [] h15 (kI K)))) ∧ (r8 = 1 → (r17 = 1 → AW (m_X12_payOf (d + 7) 0 0) 0 0 9 [(0, .ref 1), (1, .int x1), (2, .int x2), (3, .int x3), (4, .int (x4 + 1)), (5, .int (x5 + 1)), (6, .int (x6 + 1))] [] h15 (kI K)) ∧ (¬ r17 = 1 → (r17 < 5 → AW (m_X12_payOf (d + 7) 0 0) 0 0 9 [(0, .ref 1), (1, .int x1), (2, .int x2), (3, .int x3), (4, .int (x4 + 1)), (5, .int (x5 + 0)), (6, .int (x6 + 1))] [] h15 (kI K)) ∧ (¬ r17 < 5 → AW (m_X12_payOf (d + 7) 0 0) 0 0 9 [(0, .ref 1), (1, .int x1), (2, .int x2), (3, .int x3), (4, .int (x4 + 1)), (5, .int (x5 + 1)), (6, .int (x6 + 1))] [] h15 (kI K)))))))))) ∧ (¬ ((h_i h 240 x6.toNatClampNeg) / 1440) = x2 → AW (m_X12_payOf (d + 7) 0 0) 0 0 9 [(0, .ref 1), (1, .int x1), (2, .int x2), (3, .int x3), (4, .int x4), (5, .int x5), (6, .int (x6 + 1))] [] h (kI K))))))) : AW (m_X12_payOf (d + 7) 0 0) 0 0 9 [(0, .ref 1), (1, .int x1), (2, .int x2), (3, .int x3), (4, .int x4), (5, .int x5), (6, .int x6)] [] h (kI K) := by
  refine aw_iload d_X12_payOf_9 6 rfl ?_
  refine aw_aload_n (i := 0) rfl d_X12_payOf_11 0 rfl ?_
  refine aw_geti (k0 := 63) kc_12 (ws_1 w) (Nat.le_of_ble_eq_true rfl) tw_1805 d_X12_payOf_12 rfl ?_
  refine aw_icmp_ge (tgt := 119) d_X12_payOf_15 rfl (fun c1 => ?_) (fun c1 => ?_)
  · have k := k.1 c1
    refine aw_iconst (v := 0) d_X12_payOf_119 ic_0 ?_
    refine aw_istore [(0, .ref 1), (1, .int x1), (2, .int x2), (3, .int x3), (4, .int x4), (5, .int x5), (6, .int 0)] d_X12_payOf_120 (Nat.le_of_ble_eq_true rfl) rfl rfl ?_
    refine aw_iconst (v := 0) d_X12_payOf_122 ic_0 ?_
    refine aw_istore [(0, .ref 1), (1, .int x1), (2, .int x2), (3, .int x3), (4, .int x4), (5, .int x5), (6, .int 0), (7, .int 0)] d_X12_payOf_123 (Nat.le_of_ble_eq_true rfl) rfl rfl ?_
    refine aw_iconst (v := 0) d_X12_payOf_125 ic_0 ?_
    refine aw_istore [(0, .ref 1), (1, .int x1), (2, .int x2), (3, .int x3), (4, .int x4), (5, .int x5), (6, .int 0), (7, .int 0), (8, .int 0)] d_X12_payOf_126 (Nat.le_of_ble_eq_true rfl) rfl rfl ?_
    exact k
  · have k := k.2 c1
    refine aw_aload_n (i := 0) rfl d_X12_payOf_18 0 rfl ?_
    refine aw_getr (k0 := 53) kc_12 (ws_1 w) (Nat.le_of_ble_eq_true rfl) tw_1795 d_X12_payOf_19 rfl (wr_1_53 w) ?_
    refine aw_iload d_X12_payOf_22 6 rfl ?_
    obtain ⟨b2, k⟩ := k
    refine aw_iald (ws_238 w) b2 d_X12_payOf_24 ?_
    refine aw_iload_n (i := 1) rfl d_X12_payOf_25 1 rfl ?_
    refine aw_icmp_ne (tgt := 113) d_X12_payOf_26 rfl (fun c3 => ?_) (fun c3 => ?_)
    · have k := k.1 c3
      refine aw_iinc (v := (x6 + 1)) [(0, .ref 1), (1, .int x1), (2, .int x2), (3, .int x3), (4, .int x4), (5, .int x5), (6, .int (x6 + 1))] d_X12_payOf_113 6 rfl rfl (Nat.le_of_ble_eq_true rfl) rfl rfl ?_
      refine aw_goto (tgt := 9) d_X12_payOf_116 rfl ?_
      exact k
    · have k := k.2 c3
      refine aw_aload_n (i := 0) rfl d_X12_payOf_29 0 rfl ?_
      refine aw_getr (k0 := 55) kc_12 (ws_1 w) (Nat.le_of_ble_eq_true rfl) tw_1797 d_X12_payOf_30 rfl (wr_1_55 w) ?_
      refine aw_iload d_X12_payOf_33 6 rfl ?_
      obtain ⟨b4, k⟩ := k
      refine aw_iald (ws_240 w) b4 d_X12_payOf_35 ?_
      refine aw_sipush (v := 1440) d_X12_payOf_36 is_1440 ?_
      refine aw_idiv d_X12_payOf_39 (by decide) ?_
      refine aw_iload_n (i := 2) rfl d_X12_payOf_40 2 rfl ?_
      refine aw_icmp_eq (tgt := 47) d_X12_payOf_41 rfl (fun c5 => ?_) (fun c5 => ?_)
      · have k := k.1 c5
        refine aw_aload_n (i := 0) rfl d_X12_payOf_47 0 rfl ?_
        refine aw_iload d_X12_payOf_48 6 rfl ?_
        refine aw_iload_n (i := 3) rfl d_X12_payOf_50 3 rfl ?_
        refine aw_Vi 1 [.int x6, .int x3] [] d_X12_payOf_51 (cV_X12_stateOf (d + 0) 0 0) kc_12 (ws_1 w) tw_2316 rfl (rr0 (Nat.le_of_ble_eq_true rfl) (Nat.le_of_ble_eq_true rfl)) (Nat.le_of_ble_eq_true rfl) xs0 k (fun r8 h6 kk => ?_)
        obtain ⟨w7, k⟩ := kk
        refine aw_istore [(0, .ref 1), (1, .int x1), (2, .int x2), (3, .int x3), (4, .int x4), (5, .int x5), (6, .int x6), (7, .int r8)] d_X12_payOf_54 (Nat.le_of_ble_eq_true rfl) rfl rfl ?_
        refine aw_iload d_X12_payOf_56 7 rfl ?_
        refine aw_iconst (v := 2) d_X12_payOf_58 ic_2 ?_
        refine aw_icmp_ne (tgt := 72) d_X12_payOf_59 rfl (fun c9 => ?_) (fun c9 => ?_)
        · have k := k.1 c9
          refine aw_iconst (v := 0) d_X12_payOf_72 ic_0 ?_
          refine aw_istore [(0, .ref 1), (1, .int x1), (2, .int x2), (3, .int x3), (4, .int x4), (5, .int x5), (6, .int x6), (7, .int r8), (8, .int 0)] d_X12_payOf_73 (Nat.le_of_ble_eq_true rfl) rfl rfl ?_
          refine aw_iload d_X12_payOf_75 4 rfl ?_
          refine aw_iload d_X12_payOf_77 7 rfl ?_
          refine aw_iconst (v := 1) d_X12_payOf_79 ic_1 ?_
          refine aw_icmp_ne (tgt := 87) d_X12_payOf_80 rfl (fun c10 => ?_) (fun c10 => ?_)
          · have k := k.1 c10
            refine aw_iconst (v := 0) d_X12_payOf_87 ic_0 ?_
            refine aw_iadd d_X12_payOf_88 ?_
            refine aw_istore [(0, .ref 1), (1, .int x1), (2, .int x2), (3, .int x3), (4, .int (x4 + 0)), (5, .int x5), (6, .int x6), (7, .int r8), (8, .int 0)] d_X12_payOf_89 (Nat.le_of_ble_eq_true rfl) rfl rfl ?_
            refine aw_iload d_X12_payOf_91 5 rfl ?_
            refine aw_iload d_X12_payOf_93 8 rfl ?_
            refine aw_iconst (v := 1) d_X12_payOf_95 ic_1 ?_
            refine aw_icmp_eq (tgt := 105) d_X12_payOf_96 rfl (fun c => absurd c (by decide)) (fun _ => ?_)
            refine aw_iload d_X12_payOf_99 8 rfl ?_
            refine aw_iconst (v := 5) d_X12_payOf_101 ic_5 ?_
            refine aw_icmp_lt (tgt := 109) d_X12_payOf_102 rfl (fun _ => ?_) (fun c => absurd c (by decide))
            refine aw_iconst (v := 0) d_X12_payOf_109 ic_0 ?_
            refine aw_iadd d_X12_payOf_110 ?_
            refine aw_istore [(0, .ref 1), (1, .int x1), (2, .int x2), (3, .int x3), (4, .int (x4 + 0)), (5, .int (x5 + 0)), (6, .int x6), (7, .int r8), (8, .int 0)] d_X12_payOf_111 (Nat.le_of_ble_eq_true rfl) rfl rfl ?_
            refine aw_iinc (v := (x6 + 1)) [(0, .ref 1), (1, .int x1), (2, .int x2), (3, .int x3), (4, .int (x4 + 0)), (5, .int (x5 + 0)), (6, .int (x6 + 1)), (7, .int r8), (8, .int 0)] d_X12_payOf_113 6 rfl rfl (Nat.le_of_ble_eq_true rfl) rfl rfl ?_
            refine aw_goto (tgt := 9) d_X12_payOf_116 rfl ?_
            exact aw_lvp [0, 1, 2, 3, 4, 5, 6] [(0, .ref 1), (1, .int x1), (2, .int x2), (3, .int x3), (4, .int (x4 + 0)), (5, .int (x5 + 0)), (6, .int (x6 + 1))] rfl k
          · have k := k.2 c10
            refine aw_iconst (v := 1) d_X12_payOf_83 ic_1 ?_
            refine aw_goto (tgt := 88) d_X12_payOf_84 rfl ?_
            refine aw_iadd d_X12_payOf_88 ?_
            refine aw_istore [(0, .ref 1), (1, .int x1), (2, .int x2), (3, .int x3), (4, .int (x4 + 1)), (5, .int x5), (6, .int x6), (7, .int r8), (8, .int 0)] d_X12_payOf_89 (Nat.le_of_ble_eq_true rfl) rfl rfl ?_
            refine aw_iload d_X12_payOf_91 5 rfl ?_
            refine aw_iload d_X12_payOf_93 8 rfl ?_
            refine aw_iconst (v := 1) d_X12_payOf_95 ic_1 ?_
            refine aw_icmp_eq (tgt := 105) d_X12_payOf_96 rfl (fun c => absurd c (by decide)) (fun _ => ?_)
            refine aw_iload d_X12_payOf_99 8 rfl ?_
            refine aw_iconst (v := 5) d_X12_payOf_101 ic_5 ?_
            refine aw_icmp_lt (tgt := 109) d_X12_payOf_102 rfl (fun _ => ?_) (fun c => absurd c (by decide))
            refine aw_iconst (v := 0) d_X12_payOf_109 ic_0 ?_
            refine aw_iadd d_X12_payOf_110 ?_
            refine aw_istore [(0, .ref 1), (1, .int x1), (2, .int x2), (3, .int x3), (4, .int (x4 + 1)), (5, .int (x5 + 0)), (6, .int x6), (7, .int r8), (8, .int 0)] d_X12_payOf_111 (Nat.le_of_ble_eq_true rfl) rfl rfl ?_
            refine aw_iinc (v := (x6 + 1)) [(0, .ref 1), (1, .int x1), (2, .int x2), (3, .int x3), (4, .int (x4 + 1)), (5, .int (x5 + 0)), (6, .int (x6 + 1)), (7, .int r8), (8, .int 0)] d_X12_payOf_113 6 rfl rfl (Nat.le_of_ble_eq_true rfl) rfl rfl ?_
            refine aw_goto (tgt := 9) d_X12_payOf_116 rfl ?_
            exact aw_lvp [0, 1, 2, 3, 4, 5, 6] [(0, .ref 1), (1, .int x1), (2, .int x2), (3, .int x3), (4, .int (x4 + 1)), (5, .int (x5 + 0)), (6, .int (x6 + 1))] rfl k
        · have k := k.2 c9
          refine aw_aload_n (i := 0) rfl d_X12_payOf_62 0 rfl ?_
          refine aw_iload d_X12_payOf_63 6 rfl ?_
          refine aw_iload_n (i := 3) rfl d_X12_payOf_65 3 rfl ?_
          refine aw_Vi 1 [.int x6, .int x3] [] d_X12_payOf_66 (cV_X12_causeOf (d + 0) 0 0) kc_12 (ws_1 w7) tw_2320 rfl (rr0 (Nat.le_of_ble_eq_true rfl) (Nat.le_of_ble_eq_true rfl)) (Nat.le_of_ble_eq_true rfl) xs0 k (fun r17 h15 kk => ?_)
          obtain ⟨w16, k⟩ := kk
          refine aw_goto (tgt := 73) d_X12_payOf_69 rfl ?_
          refine aw_istore [(0, .ref 1), (1, .int x1), (2, .int x2), (3, .int x3), (4, .int x4), (5, .int x5), (6, .int x6), (7, .int r8), (8, .int r17)] d_X12_payOf_73 (Nat.le_of_ble_eq_true rfl) rfl rfl ?_
          refine aw_iload d_X12_payOf_75 4 rfl ?_
          refine aw_iload d_X12_payOf_77 7 rfl ?_
          refine aw_iconst (v := 1) d_X12_payOf_79 ic_1 ?_
          refine aw_icmp_ne (tgt := 87) d_X12_payOf_80 rfl (fun c18 => ?_) (fun c18 => ?_)
          · have k := k.1 c18
            refine aw_iconst (v := 0) d_X12_payOf_87 ic_0 ?_
            refine aw_iadd d_X12_payOf_88 ?_
            refine aw_istore [(0, .ref 1), (1, .int x1), (2, .int x2), (3, .int x3), (4, .int (x4 + 0)), (5, .int x5), (6, .int x6), (7, .int r8), (8, .int r17)] d_X12_payOf_89 (Nat.le_of_ble_eq_true rfl) rfl rfl ?_
            refine aw_iload d_X12_payOf_91 5 rfl ?_
            refine aw_iload d_X12_payOf_93 8 rfl ?_
            refine aw_iconst (v := 1) d_X12_payOf_95 ic_1 ?_
            refine aw_icmp_eq (tgt := 105) d_X12_payOf_96 rfl (fun c19 => ?_) (fun c19 => ?_)
            · have k := k.1 c19
              refine aw_iconst (v := 1) d_X12_payOf_105 ic_1 ?_
              refine aw_goto (tgt := 110) d_X12_payOf_106 rfl ?_
              refine aw_iadd d_X12_payOf_110 ?_
              refine aw_istore [(0, .ref 1), (1, .int x1), (2, .int x2), (3, .int x3), (4, .int (x4 + 0)), (5, .int (x5 + 1)), (6, .int x6), (7, .int r8), (8, .int r17)] d_X12_payOf_111 (Nat.le_of_ble_eq_true rfl) rfl rfl ?_
              refine aw_iinc (v := (x6 + 1)) [(0, .ref 1), (1, .int x1), (2, .int x2), (3, .int x3), (4, .int (x4 + 0)), (5, .int (x5 + 1)), (6, .int (x6 + 1)), (7, .int r8), (8, .int r17)] d_X12_payOf_113 6 rfl rfl (Nat.le_of_ble_eq_true rfl) rfl rfl ?_
              refine aw_goto (tgt := 9) d_X12_payOf_116 rfl ?_
              exact aw_lvp [0, 1, 2, 3, 4, 5, 6] [(0, .ref 1), (1, .int x1), (2, .int x2), (3, .int x3), (4, .int (x4 + 0)), (5, .int (x5 + 1)), (6, .int (x6 + 1))] rfl k
            · have k := k.2 c19
              refine aw_iload d_X12_payOf_99 8 rfl ?_
              refine aw_iconst (v := 5) d_X12_payOf_101 ic_5 ?_
              refine aw_icmp_lt (tgt := 109) d_X12_payOf_102 rfl (fun c20 => ?_) (fun c20 => ?_)
              · have k := k.1 c20
                refine aw_iconst (v := 0) d_X12_payOf_109 ic_0 ?_
                refine aw_iadd d_X12_payOf_110 ?_
                refine aw_istore [(0, .ref 1), (1, .int x1), (2, .int x2), (3, .int x3), (4, .int (x4 + 0)), (5, .int (x5 + 0)), (6, .int x6), (7, .int r8), (8, .int r17)] d_X12_payOf_111 (Nat.le_of_ble_eq_true rfl) rfl rfl ?_
                refine aw_iinc (v := (x6 + 1)) [(0, .ref 1), (1, .int x1), (2, .int x2), (3, .int x3), (4, .int (x4 + 0)), (5, .int (x5 + 0)), (6, .int (x6 + 1)), (7, .int r8), (8, .int r17)] d_X12_payOf_113 6 rfl rfl (Nat.le_of_ble_eq_true rfl) rfl rfl ?_
                refine aw_goto (tgt := 9) d_X12_payOf_116 rfl ?_
                exact aw_lvp [0, 1, 2, 3, 4, 5, 6] [(0, .ref 1), (1, .int x1), (2, .int x2), (3, .int x3), (4, .int (x4 + 0)), (5, .int (x5 + 0)), (6, .int (x6 + 1))] rfl k
              · have k := k.2 c20
                refine aw_iconst (v := 1) d_X12_payOf_105 ic_1 ?_
                refine aw_goto (tgt := 110) d_X12_payOf_106 rfl ?_
                refine aw_iadd d_X12_payOf_110 ?_
                refine aw_istore [(0, .ref 1), (1, .int x1), (2, .int x2), (3, .int x3), (4, .int (x4 + 0)), (5, .int (x5 + 1)), (6, .int x6), (7, .int r8), (8, .int r17)] d_X12_payOf_111 (Nat.le_of_ble_eq_true rfl) rfl rfl ?_
                refine aw_iinc (v := (x6 + 1)) [(0, .ref 1), (1, .int x1), (2, .int x2), (3, .int x3), (4, .int (x4 + 0)), (5, .int (x5 + 1)), (6, .int (x6 + 1)), (7, .int r8), (8, .int r17)] d_X12_payOf_113 6 rfl rfl (Nat.le_of_ble_eq_true rfl) rfl rfl ?_
                refine aw_goto (tgt := 9) d_X12_payOf_116 rfl ?_
                exact aw_lvp [0, 1, 2, 3, 4, 5, 6] [(0, .ref 1), (1, .int x1), (2, .int x2), (3, .int x3), (4, .int (x4 + 0)), (5, .int (x5 + 1)), (6, .int (x6 + 1))] rfl k
          · have k := k.2 c18
            refine aw_iconst (v := 1) d_X12_payOf_83 ic_1 ?_
            refine aw_goto (tgt := 88) d_X12_payOf_84 rfl ?_
            refine aw_iadd d_X12_payOf_88 ?_
            refine aw_istore [(0, .ref 1), (1, .int x1), (2, .int x2), (3, .int x3), (4, .int (x4 + 1)), (5, .int x5), (6, .int x6), (7, .int r8), (8, .int r17)] d_X12_payOf_89 (Nat.le_of_ble_eq_true rfl) rfl rfl ?_
            refine aw_iload d_X12_payOf_91 5 rfl ?_
            refine aw_iload d_X12_payOf_93 8 rfl ?_
            refine aw_iconst (v := 1) d_X12_payOf_95 ic_1 ?_
            refine aw_icmp_eq (tgt := 105) d_X12_payOf_96 rfl (fun c21 => ?_) (fun c21 => ?_)
            · have k := k.1 c21
              refine aw_iconst (v := 1) d_X12_payOf_105 ic_1 ?_
              refine aw_goto (tgt := 110) d_X12_payOf_106 rfl ?_
              refine aw_iadd d_X12_payOf_110 ?_
              refine aw_istore [(0, .ref 1), (1, .int x1), (2, .int x2), (3, .int x3), (4, .int (x4 + 1)), (5, .int (x5 + 1)), (6, .int x6), (7, .int r8), (8, .int r17)] d_X12_payOf_111 (Nat.le_of_ble_eq_true rfl) rfl rfl ?_
              refine aw_iinc (v := (x6 + 1)) [(0, .ref 1), (1, .int x1), (2, .int x2), (3, .int x3), (4, .int (x4 + 1)), (5, .int (x5 + 1)), (6, .int (x6 + 1)), (7, .int r8), (8, .int r17)] d_X12_payOf_113 6 rfl rfl (Nat.le_of_ble_eq_true rfl) rfl rfl ?_
              refine aw_goto (tgt := 9) d_X12_payOf_116 rfl ?_
              exact aw_lvp [0, 1, 2, 3, 4, 5, 6] [(0, .ref 1), (1, .int x1), (2, .int x2), (3, .int x3), (4, .int (x4 + 1)), (5, .int (x5 + 1)), (6, .int (x6 + 1))] rfl k
            · have k := k.2 c21
              refine aw_iload d_X12_payOf_99 8 rfl ?_
              refine aw_iconst (v := 5) d_X12_payOf_101 ic_5 ?_
              refine aw_icmp_lt (tgt := 109) d_X12_payOf_102 rfl (fun c22 => ?_) (fun c22 => ?_)
              · have k := k.1 c22
                refine aw_iconst (v := 0) d_X12_payOf_109 ic_0 ?_
                refine aw_iadd d_X12_payOf_110 ?_
                refine aw_istore [(0, .ref 1), (1, .int x1), (2, .int x2), (3, .int x3), (4, .int (x4 + 1)), (5, .int (x5 + 0)), (6, .int x6), (7, .int r8), (8, .int r17)] d_X12_payOf_111 (Nat.le_of_ble_eq_true rfl) rfl rfl ?_
                refine aw_iinc (v := (x6 + 1)) [(0, .ref 1), (1, .int x1), (2, .int x2), (3, .int x3), (4, .int (x4 + 1)), (5, .int (x5 + 0)), (6, .int (x6 + 1)), (7, .int r8), (8, .int r17)] d_X12_payOf_113 6 rfl rfl (Nat.le_of_ble_eq_true rfl) rfl rfl ?_
                refine aw_goto (tgt := 9) d_X12_payOf_116 rfl ?_
                exact aw_lvp [0, 1, 2, 3, 4, 5, 6] [(0, .ref 1), (1, .int x1), (2, .int x2), (3, .int x3), (4, .int (x4 + 1)), (5, .int (x5 + 0)), (6, .int (x6 + 1))] rfl k
              · have k := k.2 c22
                refine aw_iconst (v := 1) d_X12_payOf_105 ic_1 ?_
                refine aw_goto (tgt := 110) d_X12_payOf_106 rfl ?_
                refine aw_iadd d_X12_payOf_110 ?_
                refine aw_istore [(0, .ref 1), (1, .int x1), (2, .int x2), (3, .int x3), (4, .int (x4 + 1)), (5, .int (x5 + 1)), (6, .int x6), (7, .int r8), (8, .int r17)] d_X12_payOf_111 (Nat.le_of_ble_eq_true rfl) rfl rfl ?_
                refine aw_iinc (v := (x6 + 1)) [(0, .ref 1), (1, .int x1), (2, .int x2), (3, .int x3), (4, .int (x4 + 1)), (5, .int (x5 + 1)), (6, .int (x6 + 1)), (7, .int r8), (8, .int r17)] d_X12_payOf_113 6 rfl rfl (Nat.le_of_ble_eq_true rfl) rfl rfl ?_
                refine aw_goto (tgt := 9) d_X12_payOf_116 rfl ?_
                exact aw_lvp [0, 1, 2, 3, 4, 5, 6] [(0, .ref 1), (1, .int x1), (2, .int x2), (3, .int x3), (4, .int (x4 + 1)), (5, .int (x5 + 1)), (6, .int (x6 + 1))] rfl k
      · have k := k.2 c5
        refine aw_goto (tgt := 113) d_X12_payOf_44 rfl ?_
        refine aw_iinc (v := (x6 + 1)) [(0, .ref 1), (1, .int x1), (2, .int x2), (3, .int x3), (4, .int x4), (5, .int x5), (6, .int (x6 + 1))] d_X12_payOf_113 6 rfl rfl (Nat.le_of_ble_eq_true rfl) rfl rfl ?_
        refine aw_goto (tgt := 9) d_X12_payOf_116 rfl ?_
        exact k
theorem t_X12_payOf_128 (d : Nat) (h : Hp_) (w : Wf h) (x1 : Int32) (x2 : Int32) (x3 : Int32) (x4 : Int32) (x5 : Int32) (x6 : Int32) (x7 : Int32) (x8 : Int32) (K : Int32 → Hp_ → Prop) (k : ((h_i h 1 80) ≤ x8 → Ci (m_X12_rankOn (d + 0) 0 0) [.ref 1, .int x1, .int x2, .int x3] h (fun r26 h24 => Wf h24 ∧ (vp_in 99 128 ∧ (vp_in x1 12 ∧ (vp_in 121 128 ∧ (vp_in 109 128 ∧ (vp_in 120 128 ∧ (vp_in 116 128 ∧ (vp_in 97 128 ∧ (Ci (m_X12_forceOf (d + 0) 0 0) [.ref 1, .int 1, .int x2, .int x3] (h_im (h_im (h_im (h_im (h_im (h_im h24 236 (99 : Int32).toNatClampNeg r26) 236 (121 : Int32).toNatClampNeg (h_i h24 205 x1.toNatClampNeg)) 236 (109 : Int32).toNatClampNeg x4) 236 (120 : Int32).toNatClampNeg x5) 236 (116 : Int32).toNatClampNeg x6) 236 (97 : Int32).toNatClampNeg x7) (fun r36 h34 => Wf h34 ∧ (Ci (m_X12_tell (d + 4) 0 0) [.ref 1, .int 1, .int r36] h34 (fun r39 h37 => Wf h37 ∧ (K (if 0 < (if r39 < 10000 then r39 else 10000) then (if r39 < 10000 then r39 else 10000) else 0) h37)))))))))))))) ∧ (¬ (h_i h 1 80) ≤ x8 → vp_in x8 300 ∧ ((¬ (h_i h 255 x8.toNatClampNeg) = x1 → AW (m_X12_payOf (d + 7) 0 0) 0 0 128 [(0, .ref 1), (1, .int x1), (2, .int x2), (3, .int x3), (4, .int x4), (5, .int x5), (6, .int x6), (7, .int x7), (8, .int (x8 + 1))] [] h (kI K)) ∧ ((h_i h 255 x8.toNatClampNeg) = x1 → vp_in x8 300 ∧ ((¬ ((h_i h 257 x8.toNatClampNeg) / 1440) = x2 → AW (m_X12_payOf (d + 7) 0 0) 0 0 128 [(0, .ref 1), (1, .int x1), (2, .int x2), (3, .int x3), (4, .int x4), (5, .int x5), (6, .int x6), (7, .int x7), (8, .int (x8 + 1))] [] h (kI K)) ∧ (((h_i h 257 x8.toNatClampNeg) / 1440) = x2 → vp_in x8 300 ∧ ((¬ (h_i h 258 x8.toNatClampNeg) = 3 → AW (m_X12_payOf (d + 7) 0 0) 0 0 128 [(0, .ref 1), (1, .int x1), (2, .int x2), (3, .int x3), (4, .int x4), (5, .int x5), (6, .int x6), (7, .int x7), (8, .int (x8 + 1))] [] h (kI K)) ∧ ((h_i h 258 x8.toNatClampNeg) = 3 → Ci (m_X12_lets (d + 6) 0 0) [.ref 1, .int x8, .int x3] h (fun r48 h46 => Wf h46 ∧ ((¬ r48 = 3 → AW (m_X12_payOf (d + 7) 0 0) 0 0 128 [(0, .ref 1), (1, .int x1), (2, .int x2), (3, .int x3), (4, .int x4), (5, .int x5), (6, .int (x6 + 0)), (7, .int (x7 + 1)), (8, .int (x8 + 1))] [] h46 (kI K)) ∧ (r48 = 3 → AW (m_X12_payOf (d + 7) 0 0) 0 0 128 [(0, .ref 1), (1, .int x1), (2, .int x2), (3, .int x3), (4, .int x4), (5, .int x5), (6, .int (x6 + 1)), (7, .int (x7 + 0)), (8, .int (x8 + 1))] [] h46 (kI K)))))))))))) : AW (m_X12_payOf (d + 7) 0 0) 0 0 128 [(0, .ref 1), (1, .int x1), (2, .int x2), (3, .int x3), (4, .int x4), (5, .int x5), (6, .int x6), (7, .int x7), (8, .int x8)] [] h (kI K) := by
  refine aw_iload d_X12_payOf_128 8 rfl ?_
  refine aw_aload_n (i := 0) rfl d_X12_payOf_130 0 rfl ?_
  refine aw_geti (k0 := 80) kc_12 (ws_1 w) (Nat.le_of_ble_eq_true rfl) tw_1822 d_X12_payOf_131 rfl ?_
  refine aw_icmp_ge (tgt := 228) d_X12_payOf_134 rfl (fun c23 => ?_) (fun c23 => ?_)
  · have k := k.1 c23
    refine aw_aload_n (i := 0) rfl d_X12_payOf_228 0 rfl ?_
    refine aw_getr (k0 := 50) kc_12 (ws_1 w) (Nat.le_of_ble_eq_true rfl) tw_1792 d_X12_payOf_229 rfl (wr_1_50 w) ?_
    refine aw_bipush (v := 99) d_X12_payOf_232 ib_99 ?_
    refine aw_aload_n (i := 0) rfl d_X12_payOf_234 0 rfl ?_
    refine aw_iload_n (i := 1) rfl d_X12_payOf_235 1 rfl ?_
    refine aw_iload_n (i := 2) rfl d_X12_payOf_236 2 rfl ?_
    refine aw_iload_n (i := 3) rfl d_X12_payOf_237 3 rfl ?_
    refine aw_Vi 1 [.int x1, .int x2, .int x3] [.int 99, .ref 236] d_X12_payOf_238 (cV_X12_rankOn (d + 0) 0 0) kc_12 (ws_1 w) tw_2175 rfl (rr0 (Nat.le_of_ble_eq_true rfl) (Nat.le_of_ble_eq_true rfl)) (Nat.le_of_ble_eq_true rfl) xs0 k (fun r26 h24 kk => ?_)
    obtain ⟨w25, k⟩ := kk
    obtain ⟨b27, k⟩ := k
    refine aw_iast (ws_236 w25) b27 d_X12_payOf_241 ?_
    refine aw_aload_n (i := 0) rfl d_X12_payOf_242 0 rfl ?_
    refine aw_getr (k0 := 50) kc_12 (ws_1 w25) (Nat.le_of_ble_eq_true rfl) tw_1792 d_X12_payOf_243 rfl (wr_1_50 w25) ?_
    refine aw_bipush (v := 121) d_X12_payOf_246 ib_121 ?_
    refine aw_aload_n (i := 0) rfl d_X12_payOf_248 0 rfl ?_
    refine aw_getr (k0 := 9) kc_12 (ws_1 w25) (Nat.le_of_ble_eq_true rfl) tw_1751 d_X12_payOf_249 rfl (wr_1_9 w25) ?_
    refine aw_iload_n (i := 1) rfl d_X12_payOf_252 1 rfl ?_
    obtain ⟨b28, k⟩ := k
    refine aw_iald (ws_205 w25) b28 d_X12_payOf_253 ?_
    refine aw_vi (v2 := (h_i h24 205 x1.toNatClampNeg)) (rfl) ?_
    obtain ⟨b29, k⟩ := k
    refine aw_iast (ws_236 w25) b29 d_X12_payOf_254 ?_
    refine aw_aload_n (i := 0) rfl d_X12_payOf_255 0 rfl ?_
    refine aw_getr (k0 := 50) kc_12 (ws_1 w25) (Nat.le_of_ble_eq_true rfl) tw_1792 d_X12_payOf_256 rfl (wr_1_50 w25) ?_
    refine aw_bipush (v := 109) d_X12_payOf_259 ib_109 ?_
    refine aw_iload d_X12_payOf_261 4 rfl ?_
    obtain ⟨b30, k⟩ := k
    refine aw_iast (ws_236 w25) b30 d_X12_payOf_263 ?_
    refine aw_aload_n (i := 0) rfl d_X12_payOf_264 0 rfl ?_
    refine aw_getr (k0 := 50) kc_12 (ws_1 w25) (Nat.le_of_ble_eq_true rfl) tw_1792 d_X12_payOf_265 rfl (wr_1_50 w25) ?_
    refine aw_bipush (v := 120) d_X12_payOf_268 ib_120 ?_
    refine aw_iload d_X12_payOf_270 5 rfl ?_
    obtain ⟨b31, k⟩ := k
    refine aw_iast (ws_236 w25) b31 d_X12_payOf_272 ?_
    refine aw_aload_n (i := 0) rfl d_X12_payOf_273 0 rfl ?_
    refine aw_getr (k0 := 50) kc_12 (ws_1 w25) (Nat.le_of_ble_eq_true rfl) tw_1792 d_X12_payOf_274 rfl (wr_1_50 w25) ?_
    refine aw_bipush (v := 116) d_X12_payOf_277 ib_116 ?_
    refine aw_iload d_X12_payOf_279 6 rfl ?_
    obtain ⟨b32, k⟩ := k
    refine aw_iast (ws_236 w25) b32 d_X12_payOf_281 ?_
    refine aw_aload_n (i := 0) rfl d_X12_payOf_282 0 rfl ?_
    refine aw_getr (k0 := 50) kc_12 (ws_1 w25) (Nat.le_of_ble_eq_true rfl) tw_1792 d_X12_payOf_283 rfl (wr_1_50 w25) ?_
    refine aw_bipush (v := 97) d_X12_payOf_286 ib_97 ?_
    refine aw_iload d_X12_payOf_288 7 rfl ?_
    obtain ⟨b33, k⟩ := k
    refine aw_iast (ws_236 w25) b33 d_X12_payOf_290 ?_
    refine aw_iconst (v := 0) d_X12_payOf_291 ic_0 ?_
    refine aw_sipush (v := 10000) d_X12_payOf_292 is_10000 ?_
    refine aw_aload_n (i := 0) rfl d_X12_payOf_295 0 rfl ?_
    refine aw_iconst (v := 1) d_X12_payOf_296 ic_1 ?_
    refine aw_aload_n (i := 0) rfl d_X12_payOf_297 0 rfl ?_
    refine aw_iconst (v := 1) d_X12_payOf_298 ic_1 ?_
    refine aw_iload_n (i := 2) rfl d_X12_payOf_299 2 rfl ?_
    refine aw_iload_n (i := 3) rfl d_X12_payOf_300 3 rfl ?_
    refine aw_Vi 1 [.int 1, .int x2, .int x3] [.int 1, .ref 1, .int 10000, .int 0] d_X12_payOf_301 (cV_X12_forceOf (d + 0) 0 0) kc_12 (ws_1 w25) tw_2308 rfl (rr0 (Nat.le_of_ble_eq_true rfl) (Nat.le_of_ble_eq_true rfl)) (Nat.le_of_ble_eq_true rfl) xs0 k (fun r36 h34 kk => ?_)
    obtain ⟨w35, k⟩ := kk
    refine aw_Vi 1 [.int 1, .int r36] [.int 10000, .int 0] d_X12_payOf_304 (cV_X12_tell (d + 4) 0 0) kc_12 (ws_1 w35) tw_2424 rfl (rr0 (Nat.le_of_ble_eq_true rfl) (Nat.le_of_ble_eq_true rfl)) (Nat.le_of_ble_eq_true rfl) xs0 k (fun r39 h37 kk => ?_)
    obtain ⟨w38, k⟩ := kk
    refine aw_mmin d_X12_payOf_307 tw_2552 (show 1 ≤ (d + 7) by omega) (Nat.le_trans (Nat.le_of_ble_eq_true rfl) (show 100 ≤ 100 * (d + 7) by omega)) ⟨Nat.le_refl _, Nat.le_refl _⟩ ?_
    refine aw_mmax d_X12_payOf_310 tw_2470 (show 1 ≤ (d + 7) by omega) (Nat.le_trans (Nat.le_of_ble_eq_true rfl) (show 100 ≤ 100 * (d + 7) by omega)) ⟨Nat.le_refl _, Nat.le_refl _⟩ ?_
    exact aw_iret rfl d_X12_payOf_313 ⟨Nat.le_refl _, Nat.le_refl _⟩ ⟨_, rfl, k⟩
  · have k := k.2 c23
    refine aw_aload_n (i := 0) rfl d_X12_payOf_137 0 rfl ?_
    refine aw_getr (k0 := 72) kc_12 (ws_1 w) (Nat.le_of_ble_eq_true rfl) tw_1814 d_X12_payOf_138 rfl (wr_1_72 w) ?_
    refine aw_iload d_X12_payOf_141 8 rfl ?_
    obtain ⟨b40, k⟩ := k
    refine aw_iald (ws_255 w) b40 d_X12_payOf_143 ?_
    refine aw_iload_n (i := 1) rfl d_X12_payOf_144 1 rfl ?_
    refine aw_icmp_ne (tgt := 222) d_X12_payOf_145 rfl (fun c41 => ?_) (fun c41 => ?_)
    · have k := k.1 c41
      refine aw_iinc (v := (x8 + 1)) [(0, .ref 1), (1, .int x1), (2, .int x2), (3, .int x3), (4, .int x4), (5, .int x5), (6, .int x6), (7, .int x7), (8, .int (x8 + 1))] d_X12_payOf_222 8 rfl rfl (Nat.le_of_ble_eq_true rfl) rfl rfl ?_
      refine aw_goto (tgt := 128) d_X12_payOf_225 rfl ?_
      exact k
    · have k := k.2 c41
      refine aw_aload_n (i := 0) rfl d_X12_payOf_148 0 rfl ?_
      refine aw_getr (k0 := 74) kc_12 (ws_1 w) (Nat.le_of_ble_eq_true rfl) tw_1816 d_X12_payOf_149 rfl (wr_1_74 w) ?_
      refine aw_iload d_X12_payOf_152 8 rfl ?_
      obtain ⟨b42, k⟩ := k
      refine aw_iald (ws_257 w) b42 d_X12_payOf_154 ?_
      refine aw_sipush (v := 1440) d_X12_payOf_155 is_1440 ?_
      refine aw_idiv d_X12_payOf_158 (by decide) ?_
      refine aw_iload_n (i := 2) rfl d_X12_payOf_159 2 rfl ?_
      refine aw_icmp_ne (tgt := 222) d_X12_payOf_160 rfl (fun c43 => ?_) (fun c43 => ?_)
      · have k := k.1 c43
        refine aw_iinc (v := (x8 + 1)) [(0, .ref 1), (1, .int x1), (2, .int x2), (3, .int x3), (4, .int x4), (5, .int x5), (6, .int x6), (7, .int x7), (8, .int (x8 + 1))] d_X12_payOf_222 8 rfl rfl (Nat.le_of_ble_eq_true rfl) rfl rfl ?_
        refine aw_goto (tgt := 128) d_X12_payOf_225 rfl ?_
        exact k
      · have k := k.2 c43
        refine aw_aload_n (i := 0) rfl d_X12_payOf_163 0 rfl ?_
        refine aw_getr (k0 := 75) kc_12 (ws_1 w) (Nat.le_of_ble_eq_true rfl) tw_1817 d_X12_payOf_164 rfl (wr_1_75 w) ?_
        refine aw_iload d_X12_payOf_167 8 rfl ?_
        obtain ⟨b44, k⟩ := k
        refine aw_iald (ws_258 w) b44 d_X12_payOf_169 ?_
        refine aw_iconst (v := 3) d_X12_payOf_170 ic_3 ?_
        refine aw_icmp_ne (tgt := 222) d_X12_payOf_171 rfl (fun c45 => ?_) (fun c45 => ?_)
        · have k := k.1 c45
          refine aw_iinc (v := (x8 + 1)) [(0, .ref 1), (1, .int x1), (2, .int x2), (3, .int x3), (4, .int x4), (5, .int x5), (6, .int x6), (7, .int x7), (8, .int (x8 + 1))] d_X12_payOf_222 8 rfl rfl (Nat.le_of_ble_eq_true rfl) rfl rfl ?_
          refine aw_goto (tgt := 128) d_X12_payOf_225 rfl ?_
          exact k
        · have k := k.2 c45
          refine aw_aload_n (i := 0) rfl d_X12_payOf_174 0 rfl ?_
          refine aw_iload d_X12_payOf_175 8 rfl ?_
          refine aw_iload_n (i := 3) rfl d_X12_payOf_177 3 rfl ?_
          refine aw_Vi 1 [.int x8, .int x3] [] d_X12_payOf_178 (cV_X12_lets (d + 6) 0 0) kc_12 (ws_1 w) tw_2396 rfl (rr0 (Nat.le_of_ble_eq_true rfl) (Nat.le_of_ble_eq_true rfl)) (Nat.le_of_ble_eq_true rfl) xs0 k (fun r48 h46 kk => ?_)
          obtain ⟨w47, k⟩ := kk
          refine aw_iconst (v := 3) d_X12_payOf_181 ic_3 ?_
          refine aw_icmp_ne (tgt := 189) d_X12_payOf_182 rfl (fun c49 => ?_) (fun c49 => ?_)
          · have k := k.1 c49
            refine aw_iconst (v := 0) d_X12_payOf_189 ic_0 ?_
            refine aw_istore [(0, .ref 1), (1, .int x1), (2, .int x2), (3, .int x3), (4, .int x4), (5, .int x5), (6, .int x6), (7, .int x7), (8, .int x8), (9, .int 0)] d_X12_payOf_190 (Nat.le_of_ble_eq_true rfl) rfl rfl ?_
            refine aw_iload d_X12_payOf_192 6 rfl ?_
            refine aw_iload d_X12_payOf_194 9 rfl ?_
            refine aw_if_eq (tgt := 203) d_X12_payOf_196 rfl (fun _ => ?_) (fun c => absurd c (by decide))
            refine aw_iconst (v := 0) d_X12_payOf_203 ic_0 ?_
            refine aw_iadd d_X12_payOf_204 ?_
            refine aw_istore [(0, .ref 1), (1, .int x1), (2, .int x2), (3, .int x3), (4, .int x4), (5, .int x5), (6, .int (x6 + 0)), (7, .int x7), (8, .int x8), (9, .int 0)] d_X12_payOf_205 (Nat.le_of_ble_eq_true rfl) rfl rfl ?_
            refine aw_iload d_X12_payOf_207 7 rfl ?_
            refine aw_iload d_X12_payOf_209 9 rfl ?_
            refine aw_if_eq (tgt := 218) d_X12_payOf_211 rfl (fun _ => ?_) (fun c => absurd c (by decide))
            refine aw_iconst (v := 1) d_X12_payOf_218 ic_1 ?_
            refine aw_iadd d_X12_payOf_219 ?_
            refine aw_istore [(0, .ref 1), (1, .int x1), (2, .int x2), (3, .int x3), (4, .int x4), (5, .int x5), (6, .int (x6 + 0)), (7, .int (x7 + 1)), (8, .int x8), (9, .int 0)] d_X12_payOf_220 (Nat.le_of_ble_eq_true rfl) rfl rfl ?_
            refine aw_iinc (v := (x8 + 1)) [(0, .ref 1), (1, .int x1), (2, .int x2), (3, .int x3), (4, .int x4), (5, .int x5), (6, .int (x6 + 0)), (7, .int (x7 + 1)), (8, .int (x8 + 1)), (9, .int 0)] d_X12_payOf_222 8 rfl rfl (Nat.le_of_ble_eq_true rfl) rfl rfl ?_
            refine aw_goto (tgt := 128) d_X12_payOf_225 rfl ?_
            exact aw_lvp [0, 1, 2, 3, 4, 5, 6, 7, 8] [(0, .ref 1), (1, .int x1), (2, .int x2), (3, .int x3), (4, .int x4), (5, .int x5), (6, .int (x6 + 0)), (7, .int (x7 + 1)), (8, .int (x8 + 1))] rfl k
          · have k := k.2 c49
            refine aw_iconst (v := 1) d_X12_payOf_185 ic_1 ?_
            refine aw_goto (tgt := 190) d_X12_payOf_186 rfl ?_
            refine aw_istore [(0, .ref 1), (1, .int x1), (2, .int x2), (3, .int x3), (4, .int x4), (5, .int x5), (6, .int x6), (7, .int x7), (8, .int x8), (9, .int 1)] d_X12_payOf_190 (Nat.le_of_ble_eq_true rfl) rfl rfl ?_
            refine aw_iload d_X12_payOf_192 6 rfl ?_
            refine aw_iload d_X12_payOf_194 9 rfl ?_
            refine aw_if_eq (tgt := 203) d_X12_payOf_196 rfl (fun c => absurd c (by decide)) (fun _ => ?_)
            refine aw_iconst (v := 1) d_X12_payOf_199 ic_1 ?_
            refine aw_goto (tgt := 204) d_X12_payOf_200 rfl ?_
            refine aw_iadd d_X12_payOf_204 ?_
            refine aw_istore [(0, .ref 1), (1, .int x1), (2, .int x2), (3, .int x3), (4, .int x4), (5, .int x5), (6, .int (x6 + 1)), (7, .int x7), (8, .int x8), (9, .int 1)] d_X12_payOf_205 (Nat.le_of_ble_eq_true rfl) rfl rfl ?_
            refine aw_iload d_X12_payOf_207 7 rfl ?_
            refine aw_iload d_X12_payOf_209 9 rfl ?_
            refine aw_if_eq (tgt := 218) d_X12_payOf_211 rfl (fun c => absurd c (by decide)) (fun _ => ?_)
            refine aw_iconst (v := 0) d_X12_payOf_214 ic_0 ?_
            refine aw_goto (tgt := 219) d_X12_payOf_215 rfl ?_
            refine aw_iadd d_X12_payOf_219 ?_
            refine aw_istore [(0, .ref 1), (1, .int x1), (2, .int x2), (3, .int x3), (4, .int x4), (5, .int x5), (6, .int (x6 + 1)), (7, .int (x7 + 0)), (8, .int x8), (9, .int 1)] d_X12_payOf_220 (Nat.le_of_ble_eq_true rfl) rfl rfl ?_
            refine aw_iinc (v := (x8 + 1)) [(0, .ref 1), (1, .int x1), (2, .int x2), (3, .int x3), (4, .int x4), (5, .int x5), (6, .int (x6 + 1)), (7, .int (x7 + 0)), (8, .int (x8 + 1)), (9, .int 1)] d_X12_payOf_222 8 rfl rfl (Nat.le_of_ble_eq_true rfl) rfl rfl ?_
            refine aw_goto (tgt := 128) d_X12_payOf_225 rfl ?_
            exact aw_lvp [0, 1, 2, 3, 4, 5, 6, 7, 8] [(0, .ref 1), (1, .int x1), (2, .int x2), (3, .int x3), (4, .int x4), (5, .int x5), (6, .int (x6 + 1)), (7, .int (x7 + 0)), (8, .int (x8 + 1))] rfl k
theorem t_X12_book (d : Nat) (h : Hp_)  (K : Int32 → Hp_ → Prop) (k : AW (m_X12_book (d + 8) 0 0) 0 0 4 [(0, .ref 1), (1, .int 0), (2, .int 0)] [] h (kI K)) : Ci (m_X12_book (d + 8) 0 0) [.ref 1] h K := by
  refine Ct.of (fun _ _ _ => trivial) pn_X12 (Nat.le_of_ble_eq_true rfl) ?_
  show AW (m_X12_book (d + 8) 0 0) 0 0 0 [(0, .ref 1)] [] h (kI K)
  refine aw_iconst (v := 0) d_X12_book_0 ic_0 ?_
  refine aw_istore_n (i := 1) rfl [(0, .ref 1), (1, .int 0)] d_X12_book_1 (Nat.le_of_ble_eq_true rfl) rfl rfl ?_
  refine aw_iconst (v := 0) d_X12_book_2 ic_0 ?_
  refine aw_istore_n (i := 2) rfl [(0, .ref 1), (1, .int 0), (2, .int 0)] d_X12_book_3 (Nat.le_of_ble_eq_true rfl) rfl rfl ?_
  exact k
theorem t_X12_book_4 (d : Nat) (h : Hp_) (w : Wf h) (x1 : Int32) (x2 : Int32) (K : Int32 → Hp_ → Prop) (k : (((h_i h 1 0) / 1440) ≤ x2 → (((h_i h 1 127) + x1) ≤ 600 → AW (m_X12_book (d + 8) 0 0) 0 0 86 [(0, .ref 1), (1, .int x1), (2, .int 0)] [] h (kI K)) ∧ (¬ ((h_i h 1 127) + x1) ≤ 600 → K (-1) h)) ∧ (¬ ((h_i h 1 0) / 1440) ≤ x2 → AW (m_X12_book (d + 8) 0 0) 0 0 18 [(0, .ref 1), (1, .int x1), (2, .int x2), (3, .int 0)] [] h (kI K))) : AW (m_X12_book (d + 8) 0 0) 0 0 4 [(0, .ref 1), (1, .int x1), (2, .int x2)] [] h (kI K) := by
  refine aw_iload_n (i := 2) rfl d_X12_book_4 2 rfl ?_
  refine aw_aload_n (i := 0) rfl d_X12_book_5 0 rfl ?_
  refine aw_geti (k0 := 0) kc_12 (ws_1 w) (Nat.le_of_ble_eq_true rfl) tw_1742 d_X12_book_6 rfl ?_
  refine aw_sipush (v := 1440) d_X12_book_9 is_1440 ?_
  refine aw_idiv d_X12_book_12 (by decide) ?_
  refine aw_icmp_ge (tgt := 70) d_X12_book_13 rfl (fun c1 => ?_) (fun c1 => ?_)
  · have k := k.1 c1
    refine aw_aload_n (i := 0) rfl d_X12_book_70 0 rfl ?_
    refine aw_geti (k0 := 127) kc_12 (ws_1 w) (Nat.le_of_ble_eq_true rfl) tw_1869 d_X12_book_71 rfl ?_
    refine aw_iload_n (i := 1) rfl d_X12_book_74 1 rfl ?_
    refine aw_iadd d_X12_book_75 ?_
    refine aw_sipush (v := 600) d_X12_book_76 is_600 ?_
    refine aw_icmp_le (tgt := 84) d_X12_book_79 rfl (fun c2 => ?_) (fun c2 => ?_)
    · have k := k.1 c2
      refine aw_iconst (v := 0) d_X12_book_84 ic_0 ?_
      refine aw_istore_n (i := 2) rfl [(0, .ref 1), (1, .int x1), (2, .int 0)] d_X12_book_85 (Nat.le_of_ble_eq_true rfl) rfl rfl ?_
      exact k
    · have k := k.2 c2
      refine aw_iconst (v := (-1)) d_X12_book_82 ic_m1 ?_
      exact aw_iret rfl d_X12_book_83 ⟨Nat.le_refl _, Nat.le_refl _⟩ ⟨_, rfl, k⟩
  · have k := k.2 c1
    refine aw_iconst (v := 0) d_X12_book_16 ic_0 ?_
    refine aw_istore_n (i := 3) rfl [(0, .ref 1), (1, .int x1), (2, .int x2), (3, .int 0)] d_X12_book_17 (Nat.le_of_ble_eq_true rfl) rfl rfl ?_
    exact k
theorem t_X12_book_86 (d : Nat) (h : Hp_) (w : Wf h) (x1 : Int32) (x2 : Int32) (K : Int32 → Hp_ → Prop) (k : (((h_i h 1 0) / 1440) ≤ x2 → K x1 h) ∧ (¬ ((h_i h 1 0) / 1440) ≤ x2 → AW (m_X12_book (d + 8) 0 0) 0 0 100 [(0, .ref 1), (1, .int x1), (2, .int x2), (3, .int 0)] [] h (kI K))) : AW (m_X12_book (d + 8) 0 0) 0 0 86 [(0, .ref 1), (1, .int x1), (2, .int x2)] [] h (kI K) := by
  refine aw_iload_n (i := 2) rfl d_X12_book_86 2 rfl ?_
  refine aw_aload_n (i := 0) rfl d_X12_book_87 0 rfl ?_
  refine aw_geti (k0 := 0) kc_12 (ws_1 w) (Nat.le_of_ble_eq_true rfl) tw_1742 d_X12_book_88 rfl ?_
  refine aw_sipush (v := 1440) d_X12_book_91 is_1440 ?_
  refine aw_idiv d_X12_book_94 (by decide) ?_
  refine aw_icmp_ge (tgt := 227) d_X12_book_95 rfl (fun c3 => ?_) (fun c3 => ?_)
  · have k := k.1 c3
    refine aw_iload_n (i := 1) rfl d_X12_book_227 1 rfl ?_
    exact aw_iret rfl d_X12_book_228 ⟨Nat.le_refl _, Nat.le_refl _⟩ ⟨_, rfl, k⟩
  · have k := k.2 c3
    refine aw_iconst (v := 0) d_X12_book_98 ic_0 ?_
    refine aw_istore_n (i := 3) rfl [(0, .ref 1), (1, .int x1), (2, .int x2), (3, .int 0)] d_X12_book_99 (Nat.le_of_ble_eq_true rfl) rfl rfl ?_
    exact k
theorem t_X12_book_18 (d : Nat) (h : Hp_) (w : Wf h) (x1 : Int32) (x2 : Int32) (x3 : Int32) (K : Int32 → Hp_ → Prop) (k : ((h_i h 1 7) ≤ x3 → AW (m_X12_book (d + 8) 0 0) 0 0 4 [(0, .ref 1), (1, .int x1), (2, .int (x2 + 1))] [] h (kI K)) ∧ (¬ (h_i h 1 7) ≤ x3 → Ci (m_X12_payOf (d + 7) 0 0) [.ref 1, .int x3, .int x2, .int (h_i h 1 0)] h (fun r7 h5 => Wf h5 ∧ (vp_in ((31 * x3) + x2) 372 ∧ ((r7 = (h_i h5 293 (((31 * x3) + x2) : Int32).toNatClampNeg) → AW (m_X12_book (d + 8) 0 0) 0 0 18 [(0, .ref 1), (1, .int (x1 + 0)), (2, .int x2), (3, .int (x3 + 1))] [] h5 (kI K)) ∧ (¬ r7 = (h_i h5 293 (((31 * x3) + x2) : Int32).toNatClampNeg) → AW (m_X12_book (d + 8) 0 0) 0 0 18 [(0, .ref 1), (1, .int (x1 + 1)), (2, .int x2), (3, .int (x3 + 1))] [] h5 (kI K))))))) : AW (m_X12_book (d + 8) 0 0) 0 0 18 [(0, .ref 1), (1, .int x1), (2, .int x2), (3, .int x3)] [] h (kI K) := by
  refine aw_iload_n (i := 3) rfl d_X12_book_18 3 rfl ?_
  refine aw_aload_n (i := 0) rfl d_X12_book_19 0 rfl ?_
  refine aw_geti (k0 := 7) kc_12 (ws_1 w) (Nat.le_of_ble_eq_true rfl) tw_1749 d_X12_book_20 rfl ?_
  refine aw_icmp_ge (tgt := 64) d_X12_book_23 rfl (fun c4 => ?_) (fun c4 => ?_)
  · have k := k.1 c4
    refine aw_iinc (v := (x2 + 1)) [(0, .ref 1), (1, .int x1), (2, .int (x2 + 1)), (3, .int x3)] d_X12_book_64 2 rfl rfl (Nat.le_of_ble_eq_true rfl) rfl rfl ?_
    refine aw_goto (tgt := 4) d_X12_book_67 rfl ?_
    exact aw_lvp [0, 1, 2] [(0, .ref 1), (1, .int x1), (2, .int (x2 + 1))] rfl k
  · have k := k.2 c4
    refine aw_iload_n (i := 1) rfl d_X12_book_26 1 rfl ?_
    refine aw_aload_n (i := 0) rfl d_X12_book_27 0 rfl ?_
    refine aw_iload_n (i := 3) rfl d_X12_book_28 3 rfl ?_
    refine aw_iload_n (i := 2) rfl d_X12_book_29 2 rfl ?_
    refine aw_aload_n (i := 0) rfl d_X12_book_30 0 rfl ?_
    refine aw_geti (k0 := 0) kc_12 (ws_1 w) (Nat.le_of_ble_eq_true rfl) tw_1742 d_X12_book_31 rfl ?_
    refine aw_Vi 1 [.int x3, .int x2, .int (h_i h 1 0)] [.int x1] d_X12_book_34 (cV_X12_payOf (d + 7) 0 0) kc_12 (ws_1 w) tw_2664 rfl (rr0 (Nat.le_of_ble_eq_true rfl) (Nat.le_of_ble_eq_true rfl)) (Nat.le_of_ble_eq_true rfl) xs0 k (fun r7 h5 kk => ?_)
    obtain ⟨w6, k⟩ := kk
    refine aw_aload_n (i := 0) rfl d_X12_book_37 0 rfl ?_
    refine aw_getr (k0 := 122) kc_12 (ws_1 w6) (Nat.le_of_ble_eq_true rfl) tw_1864 d_X12_book_38 rfl (wr_1_122 w6) ?_
    refine aw_bipush (v := 31) d_X12_book_41 ib_31 ?_
    refine aw_iload_n (i := 3) rfl d_X12_book_43 3 rfl ?_
    refine aw_imul d_X12_book_44 ?_
    refine aw_iload_n (i := 2) rfl d_X12_book_45 2 rfl ?_
    refine aw_iadd d_X12_book_46 ?_
    obtain ⟨b8, k⟩ := k
    refine aw_iald (ws_293 w6) b8 d_X12_book_47 ?_
    refine aw_icmp_eq (tgt := 55) d_X12_book_48 rfl (fun c9 => ?_) (fun c9 => ?_)
    · have k := k.1 c9
      refine aw_iconst (v := 0) d_X12_book_55 ic_0 ?_
      refine aw_iadd d_X12_book_56 ?_
      refine aw_istore_n (i := 1) rfl [(0, .ref 1), (1, .int (x1 + 0)), (2, .int x2), (3, .int x3)] d_X12_book_57 (Nat.le_of_ble_eq_true rfl) rfl rfl ?_
      refine aw_iinc (v := (x3 + 1)) [(0, .ref 1), (1, .int (x1 + 0)), (2, .int x2), (3, .int (x3 + 1))] d_X12_book_58 3 rfl rfl (Nat.le_of_ble_eq_true rfl) rfl rfl ?_
      refine aw_goto (tgt := 18) d_X12_book_61 rfl ?_
      exact k
    · have k := k.2 c9
      refine aw_iconst (v := 1) d_X12_book_51 ic_1 ?_
      refine aw_goto (tgt := 56) d_X12_book_52 rfl ?_
      refine aw_iadd d_X12_book_56 ?_
      refine aw_istore_n (i := 1) rfl [(0, .ref 1), (1, .int (x1 + 1)), (2, .int x2), (3, .int x3)] d_X12_book_57 (Nat.le_of_ble_eq_true rfl) rfl rfl ?_
      refine aw_iinc (v := (x3 + 1)) [(0, .ref 1), (1, .int (x1 + 1)), (2, .int x2), (3, .int (x3 + 1))] d_X12_book_58 3 rfl rfl (Nat.le_of_ble_eq_true rfl) rfl rfl ?_
      refine aw_goto (tgt := 18) d_X12_book_61 rfl ?_
      exact k
theorem t_X12_book_100 (d : Nat) (h : Hp_) (w : Wf h) (x1 : Int32) (x2 : Int32) (x3 : Int32) (K : Int32 → Hp_ → Prop) (k : ((h_i h 1 7) ≤ x3 → AW (m_X12_book (d + 8) 0 0) 0 0 86 [(0, .ref 1), (1, .int x1), (2, .int (x2 + 1))] [] h (kI K)) ∧ (¬ (h_i h 1 7) ≤ x3 → Ci (m_X12_payOf (d + 7) 0 0) [.ref 1, .int x3, .int x2, .int (h_i h 1 0)] h (fun r13 h11 => Wf h11 ∧ (vp_in ((31 * x3) + x2) 372 ∧ ((r13 = (h_i h11 293 (((31 * x3) + x2) : Int32).toNatClampNeg) → AW (m_X12_book (d + 8) 0 0) 0 0 100 [(0, .ref 1), (1, .int x1), (2, .int x2), (3, .int (x3 + 1))] [] h11 (kI K)) ∧ (¬ r13 = (h_i h11 293 (((31 * x3) + x2) : Int32).toNatClampNeg) → vp_in (h_i h11 1 127) 600 ∧ (vp_in (h_i h11 1 127) 600 ∧ (vp_in ((31 * x3) + x2) 372 ∧ (vp_in (h_i h11 1 127) 600 ∧ (vp_in (h_i h11 1 127) 600 ∧ (vp_in ((31 * x3) + x2) 372 ∧ (AW (m_X12_book (d + 8) 0 0) 0 0 100 [(0, .ref 1), (1, .int x1), (2, .int x2), (3, .int (x3 + 1))] [] (h_im (h_im (h_im (h_im (h_im (h_im h11 294 ((h_i h11 1 127) : Int32).toNatClampNeg x3) 295 ((h_i h11 1 127) : Int32).toNatClampNeg x2) 296 ((h_i h11 1 127) : Int32).toNatClampNeg (r13 - (h_i h11 293 (((31 * x3) + x2) : Int32).toNatClampNeg))) 297 ((h_i h11 1 127) : Int32).toNatClampNeg (h_i h11 1 0)) 1 127 ((h_i h11 1 127) + 1)) 293 (((31 * x3) + x2) : Int32).toNatClampNeg r13) (kI K))))))))))))) : AW (m_X12_book (d + 8) 0 0) 0 0 100 [(0, .ref 1), (1, .int x1), (2, .int x2), (3, .int x3)] [] h (kI K) := by
  refine aw_iload_n (i := 3) rfl d_X12_book_100 3 rfl ?_
  refine aw_aload_n (i := 0) rfl d_X12_book_101 0 rfl ?_
  refine aw_geti (k0 := 7) kc_12 (ws_1 w) (Nat.le_of_ble_eq_true rfl) tw_1749 d_X12_book_102 rfl ?_
  refine aw_icmp_ge (tgt := 221) d_X12_book_105 rfl (fun c10 => ?_) (fun c10 => ?_)
  · have k := k.1 c10
    refine aw_iinc (v := (x2 + 1)) [(0, .ref 1), (1, .int x1), (2, .int (x2 + 1)), (3, .int x3)] d_X12_book_221 2 rfl rfl (Nat.le_of_ble_eq_true rfl) rfl rfl ?_
    refine aw_goto (tgt := 86) d_X12_book_224 rfl ?_
    exact aw_lvp [0, 1, 2] [(0, .ref 1), (1, .int x1), (2, .int (x2 + 1))] rfl k
  · have k := k.2 c10
    refine aw_aload_n (i := 0) rfl d_X12_book_108 0 rfl ?_
    refine aw_iload_n (i := 3) rfl d_X12_book_109 3 rfl ?_
    refine aw_iload_n (i := 2) rfl d_X12_book_110 2 rfl ?_
    refine aw_aload_n (i := 0) rfl d_X12_book_111 0 rfl ?_
    refine aw_geti (k0 := 0) kc_12 (ws_1 w) (Nat.le_of_ble_eq_true rfl) tw_1742 d_X12_book_112 rfl ?_
    refine aw_Vi 1 [.int x3, .int x2, .int (h_i h 1 0)] [] d_X12_book_115 (cV_X12_payOf (d + 7) 0 0) kc_12 (ws_1 w) tw_2664 rfl (rr0 (Nat.le_of_ble_eq_true rfl) (Nat.le_of_ble_eq_true rfl)) (Nat.le_of_ble_eq_true rfl) xs0 k (fun r13 h11 kk => ?_)
    obtain ⟨w12, k⟩ := kk
    refine aw_istore [(0, .ref 1), (1, .int x1), (2, .int x2), (3, .int x3), (4, .int r13)] d_X12_book_118 (Nat.le_of_ble_eq_true rfl) rfl rfl ?_
    refine aw_iload d_X12_book_120 4 rfl ?_
    refine aw_aload_n (i := 0) rfl d_X12_book_122 0 rfl ?_
    refine aw_getr (k0 := 122) kc_12 (ws_1 w12) (Nat.le_of_ble_eq_true rfl) tw_1864 d_X12_book_123 rfl (wr_1_122 w12) ?_
    refine aw_bipush (v := 31) d_X12_book_126 ib_31 ?_
    refine aw_iload_n (i := 3) rfl d_X12_book_128 3 rfl ?_
    refine aw_imul d_X12_book_129 ?_
    refine aw_iload_n (i := 2) rfl d_X12_book_130 2 rfl ?_
    refine aw_iadd d_X12_book_131 ?_
    obtain ⟨b14, k⟩ := k
    refine aw_iald (ws_293 w12) b14 d_X12_book_132 ?_
    refine aw_icmp_eq (tgt := 215) d_X12_book_133 rfl (fun c15 => ?_) (fun c15 => ?_)
    · have k := k.1 c15
      refine aw_iinc (v := (x3 + 1)) [(0, .ref 1), (1, .int x1), (2, .int x2), (3, .int (x3 + 1)), (4, .int r13)] d_X12_book_215 3 rfl rfl (Nat.le_of_ble_eq_true rfl) rfl rfl ?_
      refine aw_goto (tgt := 100) d_X12_book_218 rfl ?_
      exact aw_lvp [0, 1, 2, 3] [(0, .ref 1), (1, .int x1), (2, .int x2), (3, .int (x3 + 1))] rfl k
    · have k := k.2 c15
      refine aw_aload_n (i := 0) rfl d_X12_book_136 0 rfl ?_
      refine aw_getr (k0 := 123) kc_12 (ws_1 w12) (Nat.le_of_ble_eq_true rfl) tw_1865 d_X12_book_137 rfl (wr_1_123 w12) ?_
      refine aw_aload_n (i := 0) rfl d_X12_book_140 0 rfl ?_
      refine aw_geti (k0 := 127) kc_12 (ws_1 w12) (Nat.le_of_ble_eq_true rfl) tw_1869 d_X12_book_141 rfl ?_
      refine aw_iload_n (i := 3) rfl d_X12_book_144 3 rfl ?_
      obtain ⟨b16, k⟩ := k
      refine aw_iast (ws_294 w12) b16 d_X12_book_145 ?_
      refine aw_aload_n (i := 0) rfl d_X12_book_146 0 rfl ?_
      refine aw_getr (k0 := 124) kc_12 (ws_1 w12) (Nat.le_of_ble_eq_true rfl) tw_1866 d_X12_book_147 rfl (wr_1_124 w12) ?_
      refine aw_aload_n (i := 0) rfl d_X12_book_150 0 rfl ?_
      refine aw_geti (k0 := 127) kc_12 (ws_1 w12) (Nat.le_of_ble_eq_true rfl) tw_1869 d_X12_book_151 rfl ?_
      refine aw_vi (v2 := (h_i h11 1 127)) (rfl) ?_
      refine aw_iload_n (i := 2) rfl d_X12_book_154 2 rfl ?_
      obtain ⟨b17, k⟩ := k
      refine aw_iast (ws_295 w12) b17 d_X12_book_155 ?_
      refine aw_aload_n (i := 0) rfl d_X12_book_156 0 rfl ?_
      refine aw_getr (k0 := 125) kc_12 (ws_1 w12) (Nat.le_of_ble_eq_true rfl) tw_1867 d_X12_book_157 rfl (wr_1_125 w12) ?_
      refine aw_aload_n (i := 0) rfl d_X12_book_160 0 rfl ?_
      refine aw_geti (k0 := 127) kc_12 (ws_1 w12) (Nat.le_of_ble_eq_true rfl) tw_1869 d_X12_book_161 rfl ?_
      refine aw_vi (v2 := (h_i h11 1 127)) (rfl) ?_
      refine aw_iload d_X12_book_164 4 rfl ?_
      refine aw_aload_n (i := 0) rfl d_X12_book_166 0 rfl ?_
      refine aw_getr (k0 := 122) kc_12 (ws_1 w12) (Nat.le_of_ble_eq_true rfl) tw_1864 d_X12_book_167 rfl (wr_1_122 w12) ?_
      refine aw_bipush (v := 31) d_X12_book_170 ib_31 ?_
      refine aw_iload_n (i := 3) rfl d_X12_book_172 3 rfl ?_
      refine aw_imul d_X12_book_173 ?_
      refine aw_iload_n (i := 2) rfl d_X12_book_174 2 rfl ?_
      refine aw_iadd d_X12_book_175 ?_
      obtain ⟨b18, k⟩ := k
      refine aw_iald (ws_293 w12) b18 d_X12_book_176 ?_
      refine aw_vi (v2 := (h_i h11 293 (((31 * x3) + x2) : Int32).toNatClampNeg)) (rfl) ?_
      refine aw_isub d_X12_book_177 ?_
      obtain ⟨b19, k⟩ := k
      refine aw_iast (ws_296 w12) b19 d_X12_book_178 ?_
      refine aw_aload_n (i := 0) rfl d_X12_book_179 0 rfl ?_
      refine aw_getr (k0 := 126) kc_12 (ws_1 w12) (Nat.le_of_ble_eq_true rfl) tw_1868 d_X12_book_180 rfl (wr_1_126 w12) ?_
      refine aw_aload_n (i := 0) rfl d_X12_book_183 0 rfl ?_
      refine aw_geti (k0 := 127) kc_12 (ws_1 w12) (Nat.le_of_ble_eq_true rfl) tw_1869 d_X12_book_184 rfl ?_
      refine aw_vi (v2 := (h_i h11 1 127)) (rfl) ?_
      refine aw_aload_n (i := 0) rfl d_X12_book_187 0 rfl ?_
      refine aw_geti (k0 := 0) kc_12 (ws_1 w12) (Nat.le_of_ble_eq_true rfl) tw_1742 d_X12_book_188 rfl ?_
      refine aw_vi (v2 := (h_i h11 1 0)) (rfl) ?_
      obtain ⟨b20, k⟩ := k
      refine aw_iast (ws_297 w12) b20 d_X12_book_191 ?_
      refine aw_aload_n (i := 0) rfl d_X12_book_192 0 rfl ?_
      refine aw_dup d_X12_book_193 rfl ?_
      refine aw_geti (k0 := 127) kc_12 (ws_1 w12) (Nat.le_of_ble_eq_true rfl) tw_1869 d_X12_book_194 rfl ?_
      refine aw_vi (v2 := (h_i h11 1 127)) (rfl) ?_
      refine aw_iconst (v := 1) d_X12_book_197 ic_1 ?_
      refine aw_iadd d_X12_book_198 ?_
      refine aw_puti (k0 := 127) kc_12 (ws_1 w12) (Nat.le_of_ble_eq_true rfl) tw_1869 d_X12_book_199 rfl rfl nf_i ?_
      refine aw_aload_n (i := 0) rfl d_X12_book_202 0 rfl ?_
      refine aw_getr (k0 := 122) kc_12 (ws_1 w12) (Nat.le_of_ble_eq_true rfl) tw_1864 d_X12_book_203 rfl (wr_1_122 w12) ?_
      refine aw_bipush (v := 31) d_X12_book_206 ib_31 ?_
      refine aw_iload_n (i := 3) rfl d_X12_book_208 3 rfl ?_
      refine aw_imul d_X12_book_209 ?_
      refine aw_iload_n (i := 2) rfl d_X12_book_210 2 rfl ?_
      refine aw_iadd d_X12_book_211 ?_
      refine aw_iload d_X12_book_212 4 rfl ?_
      obtain ⟨b21, k⟩ := k
      refine aw_iast (ws_293 w12) b21 d_X12_book_214 ?_
      refine aw_iinc (v := (x3 + 1)) [(0, .ref 1), (1, .int x1), (2, .int x2), (3, .int (x3 + 1)), (4, .int r13)] d_X12_book_215 3 rfl rfl (Nat.le_of_ble_eq_true rfl) rfl rfl ?_
      refine aw_goto (tgt := 100) d_X12_book_218 rfl ?_
      exact aw_lvp [0, 1, 2, 3] [(0, .ref 1), (1, .int x1), (2, .int x2), (3, .int (x3 + 1))] rfl k
end
section
/-! the words of beats: steps, and steps within brackets -/
noncomputable def stB (cd : Nat → Int32) (i i' : Nat) : Prop := (cd i = 0 ∧ rin (cd (i + 1)).toInt (0, 15) ∧ i' = i + 2) ∨ (cd i = 1 ∧ rin (cd (i + 1)).toInt (1, 240) ∧ i' = i + 2) ∨ (cd i = 2 ∧ rin (cd (i + 1)).toInt (0, 15) ∧ rin (cd (i + 2)).toInt (0, 1440) ∧ i' = i + 3) ∨ (cd i = 3 ∧ i' = i + 1)
noncomputable def sqS (S : Nat → Nat → Prop) : Nat → Nat → Nat → Prop
  | 0, i, j => i = j
  | f + 1, i, j => ∃ i', S i i' ∧ sqS S f i' j
noncomputable def stD (cd : Nat → Int32) : Nat → Nat → Nat → Prop
  | 0, i, i' => stB cd i i'
  | g + 1, i, i' => stB cd i i' ∨ (cd i = 4 ∧ ∃ f j, sqS (stD cd g) f (i + 1) j ∧ cd j = 5 ∧ rin (cd (j + 1)).toInt (1, 20) ∧ i' = j + 2)
theorem stB_lt {cd : Nat → Int32} {i i' : Nat} (s : stB cd i i') : i < i' ∧ i' ≤ i + 3 := by
  rcases s with ⟨_, _, e⟩ | ⟨_, _, e⟩ | ⟨_, _, _, e⟩ | ⟨_, e⟩
  · omega
  · omega
  · omega
  · omega
theorem stB_same {cd cd' : Nat → Int32} {i i' : Nat} (e : ∀ x, i ≤ x → x < i' → cd' x = cd x) (s : stB cd i i') : stB cd' i i' := by
  rcases s with ⟨a, b, c⟩ | ⟨a, b, c⟩ | ⟨a, b, b', c⟩ | ⟨a, c⟩
  · exact Or.inl ⟨by rw [e i (by omega) (by omega)]; exact a, by rw [e (i + 1) (by omega) (by omega)]; exact b, c⟩
  · exact Or.inr (Or.inl ⟨by rw [e i (by omega) (by omega)]; exact a, by rw [e (i + 1) (by omega) (by omega)]; exact b, c⟩)
  · exact Or.inr (Or.inr (Or.inl ⟨by rw [e i (by omega) (by omega)]; exact a, by rw [e (i + 1) (by omega) (by omega)]; exact b, by rw [e (i + 2) (by omega) (by omega)]; exact b', c⟩))
  · exact Or.inr (Or.inr (Or.inr ⟨by rw [e i (by omega) (by omega)]; exact a, c⟩))
theorem sqS_le {S : Nat → Nat → Prop} (hS : ∀ a b, S a b → a < b) : ∀ {f i j : Nat}, sqS S f i j → i ≤ j
  | 0, _, _, h => Nat.le_of_eq h
  | f + 1, i, j, h => by
    obtain ⟨i', a, b⟩ := h
    have l1 := hS _ _ a
    have l2 := sqS_le hS b
    omega
theorem stD_lt {cd : Nat → Int32} : ∀ {g i i' : Nat}, stD cd g i i' → i < i'
  | 0, _, _, s => (stB_lt s).1
  | g + 1, i, i', s => by
    rcases s with s | ⟨_, f, j, q, _, _, e⟩
    · exact (stB_lt s).1
    · have l := sqS_le (fun a b t => stD_lt (g := g) t) q
      omega
theorem sqS_same {cd cd' : Nat → Int32} {S S' : Nat → Nat → Prop} (hl : ∀ a b, S a b → a < b) (hS : ∀ a b, (∀ x, a ≤ x → x < b → cd' x = cd x) → S a b → S' a b) : ∀ {f i j : Nat}, (∀ x, i ≤ x → x < j → cd' x = cd x) → sqS S f i j → sqS S' f i j
  | 0, _, _, _, h => h
  | f + 1, i, j, e, h => by
    obtain ⟨i', a, b⟩ := h
    have l1 := hl _ _ a
    have l2 := sqS_le hl b
    exact ⟨i', hS _ _ (fun x u v => e x u (by omega)) a, sqS_same hl hS (fun x u v => e x (by omega) v) b⟩
theorem stD_same {cd cd' : Nat → Int32} : ∀ {g i i' : Nat}, (∀ x, i ≤ x → x < i' → cd' x = cd x) → stD cd g i i' → stD cd' g i i'
  | 0, _, _, e, s => stB_same e s
  | g + 1, i, i', e, s => by
    rcases s with s | ⟨a, f, j, q, b, c, x⟩
    · exact Or.inl (stB_same e s)
    · have l := sqS_le (fun _ _ t => stD_lt t) q
      refine Or.inr ⟨by rw [e i (by omega) (by omega)]; exact a, f, j, ?_, by rw [e j (by omega) (by omega)]; exact b, by rw [e (j + 1) (by omega) (by omega)]; exact c, x⟩
      exact sqS_same (cd := cd) (cd' := cd') (fun _ _ t => stD_lt t) (fun _ _ e' s' => stD_same (g := g) e' s') (fun x u v => e x (by omega) (by omega)) q
theorem sqD_same {cd cd' : Nat → Int32} {g f i j : Nat} (e : ∀ x, i ≤ x → x < j → cd' x = cd x) (q : sqS (stD cd g) f i j) : sqS (stD cd' g) f i j :=
  sqS_same (cd := cd) (cd' := cd') (fun _ _ t => stD_lt t) (fun _ _ e' s' => stD_same e' s') e q
theorem sqS_snoc {S : Nat → Nat → Prop} : ∀ {f i j k : Nat}, sqS S f i j → S j k → sqS S (f + 1) i k
  | 0, i, j, k, h, s => by
    have h : i = j := h
    subst h
    exact ⟨k, s, rfl⟩
  | f + 1, i, j, k, h, s => by
    obtain ⟨i', a, b⟩ := h
    exact ⟨i', a, sqS_snoc b s⟩
theorem stD.b {cd : Nat → Int32} {g i i' : Nat} (s : stB cd i i') : stD cd g i i' := by
  cases g with
  | zero => exact s
  | succ g => exact Or.inl s
/-- codes said behind what stood -/
noncomputable def Sy (h : Hp_) (xs : List Int32) (h2 : Hp_) : Prop := Iv h2 ∧ Fr wzp h h2 ∧ (∀ k, k < sN h → h_i h2 226 k = h_i h 226 k) ∧ ps h2 = ps h + (xs.length : Int) ∧ ∀ i x, xs[i]? = some x → h_i h2 226 (sN h + i) = x
noncomputable abbrev Sa (h : Hp_) (x : Int32) (h' : Hp_) : Prop := Iv h' ∧ Fr [1036, 226999] h h' ∧ (h_i h' 1 36).toInt = (h_i h 1 36).toInt + 1 ∧ h_i h' 226 (h_i h 1 36).toNatClampNeg = x ∧ ∀ k, k ≠ (h_i h 1 36).toNatClampNeg → h_i h' 226 k = h_i h 226 k
theorem Sa.q {h : Hp_} {x : Int32} {h' : Hp_} (S : Sa h x h') : pa h' = pa h ∧ h_i h' 1 34 = h_i h 1 34 ∧ pd h' = pd h ∧ ps h' = ps h + 1 ∧ pz h' = pz h := by
  refine ⟨?_, (S.2.1.2 1 34 (by decide +kernel)).1, ?_, S.2.2.1, zf S.2.1 (by decide +kernel)⟩
  · show (h_i h' 1 33).toInt = _; rw [(S.2.1.2 1 33 (by decide +kernel)).1]
  · show (h_i h' 1 35).toInt = _; rw [(S.2.1.2 1 35 (by decide +kernel)).1]
theorem Sy.rf {h : Hp_} (I : Iv h) : Sy h [] h := ⟨I, Fr.rf _ _, fun _ _ => rfl, by simp, fun i x e => by simp at e⟩
theorem Sy.say {h h2 h3 : Hp_} {xs : List Int32} {x : Int32} (I : Iv h) (S : Sy h xs h2) (T : Sa h2 x h3) : Sy h (xs ++ [x]) h3 := by
  obtain ⟨s1, s2, s3, s4, s5⟩ := S
  obtain ⟨t1, t2, t3, t4, t5⟩ := T
  have n0 := sN_i I
  have n2 := sN_i s1
  have m2 : sN h2 = sN h + xs.length := by omega
  have e3 : ps h3 = ps h2 + 1 := t3
  refine ⟨t1, s2.tr (t2.more (by decide +kernel)), fun k hk => ?_, ?_, fun i y e => ?_⟩
  · rw [t5 k (by show k ≠ sN h2; omega)]; exact s3 k hk
  · rw [List.length_append, List.length_singleton]; omega
  · rcases Nat.lt_or_ge i xs.length with u | u
    · rw [List.getElem?_append_left u] at e
      rw [t5 _ (by show sN h + i ≠ sN h2; omega)]; exact s5 i y e
    · have iu : i = xs.length := by
        rcases Nat.lt_or_ge xs.length i with v | v
        · rw [List.getElem?_eq_none (by rw [List.length_append, List.length_singleton]; omega)] at e; cases e
        · omega
      subst iu
      rw [List.getElem?_append_right (Nat.le_refl _), Nat.sub_self] at e
      have e' : x = y := by simpa using e
      rw [← m2, ← e']; exact t4
theorem Sy.mv {h h2 h3 : Hp_} {xs : List Int32} (S : Sy h xs h2) (I3 : Iv h3) (F : Fr [1033, 1034, 1035] h2 h3) : Sy h xs h3 := by
  obtain ⟨s1, s2, s3, s4, s5⟩ := S
  have e36 : ps h3 = ps h2 := by show (h_i h3 1 36).toInt = _; rw [(F.2 1 36 (by decide +kernel)).1]
  refine ⟨I3, s2.tr (F.more (by decide +kernel)), fun k hk => ?_, by omega, fun i y e => ?_⟩
  · rw [fr_i F (a := 226) (by decide +kernel)]; exact s3 k hk
  · rw [fr_i F (a := 226) (by decide +kernel)]; exact s5 i y e
/-- one sign further behind a look -/
theorem nx1 {h h1 : Hp_} {r : Int32} (I : Iv h) (L : Lk h r h1) (l : pa h1 < pz h) : Iv (h_im h1 1 33 ((h_i h1 1 33) + 1)) ∧ Fr [1033] h (h_im h1 1 33 ((h_i h1 1 33) + 1)) ∧ pa (h_im h1 1 33 ((h_i h1 1 33) + 1)) = pa h1 + 1 := by
  have z1 : pz h ≤ 160 := (pz_in I).2
  have a0 : 0 ≤ (h_i h1 1 33).toInt := (pa_in L.1).1
  have l' : (h_i h1 1 33).toInt < pz h := l
  have o1 : (1 : Int32).toInt = 1 := rfl
  have e33 : (h_i h1 1 33 + 1).toInt = (h_i h1 1 33).toInt + 1 := by rw [tx_add (by rw [o1]; omega) (by rw [o1]; omega), o1]
  refine ⟨i33 L.1 ⟨by rw [e33]; show (0 : Int) ≤ _; omega, by rw [e33]; show _ ≤ (180 : Int); omega⟩, L.2.1.im (by decide +kernel), ?_⟩
  show (h_i (h_im h1 1 33 _) 1 33).toInt = _
  rw [im_at]; exact e33
/-- a bracket's end: one further, one less deep -/
theorem cl1 {h : Hp_} (I : Iv h) (a : pa h ≤ 179) (e : 1 ≤ pd h) : Iv (h_im (h_im h 1 33 ((h_i h 1 33) + 1)) 1 35 ((h_i h 1 35) - 1)) ∧ Fr [1033, 1034, 1035] h (h_im (h_im h 1 33 ((h_i h 1 33) + 1)) 1 35 ((h_i h 1 35) - 1)) ∧ pa (h_im (h_im h 1 33 ((h_i h 1 33) + 1)) 1 35 ((h_i h 1 35) - 1)) = pa h + 1 ∧ pd (h_im (h_im h 1 33 ((h_i h 1 33) + 1)) 1 35 ((h_i h 1 35) - 1)) = pd h - 1 ∧ h_i (h_im (h_im h 1 33 ((h_i h 1 33) + 1)) 1 35 ((h_i h 1 35) - 1)) 1 34 = h_i h 1 34 := by
  have a0 : 0 ≤ (h_i h 1 33).toInt := (pa_in I).1
  have a1 : (h_i h 1 33).toInt ≤ 179 := a
  have d7 : (h_i h 1 35).toInt ≤ 7 := (dp_in7 I).2
  have d1 : 1 ≤ (h_i h 1 35).toInt := e
  have o1 : (1 : Int32).toInt = 1 := rfl
  have e33 : (h_i h 1 33 + 1).toInt = (h_i h 1 33).toInt + 1 := by rw [tx_add (by rw [o1]; omega) (by rw [o1]; omega), o1]
  have e35 : (h_i h 1 35 - 1).toInt = (h_i h 1 35).toInt - 1 := by rw [tx_sub (by rw [o1]; omega) (by rw [o1]; omega), o1]
  refine ⟨i35 (i33 I ⟨by rw [e33]; show (0 : Int) ≤ _; omega, by rw [e33]; show _ ≤ (180 : Int); omega⟩) ⟨by rw [e35]; show (0 : Int) ≤ _; omega, by rw [e35]; show _ ≤ (7 : Int); omega⟩, ((Fr.rf _ _).im (by decide +kernel)).im (by decide +kernel), ?_, ?_, by rw [f_ne (by decide), f_ne (by decide)]⟩
  · show (h_i (h_im (h_im h 1 33 _) 1 35 _) 1 33).toInt = _
    rw [f_ne (by decide), im_at]; exact e33
  · show (h_i (h_im (h_im h 1 33 _) 1 35 _) 1 35).toInt = _
    rw [im_at]; exact e35
noncomputable def Pr (h : Hp_) : Prop := h_i h 1 34 = -1 ∧ pa h ≤ pz h ∧ pd h ≤ 4 ∧ ps h ≤ pa h
/-- what a step or steps read leave -/
noncomputable def Ptt (Q : (Nat → Int32) → Nat → Nat → Prop) (h h' : Hp_) : Prop := Iv h' ∧ Fr wzp h h' ∧ pd h' = pd h ∧ pa h ≤ pa h' ∧ (∀ k, k < sN h → h_i h' 226 k = h_i h 226 k) ∧ ps h ≤ ps h' ∧
  (h_i h' 1 34 = -1 → pa h' ≤ pz h ∧ pa h < pa h' ∧ ps h' ≤ ps h + (pa h' - pa h) ∧ Q (h_i h' 226) (sN h) (sN h')) ∧
  (¬ h_i h' 1 34 = -1 → pa h' + pd h ≤ pz h + 5 ∧ ps h' ≤ ps h + (pa h' - pa h) + 1)
theorem Ptt.of {Q : (Nat → Int32) → Nat → Nat → Prop} {h h5 : Hp_} {xs : List Int32} (I : Iv h) (S : Sy h xs h5) (ed : pd h5 = pd h) (a : pa h ≤ pa h5) (ok : h_i h5 1 34 = -1 → pa h5 ≤ pz h ∧ pa h + (xs.length : Int) ≤ pa h5 ∧ 0 < xs.length ∧ Q (h_i h5 226) (sN h) (sN h + xs.length)) (no : ¬ h_i h5 1 34 = -1 → pa h5 + pd h ≤ pz h + 5 ∧ (xs.length : Int) ≤ pa h5 - pa h + 1) : Ptt Q h h5 := by
  obtain ⟨s1, s2, s3, s4, s5⟩ := S
  have n0 := sN_i I
  have n5 := sN_i s1
  have m5 : sN h5 = sN h + xs.length := by omega
  refine ⟨s1, s2, ed, a, s3, by omega, fun w => ?_, fun w => ?_⟩
  · obtain ⟨o1, o2, o3, o4⟩ := ok w
    refine ⟨o1, by omega, by omega, ?_⟩
    rw [m5]; exact o4
  · obtain ⟨o1, o2⟩ := no w
    exact ⟨o1, by omega⟩
theorem Ptt.lk {Q : (Nat → Int32) → Nat → Nat → Prop} {h h2 h5 : Hp_} {r : Int32} (I : Iv h) (q : Pr h) (P : Ptt Q h h2) (L : Lk h2 r h5) : Ptt Q h h5 := by
  obtain ⟨p1, p2, p3, p4, p5, p6, p7, p8⟩ := P
  obtain ⟨l1, l2, l3, l4, l5⟩ := L
  obtain ⟨q1, q2, q3, q4⟩ := q
  have z2 := zf p2 (by decide +kernel)
  have e34 : h_i h5 1 34 = h_i h2 1 34 := (l2.2 1 34 (by decide +kernel)).1
  have e35 : pd h5 = pd h2 := by show (h_i h5 1 35).toInt = _; rw [(l2.2 1 35 (by decide +kernel)).1]
  have e36 : h_i h5 1 36 = h_i h2 1 36 := (l2.2 1 36 (by decide +kernel)).1
  have p36 : ps h5 = ps h2 := by show (h_i h5 1 36).toInt = _; rw [e36]
  have n36 : sN h5 = sN h2 := by show (h_i h5 1 36).toNatClampNeg = _; rw [e36]
  have f226 : h_i h5 226 = h_i h2 226 := funext (fun k => fr_i l2 (by decide +kernel) k)
  refine ⟨l1, p2.tr (l2.more (by decide +kernel)), by omega, by omega, fun k hk => by rw [f226]; exact p5 k hk, by omega, fun w => ?_, fun w => ?_⟩
  · rw [e34] at w
    obtain ⟨t1, t2, t3, t4⟩ := p7 w
    refine ⟨by omega, by omega, by omega, ?_⟩
    rw [n36, f226]; exact t4
  · rw [e34] at w
    obtain ⟨t1, t2⟩ := p8 w
    exact ⟨by omega, by omega⟩
noncomputable def RdS (D : Int) (Q : (Nat → Int32) → Nat → Nat → Prop) (C : Nat → Hp_ → (Hp_ → Prop) → Prop) : Prop := ∀ (d : Nat) (h : Hp_), Iv h → Pr h → pd h = D → C d h (fun h' => Ptt Q h h')
end
section
/-! steps read -/
theorem f36 {ws : List Nat} {h h' : Hp_} (F : Fr ws h h') (o : inw ws 1 36 = false) : ps h' = ps h := by show (h_i h' 1 36).toInt = _; rw [(F.2 1 36 o).1]
theorem f35 {ws : List Nat} {h h' : Hp_} (F : Fr ws h h') (o : inw ws 1 35 = false) : pd h' = pd h := by show (h_i h' 1 35).toInt = _; rw [(F.2 1 35 o).1]
theorem f34 {ws : List Nat} {h h' : Hp_} (F : Fr ws h h') (o : inw ws 1 34 = false) : h_i h' 1 34 = h_i h 1 34 := (F.2 1 34 o).1
theorem f33 {ws : List Nat} {h h' : Hp_} (F : Fr ws h h') (o : inw ws 1 33 = false) : pa h' = pa h := by show (h_i h' 1 33).toInt = _; rw [(F.2 1 33 o).1]
theorem st_bad {Q : (Nat → Int32) → Nat → Nat → Prop} (d : Nat) {h h1 : Hp_} {r : Int32} (I : Iv h) (q : Pr h) (L : Lk h r h1) : Cv (m_X12_bad (d + 0) 0 0) [.ref 1] h1 (fun h9 => Wf h9 ∧ Ptt Q h h9) := by
  obtain ⟨q1, q2, q3, q4⟩ := q
  refine Cv.mono (c_bad d L.1) (fun h9 k => ⟨k.1.1, ?_⟩)
  obtain ⟨k1, k2, k3⟩ := k
  have e33 := f33 k2 (by decide +kernel)
  have e35 := f35 k2 (by decide +kernel)
  have e35' := f35 L.2.1 (by decide +kernel)
  have l3 := L.2.2.1
  have l4 := L.2.2.2.1
  refine Ptt.of I (((Sy.rf I).mv L.1 (L.2.1.more (by decide +kernel))).mv k1 (k2.more (by decide +kernel))) (by omega) (by omega) (fun w => absurd w k3) (fun _ => ⟨by omega, ?_⟩)
  show (0 : Int) ≤ _
  omega
theorem st_gw {Q : (Nat → Int32) → Nat → Nat → Prop} (d : Nat) {h h1 : Hp_} {r : Int32} (I : Iv h) (q : Pr h) (L : Lk h r h1) (l : pa h1 < pz h) (c x1 x2 : Int32) (hq : ∀ (cd : Nat → Int32) (i : Nat), cd i = c → x1 ≤ cd (i + 1) → cd (i + 1) ≤ x2 → Q cd i (i + 2)) : Cv (m_X12_say (d + 0) 0 0) [.ref 1, .int c] (h_im h1 1 33 ((h_i h1 1 33) + 1)) (fun h3 => Wf h3 ∧ Ci (m_X12_within (d + 2) 0 0) [.ref 1, .int x1, .int x2] h3 (fun r4 h4 => Wf h4 ∧ Cv (m_X12_say (d + 0) 0 0) [.ref 1, .int r4] h4 (fun h5 => Wf h5 ∧ Ptt Q h h5))) := by
  obtain ⟨q1, q2, q3, q4⟩ := q
  obtain ⟨I2, F2, a2⟩ := nx1 I L l
  have z1 : pz h ≤ 160 := (pz_in I).2
  have l3 := L.2.2.1
  generalize h_im h1 1 33 ((h_i h1 1 33) + 1) = h2 at I2 F2 a2 ⊢
  have p2 := f36 F2 (by decide +kernel)
  have w2 := f34 F2 (by decide +kernel)
  have d2 := f35 F2 (by decide +kernel)
  have z2 := zf F2 (by decide +kernel)
  refine Cv.mono (c_say d I2 c (by show ps h2 ≤ 558; omega)) (fun h3 S => ⟨S.1.1, ?_⟩)
  obtain ⟨s1, s2, s3, s4, s5⟩ := Sa.q (h := h2) (x := c) (h' := h3) S
  refine Ci.mono (c_within d S.1 (by rw [s2, w2]; exact q1) (by omega) x1 x2) (fun r4 h4 W => ⟨W.1.1.1, ?_⟩)
  obtain ⟨N, wr⟩ := W
  obtain ⟨n1, n2, n3, n4, n5⟩ := N
  have p4 := f36 n2 (by decide +kernel)
  have d4 := f35 n2 (by decide +kernel)
  refine Cv.mono (c_say d n1 r4 (by show ps h4 ≤ 558; omega)) (fun h5 T => ⟨T.1.1, ?_⟩)
  obtain ⟨t1, t2, t3, t4, t5⟩ := Sa.q (h := h4) (x := r4) (h' := h5) T
  have Y : Sy h [c, r4] h5 := ((((Sy.rf I).mv I2 (F2.more (by decide +kernel))).say I S).mv n1 (n2.more (by decide +kernel))).say I T
  refine Ptt.of I Y (by omega) (by omega) (fun w => ?_) (fun w => ?_)
  · rw [t2] at w
    have g := n5 w
    obtain ⟨b1, b2⟩ := wr w
    have e0 := Y.2.2.2.2 0 c rfl
    have e1 := Y.2.2.2.2 1 r4 rfl
    refine ⟨by omega, ?_, Nat.zero_lt_succ _, hq _ _ e0 (by rw [e1]; exact b1) (by rw [e1]; exact b2)⟩
    show pa h + (2 : Int) ≤ _
    omega
  · refine ⟨by omega, ?_⟩
    show (2 : Int) ≤ _
    omega
theorem st_p {g : Nat} (d : Nat) {h h1 : Hp_} {r : Int32} (I : Iv h) (q : Pr h) (L : Lk h r h1) (l : pa h1 < pz h) : Cv (m_X12_say (d + 0) 0 0) [.ref 1, .int 2] (h_im h1 1 33 ((h_i h1 1 33) + 1)) (fun h3 => Wf h3 ∧ Ci (m_X12_within (d + 2) 0 0) [.ref 1, .int 0, .int 15] h3 (fun r4 h4 => Wf h4 ∧ Cv (m_X12_say (d + 0) 0 0) [.ref 1, .int r4] h4 (fun h5 => Wf h5 ∧ ((¬ (h_i h5 1 34) = (-1) → Ptt (fun cd => stD cd g) h h5) ∧ ((h_i h5 1 34) = (-1) → Ci (m_X12_within (d + 2) 0 0) [.ref 1, .int 0, .int 1440] h5 (fun r6 h6 => Wf h6 ∧ Cv (m_X12_say (d + 0) 0 0) [.ref 1, .int r6] h6 (fun h7 => Wf h7 ∧ Ptt (fun cd => stD cd g) h h7))))))) := by
  obtain ⟨q1, q2, q3, q4⟩ := q
  obtain ⟨I2, F2, a2⟩ := nx1 I L l
  have z1 : pz h ≤ 160 := (pz_in I).2
  have l3 := L.2.2.1
  generalize h_im h1 1 33 ((h_i h1 1 33) + 1) = h2 at I2 F2 a2 ⊢
  have p2 := f36 F2 (by decide +kernel)
  have w2 := f34 F2 (by decide +kernel)
  have d2 := f35 F2 (by decide +kernel)
  have z2 := zf F2 (by decide +kernel)
  refine Cv.mono (c_say d I2 2 (by show ps h2 ≤ 558; omega)) (fun h3 S => ⟨S.1.1, ?_⟩)
  obtain ⟨s1, s2, s3, s4, s5⟩ := Sa.q (h := h2) (x := 2) (h' := h3) S
  refine Ci.mono (c_within d S.1 (by rw [s2, w2]; exact q1) (by omega) 0 15) (fun r4 h4 W => ⟨W.1.1.1, ?_⟩)
  obtain ⟨N, wr⟩ := W
  obtain ⟨n1, n2, n3, n4, n5⟩ := N
  have p4 := f36 n2 (by decide +kernel)
  have d4 := f35 n2 (by decide +kernel)
  have z4 := zf n2 (by decide +kernel)
  refine Cv.mono (c_say d n1 r4 (by show ps h4 ≤ 558; omega)) (fun h5 T => ⟨T.1.1, fun w => ?_, fun w => ?_⟩)
  · obtain ⟨t1, t2, t3, t4, t5⟩ := Sa.q (h := h4) (x := r4) (h' := h5) T
    have Y : Sy h [2, r4] h5 := ((((Sy.rf I).mv I2 (F2.more (by decide +kernel))).say I S).mv n1 (n2.more (by decide +kernel))).say I T
    refine Ptt.of I Y (by omega) (by omega) (fun y => absurd y w) (fun _ => ⟨by omega, ?_⟩)
    show (2 : Int) ≤ _
    omega
  · obtain ⟨t1, t2, t3, t4, t5⟩ := Sa.q (h := h4) (x := r4) (h' := h5) T
    have Y : Sy h [2, r4] h5 := ((((Sy.rf I).mv I2 (F2.more (by decide +kernel))).say I S).mv n1 (n2.more (by decide +kernel))).say I T
    have w4 : h_i h4 1 34 = -1 := by rw [← t2]; exact w
    have g4 := n5 w4
    obtain ⟨b1, b2⟩ := wr w4
    refine Ci.mono (c_within d T.1 w (by omega) 0 1440) (fun r6 h6 W => ⟨W.1.1.1, ?_⟩)
    obtain ⟨N', wr'⟩ := W
    obtain ⟨m1, m2, m3, m4, m5⟩ := N'
    have p6 := f36 m2 (by decide +kernel)
    have d6 := f35 m2 (by decide +kernel)
    refine Cv.mono (c_say d m1 r6 (by show ps h6 ≤ 558; omega)) (fun h7 U => ⟨U.1.1, ?_⟩)
    obtain ⟨u1, u2, u3, u4, u5⟩ := Sa.q (h := h6) (x := r6) (h' := h7) U
    have X : Sy h [2, r4, r6] h7 := (Y.mv m1 (m2.more (by decide +kernel))).say I U
    refine Ptt.of I X (by omega) (by omega) (fun v => ?_) (fun v => ?_)
    · rw [u2] at v
      have g6 := m5 v
      obtain ⟨b3, b4⟩ := wr' v
      have e0 := X.2.2.2.2 0 2 rfl
      have e1 := X.2.2.2.2 1 r4 rfl
      have e2 := X.2.2.2.2 2 r6 rfl
      refine ⟨by omega, ?_, Nat.zero_lt_succ _, stD.b (Or.inr (Or.inr (Or.inl ⟨e0, ?_, ?_, rfl⟩)))⟩
      · show pa h + (3 : Int) ≤ _
        omega
      · show rin (h_i h7 226 (sN h + 1)).toInt (0, 15)
        rw [e1]; exact ⟨q_le.mp b1, q_le.mp b2⟩
      · show rin (h_i h7 226 (sN h + 2)).toInt (0, 1440)
        rw [e2]; exact ⟨q_le.mp b3, q_le.mp b4⟩
    · refine ⟨by omega, ?_⟩
      show (3 : Int) ≤ _
      omega
theorem st_l {g : Nat} (d : Nat) {h h1 : Hp_} {r : Int32} (I : Iv h) (q : Pr h) (L : Lk h r h1) (l : pa h1 < pz h) : Cv (m_X12_say (d + 0) 0 0) [.ref 1, .int 3] (h_im h1 1 33 ((h_i h1 1 33) + 1)) (fun h3 => Wf h3 ∧ Ptt (fun cd => stD cd g) h h3) := by
  obtain ⟨q1, q2, q3, q4⟩ := q
  obtain ⟨I2, F2, a2⟩ := nx1 I L l
  have z1 : pz h ≤ 160 := (pz_in I).2
  have l3 := L.2.2.1
  generalize h_im h1 1 33 ((h_i h1 1 33) + 1) = h2 at I2 F2 a2 ⊢
  have p2 := f36 F2 (by decide +kernel)
  have w2 := f34 F2 (by decide +kernel)
  have d2 := f35 F2 (by decide +kernel)
  refine Cv.mono (c_say d I2 3 (by show ps h2 ≤ 558; omega)) (fun h3 S => ⟨S.1.1, ?_⟩)
  obtain ⟨s1, s2, s3, s4, s5⟩ := Sa.q (h := h2) (x := 3) (h' := h3) S
  have Y : Sy h [3] h3 := ((Sy.rf I).mv I2 (F2.more (by decide +kernel))).say I S
  refine Ptt.of I Y (by omega) (by omega) (fun w => ?_) (fun w => absurd (by rw [s2, w2]; exact q1) w)
  refine ⟨by omega, ?_, Nat.zero_lt_succ _, stD.b (Or.inr (Or.inr (Or.inr ⟨Y.2.2.2.2 0 3 rfl, rfl⟩)))⟩
  show pa h + (1 : Int) ≤ _
  omega
end
section
/-! steps within brackets; steps one behind the other; all depths -/
noncomputable def Qs (g : Nat) (cd : Nat → Int32) (i j : Nat) : Prop := ∃ f, sqS (stD cd g) f i j
theorem st_n {g : Nat} (d e : Nat) (B : RdS (4 - (g : Int)) (Qs g) (fun d h K => Cv (m_X12_stepsRead (d + e + 52) 0 0) [.ref 1] h K)) {h h1 : Hp_} {r : Int32} (I : Iv h) (q : Pr h) (eD : pd h = 4 - ((g + 1 : Nat) : Int)) (L : Lk h r h1) (l : pa h1 < pz h) :
    Cv (m_X12_say (d + e + 0) 0 0) [.ref 1, .int 4] (h_im (h_im h1 1 35 ((h_i h1 1 35) + 1)) 1 33 ((h_i h1 1 33) + 1)) (fun h16 => Wf h16 ∧ (Cv (m_X12_stepsRead (d + e + 52) 0 0) [.ref 1] h16 (fun h19 => Wf h19 ∧ ((¬ (h_i h19 1 34) = (-1) → (¬ (h_i h19 1 34) = (-1) → Ptt (fun cd => stD cd (g + 1)) h (h_im (h_im h19 1 33 ((h_i h19 1 33) + 1)) 1 35 ((h_i h19 1 35) - 1))) ∧ ((h_i h19 1 34) = (-1) → Cv (m_X12_say (d + e + 0) 0 0) [.ref 1, .int 5] (h_im (h_im h19 1 33 ((h_i h19 1 33) + 1)) 1 35 ((h_i h19 1 35) - 1)) (fun h24 => Wf h24 ∧ (Ci (m_X12_within (d + e + 2) 0 0) [.ref 1, .int 1, .int 20] h24 (fun r29 h27 => Wf h27 ∧ (Cv (m_X12_say (d + e + 0) 0 0) [.ref 1, .int r29] h27 (fun h30 => Wf h30 ∧ (Ptt (fun cd => stD cd (g + 1)) h h30)))))))) ∧ ((h_i h19 1 34) = (-1) → Ci (m_X12_look (d + e + 0) 0 0) [.ref 1] h19 (fun r35 h33 => Wf h33 ∧ ((r35 = 41 → (¬ (h_i h33 1 34) = (-1) → Ptt (fun cd => stD cd (g + 1)) h (h_im (h_im h33 1 33 ((h_i h33 1 33) + 1)) 1 35 ((h_i h33 1 35) - 1))) ∧ ((h_i h33 1 34) = (-1) → Cv (m_X12_say (d + e + 0) 0 0) [.ref 1, .int 5] (h_im (h_im h33 1 33 ((h_i h33 1 33) + 1)) 1 35 ((h_i h33 1 35) - 1)) (fun h38 => Wf h38 ∧ (Ci (m_X12_within (d + e + 2) 0 0) [.ref 1, .int 1, .int 20] h38 (fun r43 h41 => Wf h41 ∧ (Cv (m_X12_say (d + e + 0) 0 0) [.ref 1, .int r43] h41 (fun h44 => Wf h44 ∧ (Ptt (fun cd => stD cd (g + 1)) h h44)))))))) ∧ (¬ r35 = 41 → Cv (m_X12_bad (d + e + 0) 0 0) [.ref 1] h33 (fun h47 => Wf h47 ∧ ((¬ (h_i h47 1 34) = (-1) → Ptt (fun cd => stD cd (g + 1)) h (h_im (h_im h47 1 33 ((h_i h47 1 33) + 1)) 1 35 ((h_i h47 1 35) - 1))) ∧ ((h_i h47 1 34) = (-1) → Cv (m_X12_say (d + e + 0) 0 0) [.ref 1, .int 5] (h_im (h_im h47 1 33 ((h_i h47 1 33) + 1)) 1 35 ((h_i h47 1 35) - 1)) (fun h51 => Wf h51 ∧ (Ci (m_X12_within (d + e + 2) 0 0) [.ref 1, .int 1, .int 20] h51 (fun r56 h54 => Wf h54 ∧ (Cv (m_X12_say (d + e + 0) 0 0) [.ref 1, .int r56] h54 (fun h57 => Wf h57 ∧ (Ptt (fun cd => stD cd (g + 1)) h h57))))))))))))))))) := by
  obtain ⟨q1, q2, q3, q4⟩ := q
  have z1 : pz h ≤ 160 := (pz_in I).2
  have l3 := L.2.2.1
  have d0 : 0 ≤ pd h := (dp_in7 I).1
  have o1 : (1 : Int32).toInt = 1 := rfl
  have ed1 := f35 L.2.1 (by decide +kernel)
  have a0' : 0 ≤ (h_i h1 1 33).toInt := (pa_in L.1).1
  have l' : (h_i h1 1 33).toInt < pz h := l
  have d1' : (h_i h1 1 35).toInt = pd h := ed1
  have e33 : (h_i h1 1 33 + 1).toInt = (h_i h1 1 33).toInt + 1 := by rw [tx_add (by rw [o1]; omega) (by rw [o1]; omega), o1]
  have e35 : (h_i h1 1 35 + 1).toInt = (h_i h1 1 35).toInt + 1 := by rw [tx_add (by rw [o1]; omega) (by rw [o1]; omega), o1]
  have I2 : Iv (h_im (h_im h1 1 35 ((h_i h1 1 35) + 1)) 1 33 ((h_i h1 1 33) + 1)) := i33 (i35 L.1 ⟨by rw [e35]; show (0 : Int) ≤ _; omega, by rw [e35]; show _ ≤ (7 : Int); omega⟩) ⟨by rw [e33]; show (0 : Int) ≤ _; omega, by rw [e33]; show _ ≤ (180 : Int); omega⟩
  have F2 : Fr [1033, 1034, 1035] h (h_im (h_im h1 1 35 ((h_i h1 1 35) + 1)) 1 33 ((h_i h1 1 33) + 1)) := ((L.2.1.more (by decide +kernel)).im (by decide +kernel)).im (by decide +kernel)
  have a2 : pa (h_im (h_im h1 1 35 ((h_i h1 1 35) + 1)) 1 33 ((h_i h1 1 33) + 1)) = pa h1 + 1 := by
    show (h_i (h_im _ 1 33 _) 1 33).toInt = _
    rw [im_at]; exact e33
  have d2 : pd (h_im (h_im h1 1 35 ((h_i h1 1 35) + 1)) 1 33 ((h_i h1 1 33) + 1)) = pd h + 1 := by
    show (h_i (h_im _ 1 33 _) 1 35).toInt = _
    rw [f_ne (by decide), im_at, e35, d1']
  have w2 : h_i (h_im (h_im h1 1 35 ((h_i h1 1 35) + 1)) 1 33 ((h_i h1 1 33) + 1)) 1 34 = -1 := by rw [f_ne (by decide), f_ne (by decide), f34 L.2.1 (by decide +kernel)]; exact q1
  generalize h_im (h_im h1 1 35 ((h_i h1 1 35) + 1)) 1 33 ((h_i h1 1 33) + 1) = h2 at I2 F2 a2 d2 w2 ⊢
  have p2 := f36 F2 (by decide +kernel)
  have z2 := zf F2 (by decide +kernel)
  refine Cv.mono (c_say (d + e) I2 4 (by show ps h2 ≤ 558; omega)) (fun h3 S => ⟨S.1.1, ?_⟩)
  obtain ⟨s1, s2, s3, s4, s5⟩ := Sa.q (h := h2) (x := 4) (h' := h3) S
  have Y : Sy h [4] h3 := ((Sy.rf I).mv I2 F2).say I S
  have n0 := sN_i I
  have n3 := sN_i Y.1
  have m3 : sN h3 = sN h + 1 := by omega
  refine Cv.mono (B d h3 Y.1 ⟨by rw [s2]; exact w2, by omega, by omega, by omega⟩ (by omega)) (fun h4 P => ⟨P.1.1, ?_⟩)
  obtain ⟨p1, p2', p3, p4, p5, p6, p7, p8⟩ := P
  have z4 := zf p2' (by decide +kernel)
  have n4 := sN_i p1
  have c4 : ∀ k, k < sN h → h_i h4 226 k = h_i h 226 k := fun k hk => by rw [p5 k (by omega)]; exact Y.2.2.1 k hk
  -- wrong behind the closing of the bracket
  have no : ∀ h5 : Hp_, Iv h5 → Fr [1033, 1034, 1035] h4 h5 → pd h5 = pd h4 → ¬ h_i h5 1 34 = -1 → pa h4 ≤ pa h5 → pa h5 + pd h + 1 ≤ pz h + 5 → ps h4 ≤ ps h + (pa h5 - pa h) + 2 → Ptt (fun cd => stD cd (g + 1)) h (h_im (h_im h5 1 33 ((h_i h5 1 33) + 1)) 1 35 ((h_i h5 1 35) - 1)) := by
    intro h5 i5 f5 e5 w5 a5 b5 c5
    obtain ⟨k1, k2, k3, k4, k5⟩ := cl1 i5 (by omega) (by omega)
    generalize h_im (h_im h5 1 33 ((h_i h5 1 33) + 1)) 1 35 ((h_i h5 1 35) - 1) = h6 at k1 k2 k3 k4 k5 ⊢
    have g5 := f36 f5 (by decide +kernel)
    have g6 := f36 k2 (by decide +kernel)
    refine ⟨k1, (Y.2.1.tr p2').tr ((f5.tr k2).more (by decide +kernel)), by omega, by omega, fun k hk => ?_, by omega, fun w => absurd (k5 ▸ w) w5, fun _ => ⟨by omega, by omega⟩⟩
    rw [fr_i k2 (a := 226) (by decide +kernel), fr_i f5 (a := 226) (by decide +kernel)]
    exact c4 k hk
  refine ⟨fun w => ⟨fun _ => ?_, fun y => absurd y w⟩, fun w => ?_⟩
  · obtain ⟨t1, t2⟩ := p8 w
    exact no h4 p1 (Fr.rf _ _) rfl w (Int.le_refl _) (by omega) (by omega)
  · obtain ⟨t1, t2, t3, t4⟩ := p7 w
    refine Ci.mono (c_look (d + e) p1) (fun r5 h5 L5 => ⟨L5.1.1, fun er => ⟨fun y => ?_, fun w5 => ?_⟩, fun nr => ?_⟩)
    · exact absurd (by rw [f34 L5.2.1 (by decide +kernel)]; exact w) y
    · have l5 : pa h5 < pz h := by
        rcases L5.fwd (z := pz h) (by omega) with u | u
        · rw [er] at u; exact absurd u (by decide)
        · exact u
      have l53 := L5.2.2.1
      have e5 := f35 L5.2.1 (by decide +kernel)
      obtain ⟨k1, k2, k3, k4, k5⟩ := cl1 L5.1 (by omega) (by omega)
      generalize h_im (h_im h5 1 33 ((h_i h5 1 33) + 1)) 1 35 ((h_i h5 1 35) - 1) = h6 at k1 k2 k3 k4 k5 ⊢
      have g5 := f36 L5.2.1 (by decide +kernel)
      have g6 := f36 k2 (by decide +kernel)
      have z5 := zf L5.2.1 (by decide +kernel)
      have z6 := zf k2 (by decide +kernel)
      refine Cv.mono (c_say (d + e) k1 5 (by show ps h6 ≤ 558; omega)) (fun h7 T => ⟨T.1.1, ?_⟩)
      obtain ⟨u1, u2, u3, u4, u5⟩ := Sa.q (h := h6) (x := 5) (h' := h7) T
      refine Ci.mono (c_within (d + e) T.1 (by rw [u2, k5]; exact w5) (by omega) 1 20) (fun r8 h8 W => ⟨W.1.1.1, ?_⟩)
      obtain ⟨N, wr⟩ := W
      obtain ⟨o1, o2, o3, o4, o5⟩ := N
      have g8 := f36 o2 (by decide +kernel)
      have e8 := f35 o2 (by decide +kernel)
      refine Cv.mono (c_say (d + e) o1 r8 (by show ps h8 ≤ 558; omega)) (fun h9 U => ⟨U.1.1, ?_⟩)
      obtain ⟨v1, v2, v3, v4, v5⟩ := Sa.q (h := h8) (x := r8) (h' := h9) U
      have X : Sy h4 [5, r8] h9 := (((((Sy.rf p1).mv L5.1 (L5.2.1.more (by decide +kernel))).mv k1 k2).say p1 T).mv o1 (o2.more (by decide +kernel))).say p1 U
      obtain ⟨x1, x2, x3, x4, x5⟩ := X
      have x4' : ps h9 = ps h4 + 2 := x4
      have n9 := sN_i x1
      have m9 : sN h9 = sN h4 + 2 := by omega
      refine ⟨x1, (Y.2.1.tr p2').tr x2, by omega, by omega, fun k hk => ?_, by omega, fun w9 => ?_, fun w9 => ⟨by omega, by omega⟩⟩
      · rw [x3 k (by omega)]; exact c4 k hk
      · rw [v2] at w9
        have g9 := o5 w9
        obtain ⟨b1, b2⟩ := wr w9
        have y5 := x5 0 5 rfl
        have y6 := x5 1 r8 rfl
        obtain ⟨f, t4⟩ := t4
        refine ⟨by omega, by omega, by omega, Or.inr ⟨?_, f, sN h4, ?_, y5, ?_, m9⟩⟩
        · rw [x3 _ (by omega), p5 _ (by omega)]
          exact Y.2.2.2.2 0 4 rfl
        · rw [← m3]
          exact sqD_same (fun k _ b => x3 k b) t4
        · rw [show h_i h9 226 (sN h4 + 1) = r8 from y6]
          exact ⟨q_le.mp b1, q_le.mp b2⟩
    · have l53 := L5.2.2.1
      have l54 := L5.2.2.2.1
      refine Cv.mono (c_bad (d + e) L5.1) (fun h6 k => ⟨k.1.1, fun w6 => ?_, fun w6 => absurd w6 k.2.2⟩)
      obtain ⟨k1, k2, k3⟩ := k
      have e6 := f33 k2 (by decide +kernel)
      have d6 := f35 k2 (by decide +kernel)
      have d5 := f35 L5.2.1 (by decide +kernel)
      exact no h6 k1 ((L5.2.1.more (by decide +kernel)).tr (k2.more (by decide +kernel))) (by omega) w6 (by omega) (by omega) (by omega)
theorem c_stepRead (e g : Nat) (hg : g ≤ 4) (B : ∀ g', g = g' + 1 → RdS (4 - (g' : Int)) (Qs g') (fun d h K => Cv (m_X12_stepsRead (d + e + 52) 0 0) [.ref 1] h K)) : RdS (4 - (g : Int)) (fun cd => stD cd g) (fun d h K => Cv (m_X12_stepRead (d + e + 61) 0 0) [.ref 1] h K) := by
  intro d h I q eD
  refine t_X12_stepRead (d + e) h I.1 _ (Ci.mono (c_look (d + e) I) (fun r h1 L => ?_))
  have fwd : ∀ c : Int32, r = c → ¬ c = -1 → pa h1 < pz h := fun c ec nc => by
    rcases L.fwd rfl with u | u
    · exact absurd (ec.symm.trans u) nc
    · exact u
  refine ⟨L.1.1, fun _ => ⟨fun _ => ⟨fun _ => ⟨fun _ => ⟨fun _ => st_bad (d + e) I q L, fun e40 => ⟨fun _ => st_bad (d + e) I q L, fun d4 => ?_⟩⟩, fun e108 => st_l (d + e) I q L (fwd _ e108 (by decide))⟩, fun e112 => st_p (d + e) I q L (fwd _ e112 (by decide))⟩, fun e119 => ?_⟩, fun e103 => ?_⟩
  · have d4 := q_nle d4
    have ed := f35 L.2.1 (by decide +kernel)
    have d4' : pd h1 < 4 := d4
    cases g with
    | zero => exact absurd eD (by omega)
    | succ g => exact st_n d e (B g rfl) I q eD L (fwd _ e40 (by decide))
  · exact st_gw (d + e) I q L (fwd _ e119 (by decide)) 1 1 240 (fun cd i a b c => stD.b (Or.inr (Or.inl ⟨a, ⟨q_le.mp b, q_le.mp c⟩, rfl⟩)))
  · exact st_gw (d + e) I q L (fwd _ e103 (by decide)) 0 0 15 (fun cd i a b c => stD.b (Or.inl ⟨a, ⟨q_le.mp b, q_le.mp c⟩, rfl⟩))
/-- one step more behind a sign -/
theorem Ptt.more {g : Nat} {h h5 h6 h9 : Hp_} (I : Iv h) (q : Pr h) (P : Ptt (Qs g) h h5) (w : h_i h5 1 34 = -1) (I6 : Iv h6) (F6 : Fr [1033] h5 h6) (a6 : pa h6 = pa h5 + 1) (Q : Ptt (fun cd => stD cd g) h6 h9) : Ptt (Qs g) h h9 := by
  obtain ⟨p1, p2, p3, p4, p5, p6, p7, p8⟩ := P
  obtain ⟨q1, q2, q3, q4, q5, q6, q7, q8⟩ := Q
  obtain ⟨t1, t2, t3, f, t4⟩ := p7 w
  have z5 := zf p2 (by decide +kernel)
  have z6 := zf F6 (by decide +kernel)
  have g6 := f36 F6 (by decide +kernel)
  have d6 := f35 F6 (by decide +kernel)
  have n5 := sN_i p1
  have n6 := sN_i I6
  have m6 : sN h6 = sN h5 := by omega
  have n0 := sN_i I
  have c6 : ∀ k, k < sN h5 → h_i h9 226 k = h_i h5 226 k := fun k hk => by rw [q5 k (by omega), fr_i F6 (a := 226) (by decide +kernel)]
  refine ⟨q1, (p2.tr (F6.more (by decide +kernel))).tr q2, by omega, by omega, fun k hk => ?_, by omega, fun w9 => ?_, fun w9 => ?_⟩
  · rw [c6 k (by omega)]; exact p5 k hk
  · obtain ⟨u1, u2, u3, u4⟩ := q7 w9
    refine ⟨by omega, by omega, by omega, f + 1, sqS_snoc (j := sN h5) (sqD_same (fun k _ b => c6 k b) t4) ?_⟩
    rw [← m6]; exact u4
  · obtain ⟨u1, u2⟩ := q8 w9
    exact ⟨by omega, by omega⟩
theorem c_stepsRead (e g : Nat) (A : RdS (4 - (g : Int)) (fun cd => stD cd g) (fun d h K => Cv (m_X12_stepRead (d + e + 51) 0 0) [.ref 1] h K)) : RdS (4 - (g : Int)) (Qs g) (fun d h K => Cv (m_X12_stepsRead (d + e + 52) 0 0) [.ref 1] h K) := by
  intro d h I q eD
  have z1 : pz h ≤ 160 := (pz_in I).2
  have qq := q
  obtain ⟨q1, q2, q3, q4⟩ := qq
  have lp : ∀ (n : Nat) (h2 : Hp_), Ptt (Qs g) h h2 → pz h - pa h2 ≤ n → AW (m_X12_stepsRead (d + e + 52) 0 0) 0 0 4 [(0, .ref 1)] [] h2 (kV (fun h' => Ptt (Qs g) h h')) := by
    intro n
    induction n with
    | zero =>
      intro h2 P m
      refine t_X12_stepsRead_4 (d + e) h2 P.1.1 _ ⟨fun _ => P, fun w => Ci.mono (c_look (d + e) P.1) (fun r h5 L => ⟨L.1.1, fun _ => P.lk I q L, fun er => ?_⟩)⟩
      have l3 := L.2.2.1
      rcases L.fwd (zf P.2.1 (by decide +kernel)) with u | u
      · rw [er] at u; exact absurd u (by decide)
      · omega
    | succ n ih =>
      intro h2 P m
      refine t_X12_stepsRead_4 (d + e) h2 P.1.1 _ ⟨fun _ => P, fun w => Ci.mono (c_look (d + e) P.1) (fun r h5 L => ⟨L.1.1, fun _ => P.lk I q L, fun er => ?_⟩)⟩
      have P5 := P.lk I q L
      have w5 : h_i h5 1 34 = -1 := by rw [f34 L.2.1 (by decide +kernel)]; exact w
      have l3 := L.2.2.1
      have z2 := zf P.2.1 (by decide +kernel)
      have l5 : pa h5 < pz h := by
        rcases L.fwd z2 with u | u
        · rw [er] at u; exact absurd u (by decide)
        · exact u
      obtain ⟨t1, t2, t3, t4⟩ := P5.2.2.2.2.2.2.1 w5
      obtain ⟨I6, F6, a6⟩ := nx1 P.1 L (by omega)
      have F56 : Fr [1033] h5 (h_im h5 1 33 ((h_i h5 1 33) + 1)) := (Fr.rf _ _).im (by decide +kernel)
      generalize h_im h5 1 33 ((h_i h5 1 33) + 1) = h6 at I6 F6 a6 F56 ⊢
      have g6 := f36 F56 (by decide +kernel)
      have d6 := f35 F56 (by decide +kernel)
      have z6 := zf F6 (by decide +kernel)
      have d5 := P5.2.2.1
      refine Cv.mono (A d h6 I6 ⟨by rw [f34 F56 (by decide +kernel)]; exact w5, by omega, by omega, by omega⟩ (by omega)) (fun h9 Q => ⟨Q.1.1, ih h9 (P5.more I q w5 I6 F56 a6 Q) ?_⟩)
      have q4 := Q.2.2.2.1
      omega
  refine t_X12_stepsRead (d + e) h I.1 _ (Cv.mono (A d h I q eD) (fun h1 P => ?_))
  have P' : Ptt (Qs g) h h1 := ⟨P.1, P.2.1, P.2.2.1, P.2.2.2.1, P.2.2.2.2.1, P.2.2.2.2.2.1, fun w => ⟨(P.2.2.2.2.2.2.1 w).1, (P.2.2.2.2.2.2.1 w).2.1, (P.2.2.2.2.2.2.1 w).2.2.1, 1, _, (P.2.2.2.2.2.2.1 w).2.2.2, rfl⟩, P.2.2.2.2.2.2.2⟩
  refine ⟨P.1.1, lp 160 h1 P' ?_⟩
  have a1 : 0 ≤ pa h1 := (pa_in P.1).1
  omega
theorem c_steps : ∀ (g : Nat), g ≤ 4 → RdS (4 - (g : Int)) (Qs g) (fun d h K => Cv (m_X12_stepsRead (d + (10 * g + 10) + 52) 0 0) [.ref 1] h K) := by
  intro g
  induction g with
  | zero =>
    intro _
    exact c_stepsRead _ 0 (c_stepRead 0 0 (by decide) (fun g' h => absurd h (by omega)))
  | succ g ih =>
    intro hg
    have A := c_stepRead (10 * g + 10) (g + 1) hg (fun g' h => by
      have h : g = g' := by omega
      subst h
      exact ih (by omega))
    refine c_stepsRead _ (g + 1) (fun d h I q a => ?_)
    have t := A d h I q a
    dsimp only at t
    rw [show d + (10 * g + 10) + 61 = d + (10 * (g + 1) + 10) + 51 by omega] at t
    exact t
theorem r_steps (d : Nat) {h : Hp_} (I : Iv h) (q : Pr h) (e : pd h = 0) : Cv (m_X12_stepsRead (d + 80 + 52) 0 0) [.ref 1] h (fun h' => Ptt (Qs 4) h h') := by
  have t := c_steps 4 (by decide) (d + 30) h I q (by omega)
  dsimp only at t
  rw [show d + 30 + (10 * 4 + 10) + 52 = d + 80 + 52 by omega] at t
  exact t
end
section
/-! clauses -/
theorem at1 {h : Hp_} (I : Iv h) (a : pa h ≤ 179) : Iv (h_im h 1 33 ((h_i h 1 33) + 1)) ∧ Fr [1033] h (h_im h 1 33 ((h_i h 1 33) + 1)) ∧ pa (h_im h 1 33 ((h_i h 1 33) + 1)) = pa h + 1 := by
  have a0 : 0 ≤ (h_i h 1 33).toInt := (pa_in I).1
  have a1 : (h_i h 1 33).toInt ≤ 179 := a
  have o1 : (1 : Int32).toInt = 1 := rfl
  have e33 : (h_i h 1 33 + 1).toInt = (h_i h 1 33).toInt + 1 := by rw [tx_add (by rw [o1]; omega) (by rw [o1]; omega), o1]
  refine ⟨i33 I ⟨by rw [e33]; show (0 : Int) ≤ _; omega, by rw [e33]; show _ ≤ (180 : Int); omega⟩, (Fr.rf _ _).im (by decide +kernel), ?_⟩
  show (h_i (h_im h 1 33 _) 1 33).toInt = _
  rw [im_at]; exact e33
noncomputable def Ak (s : Nat) (h h' : Hp_) : Prop := Iv h' ∧ Fr wzp h h' ∧ pd h' = pd h ∧ (∀ k, k < sN h → h_i h' 226 k = h_i h 226 k) ∧ ps h ≤ ps h' ∧ (h_i h' 1 34 = -1 → pa h' ≤ pz h ∧ pa h + 2 ≤ pa h' ∧ ps h' ≤ ps h + 2 * (pa h' - pa h) - 1 ∧ ∃ m K : Nat, K ≤ 160 ∧ PR s (h_i h' 226) (sN h) m K ∧ h_i h' 226 m = 2 ∧ sN h' = m + 1)
theorem c_ask (s d : Nat) {h h7 : Hp_} (I : Iv h) (q : Pq h) (P : Pe s h h7) : Cv (m_X12_ask (d + 1) 0 0) [.ref 1] h7 (fun h' => Ak s h h') := by
  have ro := P.room I q
  have z1 : pz h ≤ 160 := (pz_in I).2
  have d0 : 0 ≤ pd h := (dp_in7 I).1
  have a0 : 0 ≤ pa h := (pa_in I).1
  have n0 := sN_i I
  have PP := P
  obtain ⟨p1, p2, p3, p4, p5, p6, p7, p8⟩ := PP
  obtain ⟨q1, q2, q3, q4⟩ := q
  have z7 := zf p2 (by decide +kernel)
  have no : ∀ h5 : Hp_, Iv h5 → Fr [1033, 1034] h7 h5 → pa h5 ≤ 179 → ¬ h_i h5 1 34 = -1 → Cv (m_X12_say (d + 0) 0 0) [.ref 1, .int 2] (h_im h5 1 33 ((h_i h5 1 33) + 1)) (fun h9 => Wf h9 ∧ Ak s h h9) := by
    intro h5 i5 f5 a5 w5
    obtain ⟨k1, k2, k3⟩ := at1 i5 a5
    generalize h_im h5 1 33 ((h_i h5 1 33) + 1) = h6 at k1 k2 k3 ⊢
    have g5 := f36 f5 (by decide +kernel)
    have g6 := f36 k2 (by decide +kernel)
    have e5 := f35 f5 (by decide +kernel)
    have e6 := f35 k2 (by decide +kernel)
    refine Cv.mono (c_say d k1 2 (by show ps h6 ≤ 558; omega)) (fun h9 S => ⟨S.1.1, ?_⟩)
    obtain ⟨s1, s2, s3, s4, s5⟩ := Sa.q (h := h6) (x := 2) (h' := h9) S
    have n6 := sN_i k1
    refine ⟨S.1, (p2.tr (f5.more (by decide +kernel))).tr ((k2.more (by decide +kernel)).tr (S.2.1.more (by decide +kernel))), by omega, fun k hk => ?_, by omega, fun w => ?_⟩
    · rw [S.2.2.2.2 k (by show k ≠ sN h6; omega), fr_i k2 (a := 226) (by decide +kernel), fr_i f5 (a := 226) (by decide +kernel)]
      exact p5 k hk
    · rw [s2, f34 k2 (by decide +kernel)] at w
      exact absurd w w5
  refine t_X12_ask d h7 p1.1 _ ⟨fun w => ?_, fun w => ?_⟩
  · have t := (p8 w).1
    exact no h7 p1 (Fr.rf _ _) (by omega) w
  · obtain ⟨t1, t2, t3, _⟩ := p7 w
    refine Ci.mono (c_look d p1) (fun r h5 L => ⟨L.1.1, fun er => ?_, fun _ => ?_⟩)
    · have l5 : pa h5 < pz h := by
        rcases L.fwd z7 with u | u
        · rw [er] at u; exact absurd u (by decide)
        · exact u
      have P5 := P.lk I L
      have w5 : h_i h5 1 34 = -1 := by rw [f34 L.2.1 (by decide +kernel)]; exact w
      obtain ⟨c1, c2, c3, c4, c5, c6, c7, _⟩ := P5
      obtain ⟨b1, b2, b3, K, b4, b5⟩ := c7 w5
      obtain ⟨k1, k2, k3⟩ := at1 c1 (by omega)
      generalize h_im h5 1 33 ((h_i h5 1 33) + 1) = h6 at k1 k2 k3 ⊢
      have g6 := f36 k2 (by decide +kernel)
      have e6 := f35 k2 (by decide +kernel)
      refine Cv.mono (c_say d k1 2 (by show ps h6 ≤ 558; omega)) (fun h9 S => ⟨S.1.1, ?_⟩)
      obtain ⟨s1, s2, s3, s4, s5⟩ := Sa.q (h := h6) (x := 2) (h' := h9) S
      have n5 := sN_i c1
      have n6 := sN_i k1
      have n9 := sN_i S.1
      have m6 : sN h6 = sN h5 := by omega
      have cc : ∀ k, k < sN h5 → h_i h9 226 k = h_i h5 226 k := fun k hk => by rw [S.2.2.2.2 k (by show k ≠ sN h6; omega), fr_i k2 (a := 226) (by decide +kernel)]
      refine ⟨S.1, (c2.tr (k2.more (by decide +kernel))).tr (S.2.1.more (by decide +kernel)), by omega, fun k hk => ?_, by omega, fun _ => ⟨by omega, by omega, by omega, sN h5, K, by omega, PR.same (fun k _ b => cc k b) b5, ?_, by omega⟩⟩
      · rw [cc k (by omega)]; exact c5 k hk
      · rw [← m6]; exact S.2.2.2.1
    · refine Cv.mono (c_bad d L.1) (fun h6 k => ⟨k.1.1, ?_⟩)
      obtain ⟨k1, k2, k3⟩ := k
      have e6 := f33 k2 (by decide +kernel)
      have l4 := L.2.2.2.1
      exact no h6 k1 ((L.2.1.more (by decide +kernel)).tr (k2.more (by decide +kernel))) (by omega) k3
noncomputable def Ck (s : Nat) (cd : Nat → Int32) (i j : Nat) : Prop := ∃ m n, (∃ g, prun s cd g i 0 m 1) ∧ cd m = 2 ∧ (∃ g, prun s cd g (m + 1) 0 n 1) ∧ cd n = 3 ∧ j = n + 1
noncomputable def Pc (s : Nat) (h h' : Hp_) : Prop := Iv h' ∧ Fr wzp h h' ∧ pd h' = pd h ∧ (∀ k, k < sN h → h_i h' 226 k = h_i h 226 k) ∧ (h_i h' 1 34 = -1 → pa h' ≤ pz h ∧ pa h < pa h' ∧ ps h ≤ ps h' ∧ ps h' ≤ ps h + 2 * (pa h' - pa h) + 4 ∧ Ck s (h_i h' 226) (sN h) (sN h'))
theorem r_sum8 (s : Nat) (hs : s = 1 ∨ s = 2) : Rd s 0 (fun d h K => Cv (m_X12_sum (d + 80 + 53) 0 0) [.ref 1] h K) := by
  intro d h I q a b
  have t := r_sum s hs d h I q a b
  dsimp only at t
  rw [show d + 133 = d + 80 + 53 by omega] at t
  exact t
/-- the rest of a clause behind its condition: ?, a sum -/
theorem cl_rest (s : Nat) (hs : s = 1 ∨ s = 2) (d : Nat) {h h7 : Hp_} (I : Iv h) (q : Pq h) (q0 : ps h ≤ 3 * pa h) (e0 : pd h = 0) (es : h_i h 1 37 = Int32.ofNat s) (P : Pe s h h7) {K : Hp_ → Prop} (up : ∀ h', Pc s h h' → K h') :
    Cv (m_X12_ask (d + 80 + 1) 0 0) [.ref 1] h7 (fun h10 => Wf h10 ∧ ((¬ (h_i h10 1 34) = (-1) → K h10) ∧ ((h_i h10 1 34) = (-1) → Cv (m_X12_sum (d + 80 + 53) 0 0) [.ref 1] h10 (fun h14 => Wf h14 ∧ (Cv (m_X12_say (d + 80 + 0) 0 0) [.ref 1, .int 3] h14 (fun h17 => Wf h17 ∧ (K h17))))))) := by
  have z1 : pz h ≤ 160 := (pz_in I).2
  have n0 := sN_i I
  have a0 : 0 ≤ pa h := (pa_in I).1
  refine Cv.mono (c_ask s (d + 80) I q P) (fun h10 A => ?_)
  obtain ⟨a1, a2, a3, a4, a6, a5⟩ := A
  refine ⟨a1.1, fun w => up _ ⟨a1, a2, a3, a4, fun y => absurd y w⟩, fun w => ?_⟩
  obtain ⟨b1, b2, b3, m, K1, b4, b5, b6, b7⟩ := a5 w
  have z10 := zf a2 (by decide +kernel)
  have s10 : h_i h10 1 37 = Int32.ofNat s := by rw [(a2.2 1 37 (by decide +kernel)).1]; exact es
  have q10 : Pq h10 := ⟨w, by omega, by omega, by omega⟩
  refine Cv.mono (r_sum8 s hs d h10 a1 q10 (by omega) s10) (fun h14 Q => ⟨Q.1.1, ?_⟩)
  refine Cv.mono (c_say (d + 80) Q.1 3 (Q.room a1 q10)) (fun h17 S => ⟨S.1.1, up _ ?_⟩)
  obtain ⟨u1, u2, u3, u4, u5⟩ := Sa.q (h := h14) (x := 3) (h' := h17) S
  obtain ⟨c1, c2, c3, c4, c5, c6, c7, c8⟩ := Q
  have n10 := sN_i a1
  have n14 := sN_i c1
  have n17 := sN_i S.1
  have m17 : sN h17 = sN h14 + 1 := by omega
  have cc : ∀ k, k < sN h14 → h_i h17 226 k = h_i h14 226 k := fun k hk => S.2.2.2.2 k (by show k ≠ sN h14; omega)
  refine ⟨S.1, (a2.tr c2).tr (S.2.1.more (by decide +kernel)), by omega, fun k hk => ?_, fun w17 => ?_⟩
  · rw [cc k (by omega), c5 k (by omega)]; exact a4 k hk
  · rw [u2] at w17
    obtain ⟨t1, t2, t3, K2, t4, t5⟩ := c7 w17
    refine ⟨by omega, by omega, by omega, by omega, m, sN h14, ?_, ?_, ?_, ?_, m17⟩
    · exact PR.ex (PR.same (fun k _ b => by rw [cc k (by omega), c5 k (by omega)]) b5) (by omega)
    · rw [cc m (by omega), c5 m (by omega)]; exact b6
    · rw [← b7]; exact PR.ex (PR.same (fun k _ b => cc k b) t5) (by omega)
    · exact S.2.2.2.1
/-- what an act lets: a letter -/
theorem cl_ans (s d : Nat) {h h3 h7 : Hp_} {r : Int32} (I : Iv h) (q0 : ps h ≤ 3 * pa h) (A : Ak s h h3) (w : h_i h3 1 34 = -1) (L : Lk h3 r h7) (l : pa h7 < pz h) {K : Hp_ → Prop} (up : ∀ h', Pc s h h' → K h') :
    Cv (m_X12_say (d + 0) 0 0) [.ref 1, .int 0] (h_im h7 1 33 ((h_i h7 1 33) + 1)) (fun h71 => Wf h71 ∧ ∀ c : Int32, Cv (m_X12_say (d + 0) 0 0) [.ref 1, .int c] h71 (fun h77 => Wf h77 ∧ (Cv (m_X12_say (d + 0) 0 0) [.ref 1, .int 3] h77 (fun h80 => Wf h80 ∧ (K h80))))) := by
  have z1 : pz h ≤ 160 := (pz_in I).2
  have n0 := sN_i I
  have a0 : 0 ≤ pa h := (pa_in I).1
  obtain ⟨a1, a2, a3, a4, a6, a5⟩ := A
  obtain ⟨b1, b2, b3, m, K1, b4, b5, b6, b7⟩ := a5 w
  have z3 := zf a2 (by decide +kernel)
  obtain ⟨k1, k2, k3⟩ := nx1 a1 L (by omega)
  have l3 := L.2.2.1
  generalize h_im h7 1 33 ((h_i h7 1 33) + 1) = h2 at k1 k2 k3 ⊢
  have g2 := f36 k2 (by decide +kernel)
  have e2 := f35 k2 (by decide +kernel)
  have Y0 : Sy h3 [] h2 := (Sy.rf a1).mv k1 (k2.more (by decide +kernel))
  refine Cv.mono (c_say d k1 0 (by show ps h2 ≤ 558; omega)) (fun h71 S => ⟨S.1.1, fun c => ?_⟩)
  obtain ⟨s1, s2, s3, s4, s5⟩ := Sa.q (h := h2) (x := 0) (h' := h71) S
  refine Cv.mono (c_say d S.1 c (by show ps h71 ≤ 558; omega)) (fun h77 T => ⟨T.1.1, ?_⟩)
  obtain ⟨t1, t2, t3, t4, t5⟩ := Sa.q (h := h71) (x := c) (h' := h77) T
  refine Cv.mono (c_say d T.1 3 (by show ps h77 ≤ 558; omega)) (fun h80 U => ⟨U.1.1, up _ ?_⟩)
  obtain ⟨u1, u2, u3, u4, u5⟩ := Sa.q (h := h77) (x := 3) (h' := h80) U
  have Y : Sy h3 [0, c, 3] h80 := ((Y0.say a1 S).say a1 T).say a1 U
  obtain ⟨y1, y2, y3, y4, y5⟩ := Y
  have y4' : ps h80 = ps h3 + 3 := y4
  have n3 := sN_i a1
  have n80 := sN_i y1
  have x0 := y5 0 0 rfl
  have x2 := y5 2 3 rfl
  refine ⟨y1, a2.tr y2, by omega, fun k hk => ?_, fun _ => ⟨by omega, by omega, by omega, by omega, m, sN h3 + 2, ?_, ?_, ?_, x2, by omega⟩⟩
  · rw [y3 k (by omega)]; exact a4 k hk
  · exact PR.ex (PR.same (fun k _ b => y3 k (by omega)) b5) (by omega)
  · rw [y3 m (by omega)]; exact b6
  · rw [← b7]; exact PR.ex (PR.num x0) (by decide)
/-- a plain sum: put behind 0 1 2 -/
theorem cl_shift (s d : Nat) {h h0 : Hp_} (I : Iv h) (q0 : ps h ≤ 3 * pa h) (P : Pe s h h0) (w : h_i h0 1 34 = -1) (x3 : Int32) (e3 : x3 = h_i h 1 36) {K : Hp_ → Prop} (up : ∀ h', Pc s h h' → K h') :
    ∀ (n : Nat) (h2 : Hp_) (x4 : Int32), x4.toInt = (sN h : Int) + n - 1 → Iv h2 → Fr [226999] h0 h2 → sN h + n ≤ sN h0 → (∀ j, j < sN h + n → h_i h2 226 j = h_i h0 226 j) → (∀ j, sN h + n ≤ j → j < sN h0 → h_i h2 226 (j + 3) = h_i h0 226 j) →
    AW (m_X12_clause (d + 58) 0 0) 0 0 179 [(0, .ref 1), (3, .int x3), (4, .int x4)] [] h2 (kV K) := by
  have z1 : pz h ≤ 160 := (pz_in I).2
  have n0 := sN_i I
  have a0 : 0 ≤ pa h := (pa_in I).1
  obtain ⟨p1, p2, p3, p4, p5, p6, p7, p8⟩ := P
  obtain ⟨t1, t2, t3, K1, t4, t5⟩ := p7 w
  have nh0 := sN_i p1
  have i3 : x3.toInt = (sN h : Int) := by rw [e3]; exact n0.symm
  have j3 : x3.toNatClampNeg = sN h := by rw [e3]
  have o1 : (1 : Int32).toInt = 1 := rfl
  have o2 : (2 : Int32).toInt = 2 := rfl
  have o3 : (3 : Int32).toInt = 3 := rfl
  have om : (-1 : Int32).toInt = -1 := rfl
  intro n
  induction n with
  | zero =>
    intro h2 x4 e4 I2 F2 l2 c1 c2
    have e1' : (x3 + 1).toInt = x3.toInt + 1 := by rw [tx_add (by rw [o1]; omega) (by rw [o1]; omega), o1]
    have e2' : (x3 + 2).toInt = x3.toInt + 2 := by rw [tx_add (by rw [o2]; omega) (by rw [o2]; omega), o2]
    have k1 : (x3 + 1).toNatClampNeg = sN h + 1 := by have := n_nat (x := x3 + 1) (by omega); omega
    have k2 : (x3 + 2).toNatClampNeg = sN h + 2 := by have := n_nat (x := x3 + 2) (by omega); omega
    refine t_X12_clause_179 d h2 I2.1 x3 x4 _ ⟨fun _ => ⟨dp_in (lo := 0) (hi := 559) ⟨by show (0 : Int) ≤ _; omega, by show _ ≤ (559 : Int); omega⟩ (by decide) (by decide), dp_in (lo := 0) (hi := 559) ⟨by show (0 : Int) ≤ _; omega, by show _ ≤ (559 : Int); omega⟩ (by decide) (by decide), dp_in (lo := 0) (hi := 559) ⟨by show (0 : Int) ≤ _; omega, by show _ ≤ (559 : Int); omega⟩ (by decide) (by decide), ?_⟩, fun z => absurd (q_lt.mpr (by omega)) z⟩
    rw [j3, k1, k2]
    have g2 : ps h2 = ps h0 := f36 F2 (by decide +kernel)
    have es : (h_i h2 1 36 + 3).toInt = ps h2 + 3 := by
      have g : (h_i h2 1 36).toInt = ps h0 := g2
      show _ = (h_i h2 1 36).toInt + 3
      rw [tx_add (by rw [o3]; omega) (by rw [o3]; omega), o3]
    have I3 : Iv (h_im (h_im (h_im (h_im h2 226 (sN h) 0) 226 (sN h + 1) 1) 226 (sN h + 2) 2) 1 36 ((h_i h2 1 36) + 3)) := i36 (i226 (i226 (i226 I2 _ _) _ _) _ _) ⟨by rw [es]; show (0 : Int) ≤ _; omega, by rw [es]; show _ ≤ (559 : Int); omega⟩
    have F3 : Fr wzp h0 (h_im (h_im (h_im (h_im h2 226 (sN h) 0) 226 (sN h + 1) 1) 226 (sN h + 2) 2) 1 36 ((h_i h2 1 36) + 3)) := ((((F2.more (by decide +kernel)).im (inw_row (by decide +kernel) _)).im (inw_row (by decide +kernel) _)).im (inw_row (by decide +kernel) _)).im (by decide +kernel)
    have s3 : ps (h_im (h_im (h_im (h_im h2 226 (sN h) 0) 226 (sN h + 1) 1) 226 (sN h + 2) 2) 1 36 ((h_i h2 1 36) + 3)) = ps h2 + 3 := by
      show (h_i (h_im _ 1 36 _) 1 36).toInt = _
      rw [im_at]; exact es
    have c3 : ∀ k, h_i (h_im (h_im (h_im (h_im h2 226 (sN h) 0) 226 (sN h + 1) 1) 226 (sN h + 2) 2) 1 36 ((h_i h2 1 36) + 3)) 226 k = if k = sN h + 2 then 2 else if k = sN h + 1 then 1 else if k = sN h then 0 else h_i h2 226 k := by
      intro k
      rw [im_ne (by decide), h_i_im, h_i_im, h_i_im]
      by_cases y2 : k = sN h + 2
      · rw [if_pos ⟨rfl, y2⟩, if_pos y2]
      · rw [if_neg (fun z => y2 z.2), if_neg y2]
        by_cases y1 : k = sN h + 1
        · rw [if_pos ⟨rfl, y1⟩, if_pos y1]
        · rw [if_neg (fun z => y1 z.2), if_neg y1]
          by_cases y0 : k = sN h
          · rw [if_pos ⟨rfl, y0⟩, if_pos y0]
          · rw [if_neg (fun z => y0 z.2), if_neg y0]
    have a3 : pa (h_im (h_im (h_im (h_im h2 226 (sN h) 0) 226 (sN h + 1) 1) 226 (sN h + 2) 2) 1 36 ((h_i h2 1 36) + 3)) = pa h0 := by
      show (h_i (h_im _ 1 36 _) 1 33).toInt = _
      rw [f_ne (by decide), im_ne (by decide), im_ne (by decide), im_ne (by decide)]
      exact f33 F2 (by decide +kernel)
    have d3 : pd (h_im (h_im (h_im (h_im h2 226 (sN h) 0) 226 (sN h + 1) 1) 226 (sN h + 2) 2) 1 36 ((h_i h2 1 36) + 3)) = pd h0 := by
      show (h_i (h_im _ 1 36 _) 1 35).toInt = _
      rw [f_ne (by decide), im_ne (by decide), im_ne (by decide), im_ne (by decide)]
      exact f35 F2 (by decide +kernel)
    generalize h_im (h_im (h_im (h_im h2 226 (sN h) 0) 226 (sN h + 1) 1) 226 (sN h + 2) 2) 1 36 ((h_i h2 1 36) + 3) = h3 at I3 F3 s3 c3 a3 d3 ⊢
    refine Cv.mono (c_say d I3 3 (by show ps h3 ≤ 558; omega)) (fun h9 S => ⟨S.1.1, up _ ?_⟩)
    obtain ⟨u1, u2, u3, u4, u5⟩ := Sa.q (h := h3) (x := 3) (h' := h9) S
    have nh3 := sN_i I3
    have nh9 := sN_i S.1
    have m3 : sN h3 = sN h0 + 3 := by omega
    have cc : ∀ k, k < sN h0 + 3 → h_i h9 226 k = if k = sN h + 2 then 2 else if k = sN h + 1 then 1 else if k = sN h then 0 else h_i h2 226 k := fun k hk => by rw [S.2.2.2.2 k (by show k ≠ sN h3; omega)]; exact c3 k
    refine ⟨S.1, (p2.tr F3).tr (S.2.1.more (by decide +kernel)), by omega, fun k hk => ?_, fun _ => ⟨by omega, by omega, by omega, by omega, sN h + 2, sN h0 + 3, ?_, ?_, ?_, ?_, by omega⟩⟩
    · rw [cc k (by omega), if_neg (by omega), if_neg (by omega), if_neg (by omega), c1 k (by omega)]
      exact p5 k hk
    · exact PR.ex (PR.num (by rw [cc _ (by omega), if_neg (by omega), if_neg (by omega), if_pos rfl])) (by decide)
    · rw [cc _ (by omega), if_pos rfl]
    · refine PR.ex (k := K1) ?_ (by omega)
      rw [show sN h + 2 + 1 = sN h + 3 by omega]
      refine PR.sh (t := 3) (fun x a b => ?_) t5
      rw [cc _ (by omega), if_neg (by omega), if_neg (by omega), if_neg (by omega)]
      exact c2 x (by omega) b
    · rw [← m3]; exact S.2.2.2.1
  | succ n ih =>
    intro h2 x4 e4 I2 F2 l2 c1 c2
    have j4 : x4.toNatClampNeg = sN h + n := by have := n_nat (x := x4) (by omega); omega
    have e3' : (x4 + 3).toInt = x4.toInt + 3 := by rw [tx_add (by rw [o3]; omega) (by rw [o3]; omega), o3]
    have k3 : (x4 + 3).toNatClampNeg = sN h + n + 3 := by have := n_nat (x := x4 + 3) (by omega); omega
    refine t_X12_clause_179 d h2 I2.1 x3 x4 _ ⟨fun z => absurd (q_lt.mp z) (by omega), fun _ => ⟨dp_in (lo := 0) (hi := 559) ⟨by show (0 : Int) ≤ _; omega, by show _ ≤ (559 : Int); omega⟩ (by decide) (by decide), dp_in (lo := 0) (hi := 559) ⟨by show (0 : Int) ≤ _; omega, by show _ ≤ (559 : Int); omega⟩ (by decide) (by decide), ?_⟩⟩
    rw [j4, k3]
    have em : (x4 + (-1)).toInt = x4.toInt - 1 := by rw [tx_add (by rw [om]; omega) (by rw [om]; omega), om]; omega
    generalize x4 + (-1) = y at em ⊢
    refine ih _ y (by omega) (i226 I2 _ _) (F2.im (inw_row (by decide +kernel) _)) (by omega) (fun j hj => ?_) (fun j a b => ?_)
    · rw [h_i_im, if_neg (fun u => by have := u.2; omega)]; exact c1 j (by omega)
    · rw [h_i_im]
      by_cases y0 : j = sN h + n
      · rw [if_pos ⟨rfl, by omega⟩, y0]; exact c1 _ (by omega)
      · rw [if_neg (fun u => by have := u.2; omega)]; exact c2 j (by omega) b
theorem Pe.wr {s : Nat} {h h' : Hp_} (P : Pe s h h') (w : ¬ h_i h' 1 34 = -1) : Pc s h h' := ⟨P.1, P.2.1, P.2.2.1, P.2.2.2.2.1, fun y => absurd y w⟩
theorem c_clause (s : Nat) (hs : s = 1 ∨ s = 2) (d : Nat) {h : Hp_} (I : Iv h) (q : Pq h) (q0 : ps h ≤ 3 * pa h) (e0 : pd h = 0) (es : h_i h 1 37 = Int32.ofNat s) : Cv (m_X12_clause (d + 80 + 58) 0 0) [.ref 1] h (fun h' => Pc s h h') := by
  have z1 : pz h ≤ 160 := (pz_in I).2
  refine t_X12_clause (d + 80) h I.1 _ (Ci.mono (c_look (d + 80) I) (fun r h1 L => ?_))
  have l3 := L.2.2.1
  have l4 := L.2.2.2.1
  have zz := zf L.2.1 (by decide +kernel)
  have g1 := f36 L.2.1 (by decide +kernel)
  have d1 := f35 L.2.1 (by decide +kernel)
  have n0 := sN_i I
  have n1 := sN_i L.1
  have m1 : sN h1 = sN h := by omega
  have s1 : h_i h1 1 37 = Int32.ofNat s := by rw [(L.2.1.2 1 37 (by decide +kernel)).1]; exact es
  have q1 : Pq h1 := ⟨by rw [f34 L.2.1 (by decide +kernel)]; exact q.1, by have := q.2.1; omega, by omega, by omega⟩
  have q01 : ps h1 ≤ 3 * pa h1 := by omega
  have up : ∀ h', Pc s h1 h' → Pc s h h' := by
    intro h' P
    obtain ⟨p1, p2, p3, p4, p5⟩ := P
    refine ⟨p1, (L.2.1.more (by decide +kernel)).tr p2, by omega, fun k hk => ?_, fun w => ?_⟩
    · rw [p4 k (by omega)]; exact fr_i L.2.1 (by decide +kernel) k
    · obtain ⟨t1, t2, t3, t4, t5⟩ := p5 w
      exact ⟨by omega, by omega, by omega, by omega, by rw [← m1]; exact t5⟩
  have cond : Cv (m_X12_condition (d + 80 + 57) 0 0) [.ref 1, .int 0] h1 (fun h7 => Pe s h1 h7) := c_cond0 s 80 0 (r_unit s hs) d h1 L.1 q1 (by omega) s1
  refine ⟨L.1.1, fun _ => ⟨fun _ => ?_, fun _ => ⟨fun _ => ?_, fun _ => ?_⟩⟩, fun _ => ?_⟩
  · exact Cv.mono cond (fun h7 P => ⟨P.1.1, cl_rest s hs d L.1 q1 q01 (by omega) s1 P up⟩)
  · exact Cv.mono cond (fun h7 P => ⟨P.1.1, cl_rest s hs d L.1 q1 q01 (by omega) s1 P up⟩)
  · refine Cv.mono (r_sum8 s hs d h1 L.1 q1 (by omega) s1) (fun h6 P => ⟨P.1.1, fun w => ?_, fun w => up _ (P.wr w)⟩)
    refine Ci.mono (c_look (d + 80) P.1) (fun r2 h4 L4 => ⟨L4.1.1, ?_⟩)
    have P4 := P.lk L.1 L4
    have w4 : h_i h4 1 34 = -1 := by rw [f34 L4.2.1 (by decide +kernel)]; exact w
    refine Ci.mono (c_isSign (d + 80) h4 r2) (fun r5 h5 k => ?_)
    obtain ⟨e5, _⟩ := k
    subst e5
    refine ⟨L4.1.1, fun _ => ?_, fun _ => ?_⟩
    · exact Cv.mono (c_cond1 s 80 0 (r_unit s hs) (r_sum8 s hs) d L.1 q1 (by omega) s1 P4) (fun h7 P7 => ⟨P7.1.1, cl_rest s hs d L.1 q1 q01 (by omega) s1 P7 up⟩)
    · have n5 := sN_i P4.1
      have o1 : (1 : Int32).toInt = 1 := rfl
      have a0 : 0 ≤ pa h1 := (pa_in L.1).1
      obtain ⟨t1, t2, t3, _⟩ := P4.2.2.2.2.2.2.1 w4
      have p6 := P4.2.2.2.2.2.1
      have t3' : (h_i h5 1 36).toInt ≤ ps h1 + 2 * (pa h5 - pa h1) := t3
      have p6' : ps h1 ≤ (h_i h5 1 36).toInt := p6
      have n1' : 0 ≤ ps h1 := (ps_in L.1).1
      have ex : (h_i h5 1 36 - 1).toInt = (h_i h5 1 36).toInt - 1 := by rw [tx_sub (by rw [o1]; omega) (by rw [o1]; omega), o1]
      have ex' : (h_i h5 1 36 - 1).toInt = ps h5 - 1 := ex
      refine cl_shift s (d + 80) L.1 q01 P4 w4 _ rfl up (sN h5 - sN h1) h5 _ (by omega) P4.1 (Fr.rf _ _) (by omega) (fun _ _ => rfl) (fun j a b => absurd a (by omega))
  · refine Cv.mono cond (fun h7 P => ⟨P.1.1, ?_⟩)
    refine Cv.mono (c_ask s (d + 80) L.1 q1 P) (fun h3 A => ⟨A.1.1, fun w => ?_, fun w => ?_⟩)
    · refine Ci.mono (c_look (d + 80) A.1) (fun r2 h4 L4 => ?_)
      have z3 := zf A.2.1 (by decide +kernel)
      have fw : ∀ c : Int32, r2 = c → ¬ c = -1 → pa h4 < pz h1 := fun c ec nc => by
        rcases L4.fwd z3 with u | u
        · exact absurd (ec.symm.trans u) nc
        · exact u
      have go : pa h4 < pz h1 → Cv (m_X12_say (d + 80 + 0) 0 0) [.ref 1, .int 0] (h_im h4 1 33 ((h_i h4 1 33) + 1)) (fun h71 => Wf h71 ∧ ∀ c : Int32, Cv (m_X12_say (d + 80 + 0) 0 0) [.ref 1, .int c] h71 (fun h77 => Wf h77 ∧ (Cv (m_X12_say (d + 80 + 0) 0 0) [.ref 1, .int 3] h77 (fun h80 => Wf h80 ∧ (Pc s h h80))))) := fun l => cl_ans s (d + 80) L.1 q01 A w L4 l up
      have four : pa h4 < pz h1 → Cv (m_X12_say (d + 80 + 0) 0 0) [.ref 1, .int 0] (h_im h4 1 33 ((h_i h4 1 33) + 1)) (fun h71 => Wf h71 ∧ ((¬ r2 = 120 → (¬ r2 = 110 → (¬ r2 = 114 → Cv (m_X12_say (d + 80 + 0) 0 0) [.ref 1, .int 3] h71 (fun h77 => Wf h77 ∧ (Cv (m_X12_say (d + 80 + 0) 0 0) [.ref 1, .int 3] h77 (fun h80 => Wf h80 ∧ (Pc s h h80))))) ∧ (r2 = 114 → Cv (m_X12_say (d + 80 + 0) 0 0) [.ref 1, .int 2] h71 (fun h77 => Wf h77 ∧ (Cv (m_X12_say (d + 80 + 0) 0 0) [.ref 1, .int 3] h77 (fun h80 => Wf h80 ∧ (Pc s h h80)))))) ∧ (r2 = 110 → Cv (m_X12_say (d + 80 + 0) 0 0) [.ref 1, .int 1] h71 (fun h77 => Wf h77 ∧ (Cv (m_X12_say (d + 80 + 0) 0 0) [.ref 1, .int 3] h77 (fun h80 => Wf h80 ∧ (Pc s h h80)))))) ∧ (r2 = 120 → Cv (m_X12_say (d + 80 + 0) 0 0) [.ref 1, .int 0] h71 (fun h77 => Wf h77 ∧ (Cv (m_X12_say (d + 80 + 0) 0 0) [.ref 1, .int 3] h77 (fun h80 => Wf h80 ∧ (Pc s h h80))))))) := fun l => Cv.mono (go l) (fun h71 k => ⟨k.1, fun _ => ⟨fun _ => ⟨fun _ => k.2 3, fun _ => k.2 2⟩, fun _ => k.2 1⟩, fun _ => k.2 0⟩)
      refine ⟨L4.1.1, fun e => four (fw _ e (by decide)), fun _ => ⟨fun e => four (fw _ e (by decide)), fun _ => ⟨fun e => four (fw _ e (by decide)), fun _ => ⟨fun e => four (fw _ e (by decide)), fun _ => Cv.mono (c_bad (d + 80) L4.1) (fun h9 b => ⟨b.1.1, up _ ⟨b.1, (A.2.1.tr (L4.2.1.more (by decide +kernel))).tr (b.2.1.more (by decide +kernel)), ?_, ?_, fun y => absurd y b.2.2⟩⟩)⟩⟩⟩⟩
      · have b5 := f35 b.2.1 (by decide +kernel)
        have l5 := f35 L4.2.1 (by decide +kernel)
        have a5 := A.2.2.1
        omega
      · intro k hk
        rw [fr_i b.2.1 (a := 226) (by decide +kernel), fr_i L4.2.1 (a := 226) (by decide +kernel)]
        exact A.2.2.2.1 k hk
    · exact up _ ⟨A.1, A.2.1, A.2.2.1, A.2.2.2.1, fun y => absurd y w⟩
end
section
/-! fault of the reference -/
theorem pcl_sh {s : Nat} {cd cd' : Nat → Int32} {t : Nat} : ∀ {f i e : Nat}, (∀ x, i ≤ x → x < e → cd' (x + t) = cd x) → pcl s cd f i e → pcl s cd' f (i + t) (e + t)
  | 0, i, e, _, h => by
    have h : i = e := h
    subst h
    exact rfl
  | f + 1, i, e, c, h => by
    obtain ⟨j, k, ⟨g1, a⟩, b, ⟨g2, a'⟩, b', r⟩ := h
    have l1 := prun_le a
    have l2 := prun_le a'
    have l3 := pcl_le r
    refine ⟨j + t, k + t, ⟨g1, prun_sh (fun x u v => c x (by omega) (by omega)) a⟩, by rw [c j (by omega) (by omega)]; exact b, ⟨g2, ?_⟩, by rw [c k (by omega) (by omega)]; exact b', ?_⟩
    · rw [Nat.add_right_comm j t 1]
      exact prun_sh (fun x u v => c x (by omega) (by omega)) a'
    · rw [Nat.add_right_comm k t 1]
      exact pcl_sh (fun x u v => c x (by omega) v) r
theorem pcl_same {s : Nat} {cd cd' : Nat → Int32} {f i e : Nat} (c : ∀ x, i ≤ x → x < e → cd' x = cd x) (h : pcl s cd f i e) : pcl s cd' f i e := pcl_sh (t := 0) c h
theorem pcl_snoc {s : Nat} {cd : Nat → Int32} : ∀ {f i e e' : Nat}, pcl s cd f i e → Ck s cd e e' → pcl s cd (f + 1) i e'
  | 0, i, e, e', h, c => by
    have h : i = e := h
    subst h
    obtain ⟨m, n, a, b, c, d, x⟩ := c
    exact ⟨m, n, a, b, c, d, x.symm⟩
  | f + 1, i, e, e', h, c => by
    obtain ⟨j, k, a, b, a', b', r⟩ := h
    exact ⟨j, k, a, b, a', b', pcl_snoc r c⟩
noncomputable def wzf : List Nat := [1033, 1034, 1035, 1036, 1037, 226999]
noncomputable def Fa (x1 : Int32) (h : Hp_) (r : Int32) (h' : Hp_) : Prop := Iv h' ∧ Fr wzf h h' ∧ (r = -1 → (x1 = 0 → Qs 4 (h_i h' 226) 0 (sN h')) ∧ ∀ s : Nat, (s = 1 ∨ s = 2) → x1 = Int32.ofNat s → ∃ f, pcl s (h_i h' 226) f 0 (sN h'))
/-- between clauses -/
noncomputable def Fl (s : Nat) (h0 h : Hp_) : Prop := Iv h ∧ Fr wzp h0 h ∧ pd h = 0 ∧ (h_i h 1 34 = -1 → pa h ≤ pz h0 ∧ ps h ≤ 3 * pa h + 3 ∧ ∃ f, pcl s (h_i h 226) f 0 (sN h))
theorem Fl.lk {s : Nat} {h0 h h1 : Hp_} {r : Int32} (G : Fl s h0 h) (L : Lk h r h1) : Fl s h0 h1 := by
  obtain ⟨g1, g2, g3, g4⟩ := G
  have l3 := L.2.2.1
  have l4 := L.2.2.2.1
  have e5 := f35 L.2.1 (by decide +kernel)
  have e6 := f36 L.2.1 (by decide +kernel)
  have zz := zf g2 (by decide +kernel)
  have n0 := sN_i g1
  have n1 := sN_i L.1
  refine ⟨L.1, g2.tr (L.2.1.more (by decide +kernel)), by omega, fun w => ?_⟩
  rw [f34 L.2.1 (by decide +kernel)] at w
  obtain ⟨t1, t2, f, t3⟩ := g4 w
  refine ⟨by omega, by omega, f, ?_⟩
  rw [show h_i h1 226 = h_i h 226 from funext (fun k => fr_i L.2.1 (by decide +kernel) k), show sN h1 = sN h by omega]
  exact t3
theorem fl_loop (s : Nat) (hs : s = 1 ∨ s = 2) (d : Nat) {h h0 : Hp_} (x1 : Int32) (e1 : x1 = Int32.ofNat s) (I0 : Iv h0) (F0 : Fr wzf h h0) (es : h_i h0 1 37 = Int32.ofNat s) :
    ∀ (n : Nat) (h2 : Hp_), Fl s h0 h2 → pz h0 - pa h2 ≤ n → AW (m_X12_fault (d + 80 + 59) 0 0) 0 0 52 [(0, .ref 1)] [] h2 (kI (fun r h' => Fa x1 h r h')) := by
  have z1 : pz h0 ≤ 160 := (pz_in I0).2
  have dn : ∀ h', Fl s h0 h' → Fa x1 h (h_i h' 1 34) h' := by
    intro h' G
    refine ⟨G.1, F0.tr (G.2.1.more (by decide +kernel)), fun w => ⟨fun e => ?_, fun t ht et => ?_⟩⟩
    · rw [e1] at e
      rcases hs with u | u <;> subst u <;> exact absurd e (by decide)
    · have tt : t = s := by
        rw [e1] at et
        rcases hs with u | u <;> subst u <;> rcases ht with v | v <;> subst v <;> first | rfl | exact absurd et (by decide)
      subst tt
      exact (G.2.2.2 w).2.2
  have bd : ∀ h1, Fl s h0 h1 → h_i h1 1 34 = -1 → Cv (m_X12_bad (d + 80 + 0) 0 0) [.ref 1] h1 (fun h9 => Wf h9 ∧ Fa x1 h (h_i h9 1 34) h9) := by
    intro h1 G w
    refine Cv.mono (c_bad (d + 80) G.1) (fun h9 b => ⟨b.1.1, b.1, F0.tr ((G.2.1.tr (b.2.1.more (by decide +kernel))).more (by decide +kernel)), fun y => absurd y b.2.2⟩)
  have ends : ∀ h1, Fl s h0 h1 → h_i h1 1 34 = -1 → Ci (m_X12_look (d + 80 + 0) 0 0) [.ref 1] h1 (fun r h5 => Wf h5 ∧ ((r = (-1) → Fa x1 h (h_i h5 1 34) h5) ∧ (¬ r = (-1) → Cv (m_X12_bad (d + 80 + 0) 0 0) [.ref 1] h5 (fun h9 => Wf h9 ∧ (Fa x1 h (h_i h9 1 34) h9))))) := by
    intro h1 G w
    refine Ci.mono (c_look (d + 80) G.1) (fun r h5 L => ⟨L.1.1, fun _ => dn _ (G.lk L), fun _ => bd _ (G.lk L) (by rw [f34 L.2.1 (by decide +kernel)]; exact w)⟩)
  intro n
  induction n with
  | zero =>
    intro h2 G m
    have zz := zf G.2.1 (by decide +kernel)
    refine t_X12_fault_52 (d + 80) h2 G.1.1 _ ⟨fun w => ⟨fun _ => dn _ G, fun y => absurd y w⟩, fun w => Ci.mono (c_look (d + 80) G.1) (fun r h5 L => ⟨L.1.1, fun _ => ⟨fun y => absurd (by rw [f34 L.2.1 (by decide +kernel)]; exact w) y, fun w5 => ends _ (G.lk L) w5⟩, fun er => ?_⟩)⟩
    have l3 := L.2.2.1
    rcases L.fwd zz with u | u
    · rw [er] at u; exact absurd u (by decide)
    · omega
  | succ n ih =>
    intro h2 G m
    have zz := zf G.2.1 (by decide +kernel)
    refine t_X12_fault_52 (d + 80) h2 G.1.1 _ ⟨fun w => ⟨fun _ => dn _ G, fun y => absurd y w⟩, fun w => Ci.mono (c_look (d + 80) G.1) (fun r h5 L => ⟨L.1.1, fun _ => ⟨fun y => absurd (by rw [f34 L.2.1 (by decide +kernel)]; exact w) y, fun w5 => ends _ (G.lk L) w5⟩, fun er => ?_⟩)⟩
    have G5 := G.lk L
    have w5 : h_i h5 1 34 = -1 := by rw [f34 L.2.1 (by decide +kernel)]; exact w
    have l3 := L.2.2.1
    have l5 : pa h5 < pz h0 := by
      rcases L.fwd zz with u | u
      · rw [er] at u; exact absurd u (by decide)
      · exact u
    obtain ⟨t1, t2, f, t3⟩ := G5.2.2.2 w5
    obtain ⟨k1, k2, k3⟩ := at1 L.1 (by omega)
    generalize h_im h5 1 33 ((h_i h5 1 33) + 1) = h6 at k1 k2 k3 ⊢
    have e5 := f35 k2 (by decide +kernel)
    have e6 := f36 k2 (by decide +kernel)
    have z6 := zf k2 (by decide +kernel)
    have z5 := zf G5.2.1 (by decide +kernel)
    have g3 := G5.2.2.1
    have n5 := sN_i G5.1
    have n6 := sN_i k1
    have m6 : sN h6 = sN h5 := by omega
    have F6 : Fr wzp h0 h6 := G5.2.1.tr (k2.more (by decide +kernel))
    refine Cv.mono (c_clause s hs d k1 ⟨by rw [f34 k2 (by decide +kernel)]; exact w5, by omega, by omega, by omega⟩ (by omega) (by omega) (by rw [(F6.2 1 37 (by decide +kernel)).1]; exact es)) (fun h9 P => ?_)
    obtain ⟨p1, p2, p3, p4, p5⟩ := P
    have c9 : ∀ k, k < sN h5 → h_i h9 226 k = h_i h5 226 k := fun k hk => by rw [p4 k (by omega)]; exact fr_i k2 (by decide +kernel) k
    refine ⟨p1.1, ?_⟩
    by_cases w9 : h_i h9 1 34 = -1
    · obtain ⟨u1, u2, u3, u4, u5⟩ := p5 w9
      refine ih h9 ⟨p1, F6.tr p2, by omega, fun _ => ⟨by omega, by omega, f + 1, ?_⟩⟩ (by omega)
      refine pcl_snoc (pcl_same (fun x _ b => c9 x b) t3) ?_
      rw [← m6]; exact u5
    · refine t_X12_fault_52 (d + 80) h9 p1.1 _ ⟨fun w => ⟨fun _ => ?_, fun y => absurd y w⟩, fun w => absurd w w9⟩
      exact dn _ ⟨p1, F6.tr p2, by omega, fun y => absurd y w9⟩
theorem c_fault (d : Nat) {h : Hp_} (I : Iv h) (x1 : Int32) : Ci (m_X12_fault (d + 80 + 59) 0 0) [.ref 1, .int x1] h (fun r h' => Fa x1 h r h') := by
  have z0 : 0 ≤ pz h := (pz_in I).1
  have z1 : pz h ≤ 160 := (pz_in I).2
  have b0 : rin (0 : Int32).toInt (0, 180) := ⟨by decide, by decide⟩
  have I0 : Iv (h_im (h_im (h_im (h_im (h_im h 1 37 x1) 1 33 0) 1 34 (-1)) 1 35 0) 1 36 0) := i36 (i35 (i34 (i33 (I.im (by rw [show tf 1 37 = rtop by decide +kernel]; exact rtop_in _) (by decide)) b0) _) ⟨by decide, by decide⟩) ⟨by decide, by decide⟩
  have F0 : Fr wzf h (h_im (h_im (h_im (h_im (h_im h 1 37 x1) 1 33 0) 1 34 (-1)) 1 35 0) 1 36 0) := (((((Fr.rf _ _).im (by decide +kernel)).im (by decide +kernel)).im (by decide +kernel)).im (by decide +kernel)).im (by decide +kernel)
  have e36 : h_i (h_im (h_im (h_im (h_im (h_im h 1 37 x1) 1 33 0) 1 34 (-1)) 1 35 0) 1 36 0) 1 36 = 0 := im_at
  have e35 : h_i (h_im (h_im (h_im (h_im (h_im h 1 37 x1) 1 33 0) 1 34 (-1)) 1 35 0) 1 36 0) 1 35 = 0 := by rw [f_ne (by decide), im_at]
  have e34 : h_i (h_im (h_im (h_im (h_im (h_im h 1 37 x1) 1 33 0) 1 34 (-1)) 1 35 0) 1 36 0) 1 34 = -1 := by rw [f_ne (by decide), f_ne (by decide), im_at]
  have e33 : h_i (h_im (h_im (h_im (h_im (h_im h 1 37 x1) 1 33 0) 1 34 (-1)) 1 35 0) 1 36 0) 1 33 = 0 := by rw [f_ne (by decide), f_ne (by decide), f_ne (by decide), im_at]
  have e37 : h_i (h_im (h_im (h_im (h_im (h_im h 1 37 x1) 1 33 0) 1 34 (-1)) 1 35 0) 1 36 0) 1 37 = x1 := by rw [f_ne (by decide), f_ne (by decide), f_ne (by decide), f_ne (by decide), im_at]
  refine t_X12_fault (d + 80) h I.1 x1 _ ⟨fun b => ?_, fun _ => ⟨I, Fr.rf _ _, fun y => absurd y (by decide)⟩⟩
  generalize h_im (h_im (h_im (h_im (h_im h 1 37 x1) 1 33 0) 1 34 (-1)) 1 35 0) 1 36 0 = h0 at I0 F0 e36 e35 e34 e33 e37 ⊢
  have zz := zf F0 (by decide +kernel)
  have a0 : pa h0 = 0 := by show (h_i h0 1 33).toInt = 0; rw [e33]; rfl
  have d0 : pd h0 = 0 := by show (h_i h0 1 35).toInt = 0; rw [e35]; rfl
  have s0 : ps h0 = 0 := by show (h_i h0 1 36).toInt = 0; rw [e36]; rfl
  have n0 := sN_i I0
  have nz : sN h0 = 0 := by omega
  refine ⟨fun n1 => ?_, fun e1 => ?_⟩
  · obtain ⟨s, hs, ex⟩ : ∃ s : Nat, (s = 1 ∨ s = 2) ∧ x1 = Int32.ofNat s := by
      have b1 : (0 : Int32).toInt ≤ x1.toInt := q_le.mp b.1
      have b2 : x1.toInt ≤ (2 : Int32).toInt := q_le.mp b.2
      have o0 : (0 : Int32).toInt = 0 := rfl
      have o1 : (1 : Int32).toInt = 1 := rfl
      have o2 : (2 : Int32).toInt = 2 := rfl
      have nn : ¬ x1.toInt = 0 := fun z => n1 (Int32.toInt_inj.mp (by rw [z, o0]))
      rcases Int.lt_or_le x1.toInt 2 with u | u
      · exact ⟨1, Or.inl rfl, Int32.toInt_inj.mp (by show _ = (1 : Int32).toInt; omega)⟩
      · exact ⟨2, Or.inr rfl, Int32.toInt_inj.mp (by show _ = (2 : Int32).toInt; omega)⟩
    refine Cv.mono (c_clause s hs d I0 ⟨e34, by omega, by omega, by omega⟩ (by omega) d0 (by rw [e37]; exact ex)) (fun h5 P => ?_)
    obtain ⟨p1, p2, p3, p4, p5⟩ := P
    have a5 : 0 ≤ pa h5 := (pa_in p1).1
    refine ⟨p1.1, fl_loop s hs d x1 ex I0 F0 (by rw [e37]; exact ex) 160 h5 ⟨p1, p2, by omega, fun w => ?_⟩ (by omega)⟩
    obtain ⟨u1, u2, u3, u4, u5⟩ := p5 w
    refine ⟨by omega, by omega, 1, ?_⟩
    rw [nz] at u5
    exact pcl_snoc (f := 0) (e := 0) rfl u5
  · refine Cv.mono (r_steps (d := d) I0 ⟨e34, by omega, by omega, by omega⟩ d0) (fun h8 P => ⟨P.1.1, fun w => ?_, fun w => ?_⟩)
    · exact ⟨P.1, F0.tr (P.2.1.more (by decide +kernel)), fun y => absurd y w⟩
    · obtain ⟨u1, u2, u3, u4⟩ := P.2.2.2.2.2.2.1 w
      rw [nz] at u4
      refine Ci.mono (c_look (d + 80) P.1) (fun r h5 L => ⟨L.1.1, fun _ => ?_, fun _ => ?_⟩)
      · have e6 := f36 L.2.1 (by decide +kernel)
        have n5 := sN_i L.1
        have n8 := sN_i P.1
        refine ⟨L.1, F0.tr ((P.2.1.tr (L.2.1.more (by decide +kernel))).more (by decide +kernel)), fun _ => ⟨fun _ => ?_, fun s hs ex => ?_⟩⟩
        · rw [show h_i h5 226 = h_i h8 226 from funext (fun k => fr_i L.2.1 (by decide +kernel) k), show sN h5 = sN h8 by omega]
          exact u4
        · rw [e1] at ex
          rcases hs with u | u <;> subst u <;> exact absurd ex (by decide)
      · refine Cv.mono (c_bad (d + 80) L.1) (fun h9 b => ⟨b.1.1, b.1, F0.tr (((P.2.1.tr (L.2.1.more (by decide +kernel))).tr (b.2.1.more (by decide +kernel))).more (by decide +kernel)), fun y => absurd y b.2.2⟩)
end
section
/-! texts of the reference kept -/
theorem Iv_codes {h h2 : Hp_} {t : Nat} {z : Int32} (I : Iv h) (he : ∀ a j, a ≠ 231 → h_i h2 a j = h_i h a j) (hs : h_sh h2 = h_sh h) (hr : h_r h2 = h_r h) (ht : t < 40) (hz : rin z.toInt (0, 560)) (out : ∀ j, (j < 560 * t ∨ 560 * t + 560 ≤ j) → h_i h2 231 j = h_i h 231 j) (pc : ∃ f, pcl (t / 20 + 1) (h_i h2 231) f (560 * t) (560 * t + z.toNatClampNeg)) : Iv (h_im h2 232 t z) := by
  obtain ⟨j1, j2, j3, j4⟩ := I.2.2.2.2.2
  refine ⟨⟨fun q hq => ?_, fun q hq => ?_⟩, fun a k => ?_, fun k => ?_, ?_, ?_, fun k hk => ?_, fun j hj hm => ?_, fun c N a b => ?_, fun t' ht' => ?_⟩
  · show h_sh h2 q.1 = _
    rw [hs]; exact I.1.1 q hq
  · show h_r h2 q.1 q.2.1 = _
    rw [hr]; exact I.1.2 q hq
  · rw [h_i_im]
    split
    · rename_i e
      rw [e.1, tfa_tf (show tfa 232 = some (0, 560) by decide +kernel)]; exact hz
    · by_cases n : a = 231
      · rw [n, tfa_tf (show tfa 231 = some rtop by decide +kernel)]; exact rtop_in _
      · rw [he a k n]; exact I.2.1 a k
  · show h_r h2 15 k = none ∨ ∃ c, h_r h2 15 k = some c ∧ (401 ≤ c ∧ c ≤ 412 ∧ h_sh h2 c = some (12, 17))
    rw [hr, hs]; exact I.2.2.1 k
  · show ∃ i, i < 4 ∧ h_r h2 11 4 = some (1000 + i)
    rw [hr]; exact I.2.2.2.1
  · obtain ⟨c, N, a, b, l, m⟩ := I.2.2.2.2.1
    exact ⟨c, N, by show h_r h2 0 15 = _; rw [hr]; exact a, by show h_sh h2 c = _; rw [hs]; exact b, l, by rw [im_ne (by decide), he 0 0 (by decide)]; exact m⟩
  · rw [im_ne (by decide), he 228 k (by decide)] at hk
    rw [im_ne (by decide), he 229 k (by decide)]
    exact j1 k hk
  · rw [im_ne (by decide), he 0 7 (by decide)] at hm
    show h_sh h2 _ = _
    rw [hs]; exact j2 j hj hm
  · have a : h_r h2 0 15 = some c := a
    have b : h_sh h2 c = some (3, N) := b
    rw [hr] at a
    rw [hs] at b
    show Gr (h_sh h2) N
    rw [hs]; exact j3 c N a b
  · rw [show h_i (h_im h2 232 t z) 231 = h_i h2 231 from funext (fun k => im_ne (by decide)), h_i_im]
    by_cases y : t' = t
    · subst y
      rw [if_pos ⟨rfl, rfl⟩]; exact pc
    · rw [if_neg (fun u => y u.2), he 232 t' (by decide)]
      obtain ⟨f, p⟩ := j4 t' ht'
      have sz := dp_rg I 232 t' (show tfa 232 = some (0, 560) by decide +kernel)
      have nz := n_nat sz.1
      have s1 : (h_i h 232 t').toInt ≤ 560 := sz.2
      exact ⟨f, pcl_same (fun x a b => out x (by omega)) p⟩
noncomputable def wzt : List Nat := [1032, 1033, 1034, 1035, 1036, 1037, 226999, 231999, 232999, 233999, 234999, 235999]
theorem i32 {h : Hp_} (I : Iv h) {x : Int32} (b : rin x.toInt (0, 160)) : Iv (h_im h 1 32 x) := I.im (by rw [show tf 1 32 = (0, 160) by decide +kernel]; exact b) (by decide)
theorem i235 {h : Hp_} (I : Iv h) (k : Nat) {x : Int32} (b : rin x.toInt (0, 20)) : Iv (h_im h 235 k x) := I.im (by rw [tfa_tf (show tfa 235 = some (0, 20) by decide +kernel)]; exact b) (jw_jr (by decide) (by decide) _)
end
section
/-! beats of the reference: unfolded -/
theorem Iv_step {h : Hp_} {k : Nat} {x a : Int32} (I : Iv h) (bx : rin x.toInt (0, 3)) (ba : rin a.toInt (0, 1440)) (o : ¬ x = 1 → rin a.toInt (0, 15)) : Iv (h_im (h_im h 228 k x) 229 k a) := by
  obtain ⟨j1, j2, j3, j4⟩ := I.2.2.2.2.2
  have e : ∀ b j, b ≠ 228 → b ≠ 229 → h_i (h_im (h_im h 228 k x) 229 k a) b j = h_i h b j := fun b j n1 n2 => by rw [im_ne n2, im_ne n1]
  have e8 : ∀ j, h_i (h_im (h_im h 228 k x) 229 k a) 228 j = if j = k then x else h_i h 228 j := fun j => by
    rw [im_ne (by decide), h_i_im]
    by_cases y : j = k
    · rw [if_pos ⟨rfl, y⟩, if_pos y]
    · rw [if_neg (fun u => y u.2), if_neg y]
  have e9 : ∀ j, h_i (h_im (h_im h 228 k x) 229 k a) 229 j = if j = k then a else h_i h 229 j := fun j => by
    rw [h_i_im, im_ne (by decide)]
    by_cases y : j = k
    · rw [if_pos ⟨rfl, y⟩, if_pos y]
    · rw [if_neg (fun u => y u.2), if_neg y]
  refine ⟨I.1, fun b j => ?_, I.2.2.1, I.2.2.2.1, ?_, fun j hj => ?_, fun j hj hm => ?_, j3, fun t ht => ?_⟩
  · by_cases n1 : b = 228
    · subst n1
      rw [e8 j]
      by_cases y : j = k
      · rw [if_pos y, tfa_tf (show tfa 228 = some (0, 3) by decide +kernel)]; exact bx
      · rw [if_neg y]; exact I.2.1 228 j
    · by_cases n2 : b = 229
      · subst n2
        rw [e9 j]
        by_cases y : j = k
        · rw [if_pos y, tfa_tf (show tfa 229 = some (0, 1440) by decide +kernel)]; exact ba
        · rw [if_neg y]; exact I.2.1 229 j
      · rw [e b j n1 n2]; exact I.2.1 b j
  · obtain ⟨c, N, u, v, l, m⟩ := I.2.2.2.2.1
    exact ⟨c, N, u, v, l, by rw [e 0 0 (by decide) (by decide)]; exact m⟩
  · rw [e8 j] at hj
    rw [e9 j]
    by_cases y : j = k
    · rw [if_pos y] at hj ⊢
      exact o hj
    · rw [if_neg y] at hj ⊢
      exact j1 j hj
  · rw [e 0 7 (by decide) (by decide)] at hm
    exact j2 j hj hm
  · rw [show h_i (h_im (h_im h 228 k x) 229 k a) 231 = h_i h 231 from funext (fun k => e 231 k (by decide) (by decide)), e 232 t (by decide) (by decide)]
    exact j4 t ht
noncomputable def wzu : List Nat := [1043, 1044, 228999, 229999, 230999]
noncomputable def Uv (h0 h : Hp_) : Prop := Iv h ∧ Fr wzu h0 h ∧ ∀ k, k < 150 * (h_i h0 1 42).toNatClampNeg → h_i h 228 k = h_i h0 228 k
theorem Uv.n44 {h0 h : Hp_} (U : Uv h0 h) (x : Int32) : Uv h0 (h_im h 1 44 x) := ⟨U.1.im (by rw [show tf 1 44 = rtop by decide +kernel]; exact rtop_in _) (by decide), U.2.1.im (by decide +kernel), fun k hk => by rw [im_ne (by decide)]; exact U.2.2 k hk⟩
theorem Uv.st {h0 h : Hp_} {x3 a b n s0 : Int32} (U : Uv h0 h) (hB : (h_i h0 1 42).toInt ≤ 11) (ne : ¬ h_i h 1 43 = 150) (e0 : s0 = 150 * h_i h 1 42 + h_i h 1 43) (bx : rin x3.toInt (0, 3)) (ba : rin a.toInt (0, 1440)) (o : ¬ x3 = 1 → rin a.toInt (0, 15)) :
    vp_in s0 1800 ∧ Uv h0 (h_im (h_im (h_im (h_im (h_im h 228 s0.toNatClampNeg x3) 229 s0.toNatClampNeg a) 230 s0.toNatClampNeg b) 1 43 ((h_i h 1 43) + 1)) 1 44 n) := by
  obtain ⟨I, F, C⟩ := U
  have e42 : h_i h 1 42 = h_i h0 1 42 := (F.2 1 42 (by decide +kernel)).1
  have r42 := I.2.1 1 42
  rw [show tf 1 42 = (0, 12) by decide +kernel] at r42
  have b0 : 0 ≤ (h_i h 1 42).toInt := r42.1
  have b1 : (h_i h 1 42).toInt ≤ 11 := by rw [e42]; exact hB
  have r43 := I.2.1 1 43
  rw [show tf 1 43 = (0, 150) by decide +kernel] at r43
  have u0 : 0 ≤ (h_i h 1 43).toInt := r43.1
  have u1' : (h_i h 1 43).toInt ≤ 150 := r43.2
  have t150 : (150 : Int32).toInt = 150 := rfl
  have t1 : (1 : Int32).toInt = 1 := rfl
  have u1 : (h_i h 1 43).toInt ≤ 149 := by
    rcases Int.lt_or_le (h_i h 1 43).toInt 150 with z | z
    · omega
    · exact absurd (Int32.toInt_inj.mp (by rw [t150]; omega)) ne
  have m1 : (150 * h_i h 1 42).toInt = 150 * (h_i h 1 42).toInt := by rw [tx_mul (by rw [t150]; omega) (by rw [t150]; omega), t150]
  have m2 : s0.toInt = 150 * (h_i h 1 42).toInt + (h_i h 1 43).toInt := by rw [e0, tx_add (by omega) (by omega), m1]
  have ns := n_nat (x := s0) (by omega)
  have nB := n_nat (x := h_i h 1 42) b0
  have e43 : (h_i h 1 43 + 1).toInt = (h_i h 1 43).toInt + 1 := by rw [tx_add (by rw [t1]; omega) (by rw [t1]; omega), t1]
  refine ⟨dp_in (lo := 0) (hi := 1799) ⟨by show (0 : Int) ≤ _; omega, by show _ ≤ (1799 : Int); omega⟩ (by decide) (by decide), ?_, ?_, fun k hk => ?_⟩
  · exact (((i2xx 230 (by decide +kernel) (by decide) (by decide) (Iv_step I bx ba o) _ b).im (a := 1) (k := 43) (by rw [show tf 1 43 = (0, 150) by decide +kernel, e43]; exact ⟨by show (0 : Int) ≤ _; omega, by show _ ≤ (150 : Int); omega⟩) (by decide)).im (by rw [show tf 1 44 = rtop by decide +kernel]; exact rtop_in _) (by decide))
  · exact ((((F.im (inw_row (by decide +kernel) _)).im (inw_row (by decide +kernel) _)).im (inw_row (by decide +kernel) _)).im (by decide +kernel)).im (by decide +kernel)
  · rw [← e42] at hk
    rw [im_ne (by decide), im_ne (by decide), im_ne (by decide), im_ne (by decide), h_i_im, if_neg (fun u => by have := u.2; omega)]
    exact C k (by rw [← e42]; exact hk)
theorem on_2 {n : Nat} (h : n < 100000) : Int32.ofNat n + 2 = Int32.ofNat (n + 2) := by
  have t : (2 : Int32).toInt = 2 := rfl
  have a := on_j (n := n) (by omega)
  exact Int32.toInt_inj.mp (by rw [tx_add (by rw [t]; omega) (by rw [t]; omega), t, on_j (n := n + 2) (by omega)]; omega)
theorem on_3 {n : Nat} (h : n < 100000) : Int32.ofNat n + 3 = Int32.ofNat (n + 3) := by
  have t : (3 : Int32).toInt = 3 := rfl
  have a := on_j (n := n) (by omega)
  exact Int32.toInt_inj.mp (by rw [tx_add (by rw [t]; omega) (by rw [t]; omega), t, on_j (n := n + 3) (by omega)]; omega)
end
section
/-! beat of the reference -/
theorem mP_same {wh wh' : Nat → Int32} {b : Nat} : ∀ {f s : Nat}, (∀ x, 150 * b + s ≤ x → x < 150 * b + s + f → wh' x = wh x) → mP wh' b f s = mP wh b f s
  | 0, _, _ => rfl
  | f + 1, s, e => by
    show (if wh' (150 * b + s) = 2 then 1 else 0) + mP wh' b f (s + 1) = (if wh (150 * b + s) = 2 then 1 else 0) + mP wh b f (s + 1)
    rw [e (150 * b + s) (by omega) (by omega), mP_same (fun x u v => e x (by omega) (by omega))]
theorem J2_beat {h h' : Hp_} (I : Iv h) (er : ∀ a, mrow a = true → ∀ k, h_i h' a k = h_i h a k) (e7 : ∀ k, k < (h_i h 1 42).toNatClampNeg → h_i h' 227 k = h_i h 227 k) (e8 : ∀ k, k < 150 * (h_i h 1 42).toNatClampNeg → h_i h' 228 k = h_i h 228 k) (le : (h_i h 1 42).toInt ≤ (h_i h' 1 42).toInt) (em : h_i h' 1 7 = h_i h 1 7) (J : J2 h) : J2 h' := by
  intro c hc hm
  obtain ⟨j1, j2⟩ := J c hc (by rw [← em]; exact hm)
  have r8 := er 208 (by decide) c
  have r10 := er 210 (by decide) c
  have r12 := er 212 (by decide) c
  have r13 := er 213 (by decide) c
  have r16 := er 216 (by decide) c
  refine ⟨fun z => ?_, fun z => ?_⟩
  · rw [r8] at z
    rw [r10]; exact j1 z
  · rw [r8] at z
    obtain ⟨k1, k2, k3, k4, k5⟩ := j2 z
    have n42 := n_nat (x := h_i h 1 42) (by have := I.2.1 1 42; rw [show tf 1 42 = (0, 12) by decide +kernel] at this; exact this.1)
    have g12 := dp_rg I 212 c (show tfa 212 = some (0, 11) by decide +kernel)
    have n12 := n_nat (x := h_i h 212 c) g12.1
    have lb : nB h c < (h_i h 1 42).toNatClampNeg := by
      show (h_i h 212 c).toNatClampNeg < _
      omega
    have eB : nB h' c = nB h c := by show (h_i h' 212 c).toNatClampNeg = _; rw [r12]
    have eS : nS h' c = nS h c := by show (h_i h' 213 c).toNatClampNeg = _; rw [r13]
    have eZ : nZ h' c = nZ h c := by
      show (h_i h' 227 (nB h' c)).toNatClampNeg = _
      rw [eB, e7 _ lb]
    have gz := dp_rg I 227 (nB h c) (show tfa 227 = some (0, 150) by decide +kernel)
    have nz := n_nat (x := h_i h 227 (nB h c)) gz.1
    have z1 : (h_i h 227 (nB h c)).toInt ≤ 150 := gz.2
    have lz : nZ h c ≤ 150 := by show (h_i h 227 (nB h c)).toNatClampNeg ≤ 150; omega
    have m1 : mP (h_i h' 228) (nB h c) (nZ h c - (nS h c + 1)) (nS h c + 1) = mP (h_i h 228) (nB h c) (nZ h c - (nS h c + 1)) (nS h c + 1) := mP_same (fun x u v => e8 x (by omega))
    have m2 : mP (h_i h' 228) (nB h c) (nZ h c - nS h c) (nS h c) = mP (h_i h 228) (nB h c) (nZ h c - nS h c) (nS h c) := mP_same (fun x u v => e8 x (by omega))
    rw [eB, eS, eZ, r13, r12, r16, r10, m1, m2]
    exact ⟨k1, k2, by omega, k4, k5⟩
end
section
/-! answers that stay the same: what a text tells; ranks, states, causes, texts in force -/
theorem pst_no {s : Nat} {cd : Nat → Int32} {i n : Nat} {q : Nat × Nat} (c : cd i = 2 ∨ cd i = 3) (h : pst s cd i n = some q) : False := by
  obtain ⟨i', n'⟩ := q
  rcases pst_0 h with ⟨a, _⟩ | ⟨a, _⟩ | ⟨a, _⟩ | ⟨a, _⟩
  · rw [a] at c; exact absurd c (by decide)
  · rw [a] at c; exact absurd c (by decide)
  · rw [a] at c; exact absurd c (by decide)
  · exact c.elim a.2.2.2.1 a.2.2.2.2
theorem prun_det {s : Nat} {cd : Nat → Int32} : ∀ {g g' i n j j' m m' : Nat}, prun s cd g i n j m → prun s cd g' i n j' m' → (cd j = 2 ∨ cd j = 3) → (cd j' = 2 ∨ cd j' = 3) → g = g' ∧ j = j'
  | 0, 0, i, n, j, j', m, m', a, b, _, _ => ⟨rfl, a.1.symm.trans b.1⟩
  | 0, g' + 1, i, n, j, j', m, m', a, b, c, _ => by
    obtain ⟨i', n', p, _⟩ := b
    rw [← a.1] at c
    exact (pst_no c p).elim
  | g + 1, 0, i, n, j, j', m, m', a, b, _, c => by
    obtain ⟨i', n', p, _⟩ := a
    rw [← b.1] at c
    exact (pst_no c p).elim
  | g + 1, g' + 1, i, n, j, j', m, m', a, b, c, c' => by
    obtain ⟨i1, n1, p, a⟩ := a
    obtain ⟨i2, n2, q, b⟩ := b
    rw [p] at q
    have q := Option.some.inj q
    have e1 : i1 = i2 := congrArg Prod.fst q
    have e2 : n1 = n2 := congrArg Prod.snd q
    subst e1 e2
    have r := prun_det a b c c'
    exact ⟨by rw [r.1], r.2⟩
theorem tel_ex {s : Nat} {cd lt : Nat → Int32} : ∀ {f i e : Nat}, pcl s cd f i e → ∃ r, tel s cd lt f i e r
  | 0, _, _, _ => ⟨0, rfl⟩
  | f + 1, i, e, h => by
    obtain ⟨j, k, ⟨g1, p1⟩, c2, ⟨g2, p2⟩, c3, q⟩ := h
    by_cases z : wev cd lt g1 i 0 (fun _ => 0) = 0
    · obtain ⟨r, t⟩ := tel_ex (lt := lt) q
      exact ⟨r, j, k, g1, g2, p1, c2, p2, c3, Or.inr ⟨z, t⟩⟩
    · exact ⟨_, j, k, g1, g2, p1, c2, p2, c3, Or.inl ⟨z, rfl⟩⟩
theorem pcl_lt {s : Nat} {cd : Nat → Int32} {f i e : Nat} (h : pcl s cd (f + 1) i e) : i < e := by
  obtain ⟨j, k, ⟨g1, p1⟩, _, ⟨g2, p2⟩, _, q⟩ := h
  have l1 := prun_le p1
  have l2 := prun_le p2
  have l3 := pcl_le q
  omega
theorem tel_det {s : Nat} {cd lt lt' : Nat → Int32} (hl : ∀ c, okl s c = true → lt c.toNatClampNeg = lt' c.toNatClampNeg) : ∀ {f f' i e : Nat} {r r' : Int32}, pcl s cd f i e → pcl s cd f' i e → tel s cd lt f i e r → tel s cd lt' f' i e r' → r = r'
  | 0, 0, _, _, _, _, _, _, t, t' => by
    have t : _ = _ := t
    have t' : _ = _ := t'
    rw [t, t']
  | 0, f' + 1, i, e, _, _, a, b, _, _ => by
    have a : i = e := a
    have := pcl_lt b
    omega
  | f + 1, 0, i, e, _, _, a, b, _, _ => by
    have b : i = e := b
    have := pcl_lt a
    omega
  | f + 1, f' + 1, i, e, r, r', a, b, t, t' => by
    obtain ⟨j, k, ⟨g1, p1⟩, c2, ⟨g2, p2⟩, c3, q⟩ := a
    obtain ⟨j', k', ⟨g1', p1'⟩, c2', ⟨g2', p2'⟩, c3', q'⟩ := b
    obtain ⟨u, v, w1, w2, u1, u2, u3, u4, u5⟩ := t
    obtain ⟨u', v', w1', w2', u1', u2', u3', u4', u5'⟩ := t'
    obtain ⟨_, e1⟩ := prun_det p1 p1' (Or.inl c2) (Or.inl c2')
    obtain ⟨_, e2⟩ := prun_det p1 u1 (Or.inl c2) (Or.inl u2)
    obtain ⟨_, e3⟩ := prun_det p1 u1' (Or.inl c2) (Or.inl u2')
    subst e1 e2 e3
    obtain ⟨_, d1⟩ := prun_det p2 p2' (Or.inr c3) (Or.inr c3')
    obtain ⟨_, d2⟩ := prun_det p2 u3 (Or.inr c3) (Or.inr u4)
    obtain ⟨_, d3⟩ := prun_det p2 u3' (Or.inr c3) (Or.inr u4')
    subst d1 d2 d3
    obtain ⟨x1, _⟩ := prun_det u1 u1' (Or.inl c2) (Or.inl c2)
    obtain ⟨x2, _⟩ := prun_det u3 u3' (Or.inr c3) (Or.inr c3)
    subst x1 x2
    have y1 := wev_ind (lt := lt) (lt' := lt') hl _ _ _ (fun _ => 0) (fun _ => 0) u1 (fun _ _ => rfl)
    have y2 := wev_ind (lt := lt) (lt' := lt') hl _ _ _ (fun _ => 0) (fun _ => 0) u3 (fun _ _ => rfl)
    rcases u5 with ⟨z, t⟩ | ⟨z, t⟩
    · rcases u5' with ⟨z', t'⟩ | ⟨z', t'⟩
      · rw [t, t', y2]
      · rw [y1] at z; exact absurd z' z
    · rcases u5' with ⟨z', t'⟩ | ⟨z', t'⟩
      · rw [y1] at z; exact absurd z z'
      · exact tel_det hl q q' t t'
/-- all that payOf reads stays; what book writes may change -/
noncomputable def wzE : List Nat := [1052, 1127, 236999, 237999, 293999, 294999, 295999, 296999, 297999]
noncomputable def wzL : List Nat := [1052, 236999, 237999]
noncomputable def Dp (r : Int32) (h2 : Hp_) : Int32 → Hp_ → Prop := fun r' h' => r' = r ∧ Iv h' ∧ Fr wzL h2 h'
theorem c_tell2 (d s : Nat) (hs : s < 2) {h : Hp_} (I : Iv h) (x2 : Int32) (b2 : rin x2.toInt (-1, 19)) : Ci (m_X12_tell (d + 4) 0 0) [.ref 1, .int (Int32.ofNat s), .int x2] h (fun r h' => Iv h' ∧ Fr wzw h h' ∧ ((x2 = -1 ∧ r = 0) ∨ (¬ x2 = -1 ∧ ∃ f, pcl (s + 1) (h_i h 231) f (560 * (20 * s + x2.toNatClampNeg)) (560 * (20 * s + x2.toNatClampNeg) + (h_i h 232 (20 * s + x2.toNatClampNeg)).toNatClampNeg) ∧ tel (s + 1) (h_i h 231) (h_i h 236) f (560 * (20 * s + x2.toNatClampNeg)) (560 * (20 * s + x2.toNatClampNeg) + (h_i h 232 (20 * s + x2.toNatClampNeg)).toNatClampNeg) r))) := by
  have c3 : -1 ≤ x2.toInt := b2.1
  have c4 : x2.toInt ≤ 19 := b2.2
  have t20 : (20 : Int32).toInt = 20 := rfl
  have t560 : (560 : Int32).toInt = 560 := rfl
  have tm : (-1 : Int32).toInt = -1 := rfl
  have es : (Int32.ofNat s).toInt = (s : Int) := on_j (by omega)
  refine t_X12_tell d h I.1 _ x2 _ ⟨fun z => ?_, fun z => ⟨I, Fr.rf _ _, Or.inl ⟨z, rfl⟩⟩⟩
  have c5 : 0 ≤ x2.toInt := by
    rcases Int.lt_or_le x2.toInt 0 with y | y
    · exact absurd (Int32.toInt_inj.mp (by rw [tm]; omega)) z
    · exact y
  have nx := n_nat c5
  have m1 : (20 * Int32.ofNat s).toInt = 20 * (s : Int) := by rw [tx_mul (by rw [t20, es]; omega) (by rw [t20, es]; omega), t20, es]
  have et : 20 * Int32.ofNat s + x2 = Int32.ofNat (20 * s + x2.toNatClampNeg) := by
    refine Int32.toInt_inj.mp ?_
    rw [on_j (by omega), tx_add (by omega) (by omega), m1]
    omega
  rw [et]
  have ht : 20 * s + x2.toNatClampNeg < 40 := by omega
  have hq : (20 * s + x2.toNatClampNeg) / 20 + 1 = s + 1 := by omega
  generalize 20 * s + x2.toNatClampNeg = t at ht hq ⊢
  have m3 : 560 * Int32.ofNat t = Int32.ofNat (560 * t) := by
    refine Int32.toInt_inj.mp ?_
    rw [tx_mul (by rw [t560, on_j (by omega)]; omega) (by rw [t560, on_j (by omega)]; omega), t560, on_j (by omega), on_j (by omega)]
    omega
  rw [m3]
  obtain ⟨f, hf⟩ := I.2.2.2.2.2.2.2.2 t ht
  rw [hq] at hf
  have sz : rin (h_i h 232 t).toInt (0, 560) := by
    have := I.2.1 232 t
    rwa [tfa_tf (show tfa 232 = some (0, 560) by decide +kernel)] at this
  have s1 : (h_i h 232 t).toInt ≤ 560 := sz.2
  have en : ((h_i h 232 t).toNatClampNeg : Int) = (h_i h 232 t).toInt := n_nat sz.1
  have W0 : Ws h (h_i h 231) (h_i h 236) (560 * t) (h_im h 1 52 (Int32.ofNat (560 * t))) :=
    ⟨I.im (by rw [show tf 1 52 = rtop by decide +kernel]; exact rtop_in _) (by decide), (Fr.rf _ _).im (by decide +kernel), funext (fun k => by rw [h_i_im, if_neg (fun z => absurd z.1 (by decide))]), funext (fun k => by rw [h_i_im, if_neg (fun z => absurd z.1 (by decide))]), by rw [h_i_im, if_pos ⟨rfl, rfl⟩]⟩
  refine AW.mono (tl_loop d (s + 1) t (560 * t + (h_i h 232 t).toNatClampNeg) h (h_i h 231) (h_i h 236) ht (by omega) f (560 * t) _ hf W0 rfl) (fun v h' q => ?_)
  obtain ⟨r, ev, I', F', T⟩ := q
  exact ⟨r, ev, I', F', Or.inr ⟨z, f, hf, T⟩⟩
/-- a text told: the same for the same letters -/
theorem d_tell (d s : Nat) (hs : s < 2) {h : Hp_} (I : Iv h) (x2 : Int32) (b2 : rin x2.toInt (-1, 19)) (lt : Nat → Int32) : ∃ r, ∀ h2, Iv h2 → Fr wzE h h2 → (∀ c, okl (s + 1) c = true → h_i h2 236 c.toNatClampNeg = lt c.toNatClampNeg) → Ci (m_X12_tell (d + 4) 0 0) [.ref 1, .int (Int32.ofNat s), .int x2] h2 (Dp r h2) := by
  by_cases z : x2 = -1
  · refine ⟨0, fun h2 I2 F hl => Ci.mono (c_tell2 d s hs I2 x2 b2) (fun r' h' k => ⟨?_, k.1, k.2.1.more (by decide +kernel)⟩)⟩
    rcases k.2.2 with u | u
    · exact u.2
    · exact absurd z u.1
  · have c3 : -1 ≤ x2.toInt := b2.1
    have c4 : x2.toInt ≤ 19 := b2.2
    have tm : (-1 : Int32).toInt = -1 := rfl
    have c5 : 0 ≤ x2.toInt := by
      rcases Int.lt_or_le x2.toInt 0 with y | y
      · exact absurd (Int32.toInt_inj.mp (by rw [tm]; omega)) z
      · exact y
    have nx := n_nat c5
    obtain ⟨f, hf⟩ := I.2.2.2.2.2.2.2.2 (20 * s + x2.toNatClampNeg) (by omega)
    rw [show (20 * s + x2.toNatClampNeg) / 20 + 1 = s + 1 by omega] at hf
    obtain ⟨r, hr⟩ := tel_ex (lt := lt) hf
    refine ⟨r, fun h2 I2 F hl => Ci.mono (c_tell2 d s hs I2 x2 b2) (fun r' h' k => ⟨?_, k.1, k.2.1.more (by decide +kernel)⟩)⟩
    rcases k.2.2 with u | ⟨_, f', hf', t'⟩
    · exact absurd u.1 z
    · rw [show h_i h2 231 = h_i h 231 from funext (fun k => fr_i F (by decide +kernel) k), fr_i F (a := 232) (by decide +kernel)] at hf' t'
      exact tel_det hl hf' hf t' hr
theorem d_rankOn (d : Nat) {h : Hp_} (I : Iv h) (x1 x2 x3 : Int32) (v1 : vp_in x1 12) : ∃ r, ∀ h2, Iv h2 → Fr wzE h h2 → Ci (m_X12_rankOn (d + 0) 0 0) [.ref 1, .int x1, .int x2, .int x3] h2 (fun r' h' => r' = r ∧ h' = h2) := by
  have c29 := I.2.1 1 29
  rw [show tf 1 29 = (0, 40) by decide +kernel] at c29
  have b0 : 0 ≤ (h_i h 1 29).toInt := c29.1
  have b1 : (h_i h 1 29).toInt ≤ 40 := c29.2
  have nc := n_nat b0
  have lp : ∀ (n k : Nat) (x4 x5 : Int32), k + n = (h_i h 1 29).toNatClampNeg → ∃ r, ∀ h2, Iv h2 → Fr wzE h h2 → AW (m_X12_rankOn (d + 0) 0 0) 0 0 14 [(0, .ref 1), (1, .int x1), (2, .int x2), (3, .int x3), (4, .int x4), (5, .int x5), (6, .int (Int32.ofNat k))] [] h2 (kI (fun r' h' => r' = r ∧ h' = h2)) := by
    intro n
    induction n with
    | zero =>
      intro k x4 x5 e
      have ok := on_j (n := k) (by omega)
      refine ⟨x4, fun h2 I2 F => t_X12_rankOn_14 d h2 I2.1 x1 x2 x3 x4 x5 _ _ ⟨fun _ => ⟨rfl, rfl⟩, fun z => ?_⟩⟩
      rw [(F.2 1 29 (by decide +kernel)).1] at z
      have z := q_nle z
      omega
    | succ n ih =>
      intro k x4 x5 e
      have ok := on_j (n := k) (by omega)
      have kk := on_k (n := k) (by omega)
      have v : vp_in (Int32.ofNat k) 40 := on_in (by omega) (by decide)
      by_cases P : h_i h 221 k = x1 ∧ ¬ x3 < h_i h 224 k ∧ ¬ x2 < h_i h 223 k ∧ ¬ h_i h 223 k < x5
      · obtain ⟨r, hr⟩ := ih (k + 1) (h_i h 222 k) (h_i h 223 k) (by omega)
        refine ⟨r, fun h2 I2 F => t_X12_rankOn_14 d h2 I2.1 x1 x2 x3 x4 x5 _ _ ⟨fun z => ?_, fun _ => ?_⟩⟩
        · rw [(F.2 1 29 (by decide +kernel)).1] at z
          have z := q_le.mp z
          omega
        · rw [kk, fr_i F (a := 221) (by decide +kernel) k, fr_i F (a := 222) (by decide +kernel) k, fr_i F (a := 223) (by decide +kernel) k, fr_i F (a := 224) (by decide +kernel) k, on_s (by omega)]
          exact ⟨v, fun y => absurd P.1 y, fun _ => ⟨v, fun y => absurd y P.2.1, fun _ => ⟨v, fun y => absurd y P.2.2.1, fun _ => ⟨v, fun y => absurd y P.2.2.2, fun _ => ⟨v, v, hr h2 I2 F⟩⟩⟩⟩⟩
      · obtain ⟨r, hr⟩ := ih (k + 1) x4 x5 (by omega)
        refine ⟨r, fun h2 I2 F => t_X12_rankOn_14 d h2 I2.1 x1 x2 x3 x4 x5 _ _ ⟨fun z => ?_, fun _ => ?_⟩⟩
        · rw [(F.2 1 29 (by decide +kernel)).1] at z
          have z := q_le.mp z
          omega
        · have go := hr h2 I2 F
          rw [kk, fr_i F (a := 221) (by decide +kernel) k, fr_i F (a := 222) (by decide +kernel) k, fr_i F (a := 223) (by decide +kernel) k, fr_i F (a := 224) (by decide +kernel) k, on_s (by omega)]
          exact ⟨v, fun _ => go, fun y1 => ⟨v, fun _ => go, fun y2 => ⟨v, fun _ => go, fun y3 => ⟨v, fun _ => go, fun y4 => absurd ⟨y1, y2, y3, y4⟩ P⟩⟩⟩⟩
  obtain ⟨r, hr⟩ := lp (h_i h 1 29).toNatClampNeg 0 (h_i h 204 x1.toNatClampNeg) (-1) (by omega)
  refine ⟨r, fun h2 I2 F => t_X12_rankOn d h2 I2.1 x1 x2 x3 _ ⟨v1, ?_⟩⟩
  rw [fr_i F (a := 204) (by decide +kernel) _]
  exact hr h2 I2 F
theorem d_stateOf (d : Nat) {h : Hp_} (x1 x2 : Int32) (v : vp_in x1 400) : ∃ r, ∀ h2, Iv h2 → Fr wzE h h2 → Ci (m_X12_stateOf (d + 0) 0 0) [.ref 1, .int x1, .int x2] h2 (fun r' h' => r' = r ∧ h' = h2) := by
  by_cases a : h_i h 241 x1.toNatClampNeg = -1 ∨ x2 < h_i h 241 x1.toNatClampNeg
  · by_cases b : h_i h 242 x1.toNatClampNeg = -1 ∨ x2 < h_i h 242 x1.toNatClampNeg
    · refine ⟨0, fun h2 I2 F => t_X12_stateOf d h2 I2.1 x1 x2 _ ?_⟩
      rw [fr_i F (a := 241) (by decide +kernel) _, fr_i F (a := 242) (by decide +kernel) _]
      exact ⟨v, fun _ => ⟨v, fun _ => ⟨rfl, rfl⟩, fun nb => ⟨v, fun _ => ⟨rfl, rfl⟩, fun nc => absurd (b.resolve_left nb) nc⟩⟩, fun na => ⟨v, fun _ => ⟨v, fun _ => ⟨rfl, rfl⟩, fun nb => ⟨v, fun _ => ⟨rfl, rfl⟩, fun nc => absurd (b.resolve_left nb) nc⟩⟩, fun nc => absurd (a.resolve_left na) nc⟩⟩
    · refine ⟨2, fun h2 I2 F => t_X12_stateOf d h2 I2.1 x1 x2 _ ?_⟩
      rw [fr_i F (a := 241) (by decide +kernel) _, fr_i F (a := 242) (by decide +kernel) _]
      exact ⟨v, fun _ => ⟨v, fun y => absurd (Or.inl y) b, fun _ => ⟨v, fun y => absurd (Or.inr y) b, fun _ => ⟨rfl, rfl⟩⟩⟩, fun na => ⟨v, fun _ => ⟨v, fun y => absurd (Or.inl y) b, fun _ => ⟨v, fun y => absurd (Or.inr y) b, fun _ => ⟨rfl, rfl⟩⟩⟩, fun nc => absurd (a.resolve_left na) nc⟩⟩
  · refine ⟨1, fun h2 I2 F => t_X12_stateOf d h2 I2.1 x1 x2 _ ?_⟩
    rw [fr_i F (a := 241) (by decide +kernel) _, fr_i F (a := 242) (by decide +kernel) _]
    exact ⟨v, fun y => absurd (Or.inl y) a, fun _ => ⟨v, fun y => absurd (Or.inr y) a, fun _ => ⟨rfl, rfl⟩⟩⟩
theorem d_causeOf (d : Nat) {h : Hp_} (I : Iv h) (x1 x2 : Int32) (v1 : vp_in x1 400) : ∃ r, ∀ h2, Iv h2 → Fr wzE h h2 → Ci (m_X12_causeOf (d + 0) 0 0) [.ref 1, .int x1, .int x2] h2 (fun r' h' => r' = r ∧ h' = h2) := by
  have c64 := I.2.1 1 64
  rw [show tf 1 64 = (0, 200) by decide +kernel] at c64
  have b0 : 0 ≤ (h_i h 1 64).toInt := c64.1
  have b1 : (h_i h 1 64).toInt ≤ 200 := c64.2
  have nc := n_nat b0
  have lp : ∀ (n k : Nat) (x3 : Int32), k + n = (h_i h 1 64).toNatClampNeg → ∃ r, ∀ h2, Iv h2 → Fr wzE h h2 → AW (m_X12_causeOf (d + 0) 0 0) 0 0 10 [(0, .ref 1), (1, .int x1), (2, .int x2), (3, .int x3), (4, .int (Int32.ofNat k))] [] h2 (kI (fun r' h' => r' = r ∧ h' = h2)) := by
    intro n
    induction n with
    | zero =>
      intro k x3 e
      have ok := on_j (n := k) (by omega)
      refine ⟨x3, fun h2 I2 F => t_X12_causeOf_10 d h2 I2.1 x1 x2 x3 _ _ ⟨fun _ => ⟨rfl, rfl⟩, fun z => ?_⟩⟩
      rw [(F.2 1 64 (by decide +kernel)).1] at z
      have z := q_nle z
      omega
    | succ n ih =>
      intro k x3 e
      have ok := on_j (n := k) (by omega)
      have kk := on_k (n := k) (by omega)
      have v : vp_in (Int32.ofNat k) 200 := on_in (by omega) (by decide)
      by_cases P : h_i h 245 k = x1 ∧ ¬ x2 < h_i h 247 k
      · obtain ⟨r, hr⟩ := ih (k + 1) (h_i h 246 k) (by omega)
        refine ⟨r, fun h2 I2 F => t_X12_causeOf_10 d h2 I2.1 x1 x2 x3 _ _ ⟨fun z => ?_, fun _ => ?_⟩⟩
        · rw [(F.2 1 64 (by decide +kernel)).1] at z
          have z := q_le.mp z
          omega
        · rw [kk, fr_i F (a := 245) (by decide +kernel) k, fr_i F (a := 246) (by decide +kernel) k, fr_i F (a := 247) (by decide +kernel) k, on_s (by omega)]
          exact ⟨v, fun y => absurd P.1 y, fun _ => ⟨v, fun y => absurd y P.2, fun _ => ⟨v, hr h2 I2 F⟩⟩⟩
      · obtain ⟨r, hr⟩ := ih (k + 1) x3 (by omega)
        refine ⟨r, fun h2 I2 F => t_X12_causeOf_10 d h2 I2.1 x1 x2 x3 _ _ ⟨fun z => ?_, fun _ => ?_⟩⟩
        · rw [(F.2 1 64 (by decide +kernel)).1] at z
          have z := q_le.mp z
          omega
        · have go := hr h2 I2 F
          rw [kk, fr_i F (a := 245) (by decide +kernel) k, fr_i F (a := 246) (by decide +kernel) k, fr_i F (a := 247) (by decide +kernel) k, on_s (by omega)]
          exact ⟨v, fun _ => go, fun y1 => ⟨v, fun _ => go, fun y2 => absurd ⟨y1, y2⟩ P⟩⟩
  obtain ⟨r, hr⟩ := lp (h_i h 1 64).toNatClampNeg 0 (h_i h 243 x1.toNatClampNeg) (by omega)
  refine ⟨r, fun h2 I2 F => t_X12_causeOf d h2 I2.1 x1 x2 _ ⟨v1, ?_⟩⟩
  rw [fr_i F (a := 243) (by decide +kernel) _]
  exact hr h2 I2 F
theorem ix20 {s k : Nat} (hs : s < 2) (hk : k < 20) : (20 * Int32.ofNat s + Int32.ofNat k).toNatClampNeg = 20 * s + k ∧ vp_in (20 * Int32.ofNat s + Int32.ofNat k) 40 := by
  have t20 : (20 : Int32).toInt = 20 := rfl
  have es := on_j (n := s) (by omega)
  have ek := on_j (n := k) (by omega)
  have m1 : (20 * Int32.ofNat s).toInt = 20 * (s : Int) := by rw [tx_mul (by rw [t20, es]; omega) (by rw [t20, es]; omega), t20, es]
  have m2 : (20 * Int32.ofNat s + Int32.ofNat k).toInt = 20 * (s : Int) + k := by rw [tx_add (by omega) (by omega), m1, ek]
  have nn := n_nat (x := 20 * Int32.ofNat s + Int32.ofNat k) (by omega)
  exact ⟨by omega, dp_in (lo := 0) (hi := 39) ⟨by show (0 : Int) ≤ _; omega, by show _ ≤ (39 : Int); omega⟩ (by decide) (by decide)⟩
theorem d_forceOf (d s : Nat) (hs : s < 2) {h : Hp_} (I : Iv h) (x2 x3 : Int32) : ∃ r : Int32, rin r.toInt (-1, 19) ∧ ∀ h2, Iv h2 → Fr wzE h h2 → Ci (m_X12_forceOf (d + 0) 0 0) [.ref 1, .int (Int32.ofNat s), .int x2, .int x3] h2 (fun r' h' => r' = r ∧ h' = h2) := by
  have b := dp_rg I 235 s (show tfa 235 = some (0, 20) by decide +kernel)
  have b0 : 0 ≤ (h_i h 235 s).toInt := b.1
  have b1 : (h_i h 235 s).toInt ≤ 20 := b.2
  have nc := n_nat b0
  have v1 : vp_in (Int32.ofNat s) 2 := on_in hs (by decide)
  have k1 : (Int32.ofNat s).toNatClampNeg = s := on_k (by omega)
  have lp : ∀ (n k : Nat) (x4 : Int32), (x4 = -1 ∨ ∃ m, m < 20 ∧ x4 = Int32.ofNat m) → k + n = (h_i h 235 s).toNatClampNeg → ∃ r : Int32, rin r.toInt (-1, 19) ∧ ∀ h2, Iv h2 → Fr wzE h h2 → AW (m_X12_forceOf (d + 0) 0 0) 0 0 6 [(0, .ref 1), (1, .int (Int32.ofNat s)), (2, .int x2), (3, .int x3), (4, .int x4), (5, .int (Int32.ofNat k))] [] h2 (kI (fun r' h' => r' = r ∧ h' = h2)) := by
    intro n
    induction n with
    | zero =>
      intro k x4 o e
      have ok := on_j (n := k) (by omega)
      refine ⟨x4, ?_, fun h2 I2 F => t_X12_forceOf_6 d h2 I2.1 _ x2 x3 x4 _ _ ⟨v1, fun _ => ⟨rfl, rfl⟩, fun z => ?_⟩⟩
      · rcases o with u | ⟨m, lm, u⟩
        · rw [u]; exact ⟨by decide, by decide⟩
        · rw [u, on_j (by omega)]; exact ⟨by show (-1 : Int) ≤ _; omega, by show _ ≤ (19 : Int); omega⟩
      · rw [k1, fr_i F (a := 235) (by decide +kernel) s] at z
        have z := q_nle z
        omega
    | succ n ih =>
      intro k x4 o e
      have ok := on_j (n := k) (by omega)
      obtain ⟨jx, vx⟩ := ix20 (s := s) (k := k) hs (by omega)
      have v4 : ¬ x4 = -1 → vp_in (20 * Int32.ofNat s + x4) 40 := fun y => by
        rcases o with u | ⟨m, lm, u⟩
        · exact absurd u y
        · rw [u]; exact (ix20 hs lm).2
      by_cases P : ¬ x3 < h_i h 234 (20 * s + k) ∧ ¬ x2 < h_i h 233 (20 * s + k) ∧ (x4 = -1 ∨ ¬ h_i h 233 (20 * s + k) < h_i h 233 (20 * Int32.ofNat s + x4).toNatClampNeg)
      · obtain ⟨r, hb, hr⟩ := ih (k + 1) (Int32.ofNat k) (Or.inr ⟨k, by omega, rfl⟩) (by omega)
        refine ⟨r, hb, fun h2 I2 F => t_X12_forceOf_6 d h2 I2.1 _ x2 x3 x4 _ _ ⟨v1, fun z => ?_, fun _ => ?_⟩⟩
        · rw [k1, fr_i F (a := 235) (by decide +kernel) s] at z
          have z := q_le.mp z
          omega
        · have go := hr h2 I2 F
          rw [jx, fr_i F (a := 234) (by decide +kernel) _, fr_i F (a := 233) (by decide +kernel) (20 * s + k), fr_i F (a := 233) (by decide +kernel) (20 * Int32.ofNat s + x4).toNatClampNeg, on_s (by omega)]
          exact ⟨vx, fun y => absurd y P.1, fun _ => ⟨vx, fun y => absurd y P.2.1, fun _ => ⟨fun _ => go, fun y => ⟨vx, v4 y, fun z => absurd z (P.2.2.resolve_left y), fun _ => go⟩⟩⟩⟩
      · obtain ⟨r, hb, hr⟩ := ih (k + 1) x4 o (by omega)
        refine ⟨r, hb, fun h2 I2 F => t_X12_forceOf_6 d h2 I2.1 _ x2 x3 x4 _ _ ⟨v1, fun z => ?_, fun _ => ?_⟩⟩
        · rw [k1, fr_i F (a := 235) (by decide +kernel) s] at z
          have z := q_le.mp z
          omega
        · have go := hr h2 I2 F
          rw [jx, fr_i F (a := 234) (by decide +kernel) _, fr_i F (a := 233) (by decide +kernel) (20 * s + k), fr_i F (a := 233) (by decide +kernel) (20 * Int32.ofNat s + x4).toNatClampNeg, on_s (by omega)]
          exact ⟨vx, fun _ => go, fun y1 => ⟨vx, fun _ => go, fun y2 => ⟨fun y => absurd ⟨y1, y2, Or.inl y⟩ P, fun y => ⟨vx, v4 y, fun _ => go, fun z => absurd ⟨y1, y2, Or.inr z⟩ P⟩⟩⟩⟩
  obtain ⟨r, hb, hr⟩ := lp (h_i h 235 s).toNatClampNeg 0 (-1) (Or.inl rfl) (by omega)
  exact ⟨r, hb, fun h2 I2 F => t_X12_forceOf d h2 _ x2 x3 _ (hr h2 I2 F)⟩
end
section
/-! lets and payOf: the same answer from every heap that has the same of what they read -/
noncomputable def lNat (k : Nat) : Nat := [107, 119, 112, 104, 100, 99, 110, 101, 116].getD k 0
noncomputable def ltN (v : Nat → Int32) : Nat → (Nat → Int32) → Nat → Int32
  | 0, e => e
  | k + 1, e => upp (ltN v k e) (lNat k) (v k)
theorem lt9 (v e e' : Nat → Int32) {c : Int32} (o : okl 1 c = true) : ltN v 9 e c.toNatClampNeg = ltN v 9 e' c.toNatClampNeg := by
  have o : ([99, 116, 107, 119, 112, 104, 100, 110, 101] : List Int32).any (fun x => decide (x = c)) = true := o
  obtain ⟨x, hx, ex⟩ := List.any_eq_true.mp o
  have ex := of_decide_eq_true ex
  subst ex
  simp only [List.mem_cons, List.not_mem_nil, or_false] at hx
  rcases hx with u | u | u | u | u | u | u | u | u <;> subst u
  · rw [show (99 : Int32).toNatClampNeg = 99 by simp]; rfl
  · rw [show (116 : Int32).toNatClampNeg = 116 by simp]; rfl
  · rw [show (107 : Int32).toNatClampNeg = 107 by simp]; rfl
  · rw [show (119 : Int32).toNatClampNeg = 119 by simp]; rfl
  · rw [show (112 : Int32).toNatClampNeg = 112 by simp]; rfl
  · rw [show (104 : Int32).toNatClampNeg = 104 by simp]; rfl
  · rw [show (100 : Int32).toNatClampNeg = 100 by simp]; rfl
  · rw [show (110 : Int32).toNatClampNeg = 110 by simp]; rfl
  · rw [show (101 : Int32).toNatClampNeg = 101 by simp]; rfl
theorem tl9 {k : Nat} (hk : k < 9) : ((tby 1).getD k 0).toNatClampNeg = lNat k ∧ vp_in ((tby 1).getD k 0) 128 := by
  have g : ∀ x : Int32, rin x.toInt (0, 127) → vp_in x 128 := fun x b => dp_in b (by decide) (by decide)
  match k, hk with
  | 0, _ => exact ⟨by show (107 : Int32).toNatClampNeg = 107; simp, g _ ⟨by decide, by decide⟩⟩
  | 1, _ => exact ⟨by show (119 : Int32).toNatClampNeg = 119; simp, g _ ⟨by decide, by decide⟩⟩
  | 2, _ => exact ⟨by show (112 : Int32).toNatClampNeg = 112; simp, g _ ⟨by decide, by decide⟩⟩
  | 3, _ => exact ⟨by show (104 : Int32).toNatClampNeg = 104; simp, g _ ⟨by decide, by decide⟩⟩
  | 4, _ => exact ⟨by show (100 : Int32).toNatClampNeg = 100; simp, g _ ⟨by decide, by decide⟩⟩
  | 5, _ => exact ⟨by show (99 : Int32).toNatClampNeg = 99; simp, g _ ⟨by decide, by decide⟩⟩
  | 6, _ => exact ⟨by show (110 : Int32).toNatClampNeg = 110; simp, g _ ⟨by decide, by decide⟩⟩
  | 7, _ => exact ⟨by show (101 : Int32).toNatClampNeg = 101; simp, g _ ⟨by decide, by decide⟩⟩
  | 8, _ => exact ⟨by show (116 : Int32).toNatClampNeg = 116; simp, g _ ⟨by decide, by decide⟩⟩
  | k + 9, h => exact absurd h (by omega)
theorem lr_is (h : Hp_) (k : Nat) (v : Int32) : h_i (h_im h 236 k v) 236 = upp (h_i h 236) k v := funext (fun j => by
  rw [h_i_im]
  unfold upp
  by_cases y : j = k
  · rw [if_pos ⟨rfl, y⟩, if_pos y]
  · rw [if_neg (fun u => y u.2), if_neg y])
theorem i236 {h : Hp_} (I : Iv h) (k : Nat) (x : Int32) : Iv (h_im h 236 k x) := tr_ 236 (by decide +kernel) I k x (by decide) (by decide)
theorem d_lets (d : Nat) {h : Hp_} (I : Iv h) (i : Nat) (hi : i < 300) (x2 : Int32) : ∃ r, ∀ h2, Iv h2 → Fr wzE h h2 → Ci (m_X12_lets (d + 6) 0 0) [.ref 1, .int (Int32.ofNat i), .int x2] h2 (Dp r h2) := by
  obtain ⟨f, fb, hf⟩ := d_forceOf d 0 (by decide) I (h_i h 257 i / 1440) x2
  obtain ⟨r, hr⟩ := d_tell d 0 (by decide) I f fb (ltN (fun k => h_i h 261 (9 * i + k)) 9 (fun _ => 0))
  have vi : vp_in (Int32.ofNat i) 300 := on_in hi (by decide)
  have ki : (Int32.ofNat i).toNatClampNeg = i := on_k (by omega)
  have oi := on_j (n := i) (by omega)
  have t9 : (9 : Int32).toInt = 9 := rfl
  refine ⟨r, fun h2 I2 F => t_X12_lets d h2 _ x2 _ ?_⟩
  have lp : ∀ (n k : Nat) (h3 : Hp_), k + n = 9 → Iv h3 → Fr wzL h2 h3 → h_i h3 236 = ltN (fun k => h_i h 261 (9 * i + k)) k (h_i h2 236) → AW (m_X12_lets (d + 6) 0 0) 0 0 2 [(0, .ref 1), (1, .int (Int32.ofNat i)), (2, .int x2), (3, .int (Int32.ofNat k))] [] h3 (kI (Dp r h2)) := by
    intro n
    induction n with
    | zero =>
      intro k h3 e I3 F3 L3
      have ok := on_j (n := k) (by omega)
      have F' : Fr wzE h h3 := F.tr (F3.more (by decide +kernel))
      refine t_X12_lets_2 d h3 I3.1 _ x2 _ _ ⟨fun _ => ⟨vi, ?_⟩, fun z => ?_⟩
      · rw [ki, fr_i F' (a := 257) (by decide +kernel) i]
        refine Ci.mono (hf h3 I3 F') (fun r4 h4 k4 => ?_)
        rw [k4.1, k4.2]
        refine ⟨I3.1, Ci.mono (hr h3 I3 F' (fun c o => ?_)) (fun r5 h5 k5 => ⟨k5.2.1.1, k5.1, k5.2.1, F3.tr k5.2.2⟩)⟩
        rw [L3, show k = 9 by omega]
        exact lt9 _ _ _ o
      · have z := q_nle z
        omega
    | succ n ih =>
      intro k h3 e I3 F3 L3
      have ok := on_j (n := k) (by omega)
      have F' : Fr wzE h h3 := F.tr (F3.more (by decide +kernel))
      obtain ⟨lk, lv⟩ := tl9 (k := k) (by omega)
      have m1 : (9 * Int32.ofNat i).toInt = 9 * (i : Int) := by rw [tx_mul (by rw [t9, oi]; omega) (by rw [t9, oi]; omega), t9, oi]
      have m2 : (9 * Int32.ofNat i + Int32.ofNat k).toInt = 9 * (i : Int) + k := by rw [tx_add (by omega) (by omega), m1, ok]
      have nn := n_nat (x := 9 * Int32.ofNat i + Int32.ofNat k) (by omega)
      have jn : (9 * Int32.ofNat i + Int32.ofNat k).toNatClampNeg = 9 * i + k := by omega
      refine t_X12_lets_2 d h3 I3.1 _ x2 _ _ ⟨fun z => ?_, fun _ => ?_⟩
      · have z := q_le.mp z
        omega
      · refine Ci.mono (c_letterFor (d + 1) k (by omega) h3) (fun r4 h4 k4 => ?_)
        rw [k4.1, k4.2]
        refine ⟨I3.1, dp_in (lo := 0) (hi := 2699) ⟨by show (0 : Int) ≤ _; omega, by show _ ≤ (2699 : Int); omega⟩ (by decide) (by decide), lv, ?_⟩
        rw [jn, lk, on_s (by omega), fr_i F' (a := 261) (by decide +kernel) _]
        refine ih (k + 1) _ (by omega) (i236 I3 _ _) (F3.im (inw_row (by decide +kernel) _)) ?_
        rw [lr_is, L3]
        rfl
  exact lp 9 0 h2 rfl I2 (Fr.rf _ _) rfl
noncomputable def up6 (e : Nat → Int32) (c y m x t a : Int32) : Nat → Int32 := upp (upp (upp (upp (upp (upp e 99 c) 121 y) 109 m) 120 x) 116 t) 97 a
theorem lt6 (e e' : Nat → Int32) (r y m x t a : Int32) {c : Int32} (o : okl 2 c = true) : up6 e r y m x t a c.toNatClampNeg = up6 e' r y m x t a c.toNatClampNeg := by
  have o : ([99, 116, 121, 109, 120, 97] : List Int32).any (fun x => decide (x = c)) = true := o
  obtain ⟨z, hz, ez⟩ := List.any_eq_true.mp o
  have ez := of_decide_eq_true ez
  subst ez
  simp only [List.mem_cons, List.not_mem_nil, or_false] at hz
  rcases hz with u | u | u | u | u | u <;> subst u
  · rw [show (99 : Int32).toNatClampNeg = 99 by simp]; rfl
  · rw [show (116 : Int32).toNatClampNeg = 116 by simp]; rfl
  · rw [show (121 : Int32).toNatClampNeg = 121 by simp]; rfl
  · rw [show (109 : Int32).toNatClampNeg = 109 by simp]; rfl
  · rw [show (120 : Int32).toNatClampNeg = 120 by simp]; rfl
  · rw [show (97 : Int32).toNatClampNeg = 97 by simp]; rfl
theorem py_end (d : Nat) {h : Hp_} (I : Iv h) (c : Nat) (hc : c < 12) (x2 x3 x4 x5 x6 x7 : Int32) : ∃ r, ∀ h2, Iv h2 → Fr wzE h h2 → Ci (m_X12_rankOn (d + 0) 0 0) [.ref 1, .int (Int32.ofNat c), .int x2, .int x3] h2 (fun r26 h24 => Wf h24 ∧ (vp_in 99 128 ∧ (vp_in (Int32.ofNat c) 12 ∧ (vp_in 121 128 ∧ (vp_in 109 128 ∧ (vp_in 120 128 ∧ (vp_in 116 128 ∧ (vp_in 97 128 ∧ (Ci (m_X12_forceOf (d + 0) 0 0) [.ref 1, .int 1, .int x2, .int x3] (h_im (h_im (h_im (h_im (h_im (h_im h24 236 (99 : Int32).toNatClampNeg r26) 236 (121 : Int32).toNatClampNeg (h_i h24 205 (Int32.ofNat c).toNatClampNeg)) 236 (109 : Int32).toNatClampNeg x4) 236 (120 : Int32).toNatClampNeg x5) 236 (116 : Int32).toNatClampNeg x6) 236 (97 : Int32).toNatClampNeg x7) (fun r36 h34 => Wf h34 ∧ (Ci (m_X12_tell (d + 4) 0 0) [.ref 1, .int 1, .int r36] h34 (fun r39 h37 => Wf h37 ∧ (Dp r h2 (if 0 < (if r39 < 10000 then r39 else 10000) then (if r39 < 10000 then r39 else 10000) else 0) h37))))))))))))) := by
  have v1 : vp_in (Int32.ofNat c) 12 := on_in hc (by decide)
  have k1 : (Int32.ofNat c).toNatClampNeg = c := on_k (by omega)
  obtain ⟨rk, hrk⟩ := d_rankOn d I (Int32.ofNat c) x2 x3 v1
  obtain ⟨f, fb, hf⟩ := d_forceOf d 1 (by decide) I x2 x3
  obtain ⟨t, ht⟩ := d_tell d 1 (by decide) I f fb (up6 (fun _ => 0) rk (h_i h 205 c) x4 x5 x6 x7)
  have g : ∀ x : Int32, rin x.toInt (0, 127) → vp_in x 128 := fun x b => dp_in b (by decide) (by decide)
  refine ⟨if 0 < (if t < 10000 then t else 10000) then (if t < 10000 then t else 10000) else 0, fun h2 I2 F => Ci.mono (hrk h2 I2 F) (fun r' h' k => ?_)⟩
  rw [k.1, k.2]
  refine ⟨I2.1, g _ ⟨by decide, by decide⟩, v1, g _ ⟨by decide, by decide⟩, g _ ⟨by decide, by decide⟩, g _ ⟨by decide, by decide⟩, g _ ⟨by decide, by decide⟩, g _ ⟨by decide, by decide⟩, ?_⟩
  rw [show (99 : Int32).toNatClampNeg = 99 by simp, show (121 : Int32).toNatClampNeg = 121 by simp, show (109 : Int32).toNatClampNeg = 109 by simp, show (120 : Int32).toNatClampNeg = 120 by simp, show (116 : Int32).toNatClampNeg = 116 by simp, show (97 : Int32).toNatClampNeg = 97 by simp, k1, fr_i F (a := 205) (by decide +kernel) c]
  have I3 : Iv (h_im (h_im (h_im (h_im (h_im (h_im h2 236 99 rk) 236 121 (h_i h 205 c)) 236 109 x4) 236 120 x5) 236 116 x6) 236 97 x7) := i236 (i236 (i236 (i236 (i236 (i236 I2 _ _) _ _) _ _) _ _) _ _) _ _
  have F3 : Fr wzL h2 (h_im (h_im (h_im (h_im (h_im (h_im h2 236 99 rk) 236 121 (h_i h 205 c)) 236 109 x4) 236 120 x5) 236 116 x6) 236 97 x7) := ((((((Fr.rf _ _).im (inw_row (by decide +kernel) _)).im (inw_row (by decide +kernel) _)).im (inw_row (by decide +kernel) _)).im (inw_row (by decide +kernel) _)).im (inw_row (by decide +kernel) _)).im (inw_row (by decide +kernel) _)
  have L3 : h_i (h_im (h_im (h_im (h_im (h_im (h_im h2 236 99 rk) 236 121 (h_i h 205 c)) 236 109 x4) 236 120 x5) 236 116 x6) 236 97 x7) 236 = up6 (h_i h2 236) rk (h_i h 205 c) x4 x5 x6 x7 := by rw [lr_is, lr_is, lr_is, lr_is, lr_is, lr_is]; rfl
  generalize h_im (h_im (h_im (h_im (h_im (h_im h2 236 99 rk) 236 121 (h_i h 205 c)) 236 109 x4) 236 120 x5) 236 116 x6) 236 97 x7 = h3 at I3 F3 L3 ⊢
  have F' : Fr wzE h h3 := F.tr (F3.more (by decide +kernel))
  refine Ci.mono (hf h3 I3 F') (fun r4 h4 k4 => ?_)
  rw [k4.1, k4.2]
  refine ⟨I3.1, Ci.mono (ht h3 I3 F' (fun c o => ?_)) (fun r5 h5 k5 => ⟨k5.2.1.1, ?_, k5.2.1, F3.tr k5.2.2⟩)⟩
  · rw [L3]
    exact lt6 _ _ _ _ _ _ _ _ o
  · rw [k5.1]
theorem py_128 (d : Nat) {h : Hp_} (I : Iv h) (c : Nat) (hc : c < 12) (x2 x3 x4 x5 : Int32) : ∀ (n k : Nat) (x6 x7 : Int32), k + n = (h_i h 1 80).toNatClampNeg → ∃ r, ∀ h2, Iv h2 → Fr wzE h h2 → AW (m_X12_payOf (d + 7) 0 0) 0 0 128 [(0, .ref 1), (1, .int (Int32.ofNat c)), (2, .int x2), (3, .int x3), (4, .int x4), (5, .int x5), (6, .int x6), (7, .int x7), (8, .int (Int32.ofNat k))] [] h2 (kI (Dp r h2)) := by
  have c80 := I.2.1 1 80
  rw [show tf 1 80 = (0, 300) by decide +kernel] at c80
  have b0 : 0 ≤ (h_i h 1 80).toInt := c80.1
  have b1 : (h_i h 1 80).toInt ≤ 300 := c80.2
  have nc := n_nat b0
  intro n
  induction n with
  | zero =>
    intro k x6 x7 e
    have ok := on_j (n := k) (by omega)
    obtain ⟨r, hr⟩ := py_end d I c hc x2 x3 x4 x5 x6 x7
    refine ⟨r, fun h2 I2 F => t_X12_payOf_128 d h2 I2.1 _ x2 x3 x4 x5 x6 x7 _ _ ⟨fun _ => hr h2 I2 F, fun z => ?_⟩⟩
    rw [(F.2 1 80 (by decide +kernel)).1] at z
    have z := q_nle z
    omega
  | succ n ih =>
    intro k x6 x7 e
    have ok := on_j (n := k) (by omega)
    have kk := on_k (n := k) (by omega)
    have v : vp_in (Int32.ofNat k) 300 := on_in (by omega) (by decide)
    by_cases P : h_i h 255 k = Int32.ofNat c ∧ h_i h 257 k / 1440 = x2 ∧ h_i h 258 k = 3
    · obtain ⟨l, hl⟩ := d_lets d I k (by omega) x3
      by_cases l3 : l = 3
      · obtain ⟨r, hr⟩ := ih (k + 1) (x6 + 1) (x7 + 0) (by omega)
        refine ⟨r, fun h2 I2 F => t_X12_payOf_128 d h2 I2.1 _ x2 x3 x4 x5 x6 x7 _ _ ⟨fun z => ?_, fun _ => ?_⟩⟩
        · rw [(F.2 1 80 (by decide +kernel)).1] at z
          have z := q_le.mp z
          omega
        · rw [kk, fr_i F (a := 255) (by decide +kernel) k, fr_i F (a := 257) (by decide +kernel) k, fr_i F (a := 258) (by decide +kernel) k, on_s (by omega)]
          refine ⟨v, fun y => absurd P.1 y, fun _ => ⟨v, fun y => absurd P.2.1 y, fun _ => ⟨v, fun y => absurd P.2.2 y, fun _ => Ci.mono (hl h2 I2 F) (fun r4 h4 k4 => ⟨k4.2.1.1, fun y => absurd (k4.1.trans l3) y, fun _ => ?_⟩)⟩⟩⟩
          exact AW.mono (hr h4 k4.2.1 (F.tr (k4.2.2.more (by decide +kernel)))) (fun u h' q => by
            obtain ⟨r', ev, e1, i1, f1⟩ := q
            exact ⟨r', ev, e1, i1, k4.2.2.tr f1⟩)
      · obtain ⟨r, hr⟩ := ih (k + 1) (x6 + 0) (x7 + 1) (by omega)
        refine ⟨r, fun h2 I2 F => t_X12_payOf_128 d h2 I2.1 _ x2 x3 x4 x5 x6 x7 _ _ ⟨fun z => ?_, fun _ => ?_⟩⟩
        · rw [(F.2 1 80 (by decide +kernel)).1] at z
          have z := q_le.mp z
          omega
        · rw [kk, fr_i F (a := 255) (by decide +kernel) k, fr_i F (a := 257) (by decide +kernel) k, fr_i F (a := 258) (by decide +kernel) k, on_s (by omega)]
          refine ⟨v, fun y => absurd P.1 y, fun _ => ⟨v, fun y => absurd P.2.1 y, fun _ => ⟨v, fun y => absurd P.2.2 y, fun _ => Ci.mono (hl h2 I2 F) (fun r4 h4 k4 => ⟨k4.2.1.1, fun _ => ?_, fun y => absurd (k4.1.symm.trans y) l3⟩)⟩⟩⟩
          exact AW.mono (hr h4 k4.2.1 (F.tr (k4.2.2.more (by decide +kernel)))) (fun u h' q => by
            obtain ⟨r', ev, e1, i1, f1⟩ := q
            exact ⟨r', ev, e1, i1, k4.2.2.tr f1⟩)
    · obtain ⟨r, hr⟩ := ih (k + 1) x6 x7 (by omega)
      refine ⟨r, fun h2 I2 F => t_X12_payOf_128 d h2 I2.1 _ x2 x3 x4 x5 x6 x7 _ _ ⟨fun z => ?_, fun _ => ?_⟩⟩
      · rw [(F.2 1 80 (by decide +kernel)).1] at z
        have z := q_le.mp z
        omega
      · have go := hr h2 I2 F
        rw [kk, fr_i F (a := 255) (by decide +kernel) k, fr_i F (a := 257) (by decide +kernel) k, fr_i F (a := 258) (by decide +kernel) k, on_s (by omega)]
        exact ⟨v, fun _ => go, fun y1 => ⟨v, fun _ => go, fun y2 => ⟨v, fun _ => go, fun y3 => absurd ⟨y1, y2, y3⟩ P⟩⟩⟩
theorem d_payOf (d : Nat) {h : Hp_} (I : Iv h) (c : Nat) (hc : c < 12) (x2 x3 : Int32) : ∃ r, ∀ h2, Iv h2 → Fr wzE h h2 → Ci (m_X12_payOf (d + 7) 0 0) [.ref 1, .int (Int32.ofNat c), .int x2, .int x3] h2 (Dp r h2) := by
  have c63 := rows_in I
  have b0 : 0 ≤ (h_i h 1 63).toInt := c63.1
  have b1 : (h_i h 1 63).toInt ≤ 400 := c63.2
  have nc := n_nat b0
  have lp : ∀ (n k : Nat) (x4 x5 : Int32), k + n = (h_i h 1 63).toNatClampNeg → ∃ r, ∀ h2, Iv h2 → Fr wzE h h2 → AW (m_X12_payOf (d + 7) 0 0) 0 0 9 [(0, .ref 1), (1, .int (Int32.ofNat c)), (2, .int x2), (3, .int x3), (4, .int x4), (5, .int x5), (6, .int (Int32.ofNat k))] [] h2 (kI (Dp r h2)) := by
    intro n
    induction n with
    | zero =>
      intro k x4 x5 e
      have ok := on_j (n := k) (by omega)
      obtain ⟨r, hr⟩ := py_128 d I c hc x2 x3 x4 x5 (h_i h 1 80).toNatClampNeg 0 0 0 (by omega)
      refine ⟨r, fun h2 I2 F => t_X12_payOf_9 d h2 I2.1 _ x2 x3 x4 x5 _ _ ⟨fun _ => hr h2 I2 F, fun z => ?_⟩⟩
      rw [(F.2 1 63 (by decide +kernel)).1] at z
      have z := q_nle z
      omega
    | succ n ih =>
      intro k x4 x5 e
      have ok := on_j (n := k) (by omega)
      have kk := on_k (n := k) (by omega)
      have v : vp_in (Int32.ofNat k) 400 := on_in (by omega) (by decide)
      have st : ∀ h2, Iv h2 → Fr wzE h h2 → h_i h2 1 63 ≤ Int32.ofNat k → False := fun h2 I2 F z => by
        rw [(F.2 1 63 (by decide +kernel)).1] at z
        have z := q_le.mp z
        omega
      by_cases P : h_i h 238 k = Int32.ofNat c ∧ h_i h 240 k / 1440 = x2
      · obtain ⟨s, hs⟩ := d_stateOf d (h := h) (Int32.ofNat k) x3 v
        by_cases s2 : s = 2
        · obtain ⟨u, hu⟩ := d_causeOf d I (Int32.ofNat k) x3 v
          by_cases q : u = 1 ∨ ¬ u < 5
          · obtain ⟨r, hr⟩ := ih (k + 1) (x4 + 0) (x5 + 1) (by omega)
            refine ⟨r, fun h2 I2 F => t_X12_payOf_9 d h2 I2.1 _ x2 x3 x4 x5 _ _ ⟨fun z => (st h2 I2 F z).elim, fun _ => ?_⟩⟩
            have go := hr h2 I2 F
            rw [kk, fr_i F (a := 238) (by decide +kernel) k, fr_i F (a := 240) (by decide +kernel) k, on_s (by omega)]
            refine ⟨v, fun y => absurd P.1 y, fun _ => ⟨v, fun _ => Ci.mono (hs h2 I2 F) (fun r4 h4 k4 => ?_), fun y => absurd P.2 y⟩⟩
            rw [k4.1, k4.2]
            refine ⟨I2.1, fun y => absurd s2 y, fun _ => Ci.mono (hu h2 I2 F) (fun r5 h5 k5 => ?_)⟩
            rw [k5.1, k5.2]
            exact ⟨I2.1, fun _ => ⟨fun _ => go, fun y => ⟨fun w => absurd w (q.resolve_left y), fun _ => go⟩⟩, fun y => absurd (s2.symm.trans y) (by decide)⟩
          · obtain ⟨r, hr⟩ := ih (k + 1) (x4 + 0) (x5 + 0) (by omega)
            refine ⟨r, fun h2 I2 F => t_X12_payOf_9 d h2 I2.1 _ x2 x3 x4 x5 _ _ ⟨fun z => (st h2 I2 F z).elim, fun _ => ?_⟩⟩
            have go := hr h2 I2 F
            rw [kk, fr_i F (a := 238) (by decide +kernel) k, fr_i F (a := 240) (by decide +kernel) k, on_s (by omega)]
            refine ⟨v, fun y => absurd P.1 y, fun _ => ⟨v, fun _ => Ci.mono (hs h2 I2 F) (fun r4 h4 k4 => ?_), fun y => absurd P.2 y⟩⟩
            rw [k4.1, k4.2]
            refine ⟨I2.1, fun y => absurd s2 y, fun _ => Ci.mono (hu h2 I2 F) (fun r5 h5 k5 => ?_)⟩
            rw [k5.1, k5.2]
            exact ⟨I2.1, fun _ => ⟨fun y => absurd (Or.inl y) q, fun _ => ⟨fun _ => go, fun y => absurd (Or.inr y) q⟩⟩, fun y => absurd (s2.symm.trans y) (by decide)⟩
        · by_cases s1 : s = 1
          · obtain ⟨r, hr⟩ := ih (k + 1) (x4 + 1) (x5 + 0) (by omega)
            refine ⟨r, fun h2 I2 F => t_X12_payOf_9 d h2 I2.1 _ x2 x3 x4 x5 _ _ ⟨fun z => (st h2 I2 F z).elim, fun _ => ?_⟩⟩
            have go := hr h2 I2 F
            rw [kk, fr_i F (a := 238) (by decide +kernel) k, fr_i F (a := 240) (by decide +kernel) k, on_s (by omega)]
            refine ⟨v, fun y => absurd P.1 y, fun _ => ⟨v, fun _ => Ci.mono (hs h2 I2 F) (fun r4 h4 k4 => ?_), fun y => absurd P.2 y⟩⟩
            rw [k4.1, k4.2]
            exact ⟨I2.1, fun _ => ⟨fun y => absurd s1 y, fun _ => go⟩, fun y => absurd y s2⟩
          · obtain ⟨r, hr⟩ := ih (k + 1) (x4 + 0) (x5 + 0) (by omega)
            refine ⟨r, fun h2 I2 F => t_X12_payOf_9 d h2 I2.1 _ x2 x3 x4 x5 _ _ ⟨fun z => (st h2 I2 F z).elim, fun _ => ?_⟩⟩
            have go := hr h2 I2 F
            rw [kk, fr_i F (a := 238) (by decide +kernel) k, fr_i F (a := 240) (by decide +kernel) k, on_s (by omega)]
            refine ⟨v, fun y => absurd P.1 y, fun _ => ⟨v, fun _ => Ci.mono (hs h2 I2 F) (fun r4 h4 k4 => ?_), fun y => absurd P.2 y⟩⟩
            rw [k4.1, k4.2]
            exact ⟨I2.1, fun _ => ⟨fun _ => go, fun y => absurd y s1⟩, fun y => absurd y s2⟩
      · obtain ⟨r, hr⟩ := ih (k + 1) x4 x5 (by omega)
        refine ⟨r, fun h2 I2 F => t_X12_payOf_9 d h2 I2.1 _ x2 x3 x4 x5 _ _ ⟨fun z => (st h2 I2 F z).elim, fun _ => ?_⟩⟩
        have go := hr h2 I2 F
        rw [kk, fr_i F (a := 238) (by decide +kernel) k, fr_i F (a := 240) (by decide +kernel) k, on_s (by omega)]
        exact ⟨v, fun _ => go, fun y1 => ⟨v, fun y2 => absurd ⟨y1, y2⟩ P, fun _ => go⟩⟩
  obtain ⟨r, hr⟩ := lp (h_i h 1 63).toNatClampNeg 0 0 0 (by omega)
  exact ⟨r, fun h2 I2 F => t_X12_payOf d h2 _ x2 x3 _ (hr h2 I2 F)⟩
end
section
/-! book of the reference: twice the same pay, so that its lines have room -/
noncomputable def bkR (P : Nat → Nat → Int32) (bk : Nat → Int32) (day : Nat) : Nat → Nat → Nat
  | 0, _ => 0
  | n + 1, c => (if P c day = bk (31 * c + day) then 0 else 1) + bkR P bk day n (c + 1)
noncomputable def bkT (P : Nat → Nat → Int32) (bk : Nat → Int32) (M : Nat) : Nat → Nat → Nat
  | 0, _ => 0
  | n + 1, day => bkR P bk day M 0 + bkT P bk M n (day + 1)
theorem bkR_le {P : Nat → Nat → Int32} {bk : Nat → Int32} {day : Nat} : ∀ {n c : Nat}, bkR P bk day n c ≤ n
  | 0, _ => Nat.le_refl _
  | n + 1, c => by
    have := bkR_le (P := P) (bk := bk) (day := day) (n := n) (c := c + 1)
    show (if P c day = bk (31 * c + day) then 0 else 1) + bkR P bk day n (c + 1) ≤ n + 1
    split <;> omega
theorem bkT_le {P : Nat → Nat → Int32} {bk : Nat → Int32} {M : Nat} (hM : M ≤ 12) : ∀ {n day : Nat}, bkT P bk M n day ≤ 12 * n
  | 0, _ => Nat.le_refl _
  | n + 1, day => by
    have a := bkT_le (P := P) (bk := bk) hM (n := n) (day := day + 1)
    have b := bkR_le (P := P) (bk := bk) (day := day) (n := M) (c := 0)
    show bkR P bk day M 0 + bkT P bk M n (day + 1) ≤ 12 * (n + 1)
    omega
theorem ix31 {c day : Nat} (hc : c < 12) (hd : day < 31) : (31 * Int32.ofNat c + Int32.ofNat day).toNatClampNeg = 31 * c + day ∧ vp_in (31 * Int32.ofNat c + Int32.ofNat day) 372 := by
  have t31 : (31 : Int32).toInt = 31 := rfl
  have es := on_j (n := c) (by omega)
  have ek := on_j (n := day) (by omega)
  have m1 : (31 * Int32.ofNat c).toInt = 31 * (c : Int) := by rw [tx_mul (by rw [t31, es]; omega) (by rw [t31, es]; omega), t31, es]
  have m2 : (31 * Int32.ofNat c + Int32.ofNat day).toInt = 31 * (c : Int) + day := by rw [tx_add (by omega) (by omega), m1, ek]
  have nn := n_nat (x := 31 * Int32.ofNat c + Int32.ofNat day) (by omega)
  exact ⟨by omega, dp_in (lo := 0) (hi := 371) ⟨by show (0 : Int) ≤ _; omega, by show _ ≤ (371 : Int); omega⟩ (by decide) (by decide)⟩
/-- what is the same all through: the men, the days, the pay of each -/
noncomputable def Bk (d : Nat) (h : Hp_) (M D : Nat) (P : Nat → Nat → Int32) : Prop := Iv h ∧ M ≤ 12 ∧ D ≤ 13 ∧ h_i h 1 7 = Int32.ofNat M ∧ h_i h 1 0 / 1440 = Int32.ofNat D ∧ ∀ c day, c < 12 → ∀ h2, Iv h2 → Fr wzE h h2 → Ci (m_X12_payOf (d + 7) 0 0) [.ref 1, .int (Int32.ofNat c), .int (Int32.ofNat day), .int (h_i h 1 0)] h2 (Dp (P c day) h2)
noncomputable abbrev bK (h : Hp_) : Option Value → Hp_ → Prop := kI (fun _ h' => Iv h' ∧ Fr wzE h h')
/-- behind day and man the books are as they were -/
noncomputable def Bo (h : Hp_) (day c : Nat) (h2 : Hp_) : Prop := Iv h2 ∧ Fr wzE h h2 ∧ ∀ c' day', c' < 12 → day' < 31 → (day < day' ∨ (day' = day ∧ c ≤ c')) → h_i h2 293 (31 * c' + day') = h_i h 293 (31 * c' + day')
theorem lines_in {h : Hp_} (I : Iv h) : rin (h_i h 1 127).toInt (0, 600) := by
  have := I.2.1 1 127
  rwa [show tf 1 127 = (0, 600) by decide +kernel] at this
theorem bk_100 (d : Nat) {h : Hp_} {M D : Nat} {P : Nat → Nat → Int32} (B : Bk d h M D P) (x1 : Int32) (day : Nat) (hd : day < D) (R : Nat)
    (O : ∀ h3, Bo h (day + 1) 0 h3 → (h_i h3 1 127).toInt + (R : Int) ≤ 600 → AW (m_X12_book (d + 8) 0 0) 0 0 86 [(0, .ref 1), (1, .int x1), (2, .int (Int32.ofNat (day + 1)))] [] h3 (bK h)) :
    ∀ (n c : Nat) (h2 : Hp_), c + n = M → Bo h day c h2 → (h_i h2 1 127).toInt + ((bkR P (h_i h 293) day n c + R : Nat) : Int) ≤ 600 → AW (m_X12_book (d + 8) 0 0) 0 0 100 [(0, .ref 1), (1, .int x1), (2, .int (Int32.ofNat day)), (3, .int (Int32.ofNat c))] [] h2 (bK h) := by
  obtain ⟨I, lM, lD, e7, eD, hP⟩ := B
  have oM := on_j (n := M) (by omega)
  have t1 : (1 : Int32).toInt = 1 := rfl
  intro n
  induction n with
  | zero =>
    intro c h2 e b m
    have oc := on_j (n := c) (by omega)
    refine t_X12_book_100 d h2 b.1.1 x1 _ _ _ ⟨fun _ => ?_, fun z => ?_⟩
    · rw [on_s (by omega)]
      refine O h2 ⟨b.1, b.2.1, fun c' day' h1 h2' o => b.2.2 c' day' h1 h2' ?_⟩ ?_
      · rcases o with u | u
        · exact Or.inl (by omega)
        · exact Or.inl (by omega)
      · have m' : (h_i h2 1 127).toInt + ((0 + R : Nat) : Int) ≤ 600 := m
        omega
    · rw [(b.2.1.2 1 7 (by decide +kernel)).1, e7] at z
      have z := q_nle z
      omega
  | succ n ih =>
    intro c h2 e b m
    have oc := on_j (n := c) (by omega)
    obtain ⟨jx, vx⟩ := ix31 (c := c) (day := day) (by omega) (by omega)
    have m' : (h_i h2 1 127).toInt + ((((if P c day = h_i h 293 (31 * c + day) then 0 else 1) + bkR P (h_i h 293) day n (c + 1)) + R : Nat) : Int) ≤ 600 := m
    refine t_X12_book_100 d h2 b.1.1 x1 _ _ _ ⟨fun z => ?_, fun _ => ?_⟩
    · rw [(b.2.1.2 1 7 (by decide +kernel)).1, e7] at z
      have z := q_le.mp z
      omega
    · rw [(b.2.1.2 1 0 (by decide +kernel)).1]
      refine Ci.mono (hP c day (by omega) h2 b.1 b.2.1) (fun r h3 k => ?_)
      obtain ⟨kr, I3, F3⟩ := k
      have F' : Fr wzE h h3 := b.2.1.tr (F3.more (by decide +kernel))
      have l3 : h_i h3 1 127 = h_i h2 1 127 := (F3.2 1 127 (by decide +kernel)).1
      have b3 : ∀ k, h_i h3 293 k = h_i h2 293 k := fun k => fr_i F3 (by decide +kernel) k
      have bc := b.2.2 c day (by omega) (by omega) (Or.inr ⟨rfl, Nat.le_refl _⟩)
      refine ⟨I3.1, vx, fun er => ?_, fun nr => ?_⟩
      · rw [jx, b3, bc, kr] at er
        rw [if_pos er] at m'
        rw [on_s (by omega)]
        refine ih (c + 1) h3 (by omega) ⟨I3, F', fun c' day' h1 h2' o => ?_⟩ (by rw [l3]; omega)
        rw [b3]
        refine b.2.2 c' day' h1 h2' ?_
        rcases o with u | u
        · exact Or.inl u
        · exact Or.inr ⟨u.1, by omega⟩
      · rw [jx, b3, bc, kr] at nr
        rw [if_neg nr] at m'
        have lr := lines_in I3
        have l0 : 0 ≤ (h_i h3 1 127).toInt := lr.1
        have l1 : (h_i h3 1 127).toInt ≤ 599 := by rw [l3]; omega
        have vl : vp_in (h_i h3 1 127) 600 := dp_in (lo := 0) (hi := 599) ⟨l0, by show _ ≤ (599 : Int); omega⟩ (by decide) (by decide)
        have ex : (h_i h3 1 127 + 1).toInt = (h_i h3 1 127).toInt + 1 := by rw [tx_add (by rw [t1]; omega) (by rw [t1]; omega), t1]
        refine ⟨vl, vl, vx, vl, vl, vx, ?_⟩
        rw [jx, on_s (by omega)]
        have l5 : (h_i h2 1 127).toInt = (h_i h3 1 127).toInt := by rw [l3]
        generalize (r - h_i h3 293 (31 * c + day)) = x9
        generalize (h_i h3 1 127).toNatClampNeg = kl
        have I4 : Iv (h_im (h_im (h_im (h_im (h_im (h_im h3 294 kl (Int32.ofNat c)) 295 kl (Int32.ofNat day)) 296 kl x9) 297 kl (h_i h3 1 0)) 1 127 ((h_i h3 1 127) + 1)) 293 (31 * c + day) r) := i2xx 293 (by decide +kernel) (by decide) (by decide) ((i2xx 297 (by decide +kernel) (by decide) (by decide) (i2xx 296 (by decide +kernel) (by decide) (by decide) (i2xx 295 (by decide +kernel) (by decide) (by decide) (i2xx 294 (by decide +kernel) (by decide) (by decide) I3 _ _) _ _) _ _) _ _).im (a := 1) (k := 127) (by rw [show tf 1 127 = (0, 600) by decide +kernel, ex]; exact ⟨by show (0 : Int) ≤ _; omega, by show _ ≤ (600 : Int); omega⟩) (by decide)) _ _
        refine ih (c + 1) _ (by omega) ⟨I4, (((((F'.im (inw_row (by decide +kernel) _)).im (inw_row (by decide +kernel) _)).im (inw_row (by decide +kernel) _)).im (inw_row (by decide +kernel) _)).im (by decide +kernel)).im (inw_row (by decide +kernel) _), fun c' day' h1 h2' o => ?_⟩ ?_
        · rw [h_i_im, if_neg (fun u => by
            have := u.2
            rcases o with v | v
            · omega
            · omega), im_ne (by decide), im_ne (by decide), im_ne (by decide), im_ne (by decide), im_ne (by decide), b3]
          refine b.2.2 c' day' h1 h2' ?_
          rcases o with u | u
          · exact Or.inl u
          · exact Or.inr ⟨u.1, by omega⟩
        · rw [im_ne (by decide), im_at, ex]
          omega
theorem bk_86 (d : Nat) {h : Hp_} {M D : Nat} {P : Nat → Nat → Int32} (B : Bk d h M D P) (x1 : Int32) :
    ∀ (n day : Nat) (h2 : Hp_), day + n = D → Bo h day 0 h2 → (h_i h2 1 127).toInt + (bkT P (h_i h 293) M n day : Int) ≤ 600 → AW (m_X12_book (d + 8) 0 0) 0 0 86 [(0, .ref 1), (1, .int x1), (2, .int (Int32.ofNat day))] [] h2 (bK h) := by
  have B' := B
  obtain ⟨I, lM, lD, e7, eD, hP⟩ := B'
  have oD := on_j (n := D) (by omega)
  intro n
  induction n with
  | zero =>
    intro day h2 e b m
    have od := on_j (n := day) (by omega)
    refine t_X12_book_86 d h2 b.1.1 x1 _ _ ⟨fun _ => ⟨b.1, b.2.1⟩, fun z => ?_⟩
    rw [(b.2.1.2 1 0 (by decide +kernel)).1, eD] at z
    have z := q_nle z
    omega
  | succ n ih =>
    intro day h2 e b m
    have od := on_j (n := day) (by omega)
    refine t_X12_book_86 d h2 b.1.1 x1 _ _ ⟨fun z => ?_, fun _ => ?_⟩
    · rw [(b.2.1.2 1 0 (by decide +kernel)).1, eD] at z
      have z := q_le.mp z
      omega
    · exact bk_100 d B x1 day (by omega) (bkT P (h_i h 293) M n (day + 1)) (fun h3 b3 m3 => ih (day + 1) h3 (by omega) b3 m3) M 0 h2 (by omega) b m
theorem bk_18 (d : Nat) {h : Hp_} {M D : Nat} {P : Nat → Nat → Int32} (B : Bk d h M D P) (T day : Nat) (hT : T ≤ 156) (hd : day < D) (R : Nat)
    (O : ∀ (x1 : Int32) (h3 : Hp_), Iv h3 → Fr wzL h h3 → 0 ≤ x1.toInt → x1.toInt + (R : Int) = T → AW (m_X12_book (d + 8) 0 0) 0 0 4 [(0, .ref 1), (1, .int x1), (2, .int (Int32.ofNat (day + 1)))] [] h3 (bK h)) :
    ∀ (n c : Nat) (x1 : Int32) (h2 : Hp_), c + n = M → Iv h2 → Fr wzL h h2 → 0 ≤ x1.toInt → x1.toInt + ((bkR P (h_i h 293) day n c + R : Nat) : Int) = T → AW (m_X12_book (d + 8) 0 0) 0 0 18 [(0, .ref 1), (1, .int x1), (2, .int (Int32.ofNat day)), (3, .int (Int32.ofNat c))] [] h2 (bK h) := by
  obtain ⟨I, lM, lD, e7, eD, hP⟩ := B
  have oM := on_j (n := M) (by omega)
  have t1 : (1 : Int32).toInt = 1 := rfl
  have t0 : (0 : Int32).toInt = 0 := rfl
  intro n
  induction n with
  | zero =>
    intro c x1 h2 e I2 F p m
    have oc := on_j (n := c) (by omega)
    refine t_X12_book_18 d h2 I2.1 x1 _ _ _ ⟨fun _ => ?_, fun z => ?_⟩
    · rw [on_s (by omega)]
      have m' : x1.toInt + ((0 + R : Nat) : Int) = T := m
      exact O x1 h2 I2 F p (by omega)
    · rw [(F.2 1 7 (by decide +kernel)).1, e7] at z
      have z := q_nle z
      omega
  | succ n ih =>
    intro c x1 h2 e I2 F p m
    have oc := on_j (n := c) (by omega)
    obtain ⟨jx, vx⟩ := ix31 (c := c) (day := day) (by omega) (by omega)
    have m' : x1.toInt + ((((if P c day = h_i h 293 (31 * c + day) then 0 else 1) + bkR P (h_i h 293) day n (c + 1)) + R : Nat) : Int) = T := m
    refine t_X12_book_18 d h2 I2.1 x1 _ _ _ ⟨fun z => ?_, fun _ => ?_⟩
    · rw [(F.2 1 7 (by decide +kernel)).1, e7] at z
      have z := q_le.mp z
      omega
    · rw [(F.2 1 0 (by decide +kernel)).1]
      refine Ci.mono (hP c day (by omega) h2 I2 (F.more (by decide +kernel))) (fun r h3 k => ?_)
      obtain ⟨kr, I3, F3⟩ := k
      have F' : Fr wzL h h3 := F.tr F3
      have b3 : h_i h3 293 (31 * c + day) = h_i h 293 (31 * c + day) := fr_i F' (by decide +kernel) _
      refine ⟨I3.1, vx, fun er => ?_, fun nr => ?_⟩
      · rw [jx, b3, kr] at er
        rw [if_pos er] at m'
        have ea : (x1 + 0).toInt = x1.toInt := by rw [tx_add (by rw [t0]; omega) (by rw [t0]; omega), t0]; omega
        rw [on_s (by omega)]
        exact ih (c + 1) _ h3 (by omega) I3 F' (by omega) (by rw [ea]; omega)
      · rw [jx, b3, kr] at nr
        rw [if_neg nr] at m'
        have ea : (x1 + 1).toInt = x1.toInt + 1 := by rw [tx_add (by rw [t1]; omega) (by rw [t1]; omega), t1]
        rw [on_s (by omega)]
        exact ih (c + 1) _ h3 (by omega) I3 F' (by omega) (by rw [ea]; omega)
theorem bk_4 (d : Nat) {h : Hp_} {M D : Nat} {P : Nat → Nat → Int32} (B : Bk d h M D P) :
    ∀ (n day : Nat) (x1 : Int32) (h2 : Hp_), day + n = D → Iv h2 → Fr wzL h h2 → 0 ≤ x1.toInt → x1.toInt + (bkT P (h_i h 293) M n day : Int) = (bkT P (h_i h 293) M D 0 : Int) → AW (m_X12_book (d + 8) 0 0) 0 0 4 [(0, .ref 1), (1, .int x1), (2, .int (Int32.ofNat day))] [] h2 (bK h) := by
  have B' := B
  obtain ⟨I, lM, lD, e7, eD, hP⟩ := B'
  have oD := on_j (n := D) (by omega)
  have tl := bkT_le (P := P) (bk := h_i h 293) lM (n := D) (day := 0)
  intro n
  induction n with
  | zero =>
    intro day x1 h2 e I2 F p m
    have od := on_j (n := day) (by omega)
    have m' : x1.toInt + ((0 : Nat) : Int) = (bkT P (h_i h 293) M D 0 : Int) := m
    have F' : Fr wzE h h2 := F.more (by decide +kernel)
    have l2 : h_i h2 1 127 = h_i h 1 127 := (F.2 1 127 (by decide +kernel)).1
    refine t_X12_book_4 d h2 I2.1 x1 _ _ ⟨fun _ => ⟨fun le => ?_, fun _ => ⟨I2, F'⟩⟩, fun z => ?_⟩
    · have le := q_le.mp le
      have lr := lines_in I2
      have l0 : 0 ≤ (h_i h2 1 127).toInt := lr.1
      have l1 : (h_i h2 1 127).toInt ≤ 600 := lr.2
      have ea : (h_i h2 1 127 + x1).toInt = (h_i h2 1 127).toInt + x1.toInt := tx_add (by omega) (by omega)
      have t6 : (600 : Int32).toInt = 600 := rfl
      rw [ea, t6] at le
      exact bk_86 d B x1 D 0 h2 (by omega) ⟨I2, F', fun c' day' _ _ _ => fr_i F (by decide +kernel) _⟩ (by omega)
    · rw [(F.2 1 0 (by decide +kernel)).1, eD] at z
      have z := q_nle z
      omega
  | succ n ih =>
    intro day x1 h2 e I2 F p m
    have od := on_j (n := day) (by omega)
    refine t_X12_book_4 d h2 I2.1 x1 _ _ ⟨fun z => ?_, fun _ => ?_⟩
    · rw [(F.2 1 0 (by decide +kernel)).1, eD] at z
      have z := q_le.mp z
      omega
    · exact bk_18 d B (bkT P (h_i h 293) M D 0) day (by omega) (by omega) (bkT P (h_i h 293) M n (day + 1)) (fun x1' h3 I3 F3 p3 m3 => ih (day + 1) x1' h3 (by omega) I3 F3 p3 m3) M 0 x1 h2 (by omega) I2 F p m
theorem c_book (d : Nat) {h : Hp_} (I : Iv h) : Ci (m_X12_book (d + 8) 0 0) [.ref 1] h (fun _ h' => Iv h' ∧ Fr wzE h h') := by
  have mr := men_in I
  have m0 : 0 ≤ (h_i h 1 7).toInt := mr.1
  have m1 : (h_i h 1 7).toInt ≤ 12 := mr.2
  have nm := n_nat m0
  have nr := I.2.1 1 0
  rw [show tf 1 0 = (0, 20000) by decide +kernel] at nr
  have n0 : 0 ≤ (h_i h 1 0).toInt := nr.1
  have n1 : (h_i h 1 0).toInt ≤ 20000 := nr.2
  have t14 : (1440 : Int32).toInt = 1440 := rfl
  have dv : (h_i h 1 0 / 1440).toInt = (h_i h 1 0).toInt / 1440 := by rw [ti_div n0 (by rw [t14]; decide), t14]
  have d0 : 0 ≤ (h_i h 1 0 / 1440).toInt := by rw [dv]; omega
  have d1 : (h_i h 1 0 / 1440).toInt ≤ 13 := by rw [dv]; omega
  have nd := n_nat d0
  obtain ⟨P, hP⟩ : ∃ P : Nat → Nat → Int32, ∀ c day, c < 12 → ∀ h2, Iv h2 → Fr wzE h h2 → Ci (m_X12_payOf (d + 7) 0 0) [.ref 1, .int (Int32.ofNat c), .int (Int32.ofNat day), .int (h_i h 1 0)] h2 (Dp (P c day) h2) := by
    have q : ∀ c day, ∃ r, c < 12 → ∀ h2, Iv h2 → Fr wzE h h2 → Ci (m_X12_payOf (d + 7) 0 0) [.ref 1, .int (Int32.ofNat c), .int (Int32.ofNat day), .int (h_i h 1 0)] h2 (Dp r h2) := by
      intro c day
      by_cases hc : c < 12
      · obtain ⟨r, hr⟩ := d_payOf d I c hc (Int32.ofNat day) (h_i h 1 0)
        exact ⟨r, fun _ => hr⟩
      · exact ⟨0, fun y => absurd y hc⟩
    exact ⟨fun c day => Classical.choose (q c day), fun c day => Classical.choose_spec (q c day)⟩
  have B : Bk d h (h_i h 1 7).toNatClampNeg (h_i h 1 0 / 1440).toNatClampNeg P := ⟨I, by omega, by omega, (of_nat32 m0).symm, (of_nat32 d0).symm, hP⟩
  exact t_X12_book d h _ (bk_4 d B (h_i h 1 0 / 1440).toNatClampNeg 0 0 h (by omega) I (Fr.rf _ _) (by decide) (by rw [show (0 : Int32).toInt = 0 from rfl]; omega))
end
section
/-! p1: words for the walks on a fresh object -/
section PB
variable {M : Mc_} {kc ks pc : Nat} {lv : List (Nat × Value)} {st : List Value} {h : Hp_} {K : Option Value → Hp_ → Prop}
end PB
theorem i32_lt {x y : Int32} (h : x < y) : x.toInt < y.toInt := Int32.lt_iff_toInt_lt.mp h
theorem rr1 {y' y : MethodName} {cc' cc : ByteArray} {nL' nL : Nat} {ret' ret : Option FieldType} {d h' H mc ms mc' ms' kc ks : Nat} (h1 : h' + 1 ≤ H) (h2 : nL' ≤ 81) (h3 : kc + mc' ≤ mc) (h4 : ks + ms' ≤ ms) : rr_ (fun _ _ _ => True, y', cc', nL', ret', { frames := d + h', cells := mc', slots := ms', locals := 100 * (d + h') }) (fun _ _ _ => True, y, cc, nL, ret, { frames := d + H, cells := mc, slots := ms, locals := 100 * (d + H) }) kc ks :=
  ⟨⟨(show d + h' + 1 ≤ d + H by omega), (show 8 + (nL' + 11) + 100 * (d + h') ≤ 100 * (d + H) by omega)⟩, h3, h4⟩
/-- the first i places of a row are told anew -/
noncomputable def fl_ (f g : Nat → Int32) (i : Nat) : Nat → Int32 := fun k => if k < i then f k else g k
theorem fl_0 (f g : Nat → Int32) : fl_ f g 0 = g := by funext k; unfold fl_; rw [if_neg (by omega)]
theorem iw_id (h : Hp_) (a : Nat) : h_iw h a (h_i h a) = h := by
  unfold h_iw
  have e : va_up h.2.1 a (h_i h a) = h.2.1 := by
    funext b
    by_cases z : b = a
    · subst z; rw [va_up_at]; rfl
    · rw [va_up_off _ _ z]
  rw [e]
theorem iw_0 (h : Hp_) (a : Nat) (f : Nat → Int32) : h_iw h a (fl_ f (h_i h a) 0) = h := by rw [fl_0, iw_id]
theorem iw_iw (h : Hp_) (a : Nat) (f g : Nat → Int32) : h_iw (h_iw h a f) a g = h_iw h a g := by
  unfold h_iw
  have e : va_up (va_up h.2.1 a f) a g = va_up h.2.1 a g := by
    funext b
    by_cases z : b = a
    · subst z; rw [va_up_at, va_up_at]
    · rw [va_up_off _ _ z, va_up_off _ _ z, va_up_off _ _ z]
  rw [e]
theorem iw_st (h : Hp_) (a i : Nat) (f g : Nat → Int32) : h_im (h_iw h a (fl_ f g i)) a i (f i) = h_iw h a (fl_ f g (i + 1)) := by
  rw [h_im_iw, iw_iw]
  congr 1
  funext k
  rw [h_i_iw, if_pos rfl]
  show (if k = i then f i else fl_ f g i k) = fl_ f g (i + 1) k
  unfold fl_
  by_cases z : k = i
  · subst z; rw [if_pos rfl, if_pos (by omega)]
  · rw [if_neg z]
    by_cases y : k < i
    · rw [if_pos y, if_pos (by omega)]
    · rw [if_neg y, if_neg (by omega)]
/-- a counter of a loop, as an int -/
theorem on_nat {i : Nat} (h : i < 2147483648) : (Int32.ofNat i).toNatClampNeg = i := by
  unfold Int32.toNatClampNeg
  rw [Int32.toInt_ofNat_of_lt h]
  omega
theorem on_int {i : Nat} (h : i < 2147483648) : (Int32.ofNat i).toInt = (i : Int) := Int32.toInt_ofNat_of_lt h
theorem on_suc (i : Nat) : Int32.ofNat i + 1 = Int32.ofNat (i + 1) := (Int32.ofNat_add i 1).symm
theorem on_inp {i n : Nat} (h : i < n) (hn : n < 2147483648) : vp_in (Int32.ofNat i) n := by
  unfold vp_in
  rintro (z | z)
  · have z1 := i32_lt z
    rw [on_int (by omega), show (0 : Int32).toInt = 0 from by decide] at z1
    omega
  · rw [on_nat (by omega)] at z
    omega
theorem on_le {i j : Nat} (hi : i < 2147483648) (hj : j < 2147483648) : Int32.ofNat i ≤ Int32.ofNat j ↔ i ≤ j := by
  rw [Int32.le_iff_toInt_le, on_int hi, on_int hj]
  omega
theorem nn_step {h : Hp_} {k hi t n c s : Nat} {r : Option Nat} (hn : ∀ a, k ≤ a → a < hi → h_sh h a = none) : ∀ a, k + 1 ≤ a → a < hi → h_sh (h_rm (h_nw h k t n) c s r) a = none := fun a h1 h2 => by
  rw [h_sh_rm, h_sh_nw, if_neg (by omega)]
  exact hn a (by omega) h2
theorem ss_step {h : Hp_} {k t n c c' s : Nat} {r : Option Nat} {x : Option (Nat × Nat)} (hs : h_sh h c = x) (hk : c ≠ k) : h_sh (h_rm (h_nw h k t n) c' s r) c = x := by
  rw [h_sh_rm, h_sh_nw, if_neg hk]
  exact hs
theorem s_J7_fill (d : Nat) (h : Hp_) (a n : Nat) (v : Int32) (hs : h_sh h a = some (0, n)) (hn : n < 2147483648) : Cv (m_J7_fill_53178 (d + 0) 0 0) [.ref a, .int v] h (fun h' => h' = h_iw h a (fl_ (fun _ => v) (h_i h a) n)) := by
  refine Ct.of (fun _ _ _ => trivial) rfl (Nat.le_of_ble_eq_true rfl) ?_
  show AW (m_J7_fill_53178 (d + 0) 0 0) 0 0 0 [(0, .ref a), (1, .int v)] [] h (kV _)
  refine aw_iconst (v := 0) d_J7_fill_53178_0 ic_0 ?_
  refine aw_istore_n (i := 2) rfl [(0, .ref a), (1, .int v), (2, .int 0)] d_J7_fill_53178_1 (Nat.le_of_ble_eq_true rfl) rfl rfl ?_
  refine aw_aload_n (i := 0) rfl d_J7_fill_53178_2 0 rfl ?_
  refine aw_alen (v := Int32.ofNat n) hs (Nat.le_of_ble_eq_true rfl) rfl d_J7_fill_53178_3 ?_
  refine aw_istore_n (i := 3) rfl [(0, .ref a), (1, .int v), (2, .int 0), (3, .int (Int32.ofNat n))] d_J7_fill_53178_4 (Nat.le_of_ble_eq_true rfl) rfl rfl ?_
  have key : ∀ r i : Nat, r + i = n → AW (m_J7_fill_53178 (d + 0) 0 0) 0 0 5 [(0, .ref a), (1, .int v), (2, .int (Int32.ofNat i)), (3, .int (Int32.ofNat n))] [] (h_iw h a (fl_ (fun _ => v) (h_i h a) i)) (kV (fun h' => h' = h_iw h a (fl_ (fun _ => v) (h_i h a) n))) := by
    intro r
    induction r with
    | zero =>
      intro i hi
      have e : i = n := by omega
      subst e
      refine aw_iload_n (i := 2) rfl d_J7_fill_53178_5 2 rfl ?_
      refine aw_iload_n (i := 3) rfl d_J7_fill_53178_6 3 rfl ?_
      refine aw_icmp_ge (tgt := 20) d_J7_fill_53178_7 rfl (fun _ => ?_) (fun c => absurd (Int32.le_refl _) c)
      exact aw_vret rfl d_J7_fill_53178_20 ⟨Nat.le_refl _, Nat.le_refl _⟩ ⟨rfl, rfl⟩
    | succ r ih =>
      intro i hi
      refine aw_iload_n (i := 2) rfl d_J7_fill_53178_5 2 rfl ?_
      refine aw_iload_n (i := 3) rfl d_J7_fill_53178_6 3 rfl ?_
      refine aw_icmp_ge (tgt := 20) d_J7_fill_53178_7 rfl (fun c => absurd ((on_le hn (by omega)).mp c) (by omega)) (fun _ => ?_)
      refine aw_aload_n (i := 0) rfl d_J7_fill_53178_10 0 rfl ?_
      refine aw_iload_n (i := 2) rfl d_J7_fill_53178_11 2 rfl ?_
      refine aw_iload_n (i := 1) rfl d_J7_fill_53178_12 1 rfl ?_
      refine aw_iast hs (on_inp (by omega) hn) d_J7_fill_53178_13 ?_
      refine aw_iinc (v := Int32.ofNat (i + 1)) [(0, .ref a), (1, .int v), (2, .int (Int32.ofNat (i + 1))), (3, .int (Int32.ofNat n))] d_J7_fill_53178_14 2 rfl (on_suc i) (Nat.le_of_ble_eq_true rfl) rfl rfl ?_
      refine aw_goto (tgt := 5) d_J7_fill_53178_17 rfl ?_
      rw [on_nat (by omega), iw_st h a i (fun _ => v) (h_i h a)]
      exact ih (i + 1) (by omega)
  have k := key n 0 (by omega)
  rw [iw_0] at k
  exact k
theorem vin_c {x : Int32} {n : Nat} (h : ¬ (x < 0 ∨ n ≤ x.toNatClampNeg)) : vp_in x n := h
end
