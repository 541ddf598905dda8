theorem t_X12_both (d : Nat) (h : Hp_) (x0 : Int32) (x1 : Int32) (x2 : Int32) (K : Int32 → Hp_ → Prop) (k : (x0 = 38 → (x1 = 0 → K 0 h) ∧ (¬ x1 = 0 → (x2 = 0 → K 0 h) ∧ (¬ x2 = 0 → K 1 h))) ∧ ((x0 = 42 → Ci (m_X12_bounded (d + 1) 0 0) [.long (((x1 : Int32).toInt64) * ((x2 : Int32).toInt64))] h (fun r7 h5 => Wf h5 ∧ (K r7 h5))) ∧ ((x0 = 43 → Ci (m_X12_bounded (d + 1) 0 0) [.long (((x1 : Int32).toInt64) + ((x2 : Int32).toInt64))] h (fun r11 h9 => Wf h9 ∧ (K r11 h9))) ∧ ((x0 = 45 → Ci (m_X12_bounded (d + 1) 0 0) [.long (((x1 : Int32).toInt64) - ((x2 : Int32).toInt64))] h (fun r15 h13 => Wf h13 ∧ (K r15 h13))) ∧ ((x0 = 60 → (x2 ≤ x1 → K 0 h) ∧ (¬ x2 ≤ x1 → K 1 h)) ∧ ((x0 = 61 → (¬ x1 = x2 → K 0 h) ∧ (x1 = x2 → K 1 h)) ∧ ((x0 = 62 → (x1 ≤ x2 → K 0 h) ∧ (¬ x1 ≤ x2 → K 1 h)) ∧ ((¬ x0 = 38 ∧ ¬ x0 = 42 ∧ ¬ x0 = 43 ∧ ¬ x0 = 45 ∧ ¬ x0 = 60 ∧ ¬ x0 = 61 ∧ ¬ x0 = 62 → (¬ x1 = 0 → K 1 h) ∧ (x1 = 0 → (x2 = 0 → K 0 h) ∧ (¬ x2 = 0 → K 1 h))))))))))) : Ci (m_X12_both (d + 2) 0 0) [.int x0, .int x1, .int x2] h K := by
  refine Ct.of (fun _ _ _ => trivial) rfl (Nat.le_of_ble_eq_true rfl) ?_
  show AW (m_X12_both (d + 2) 0 0) 0 0 0 [(0, .int x0), (1, .int x1), (2, .int x2)] [] h (kI K)
  refine aw_iload_n (i := 0) rfl d_X12_both_0 0 rfl ?_
  by_cases e1 : x0 = 38
  · refine aw_tableIn (off := 175) (tgt := 176) d_X12_both_1 (by rw [e1]; decide) (by rw [e1]; decide) (by rw [e1]; decide) rfl ?_
    have k := k.1 e1
    refine aw_iload_n (i := 1) rfl d_X12_both_176 1 rfl ?_
    refine aw_if_eq (tgt := 188) d_X12_both_177 rfl (fun c2 => ?_) (fun c2 => ?_)
    · have k := k.1 c2
      refine aw_iconst (v := 0) d_X12_both_188 ic_0 ?_
      exact aw_iret rfl d_X12_both_189 ⟨Nat.le_refl _, Nat.le_refl _⟩ ⟨_, rfl, k⟩
    · have k := k.2 c2
      refine aw_iload_n (i := 2) rfl d_X12_both_180 2 rfl ?_
      refine aw_if_eq (tgt := 188) d_X12_both_181 rfl (fun c3 => ?_) (fun c3 => ?_)
      · have k := k.1 c3
        refine aw_iconst (v := 0) d_X12_both_188 ic_0 ?_
        exact aw_iret rfl d_X12_both_189 ⟨Nat.le_refl _, Nat.le_refl _⟩ ⟨_, rfl, k⟩
      · have k := k.2 c3
        refine aw_iconst (v := 1) d_X12_both_184 ic_1 ?_
        refine aw_goto (tgt := 189) d_X12_both_185 rfl ?_
        exact aw_iret rfl d_X12_both_189 ⟨Nat.le_refl _, Nat.le_refl _⟩ ⟨_, rfl, k⟩
  · have k := k.2
    by_cases e4 : x0 = 42
    · refine aw_tableIn (off := 133) (tgt := 134) d_X12_both_1 (by rw [e4]; decide) (by rw [e4]; decide) (by rw [e4]; decide) rfl ?_
      have k := k.1 e4
      refine aw_iload_n (i := 1) rfl d_X12_both_134 1 rfl ?_
      refine aw_i2l d_X12_both_135 ?_
      refine aw_iload_n (i := 2) rfl d_X12_both_136 2 rfl ?_
      refine aw_i2l d_X12_both_137 ?_
      refine aw_lmul d_X12_both_138 ?_
      refine aw_Si [.long (((x1 : Int32).toInt64) * ((x2 : Int32).toInt64))] [] d_X12_both_139 (cS_X12_bounded (d + 1) 0 0) tw_2435 rfl (rr0 (Nat.le_of_ble_eq_true rfl) (Nat.le_of_ble_eq_true rfl)) (Nat.le_of_ble_eq_true rfl) xs0 k (fun r7 h5 kk => ?_)
      obtain ⟨w6, k⟩ := kk
      exact aw_iret rfl d_X12_both_142 ⟨Nat.le_refl _, Nat.le_refl _⟩ ⟨_, rfl, k⟩
    · have k := k.2
      by_cases e8 : x0 = 43
      · refine aw_tableIn (off := 115) (tgt := 116) d_X12_both_1 (by rw [e8]; decide) (by rw [e8]; decide) (by rw [e8]; decide) rfl ?_
        have k := k.1 e8
        refine aw_iload_n (i := 1) rfl d_X12_both_116 1 rfl ?_
        refine aw_i2l d_X12_both_117 ?_
        refine aw_iload_n (i := 2) rfl d_X12_both_118 2 rfl ?_
        refine aw_i2l d_X12_both_119 ?_
        refine aw_ladd d_X12_both_120 ?_
        refine aw_Si [.long (((x1 : Int32).toInt64) + ((x2 : Int32).toInt64))] [] d_X12_both_121 (cS_X12_bounded (d + 1) 0 0) tw_2435 rfl (rr0 (Nat.le_of_ble_eq_true rfl) (Nat.le_of_ble_eq_true rfl)) (Nat.le_of_ble_eq_true rfl) xs0 k (fun r11 h9 kk => ?_)
        obtain ⟨w10, k⟩ := kk
        exact aw_iret rfl d_X12_both_124 ⟨Nat.le_refl _, Nat.le_refl _⟩ ⟨_, rfl, k⟩
      · have k := k.2
        by_cases e12 : x0 = 45
        · refine aw_tableIn (off := 124) (tgt := 125) d_X12_both_1 (by rw [e12]; decide) (by rw [e12]; decide) (by rw [e12]; decide) rfl ?_
          have k := k.1 e12
          refine aw_iload_n (i := 1) rfl d_X12_both_125 1 rfl ?_
          refine aw_i2l d_X12_both_126 ?_
          refine aw_iload_n (i := 2) rfl d_X12_both_127 2 rfl ?_
          refine aw_i2l d_X12_both_128 ?_
          refine aw_lsub d_X12_both_129 ?_
          refine aw_Si [.long (((x1 : Int32).toInt64) - ((x2 : Int32).toInt64))] [] d_X12_both_130 (cS_X12_bounded (d + 1) 0 0) tw_2435 rfl (rr0 (Nat.le_of_ble_eq_true rfl) (Nat.le_of_ble_eq_true rfl)) (Nat.le_of_ble_eq_true rfl) xs0 k (fun r15 h13 kk => ?_)
          obtain ⟨w14, k⟩ := kk
          exact aw_iret rfl d_X12_both_133 ⟨Nat.le_refl _, Nat.le_refl _⟩ ⟨_, rfl, k⟩
        · have k := k.2
          by_cases e16 : x0 = 60
          · refine aw_tableIn (off := 153) (tgt := 154) d_X12_both_1 (by rw [e16]; decide) (by rw [e16]; decide) (by rw [e16]; decide) rfl ?_
            have k := k.1 e16
            refine aw_iload_n (i := 1) rfl d_X12_both_154 1 rfl ?_
            refine aw_iload_n (i := 2) rfl d_X12_both_155 2 rfl ?_
            refine aw_icmp_ge (tgt := 163) d_X12_both_156 rfl (fun c17 => ?_) (fun c17 => ?_)
            · have k := k.1 c17
              refine aw_iconst (v := 0) d_X12_both_163 ic_0 ?_
              exact aw_iret rfl d_X12_both_164 ⟨Nat.le_refl _, Nat.le_refl _⟩ ⟨_, rfl, k⟩
            · have k := k.2 c17
              refine aw_iconst (v := 1) d_X12_both_159 ic_1 ?_
              refine aw_goto (tgt := 164) d_X12_both_160 rfl ?_
              exact aw_iret rfl d_X12_both_164 ⟨Nat.le_refl _, Nat.le_refl _⟩ ⟨_, rfl, k⟩
          · have k := k.2
            by_cases e18 : x0 = 61
            · refine aw_tableIn (off := 142) (tgt := 143) d_X12_both_1 (by rw [e18]; decide) (by rw [e18]; decide) (by rw [e18]; decide) rfl ?_
              have k := k.1 e18
              refine aw_iload_n (i := 1) rfl d_X12_both_143 1 rfl ?_
              refine aw_iload_n (i := 2) rfl d_X12_both_144 2 rfl ?_
              refine aw_icmp_ne (tgt := 152) d_X12_both_145 rfl (fun c19 => ?_) (fun c19 => ?_)
              · have k := k.1 c19
                refine aw_iconst (v := 0) d_X12_both_152 ic_0 ?_
                exact aw_iret rfl d_X12_both_153 ⟨Nat.le_refl _, Nat.le_refl _⟩ ⟨_, rfl, k⟩
              · have k := k.2 c19
                refine aw_iconst (v := 1) d_X12_both_148 ic_1 ?_
                refine aw_goto (tgt := 153) d_X12_both_149 rfl ?_
                exact aw_iret rfl d_X12_both_153 ⟨Nat.le_refl _, Nat.le_refl _⟩ ⟨_, rfl, k⟩
            · have k := k.2
              by_cases e20 : x0 = 62
              · refine aw_tableIn (off := 164) (tgt := 165) d_X12_both_1 (by rw [e20]; decide) (by rw [e20]; decide) (by rw [e20]; decide) rfl ?_
                have k := k.1 e20
                refine aw_iload_n (i := 1) rfl d_X12_both_165 1 rfl ?_
                refine aw_iload_n (i := 2) rfl d_X12_both_166 2 rfl ?_
                refine aw_icmp_le (tgt := 174) d_X12_both_167 rfl (fun c21 => ?_) (fun c21 => ?_)
                · have k := k.1 c21
                  refine aw_iconst (v := 0) d_X12_both_174 ic_0 ?_
                  exact aw_iret rfl d_X12_both_175 ⟨Nat.le_refl _, Nat.le_refl _⟩ ⟨_, rfl, k⟩
                · have k := k.2 c21
                  refine aw_iconst (v := 1) d_X12_both_170 ic_1 ?_
                  refine aw_goto (tgt := 175) d_X12_both_171 rfl ?_
                  exact aw_iret rfl d_X12_both_175 ⟨Nat.le_refl _, Nat.le_refl _⟩ ⟨_, rfl, k⟩
              · have k := k.2
                have k := k ⟨e1, e4, e8, e12, e16, e18, e20⟩
                have n24 := sw_ne (38) (by decide) e1
                have n25 := sw_ne (42) (by decide) e4
                have n26 := sw_ne (43) (by decide) e8
                have n27 := sw_ne (45) (by decide) e12
                have n28 := sw_ne (60) (by decide) e16
                have n29 := sw_ne (61) (by decide) e18
                have n30 := sw_ne (62) (by decide) e20
                refine aw_tableD (tgt := 190) d_X12_both_1 (by
                  rcases (show (x0 : Int32).toInt < 38 ∨ 62 < (x0 : Int32).toInt ∨ (x0 : Int32).toInt = 39 ∨ (x0 : Int32).toInt = 40 ∨ (x0 : Int32).toInt = 41 ∨ (x0 : Int32).toInt = 44 ∨ (x0 : Int32).toInt = 46 ∨ (x0 : Int32).toInt = 47 ∨ (x0 : Int32).toInt = 48 ∨ (x0 : Int32).toInt = 49 ∨ (x0 : Int32).toInt = 50 ∨ (x0 : Int32).toInt = 51 ∨ (x0 : Int32).toInt = 52 ∨ (x0 : Int32).toInt = 53 ∨ (x0 : Int32).toInt = 54 ∨ (x0 : Int32).toInt = 55 ∨ (x0 : Int32).toInt = 56 ∨ (x0 : Int32).toInt = 57 ∨ (x0 : Int32).toInt = 58 ∨ (x0 : Int32).toInt = 59 by omega) with e | e | e | e | e | e | e | e | e | e | e | e | e | e | e | e | e | e | e | e
                  · exact Or.inl e
                  · exact Or.inr (Or.inl e)
                  · exact Or.inr (Or.inr (by rw [e]; decide))
                  · exact Or.inr (Or.inr (by rw [e]; decide))
                  · exact Or.inr (Or.inr (by rw [e]; decide))
                  · exact Or.inr (Or.inr (by rw [e]; decide))
                  · exact Or.inr (Or.inr (by rw [e]; decide))
                  · exact Or.inr (Or.inr (by rw [e]; decide))
                  · exact Or.inr (Or.inr (by rw [e]; decide))
                  · exact Or.inr (Or.inr (by rw [e]; decide))
                  · exact Or.inr (Or.inr (by rw [e]; decide))
                  · exact Or.inr (Or.inr (by rw [e]; decide))
                  · exact Or.inr (Or.inr (by rw [e]; decide))
                  · exact Or.inr (Or.inr (by rw [e]; decide))
                  · exact Or.inr (Or.inr (by rw [e]; decide))
                  · exact Or.inr (Or.inr (by rw [e]; decide))
                  · exact Or.inr (Or.inr (by rw [e]; decide))
                  · exact Or.inr (Or.inr (by rw [e]; decide))
                  · exact Or.inr (Or.inr (by rw [e]; decide))
                  · exact Or.inr (Or.inr (by rw [e]; decide))) rfl ?_
                refine aw_iload_n (i := 1) rfl d_X12_both_190 1 rfl ?_
                refine aw_if_ne (tgt := 198) d_X12_both_191 rfl (fun c22 => ?_) (fun c22 => ?_)
                · have k := k.1 c22
                  refine aw_iconst (v := 1) d_X12_both_198 ic_1 ?_
                  refine aw_goto (tgt := 203) d_X12_both_199 rfl ?_
                  exact aw_iret rfl d_X12_both_203 ⟨Nat.le_refl _, Nat.le_refl _⟩ ⟨_, rfl, k⟩
                · have k := k.2 c22
                  refine aw_iload_n (i := 2) rfl d_X12_both_194 2 rfl ?_
                  refine aw_if_eq (tgt := 202) d_X12_both_195 rfl (fun c23 => ?_) (fun c23 => ?_)
                  · have k := k.1 c23
                    refine aw_iconst (v := 0) d_X12_both_202 ic_0 ?_
                    exact aw_iret rfl d_X12_both_203 ⟨Nat.le_refl _, Nat.le_refl _⟩ ⟨_, rfl, k⟩
                  · have k := k.2 c23
                    refine aw_iconst (v := 1) d_X12_both_198 ic_1 ?_
                    refine aw_goto (tgt := 203) d_X12_both_199 rfl ?_
                    exact aw_iret rfl d_X12_both_203 ⟨Nat.le_refl _, Nat.le_refl _⟩ ⟨_, rfl, k⟩
theorem t_X12_work (d : Nat) (h : Hp_)  (K : Int32 → Hp_ → Prop) (k : AW (m_X12_work (d + 3) 0 0) 0 0 2 [(0, .ref 1), (1, .int 0)] [] h (kI K)) : Ci (m_X12_work (d + 3) 0 0) [.ref 1] h K := by
  refine Ct.of (fun _ _ _ => trivial) rfl (Nat.le_of_ble_eq_true rfl) ?_
  show AW (m_X12_work (d + 3) 0 0) 0 0 0 [(0, .ref 1)] [] h (kI K)
  refine aw_iconst (v := 0) d_X12_work_0 ic_0 ?_
  refine aw_istore_n (i := 1) rfl [(0, .ref 1), (1, .int 0)] d_X12_work_1 (Nat.le_of_ble_eq_true rfl) rfl rfl ?_
  exact k
theorem t_X12_work_2 (d : Nat) (h : Hp_) (w : Wf h) (x1 : Int32) (K : Int32 → Hp_ → Prop) (k : vp_in (h_i h 1 52) 22400 ∧ (((h_i h 231 ((h_i h 1 52) : Int32).toNatClampNeg) = 2 → vp_in 0 200 ∧ (K (h_i h 237 (0 : Int32).toNatClampNeg) (h_im h 1 52 ((h_i h 1 52) + 1)))) ∧ (¬ (h_i h 231 ((h_i h 1 52) : Int32).toNatClampNeg) = 2 → vp_in (h_i h 1 52) 22400 ∧ (((h_i h 231 ((h_i h 1 52) : Int32).toNatClampNeg) = 3 → vp_in 0 200 ∧ (K (h_i h 237 (0 : Int32).toNatClampNeg) (h_im h 1 52 ((h_i h 1 52) + 1)))) ∧ (¬ (h_i h 231 ((h_i h 1 52) : Int32).toNatClampNeg) = 3 → vp_in (h_i h 1 52) 22400 ∧ (((h_i h 231 ((h_i h 1 52) : Int32).toNatClampNeg) = 0 → (¬ (h_i h 231 ((h_i h 1 52) : Int32).toNatClampNeg) = 0 → vp_in ((h_i h 1 52) + 1) 22400 ∧ (vp_in (h_i h 231 (((h_i h 1 52) + 1) : Int32).toNatClampNeg) 128 ∧ (vp_in x1 200 ∧ (AW (m_X12_work (d + 3) 0 0) 0 0 2 [(0, .ref 1), (1, .int (x1 + 1))] [] (h_im (h_im (h_im h 1 52 ((h_i h 1 52) + 1)) 237 x1.toNatClampNeg (h_i h 236 ((h_i h 231 (((h_i h 1 52) + 1) : Int32).toNatClampNeg) : Int32).toNatClampNeg)) 1 52 (((h_i h 1 52) + 1) + 1)) (kI K))))) ∧ ((h_i h 231 ((h_i h 1 52) : Int32).toNatClampNeg) = 0 → vp_in ((h_i h 1 52) + 1) 22400 ∧ (vp_in x1 200 ∧ (AW (m_X12_work (d + 3) 0 0) 0 0 2 [(0, .ref 1), (1, .int (x1 + 1))] [] (h_im (h_im (h_im h 1 52 ((h_i h 1 52) + 1)) 237 x1.toNatClampNeg (h_i h 231 (((h_i h 1 52) + 1) : Int32).toNatClampNeg)) 1 52 (((h_i h 1 52) + 1) + 1)) (kI K))))) ∧ (¬ (h_i h 231 ((h_i h 1 52) : Int32).toNatClampNeg) = 0 → (¬ (h_i h 231 ((h_i h 1 52) : Int32).toNatClampNeg) = 1 → (¬ (h_i h 231 ((h_i h 1 52) : Int32).toNatClampNeg) = 33 → vp_in ((x1 + (-1)) - 1) 200 ∧ (vp_in (x1 + (-1)) 200 ∧ (Ci (m_X12_both (d + 2) 0 0) [.int (h_i h 231 ((h_i h 1 52) : Int32).toNatClampNeg), .int (h_i h 237 (((x1 + (-1)) - 1) : Int32).toNatClampNeg), .int (h_i h 237 ((x1 + (-1)) : Int32).toNatClampNeg)] (h_im h 1 52 ((h_i h 1 52) + 1)) (fun r21 h19 => Wf h19 ∧ (vp_in ((x1 + (-1)) - 1) 200 ∧ (AW (m_X12_work (d + 3) 0 0) 0 0 2 [(0, .ref 1), (1, .int (x1 + (-1)))] [] (h_im h19 237 (((x1 + (-1)) - 1) : Int32).toNatClampNeg r21) (kI K))))))) ∧ ((h_i h 231 ((h_i h 1 52) : Int32).toNatClampNeg) = 33 → vp_in (x1 - 1) 200 ∧ ((¬ (h_i h 237 ((x1 - 1) : Int32).toNatClampNeg) = 0 → vp_in (x1 - 1) 200 ∧ (AW (m_X12_work (d + 3) 0 0) 0 0 2 [(0, .ref 1), (1, .int x1)] [] (h_im (h_im h 1 52 ((h_i h 1 52) + 1)) 237 ((x1 - 1) : Int32).toNatClampNeg 0) (kI K))) ∧ ((h_i h 237 ((x1 - 1) : Int32).toNatClampNeg) = 0 → vp_in (x1 - 1) 200 ∧ (AW (m_X12_work (d + 3) 0 0) 0 0 2 [(0, .ref 1), (1, .int x1)] [] (h_im (h_im h 1 52 ((h_i h 1 52) + 1)) 237 ((x1 - 1) : Int32).toNatClampNeg 1) (kI K)))))) ∧ ((h_i h 231 ((h_i h 1 52) : Int32).toNatClampNeg) = 1 → (¬ (h_i h 231 ((h_i h 1 52) : Int32).toNatClampNeg) = 0 → vp_in ((h_i h 1 52) + 1) 22400 ∧ (vp_in (h_i h 231 (((h_i h 1 52) + 1) : Int32).toNatClampNeg) 128 ∧ (vp_in x1 200 ∧ (AW (m_X12_work (d + 3) 0 0) 0 0 2 [(0, .ref 1), (1, .int (x1 + 1))] [] (h_im (h_im (h_im h 1 52 ((h_i h 1 52) + 1)) 237 x1.toNatClampNeg (h_i h 236 ((h_i h 231 (((h_i h 1 52) + 1) : Int32).toNatClampNeg) : Int32).toNatClampNeg)) 1 52 (((h_i h 1 52) + 1) + 1)) (kI K))))) ∧ ((h_i h 231 ((h_i h 1 52) : Int32).toNatClampNeg) = 0 → vp_in ((h_i h 1 52) + 1) 22400 ∧ (vp_in x1 200 ∧ (AW (m_X12_work (d + 3) 0 0) 0 0 2 [(0, .ref 1), (1, .int (x1 + 1))] [] (h_im (h_im (h_im h 1 52 ((h_i h 1 52) + 1)) 237 x1.toNatClampNeg (h_i h 231 (((h_i h 1 52) + 1) : Int32).toNatClampNeg)) 1 52 (((h_i h 1 52) + 1) + 1)) (kI K)))))))))))) : AW (m_X12_work (d + 3) 0 0) 0 0 2 [(0, .ref 1), (1, .int x1)] [] h (kI K) := by
  refine aw_aload_n (i := 0) rfl d_X12_work_2 0 rfl ?_
  refine aw_getr (k0 := 45) kc_12 (ws_1 w) (Nat.le_of_ble_eq_true rfl) tw_1787 d_X12_work_3 rfl (wr_1_45 w) ?_
  refine aw_aload_n (i := 0) rfl d_X12_work_6 0 rfl ?_
  refine aw_geti (k0 := 52) kc_12 (ws_1 w) (Nat.le_of_ble_eq_true rfl) tw_1794 d_X12_work_7 rfl ?_
  obtain ⟨b1, k⟩ := k
  refine aw_iald (ws_231 w) b1 d_X12_work_10 ?_
  refine aw_iconst (v := 2) d_X12_work_11 ic_2 ?_
  refine aw_icmp_eq (tgt := 174) d_X12_work_12 rfl (fun c2 => ?_) (fun c2 => ?_)
  · have k := k.1 c2
    refine aw_aload_n (i := 0) rfl d_X12_work_174 0 rfl ?_
    refine aw_dup d_X12_work_175 rfl ?_
    refine aw_geti (k0 := 52) kc_12 (ws_1 w) (Nat.le_of_ble_eq_true rfl) tw_1794 d_X12_work_176 rfl ?_
    refine aw_iconst (v := 1) d_X12_work_179 ic_1 ?_
    refine aw_iadd d_X12_work_180 ?_
    refine aw_puti (k0 := 52) kc_12 (ws_1 w) (Nat.le_of_ble_eq_true rfl) tw_1794 d_X12_work_181 rfl rfl nf_i ?_
    refine aw_aload_n (i := 0) rfl d_X12_work_184 0 rfl ?_
    refine aw_getr (k0 := 51) kc_12 (ws_1 w) (Nat.le_of_ble_eq_true rfl) tw_1793 d_X12_work_185 rfl (wr_1_51 w) ?_
    refine aw_iconst (v := 0) d_X12_work_188 ic_0 ?_
    obtain ⟨b3, k⟩ := k
    refine aw_iald (ws_237 w) b3 d_X12_work_189 ?_
    refine aw_vi (v2 := (h_i h 237 (0 : Int32).toNatClampNeg)) (rfl) ?_
    exact aw_iret rfl d_X12_work_190 ⟨Nat.le_refl _, Nat.le_refl _⟩ ⟨_, rfl, k⟩
  · have k := k.2 c2
    refine aw_aload_n (i := 0) rfl d_X12_work_15 0 rfl ?_
    refine aw_getr (k0 := 45) kc_12 (ws_1 w) (Nat.le_of_ble_eq_true rfl) tw_1787 d_X12_work_16 rfl (wr_1_45 w) ?_
    refine aw_aload_n (i := 0) rfl d_X12_work_19 0 rfl ?_
    refine aw_geti (k0 := 52) kc_12 (ws_1 w) (Nat.le_of_ble_eq_true rfl) tw_1794 d_X12_work_20 rfl ?_
    obtain ⟨b4, k⟩ := k
    refine aw_iald (ws_231 w) b4 d_X12_work_23 ?_
    refine aw_iconst (v := 3) d_X12_work_24 ic_3 ?_
    refine aw_icmp_eq (tgt := 174) d_X12_work_25 rfl (fun c5 => ?_) (fun c5 => ?_)
    · have k := k.1 c5
      refine aw_aload_n (i := 0) rfl d_X12_work_174 0 rfl ?_
      refine aw_dup d_X12_work_175 rfl ?_
      refine aw_geti (k0 := 52) kc_12 (ws_1 w) (Nat.le_of_ble_eq_true rfl) tw_1794 d_X12_work_176 rfl ?_
      refine aw_iconst (v := 1) d_X12_work_179 ic_1 ?_
      refine aw_iadd d_X12_work_180 ?_
      refine aw_puti (k0 := 52) kc_12 (ws_1 w) (Nat.le_of_ble_eq_true rfl) tw_1794 d_X12_work_181 rfl rfl nf_i ?_
      refine aw_aload_n (i := 0) rfl d_X12_work_184 0 rfl ?_
      refine aw_getr (k0 := 51) kc_12 (ws_1 w) (Nat.le_of_ble_eq_true rfl) tw_1793 d_X12_work_185 rfl (wr_1_51 w) ?_
      refine aw_iconst (v := 0) d_X12_work_188 ic_0 ?_
      obtain ⟨b6, k⟩ := k
      refine aw_iald (ws_237 w) b6 d_X12_work_189 ?_
      refine aw_vi (v2 := (h_i h 237 (0 : Int32).toNatClampNeg)) (rfl) ?_
      exact aw_iret rfl d_X12_work_190 ⟨Nat.le_refl _, Nat.le_refl _⟩ ⟨_, rfl, k⟩
    · have k := k.2 c5
      refine aw_aload_n (i := 0) rfl d_X12_work_28 0 rfl ?_
      refine aw_getr (k0 := 45) kc_12 (ws_1 w) (Nat.le_of_ble_eq_true rfl) tw_1787 d_X12_work_29 rfl (wr_1_45 w) ?_
      refine aw_aload_n (i := 0) rfl d_X12_work_32 0 rfl ?_
      refine aw_geti (k0 := 52) kc_12 (ws_1 w) (Nat.le_of_ble_eq_true rfl) tw_1794 d_X12_work_33 rfl ?_
      obtain ⟨b7, k⟩ := k
      refine aw_iald (ws_231 w) b7 d_X12_work_36 ?_
      refine aw_istore_n (i := 2) rfl [(0, .ref 1), (1, .int x1), (2, .int (h_i h 231 ((h_i h 1 52) : Int32).toNatClampNeg))] d_X12_work_37 (Nat.le_of_ble_eq_true rfl) rfl rfl ?_
      refine aw_aload_n (i := 0) rfl d_X12_work_38 0 rfl ?_
      refine aw_dup d_X12_work_39 rfl ?_
      refine aw_geti (k0 := 52) kc_12 (ws_1 w) (Nat.le_of_ble_eq_true rfl) tw_1794 d_X12_work_40 rfl ?_
      refine aw_iconst (v := 1) d_X12_work_43 ic_1 ?_
      refine aw_iadd d_X12_work_44 ?_
      refine aw_puti (k0 := 52) kc_12 (ws_1 w) (Nat.le_of_ble_eq_true rfl) tw_1794 d_X12_work_45 rfl rfl nf_i ?_
      refine aw_iload_n (i := 2) rfl d_X12_work_48 2 rfl ?_
      refine aw_if_eq (tgt := 57) d_X12_work_49 rfl (fun c8 => ?_) (fun c8 => ?_)
      · have k := k.1 c8
        refine aw_aload_n (i := 0) rfl d_X12_work_57 0 rfl ?_
        refine aw_getr (k0 := 51) kc_12 (ws_1 w) (Nat.le_of_ble_eq_true rfl) tw_1793 d_X12_work_58 rfl (wr_1_51 w) ?_
        refine aw_iload_n (i := 1) rfl d_X12_work_61 1 rfl ?_
        refine aw_iload_n (i := 2) rfl d_X12_work_62 2 rfl ?_
        refine aw_if_ne (tgt := 78) d_X12_work_63 rfl (fun c9 => ?_) (fun c9 => ?_)
        · have k := k.1 c9
          refine aw_aload_n (i := 0) rfl d_X12_work_78 0 rfl ?_
          refine aw_getr (k0 := 50) kc_12 (ws_1 w) (Nat.le_of_ble_eq_true rfl) tw_1792 d_X12_work_79 rfl (wr_1_50 w) ?_
          refine aw_aload_n (i := 0) rfl d_X12_work_82 0 rfl ?_
          refine aw_getr (k0 := 45) kc_12 (ws_1 w) (Nat.le_of_ble_eq_true rfl) tw_1787 d_X12_work_83 rfl (wr_1_45 w) ?_
          refine aw_aload_n (i := 0) rfl d_X12_work_86 0 rfl ?_
          refine aw_geti (k0 := 52) kc_12 (ws_1 w) (Nat.le_of_ble_eq_true rfl) tw_1794 d_X12_work_87 rfl ?_
          refine aw_vi (v2 := ((h_i h 1 52) + 1)) (rfl) ?_
          obtain ⟨b10, k⟩ := k
          refine aw_iald (ws_231 w) b10 d_X12_work_90 ?_
          refine aw_vi (v2 := (h_i h 231 (((h_i h 1 52) + 1) : Int32).toNatClampNeg)) (rfl) ?_
          obtain ⟨b11, k⟩ := k
          refine aw_iald (ws_236 w) b11 d_X12_work_91 ?_
          refine aw_vi (v2 := (h_i h 236 ((h_i h 231 (((h_i h 1 52) + 1) : Int32).toNatClampNeg) : Int32).toNatClampNeg)) (rfl) ?_
          obtain ⟨b12, k⟩ := k
          refine aw_iast (ws_237 w) b12 d_X12_work_92 ?_
          refine aw_aload_n (i := 0) rfl d_X12_work_93 0 rfl ?_
          refine aw_dup d_X12_work_94 rfl ?_
          refine aw_geti (k0 := 52) kc_12 (ws_1 w) (Nat.le_of_ble_eq_true rfl) tw_1794 d_X12_work_95 rfl ?_
          refine aw_vi (v2 := ((h_i h 1 52) + 1)) (rfl) ?_
          refine aw_iconst (v := 1) d_X12_work_98 ic_1 ?_
          refine aw_iadd d_X12_work_99 ?_
          refine aw_puti (k0 := 52) kc_12 (ws_1 w) (Nat.le_of_ble_eq_true rfl) tw_1794 d_X12_work_100 rfl rfl nf_i ?_
          refine aw_iinc (v := (x1 + 1)) [(0, .ref 1), (1, .int (x1 + 1)), (2, .int (h_i h 231 ((h_i h 1 52) : Int32).toNatClampNeg))] d_X12_work_103 1 rfl rfl (Nat.le_of_ble_eq_true rfl) rfl rfl ?_
          refine aw_goto (tgt := 171) d_X12_work_106 rfl ?_
          refine aw_goto (tgt := 2) d_X12_work_171 rfl ?_
          exact aw_lvp [0, 1] [(0, .ref 1), (1, .int (x1 + 1))] rfl k
        · have k := k.2 c9
          refine aw_aload_n (i := 0) rfl d_X12_work_66 0 rfl ?_
          refine aw_getr (k0 := 45) kc_12 (ws_1 w) (Nat.le_of_ble_eq_true rfl) tw_1787 d_X12_work_67 rfl (wr_1_45 w) ?_
          refine aw_aload_n (i := 0) rfl d_X12_work_70 0 rfl ?_
          refine aw_geti (k0 := 52) kc_12 (ws_1 w) (Nat.le_of_ble_eq_true rfl) tw_1794 d_X12_work_71 rfl ?_
          refine aw_vi (v2 := ((h_i h 1 52) + 1)) (rfl) ?_
          obtain ⟨b13, k⟩ := k
          refine aw_iald (ws_231 w) b13 d_X12_work_74 ?_
          refine aw_vi (v2 := (h_i h 231 (((h_i h 1 52) + 1) : Int32).toNatClampNeg)) (rfl) ?_
          refine aw_goto (tgt := 92) d_X12_work_75 rfl ?_
          obtain ⟨b14, k⟩ := k
          refine aw_iast (ws_237 w) b14 d_X12_work_92 ?_
          refine aw_aload_n (i := 0) rfl d_X12_work_93 0 rfl ?_
          refine aw_dup d_X12_work_94 rfl ?_
          refine aw_geti (k0 := 52) kc_12 (ws_1 w) (Nat.le_of_ble_eq_true rfl) tw_1794 d_X12_work_95 rfl ?_
          refine aw_vi (v2 := ((h_i h 1 52) + 1)) (rfl) ?_
          refine aw_iconst (v := 1) d_X12_work_98 ic_1 ?_
          refine aw_iadd d_X12_work_99 ?_
          refine aw_puti (k0 := 52) kc_12 (ws_1 w) (Nat.le_of_ble_eq_true rfl) tw_1794 d_X12_work_100 rfl rfl nf_i ?_
          refine aw_iinc (v := (x1 + 1)) [(0, .ref 1), (1, .int (x1 + 1)), (2, .int (h_i h 231 ((h_i h 1 52) : Int32).toNatClampNeg))] d_X12_work_103 1 rfl rfl (Nat.le_of_ble_eq_true rfl) rfl rfl ?_
          refine aw_goto (tgt := 171) d_X12_work_106 rfl ?_
          refine aw_goto (tgt := 2) d_X12_work_171 rfl ?_
          exact aw_lvp [0, 1] [(0, .ref 1), (1, .int (x1 + 1))] rfl k
      · have k := k.2 c8
        refine aw_iload_n (i := 2) rfl d_X12_work_52 2 rfl ?_
        refine aw_iconst (v := 1) d_X12_work_53 ic_1 ?_
        refine aw_icmp_ne (tgt := 109) d_X12_work_54 rfl (fun c15 => ?_) (fun c15 => ?_)
        · have k := k.1 c15
          refine aw_iload_n (i := 2) rfl d_X12_work_109 2 rfl ?_
          refine aw_bipush (v := 33) d_X12_work_110 ib_33 ?_
          refine aw_icmp_ne (tgt := 142) d_X12_work_112 rfl (fun c16 => ?_) (fun c16 => ?_)
          · have k := k.1 c16
            refine aw_iinc (v := (x1 + (-1))) [(0, .ref 1), (1, .int (x1 + (-1))), (2, .int (h_i h 231 ((h_i h 1 52) : Int32).toNatClampNeg))] d_X12_work_142 1 rfl rfl (Nat.le_of_ble_eq_true rfl) rfl rfl ?_
            refine aw_aload_n (i := 0) rfl d_X12_work_145 0 rfl ?_
            refine aw_getr (k0 := 51) kc_12 (ws_1 w) (Nat.le_of_ble_eq_true rfl) tw_1793 d_X12_work_146 rfl (wr_1_51 w) ?_
            refine aw_iload_n (i := 1) rfl d_X12_work_149 1 rfl ?_
            refine aw_iconst (v := 1) d_X12_work_150 ic_1 ?_
            refine aw_isub d_X12_work_151 ?_
            refine aw_iload_n (i := 2) rfl d_X12_work_152 2 rfl ?_
            refine aw_aload_n (i := 0) rfl d_X12_work_153 0 rfl ?_
            refine aw_getr (k0 := 51) kc_12 (ws_1 w) (Nat.le_of_ble_eq_true rfl) tw_1793 d_X12_work_154 rfl (wr_1_51 w) ?_
            refine aw_iload_n (i := 1) rfl d_X12_work_157 1 rfl ?_
            refine aw_iconst (v := 1) d_X12_work_158 ic_1 ?_
            refine aw_isub d_X12_work_159 ?_
            obtain ⟨b17, k⟩ := k
            refine aw_iald (ws_237 w) b17 d_X12_work_160 ?_
            refine aw_vi (v2 := (h_i h 237 (((x1 + (-1)) - 1) : Int32).toNatClampNeg)) (rfl) ?_
            refine aw_aload_n (i := 0) rfl d_X12_work_161 0 rfl ?_
            refine aw_getr (k0 := 51) kc_12 (ws_1 w) (Nat.le_of_ble_eq_true rfl) tw_1793 d_X12_work_162 rfl (wr_1_51 w) ?_
            refine aw_iload_n (i := 1) rfl d_X12_work_165 1 rfl ?_
            obtain ⟨b18, k⟩ := k
            refine aw_iald (ws_237 w) b18 d_X12_work_166 ?_
            refine aw_vi (v2 := (h_i h 237 ((x1 + (-1)) : Int32).toNatClampNeg)) (rfl) ?_
            refine aw_Si [.int (h_i h 231 ((h_i h 1 52) : Int32).toNatClampNeg), .int (h_i h 237 (((x1 + (-1)) - 1) : Int32).toNatClampNeg), .int (h_i h 237 ((x1 + (-1)) : Int32).toNatClampNeg)] [.int ((x1 + (-1)) - 1), .ref 237] d_X12_work_167 (cS_X12_both (d + 2) 0 0) tw_2432 rfl (rr0 (Nat.le_of_ble_eq_true rfl) (Nat.le_of_ble_eq_true rfl)) (Nat.le_of_ble_eq_true rfl) xs0 k (fun r21 h19 kk => ?_)
            obtain ⟨w20, k⟩ := kk
            obtain ⟨b22, k⟩ := k
            refine aw_iast (ws_237 w20) b22 d_X12_work_170 ?_
            refine aw_goto (tgt := 2) d_X12_work_171 rfl ?_
            exact aw_lvp [0, 1] [(0, .ref 1), (1, .int (x1 + (-1)))] rfl k
          · have k := k.2 c16
            refine aw_aload_n (i := 0) rfl d_X12_work_115 0 rfl ?_
            refine aw_getr (k0 := 51) kc_12 (ws_1 w) (Nat.le_of_ble_eq_true rfl) tw_1793 d_X12_work_116 rfl (wr_1_51 w) ?_
            refine aw_iload_n (i := 1) rfl d_X12_work_119 1 rfl ?_
            refine aw_iconst (v := 1) d_X12_work_120 ic_1 ?_
            refine aw_isub d_X12_work_121 ?_
            refine aw_aload_n (i := 0) rfl d_X12_work_122 0 rfl ?_
            refine aw_getr (k0 := 51) kc_12 (ws_1 w) (Nat.le_of_ble_eq_true rfl) tw_1793 d_X12_work_123 rfl (wr_1_51 w) ?_
            refine aw_iload_n (i := 1) rfl d_X12_work_126 1 rfl ?_
            refine aw_iconst (v := 1) d_X12_work_127 ic_1 ?_
            refine aw_isub d_X12_work_128 ?_
            obtain ⟨b23, k⟩ := k
            refine aw_iald (ws_237 w) b23 d_X12_work_129 ?_
            refine aw_vi (v2 := (h_i h 237 ((x1 - 1) : Int32).toNatClampNeg)) (rfl) ?_
            refine aw_if_ne (tgt := 137) d_X12_work_130 rfl (fun c24 => ?_) (fun c24 => ?_)
            · have k := k.1 c24
              refine aw_iconst (v := 0) d_X12_work_137 ic_0 ?_
              obtain ⟨b25, k⟩ := k
              refine aw_iast (ws_237 w) b25 d_X12_work_138 ?_
              refine aw_goto (tgt := 171) d_X12_work_139 rfl ?_
              refine aw_goto (tgt := 2) d_X12_work_171 rfl ?_
              exact aw_lvp [0, 1] [(0, .ref 1), (1, .int x1)] rfl k
            · have k := k.2 c24
              refine aw_iconst (v := 1) d_X12_work_133 ic_1 ?_
              refine aw_goto (tgt := 138) d_X12_work_134 rfl ?_
              obtain ⟨b26, k⟩ := k
              refine aw_iast (ws_237 w) b26 d_X12_work_138 ?_
              refine aw_goto (tgt := 171) d_X12_work_139 rfl ?_
              refine aw_goto (tgt := 2) d_X12_work_171 rfl ?_
              exact aw_lvp [0, 1] [(0, .ref 1), (1, .int x1)] rfl k
        · have k := k.2 c15
          refine aw_aload_n (i := 0) rfl d_X12_work_57 0 rfl ?_
          refine aw_getr (k0 := 51) kc_12 (ws_1 w) (Nat.le_of_ble_eq_true rfl) tw_1793 d_X12_work_58 rfl (wr_1_51 w) ?_
          refine aw_iload_n (i := 1) rfl d_X12_work_61 1 rfl ?_
          refine aw_iload_n (i := 2) rfl d_X12_work_62 2 rfl ?_
          refine aw_if_ne (tgt := 78) d_X12_work_63 rfl (fun c27 => ?_) (fun c27 => ?_)
          · have k := k.1 c27
            refine aw_aload_n (i := 0) rfl d_X12_work_78 0 rfl ?_
            refine aw_getr (k0 := 50) kc_12 (ws_1 w) (Nat.le_of_ble_eq_true rfl) tw_1792 d_X12_work_79 rfl (wr_1_50 w) ?_
            refine aw_aload_n (i := 0) rfl d_X12_work_82 0 rfl ?_
            refine aw_getr (k0 := 45) kc_12 (ws_1 w) (Nat.le_of_ble_eq_true rfl) tw_1787 d_X12_work_83 rfl (wr_1_45 w) ?_
            refine aw_aload_n (i := 0) rfl d_X12_work_86 0 rfl ?_
            refine aw_geti (k0 := 52) kc_12 (ws_1 w) (Nat.le_of_ble_eq_true rfl) tw_1794 d_X12_work_87 rfl ?_
            refine aw_vi (v2 := ((h_i h 1 52) + 1)) (rfl) ?_
            obtain ⟨b28, k⟩ := k
            refine aw_iald (ws_231 w) b28 d_X12_work_90 ?_
            refine aw_vi (v2 := (h_i h 231 (((h_i h 1 52) + 1) : Int32).toNatClampNeg)) (rfl) ?_
            obtain ⟨b29, k⟩ := k
            refine aw_iald (ws_236 w) b29 d_X12_work_91 ?_
            refine aw_vi (v2 := (h_i h 236 ((h_i h 231 (((h_i h 1 52) + 1) : Int32).toNatClampNeg) : Int32).toNatClampNeg)) (rfl) ?_
            obtain ⟨b30, k⟩ := k
            refine aw_iast (ws_237 w) b30 d_X12_work_92 ?_
            refine aw_aload_n (i := 0) rfl d_X12_work_93 0 rfl ?_
            refine aw_dup d_X12_work_94 rfl ?_
            refine aw_geti (k0 := 52) kc_12 (ws_1 w) (Nat.le_of_ble_eq_true rfl) tw_1794 d_X12_work_95 rfl ?_
            refine aw_vi (v2 := ((h_i h 1 52) + 1)) (rfl) ?_
            refine aw_iconst (v := 1) d_X12_work_98 ic_1 ?_
            refine aw_iadd d_X12_work_99 ?_
            refine aw_puti (k0 := 52) kc_12 (ws_1 w) (Nat.le_of_ble_eq_true rfl) tw_1794 d_X12_work_100 rfl rfl nf_i ?_
            refine aw_iinc (v := (x1 + 1)) [(0, .ref 1), (1, .int (x1 + 1)), (2, .int (h_i h 231 ((h_i h 1 52) : Int32).toNatClampNeg))] d_X12_work_103 1 rfl rfl (Nat.le_of_ble_eq_true rfl) rfl rfl ?_
            refine aw_goto (tgt := 171) d_X12_work_106 rfl ?_
            refine aw_goto (tgt := 2) d_X12_work_171 rfl ?_
            exact aw_lvp [0, 1] [(0, .ref 1), (1, .int (x1 + 1))] rfl k
          · have k := k.2 c27
            refine aw_aload_n (i := 0) rfl d_X12_work_66 0 rfl ?_
            refine aw_getr (k0 := 45) kc_12 (ws_1 w) (Nat.le_of_ble_eq_true rfl) tw_1787 d_X12_work_67 rfl (wr_1_45 w) ?_
            refine aw_aload_n (i := 0) rfl d_X12_work_70 0 rfl ?_
            refine aw_geti (k0 := 52) kc_12 (ws_1 w) (Nat.le_of_ble_eq_true rfl) tw_1794 d_X12_work_71 rfl ?_
            refine aw_vi (v2 := ((h_i h 1 52) + 1)) (rfl) ?_
            obtain ⟨b31, k⟩ := k
            refine aw_iald (ws_231 w) b31 d_X12_work_74 ?_
            refine aw_vi (v2 := (h_i h 231 (((h_i h 1 52) + 1) : Int32).toNatClampNeg)) (rfl) ?_
            refine aw_goto (tgt := 92) d_X12_work_75 rfl ?_
            obtain ⟨b32, k⟩ := k
            refine aw_iast (ws_237 w) b32 d_X12_work_92 ?_
            refine aw_aload_n (i := 0) rfl d_X12_work_93 0 rfl ?_
            refine aw_dup d_X12_work_94 rfl ?_
            refine aw_geti (k0 := 52) kc_12 (ws_1 w) (Nat.le_of_ble_eq_true rfl) tw_1794 d_X12_work_95 rfl ?_
            refine aw_vi (v2 := ((h_i h 1 52) + 1)) (rfl) ?_
            refine aw_iconst (v := 1) d_X12_work_98 ic_1 ?_
            refine aw_iadd d_X12_work_99 ?_
            refine aw_puti (k0 := 52) kc_12 (ws_1 w) (Nat.le_of_ble_eq_true rfl) tw_1794 d_X12_work_100 rfl rfl nf_i ?_
            refine aw_iinc (v := (x1 + 1)) [(0, .ref 1), (1, .int (x1 + 1)), (2, .int (h_i h 231 ((h_i h 1 52) : Int32).toNatClampNeg))] d_X12_work_103 1 rfl rfl (Nat.le_of_ble_eq_true rfl) rfl rfl ?_
            refine aw_goto (tgt := 171) d_X12_work_106 rfl ?_
            refine aw_goto (tgt := 2) d_X12_work_171 rfl ?_
            exact aw_lvp [0, 1] [(0, .ref 1), (1, .int (x1 + 1))] rfl k
theorem t_X12_tell (d : Nat) (h : Hp_) (w : Wf h) (x1 : Int32) (x2 : Int32) (K : Int32 → Hp_ → Prop) (k : (¬ x2 = (-1) → AW (m_X12_tell (d + 4) 0 0) 0 0 23 [(0, .ref 1), (3, .int ((20 * x1) + x2))] [] (h_im h 1 52 (560 * ((20 * x1) + x2))) (kI K)) ∧ (x2 = (-1) → K 0 h)) : Ci (m_X12_tell (d + 4) 0 0) [.ref 1, .int x1, .int x2] h K := by
  refine Ct.of (fun _ _ _ => trivial) rfl (Nat.le_of_ble_eq_true rfl) ?_
  show AW (m_X12_tell (d + 4) 0 0) 0 0 0 [(0, .ref 1), (1, .int x1), (2, .int x2)] [] h (kI K)
  refine aw_iload_n (i := 2) rfl d_X12_tell_0 2 rfl ?_
  refine aw_iconst (v := (-1)) d_X12_tell_1 ic_m1 ?_
  refine aw_icmp_ne (tgt := 7) d_X12_tell_2 rfl (fun c1 => ?_) (fun c1 => ?_)
  · have k := k.1 c1
    refine aw_bipush (v := 20) d_X12_tell_7 ib_20 ?_
    refine aw_iload_n (i := 1) rfl d_X12_tell_9 1 rfl ?_
    refine aw_imul d_X12_tell_10 ?_
    refine aw_iload_n (i := 2) rfl d_X12_tell_11 2 rfl ?_
    refine aw_iadd d_X12_tell_12 ?_
    refine aw_istore_n (i := 3) rfl [(0, .ref 1), (1, .int x1), (2, .int x2), (3, .int ((20 * x1) + x2))] d_X12_tell_13 (Nat.le_of_ble_eq_true rfl) rfl rfl ?_
    refine aw_aload_n (i := 0) rfl d_X12_tell_14 0 rfl ?_
    refine aw_sipush (v := 560) d_X12_tell_15 is_560 ?_
    refine aw_iload_n (i := 3) rfl d_X12_tell_18 3 rfl ?_
    refine aw_imul d_X12_tell_19 ?_
    refine aw_puti (k0 := 52) kc_12 (ws_1 w) (Nat.le_of_ble_eq_true rfl) tw_1794 d_X12_tell_20 rfl rfl nf_i ?_
    exact aw_lvp [0, 3] [(0, .ref 1), (3, .int ((20 * x1) + x2))] rfl k
  · have k := k.2 c1
    refine aw_iconst (v := 0) d_X12_tell_5 ic_0 ?_
    exact aw_iret rfl d_X12_tell_6 ⟨Nat.le_refl _, Nat.le_refl _⟩ ⟨_, rfl, k⟩
theorem t_X12_tell_23 (d : Nat) (h : Hp_) (w : Wf h) (x3 : Int32) (K : Int32 → Hp_ → Prop) (k : vp_in x3 40 ∧ ((((560 * x3) + (h_i h 232 x3.toNatClampNeg)) ≤ (h_i h 1 52) → K 0 h) ∧ (¬ ((560 * x3) + (h_i h 232 x3.toNatClampNeg)) ≤ (h_i h 1 52) → Ci (m_X12_work (d + 3) 0 0) [.ref 1] h (fun r6 h4 => Wf h4 ∧ ((r6 = 0 → Ci (m_X12_work (d + 3) 0 0) [.ref 1] h4 (fun r10 h8 => Wf h8 ∧ (AW (m_X12_tell (d + 4) 0 0) 0 0 23 [(0, .ref 1), (3, .int x3)] [] h8 (kI K)))) ∧ (¬ r6 = 0 → Ci (m_X12_work (d + 3) 0 0) [.ref 1] h4 (fun r14 h12 => Wf h12 ∧ (K r14 h12)))))))) : AW (m_X12_tell (d + 4) 0 0) 0 0 23 [(0, .ref 1), (3, .int x3)] [] h (kI K) := by
  refine aw_aload_n (i := 0) rfl d_X12_tell_23 0 rfl ?_
  refine aw_geti (k0 := 52) kc_12 (ws_1 w) (Nat.le_of_ble_eq_true rfl) tw_1794 d_X12_tell_24 rfl ?_
  refine aw_sipush (v := 560) d_X12_tell_27 is_560 ?_
  refine aw_iload_n (i := 3) rfl d_X12_tell_30 1 rfl ?_
  refine aw_imul d_X12_tell_31 ?_
  refine aw_aload_n (i := 0) rfl d_X12_tell_32 0 rfl ?_
  refine aw_getr (k0 := 46) kc_12 (ws_1 w) (Nat.le_of_ble_eq_true rfl) tw_1788 d_X12_tell_33 rfl (wr_1_46 w) ?_
  refine aw_iload_n (i := 3) rfl d_X12_tell_36 1 rfl ?_
  obtain ⟨b2, k⟩ := k
  refine aw_iald (ws_232 w) b2 d_X12_tell_37 ?_
  refine aw_iadd d_X12_tell_38 ?_
  refine aw_icmp_ge (tgt := 73) d_X12_tell_39 rfl (fun c3 => ?_) (fun c3 => ?_)
  · have k := k.1 c3
    refine aw_iconst (v := 0) d_X12_tell_73 ic_0 ?_
    exact aw_iret rfl d_X12_tell_74 ⟨Nat.le_refl _, Nat.le_refl _⟩ ⟨_, rfl, k⟩
  · have k := k.2 c3
    refine aw_aload_n (i := 0) rfl d_X12_tell_42 0 rfl ?_
    refine aw_Vi 1 [] [] d_X12_tell_43 (cV_X12_work (d + 3) 0 0) kc_12 (ws_1 w) tw_2428 rfl (rr0 (Nat.le_of_ble_eq_true rfl) (Nat.le_of_ble_eq_true rfl)) (Nat.le_of_ble_eq_true rfl) xs0 k (fun r6 h4 kk => ?_)
    obtain ⟨w5, k⟩ := kk
    refine aw_if_eq (tgt := 53) d_X12_tell_46 rfl (fun c7 => ?_) (fun c7 => ?_)
    · have k := k.1 c7
      refine aw_iconst (v := 0) d_X12_tell_53 ic_0 ?_
      refine aw_istore [(0, .ref 1), (3, .int x3), (4, .int 0)] d_X12_tell_54 (Nat.le_of_ble_eq_true rfl) rfl rfl ?_
      refine aw_aload_n (i := 0) rfl d_X12_tell_56 0 rfl ?_
      refine aw_Vi 1 [] [] d_X12_tell_57 (cV_X12_work (d + 3) 0 0) kc_12 (ws_1 w5) tw_2428 rfl (rr0 (Nat.le_of_ble_eq_true rfl) (Nat.le_of_ble_eq_true rfl)) (Nat.le_of_ble_eq_true rfl) xs0 k (fun r10 h8 kk => ?_)
      obtain ⟨w9, k⟩ := kk
      refine aw_istore [(0, .ref 1), (3, .int x3), (4, .int 0), (5, .int r10)] d_X12_tell_60 (Nat.le_of_ble_eq_true rfl) rfl rfl ?_
      refine aw_iload d_X12_tell_62 2 rfl ?_
      refine aw_if_eq (tgt := 70) d_X12_tell_64 rfl (fun _ => ?_) (fun c => absurd c (by decide))
      refine aw_goto (tgt := 23) d_X12_tell_70 rfl ?_
      exact aw_lvp [0, 1] [(0, .ref 1), (3, .int x3)] rfl k
    · have k := k.2 c7
      refine aw_iconst (v := 1) d_X12_tell_49 ic_1 ?_
      refine aw_goto (tgt := 54) d_X12_tell_50 rfl ?_
      refine aw_istore [(0, .ref 1), (3, .int x3), (4, .int 1)] d_X12_tell_54 (Nat.le_of_ble_eq_true rfl) rfl rfl ?_
      refine aw_aload_n (i := 0) rfl d_X12_tell_56 0 rfl ?_
      refine aw_Vi 1 [] [] d_X12_tell_57 (cV_X12_work (d + 3) 0 0) kc_12 (ws_1 w5) tw_2428 rfl (rr0 (Nat.le_of_ble_eq_true rfl) (Nat.le_of_ble_eq_true rfl)) (Nat.le_of_ble_eq_true rfl) xs0 k (fun r14 h12 kk => ?_)
      obtain ⟨w13, k⟩ := kk
      refine aw_istore [(0, .ref 1), (3, .int x3), (4, .int 1), (5, .int r14)] d_X12_tell_60 (Nat.le_of_ble_eq_true rfl) rfl rfl ?_
      refine aw_iload d_X12_tell_62 2 rfl ?_
      refine aw_if_eq (tgt := 70) d_X12_tell_64 rfl (fun c => absurd c (by decide)) (fun _ => ?_)
      refine aw_iload d_X12_tell_67 3 rfl ?_
      exact aw_iret rfl d_X12_tell_69 ⟨Nat.le_refl _, Nat.le_refl _⟩ ⟨_, rfl, k⟩
