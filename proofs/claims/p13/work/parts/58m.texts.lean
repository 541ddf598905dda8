/-! texts: what the JDK's own methods do with them -/
section TXT
variable {M M' : Mc_} {kc ks pc : Nat} {lv : List (Nat × Value)} {st rest : List Value} {h : Hp_} {K : Option Value → Hp_ → Prop}
abbrev tln (i : Nat) : Nat := [0, 9, 6, 4].getD i 0
abbrev tby (i : Nat) : List Int32 := [[], [107, 119, 112, 104, 100, 99, 110, 101, 116], [99, 121, 109, 120, 116, 97], [120, 110, 114, 116]].getD i []
theorem aw_tval {i idx : Nat} (hi : i < 4) (hlk : Cond.fieldLink (mY M).cls idx "java/lang/String" "value" "[B" ∈ lw_g) (hd : decode (mC M) pc = .ok (.getfield idx, 3)) (k : AW M kc ks (pc + 3) lv (.ref (2000 + i) :: st) h K) : AW M kc ks pc lv (.ref (1000 + i) :: st) h K := by
  intro l p e s m args below meth c dC dI cy A ad0 adV ad dom0 dom H locs ls hf hX hT hE hW hS hl ho hs
  have z := (hT.1.1.1 i hi).2.2.1
  rw [← hT.1.2.1 i] at z
  exact vk_getf hf.1 hf.2.1 z hS hf.2.2.2.2.2.1 (hf.2.2.2.2.2.2.2.1 _ hlk) (fun _ w => w) hd (k l p e s m args below meth c dC dI cy A ad0 adV ad dom0 dom H locs ls hf hX hT hE hW hS hl ho (ok_c (fun z w => by cases w; exact Or.inr (show 1000 ≤ 2000 + i by omega)) (ok_t hs)))
theorem aw_tcod {i idx : Nat} (hi : i < 4) (hlk : Cond.fieldLink (mY M).cls idx "java/lang/String" "coder" "B" ∈ lw_g) (hd : decode (mC M) pc = .ok (.getfield idx, 3)) (k : AW M kc ks (pc + 3) lv (.int 0 :: st) h K) : AW M kc ks pc lv (.ref (1000 + i) :: st) h K := by
  intro l p e s m args below meth c dC dI cy A ad0 adV ad dom0 dom H locs ls hf hX hT hE hW hS hl ho hs
  exact vk_getf hf.1 hf.2.1 (hT.1.1.1 i hi).2.1 hS hf.2.2.2.2.2.1 (hf.2.2.2.2.2.2.2.1 _ hlk) (fun _ w => w) hd (k l p e s m args below meth c dC dI cy A ad0 adV ad dom0 dom H locs ls hf hX hT hE hW hS hl ho (ok_c ok_i (ok_t hs)))
theorem aw_tcmp {idx : Nat} (hlk : Cond.fieldLink (mY M).cls idx "java/lang/String" "COMPACT_STRINGS" "Z" ∈ lw_g) (hd : decode (mC M) pc = .ok (.getstatic idx, 3)) (k : AW M kc ks (pc + 3) lv (.int 1 :: st) h K) : AW M kc ks pc lv st h K := by
  intro l p e s m args below meth c dC dI cy A ad0 adV ad dom0 dom H locs ls hf hX hT hE hW hS hl ho hs
  exact va_gets hf.1 hf.2.1 hT.1.2.2.1 hS hf.2.2.2.2.2.1 (hf.2.2.2.2.2.2.2.1 _ hlk) (fun _ w => w) hd (k l p e s m args below meth c dC dI cy A ad0 adV ad dom0 dom H locs ls hf hX hT hE hW hS hl ho (ok_c ok_i hs))
theorem aw_tfmt {idx : Nat} (hlk : Cond.fieldLink (mY M).cls idx "jdk/internal/util/Preconditions" "SIOOBE_FORMATTER" "Ljava/util/function/BiFunction;" ∈ lw_g) (hd : decode (mC M) pc = .ok (.getstatic idx, 3)) (k1 : AW M kc ks (pc + 3) lv (.null :: st) h K) (k2 : AW M kc ks (pc + 3) lv (.ref 2100 :: st) h K) : AW M kc ks pc lv st h K := by
  intro l p e s m args below meth c dC dI cy A ad0 adV ad dom0 dom H locs ls hf hX hT hE hW hS hl ho hs
  rcases hT.1.2.2.2 with z | z
  · exact va_gets hf.1 hf.2.1 z hS hf.2.2.2.2.2.1 (hf.2.2.2.2.2.2.2.1 _ hlk) (fun _ w => w) hd (k1 l p e s m args below meth c dC dI cy A ad0 adV ad dom0 dom H locs ls hf hX hT hE hW hS hl ho (ok_c ok_n hs))
  · exact va_gets hf.1 hf.2.1 z hS hf.2.2.2.2.2.1 (hf.2.2.2.2.2.2.2.1 _ hlk) (fun _ w => w) hd (k2 l p e s m args below meth c dC dI cy A ad0 adV ad dom0 dom H locs ls hf hX hT hE hW hS hl ho (ok_c (fun z w => by cases w; exact Or.inr (show 1000 ≤ 2100 by decide)) hs))
theorem aw_tlen {i : Nat} (hi : i < 4) (hd : decode (mC M) pc = .ok (.arraylength, 1)) (k : AW M kc ks (pc + 1) lv (.int (Int32.ofNat (tln i)) :: st) h K) : AW M kc ks pc lv (.ref (2000 + i) :: st) h K := by
  intro l p e s m args below meth c dC dI cy A ad0 adV ad dom0 dom H locs ls hf hX hT hE hW hS hl ho hs
  have z := (hT.1.1.1 i hi).2.2.2
  rw [← hT.1.2.1 i] at z
  exact va_tlen hf.1 hf.2.1 z hS rfl hd (k l p e s m args below meth c dC dI cy A ad0 adV ad dom0 dom H locs ls hf hX hT hE hW hS hl ho (ok_c ok_i (ok_t hs)))
theorem aw_tb {i : Nat} {x : Int32} (hi : i < 4) (hin : vp_in x (tln i)) (hd : decode (mC M) pc = .ok (.baload, 1)) (k : AW M kc ks (pc + 1) lv (.int ((tby i).getD x.toNatClampNeg 0) :: st) h K) : AW M kc ks pc lv (.int x :: .ref (2000 + i) :: st) h K := by
  intro l p e s m args below meth c dC dI cy A ad0 adV ad dom0 dom H locs ls hf hX hT hE hW hS hl ho hs
  have z := (hT.1.1.1 i hi).2.2.2
  rw [← hT.1.2.1 i] at z
  exact va_tb hf.1 hf.2.1 z hS hin rfl hd (k l p e s m args below meth c dC dI cy A ad0 adV ad dom0 dom H locs ls hf hX hT hE hW hS hl ho (ok_c ok_i (ok_t (ok_t hs))))
theorem aw_callT {n idx i : Nat} {vs : List Value} {K' : Option Value → Hp_ → Prop} (hi : i < 4) (hd : decode (mC M) pc = .ok (.invokevirtual idx, 3)) (hcl : (mY M').cls = "java/lang/String") (hm : cV_ M' n) (hlk : Cond.methodLink (mY M).cls idx (mY M') ∈ lw_g) (hn : vs.length = n) (hR : rr_ M' M kc ks) (hc : (rest.map (fun v => v.category)).sum ≤ 8) (hXs : xs_ M)
    (hC : Ct M' (.ref (1000 + i) :: vs) h K') (k : ∀ v h', K' v h' → AW M (kc + (mR M').cells) (ks + (mR M').slots) (pc + 3) lv (v.toList ++ rest) h' K) : AW M kc ks pc lv (vs.reverse ++ .ref (1000 + i) :: rest) h K := by
  intro l p e s m args below meth c dC dI cy A ad0 adV ad dom0 dom H locs ls hf hX hT hE hW hS hl ho hs
  have hov : ∀ v ∈ Value.ref (1000 + i) :: vs, h_ok dom v := fun v hv => hs v (by
    rcases List.mem_cons.mp hv with z | z
    · exact List.mem_append_right _ (by rw [z]; exact List.mem_cons_self)
    · exact List.mem_append_left _ (List.mem_reverse.mpr z))
  have hrv := vk_recv hT.1.1 hi hS
  rw [← hcl] at hrv
  refine aw_back (a := (Value.ref (ad (1000 + i)) :: vs.map (h_cv ad)).toArray) hXs hf hX hT hE hW hS hl ho (fun v hv => hs v (List.mem_append_right _ (List.mem_cons_of_mem _ hv))) ?_ k
  exact va_runV (As := vs.map (h_cv ad)) ⟨hf.1, hf.2.1, hf.2.2.1, hf.2.2.2.2.2.1, hf.2.2.2.2.2.2.2.1⟩ (hC l dC dI cy ad adV dom H.size hW.1 hov) ⟨cb_ hf.2.2.2.2.2.2.2.1 hm.1 hlk hR.1, hf.2.2.2.2.2.2.2.1 _ hm.2.1, hf.2.2.2.2.2.2.2.1 _ hm.2.2⟩ ⟨cp_blind, hrv, fun U hU hWm => ⟨rfl, cp_pre hf hT hW hS hU hWm⟩⟩ rfl (by rw [List.length_map]; exact hn) hl.1 (by rw [List.map_append, List.map_reverse]; rfl) (lv_room (by rw [cat_cv]; exact hc)) hd hR.2
theorem aw_Ti {n idx i : Nat} (vs rest : List Value) (hi : i < 4) (hd : decode (mC M) pc = .ok (.invokevirtual idx, 3)) (hcl : (mY M').cls = "java/lang/String") (hm : cV_ M' n) (hlk : Cond.methodLink (mY M).cls idx (mY M') ∈ lw_g) (hn : vs.length = n) (hR : rr_ M' M kc ks) (hc : (rest.map (fun v => v.category)).sum ≤ 8) (hXs : xs_ M) {K' : Int32 → Hp_ → Prop}
    (hC : Ci M' (.ref (1000 + i) :: vs) h K') (k : ∀ r h', K' r h' → AW M (kc + (mR M').cells) (ks + (mR M').slots) (pc + 3) lv (.int r :: rest) h' K) : AW M kc ks pc lv (vs.reverse ++ .ref (1000 + i) :: rest) h K :=
  aw_callT hi hd hcl hm hlk hn hR hc hXs hC (fun _ _ ⟨r, e, w⟩ => e ▸ k r _ w)
end TXT
theorem c_isLatin1 (d i : Nat) (hi : i < 4) (h : Hp_) : Ci (m_J0_isLatin1_aae02 (d + 0) 0 0) [.ref (1000 + i)] h (fun r h' => r = 1 ∧ h' = h) := by
  refine Ct.of (fun _ _ _ => trivial) rfl (Nat.le_of_ble_eq_true rfl) ?_
  show AW (m_J0_isLatin1_aae02 (d + 0) 0 0) 0 0 0 [(0, .ref (1000 + i))] [] h (kI _)
  refine aw_tcmp tw_772 d_J0_isLatin1_aae02_0 ?_
  refine aw_if_eq (tgt := 17) d_J0_isLatin1_aae02_3 rfl (fun c => absurd c (by decide)) (fun _ => ?_)
  refine aw_aload_n (i := 0) rfl d_J0_isLatin1_aae02_6 0 rfl ?_
  refine aw_tcod hi tw_2710 d_J0_isLatin1_aae02_7 ?_
  refine aw_if_ne (tgt := 17) d_J0_isLatin1_aae02_10 rfl (fun c => absurd rfl c) (fun _ => ?_)
  refine aw_iconst (v := 1) d_J0_isLatin1_aae02_13 ic_1 ?_
  refine aw_goto (tgt := 18) d_J0_isLatin1_aae02_14 rfl ?_
  exact aw_zret rfl rfl d_J0_isLatin1_aae02_18 ⟨Nat.le_refl _, Nat.le_refl _⟩ ⟨_, rfl, rfl, rfl⟩
theorem c_coder (d i : Nat) (hi : i < 4) (h : Hp_) : Ci (m_J0_coder_7d493 (d + 0) 0 0) [.ref (1000 + i)] h (fun r h' => r = 0 ∧ h' = h) := by
  refine Ct.of (fun _ _ _ => trivial) rfl (Nat.le_of_ble_eq_true rfl) ?_
  show AW (m_J0_coder_7d493 (d + 0) 0 0) 0 0 0 [(0, .ref (1000 + i))] [] h (kI _)
  refine aw_tcmp tw_772 d_J0_coder_7d493_0 ?_
  refine aw_if_eq (tgt := 13) d_J0_coder_7d493_3 rfl (fun c => absurd c (by decide)) (fun _ => ?_)
  refine aw_aload_n (i := 0) rfl d_J0_coder_7d493_6 0 rfl ?_
  refine aw_tcod hi tw_2710 d_J0_coder_7d493_7 ?_
  refine aw_goto (tgt := 14) d_J0_coder_7d493_10 rfl ?_
  exact aw_zret rfl rfl d_J0_coder_7d493_14 ⟨Nat.le_refl _, Nat.le_refl _⟩ ⟨_, rfl, rfl, rfl⟩
theorem ln_sh {i : Nat} (hi : i < 4) : rin (Int32.ofNat (tln i) >>> ((0 : Int32) &&& 31)).toInt (0, 9) := by
  match i, hi with
  | 0, _ => exact ⟨by decide, by decide⟩
  | 1, _ => exact ⟨by decide, by decide⟩
  | 2, _ => exact ⟨by decide, by decide⟩
  | 3, _ => exact ⟨by decide, by decide⟩
  | i + 4, h => exact absurd h (by omega)
theorem c_length (d i : Nat) (hi : i < 4) (h : Hp_) : Ci (m_J0_length_8abf5 (d + 1) 0 0) [.ref (1000 + i)] h (fun r h' => rin r.toInt (0, 9) ∧ h' = h) := by
  refine Ct.of (fun _ _ _ => trivial) rfl (Nat.le_of_ble_eq_true rfl) ?_
  show AW (m_J0_length_8abf5 (d + 1) 0 0) 0 0 0 [(0, .ref (1000 + i))] [] h (kI _)
  refine aw_aload_n (i := 0) rfl d_J0_length_8abf5_0 0 rfl ?_
  refine aw_tval hi tw_2711 d_J0_length_8abf5_1 ?_
  refine aw_tlen hi d_J0_length_8abf5_4 ?_
  refine aw_aload_n (i := 0) rfl d_J0_length_8abf5_5 0 rfl ?_
  refine aw_Ti [] [.int (Int32.ofNat (tln i))] hi d_J0_length_8abf5_6 rfl (cV_J0_coder_7d493 (d + 0) 0 0) tw_778 rfl (rr0 (Nat.le_of_ble_eq_true rfl) (Nat.le_of_ble_eq_true rfl)) (Nat.le_of_ble_eq_true rfl) xs0 (c_coder d i hi h) (fun r h1 kk => ?_)
  obtain ⟨e0, e⟩ := kk
  rw [e, e0]
  refine aw_ishr d_J0_length_8abf5_9 ?_
  exact aw_iret rfl d_J0_length_8abf5_10 ⟨Nat.le_refl _, Nat.le_refl _⟩ ⟨_, rfl, ln_sh hi, rfl⟩
theorem c_canEncode (d : Nat) (x : Int32) (h : Hp_) : Ci (m_J1_canEncode_9a6ad (d + 0) 0 0) [.int x] h (fun _ h' => h' = h) := by
  refine Ct.of (fun _ _ _ => trivial) rfl (Nat.le_of_ble_eq_true rfl) ?_
  show AW (m_J1_canEncode_9a6ad (d + 0) 0 0) 0 0 0 [(0, .int x)] [] h (kI _)
  have z : AW (m_J1_canEncode_9a6ad (d + 0) 0 0) 0 0 15 [(0, .int x)] [] h (kI (fun _ h' => h' = h)) := by
    refine aw_iconst (v := 0) d_J1_canEncode_9a6ad_15 ic_0 ?_
    exact aw_zret rfl rfl d_J1_canEncode_9a6ad_16 ⟨Nat.le_refl _, Nat.le_refl _⟩ ⟨_, rfl, rfl⟩
  refine aw_iload_n (i := 0) rfl d_J1_canEncode_9a6ad_0 0 rfl ?_
  refine aw_if_lt (tgt := 15) d_J1_canEncode_9a6ad_1 rfl (fun _ => z) (fun _ => ?_)
  refine aw_iload_n (i := 0) rfl d_J1_canEncode_9a6ad_4 0 rfl ?_
  refine aw_sipush (v := 255) d_J1_canEncode_9a6ad_5 (by decide) ?_
  refine aw_icmp_gt (tgt := 15) d_J1_canEncode_9a6ad_8 rfl (fun _ => z) (fun _ => ?_)
  refine aw_iconst (v := 1) d_J1_canEncode_9a6ad_11 ic_1 ?_
  refine aw_goto (tgt := 16) d_J1_canEncode_9a6ad_12 rfl ?_
  exact aw_zret rfl rfl d_J1_canEncode_9a6ad_16 ⟨Nat.le_refl _, Nat.le_refl _⟩ ⟨_, rfl, rfl⟩
theorem tln_le {i : Nat} (hi : i < 4) : tln i ≤ 9 := by
  match i, hi with
  | 0, _ => decide
  | 1, _ => decide
  | 2, _ => decide
  | 3, _ => decide
  | i + 4, h => exact absurd h (by omega)
theorem vp_tln {i : Nat} {x : Int32} (h0 : 0 ≤ x.toInt) (h1 : x.toInt < (tln i : Int)) : vp_in x (tln i) := by
  have b : (x.toNatClampNeg : Int) = x.toInt := by
    show ((x.toInt.toNat : Nat) : Int) = _
    omega
  have a0 : (0 : Int32).toInt = 0 := rfl
  rintro (y | y)
  · have y := q_lt.mp y
    omega
  · omega
theorem l_ixc (d i : Nat) (hi : i < 4) (h : Hp_) (c f t b : Int32) (ht : t.toInt ≤ (tln i : Int)) : ∀ (N : Nat) (x : Int32), 0 ≤ x.toInt → (t.toInt - x.toInt).toNat = N →
    AW (m_J1_indexOfChar_4cfef (d + 0) 0 0) 0 0 7 [(0, .ref (2000 + i)), (1, .int c), (2, .int f), (3, .int t), (4, .int b), (5, .int x)] [] h (kI (fun r h' => rin r.toInt (-1, 8) ∧ h' = h)) := by
  intro N
  induction N with
  | zero =>
    intro x x0 e
    refine aw_iload d_J1_indexOfChar_4cfef_7 5 rfl ?_
    refine aw_iload_n (i := 3) rfl d_J1_indexOfChar_4cfef_9 3 rfl ?_
    refine aw_icmp_ge (tgt := 31) d_J1_indexOfChar_4cfef_10 rfl (fun _ => ?_) (fun z => ?_)
    · refine aw_iconst (v := -1) d_J1_indexOfChar_4cfef_31 ic_m1 ?_
      exact aw_iret rfl d_J1_indexOfChar_4cfef_32 ⟨Nat.le_refl _, Nat.le_refl _⟩ ⟨_, rfl, ⟨by decide, by decide⟩, rfl⟩
    · have z := q_nle z
      omega
  | succ N ih =>
    intro x x0 e
    have l9 := tln_le hi
    refine aw_iload d_J1_indexOfChar_4cfef_7 5 rfl ?_
    refine aw_iload_n (i := 3) rfl d_J1_indexOfChar_4cfef_9 3 rfl ?_
    refine aw_icmp_ge (tgt := 31) d_J1_indexOfChar_4cfef_10 rfl (fun _ => ?_) (fun z => ?_)
    · refine aw_iconst (v := -1) d_J1_indexOfChar_4cfef_31 ic_m1 ?_
      exact aw_iret rfl d_J1_indexOfChar_4cfef_32 ⟨Nat.le_refl _, Nat.le_refl _⟩ ⟨_, rfl, ⟨by decide, by decide⟩, rfl⟩
    · have z := q_nle z
      refine aw_aload_n (i := 0) rfl d_J1_indexOfChar_4cfef_13 0 rfl ?_
      refine aw_iload d_J1_indexOfChar_4cfef_14 5 rfl ?_
      refine aw_tb hi (vp_tln x0 (by omega)) d_J1_indexOfChar_4cfef_16 ?_
      refine aw_iload d_J1_indexOfChar_4cfef_17 4 rfl ?_
      refine aw_icmp_ne (tgt := 25) d_J1_indexOfChar_4cfef_19 rfl (fun _ => ?_) (fun _ => ?_)
      · refine aw_iinc (v := (x + 1)) [(0, .ref (2000 + i)), (1, .int c), (2, .int f), (3, .int t), (4, .int b), (5, .int (x + 1))] d_J1_indexOfChar_4cfef_25 5 rfl rfl (Nat.le_of_ble_eq_true rfl) rfl rfl ?_
        refine aw_goto (tgt := 7) d_J1_indexOfChar_4cfef_28 rfl ?_
        have e1 : (x + 1).toInt = x.toInt + 1 := by
          rw [Int32.toInt_add]
          have o1 : (1 : Int32).toInt = 1 := rfl
          rw [o1, Int.bmod_eq_of_le (by omega) (by omega)]
        exact ih (x + 1) (by omega) (by omega)
      · refine aw_iload d_J1_indexOfChar_4cfef_22 5 rfl ?_
        exact aw_iret rfl d_J1_indexOfChar_4cfef_24 ⟨Nat.le_refl _, Nat.le_refl _⟩ ⟨_, rfl, ⟨by show (-1 : Int) ≤ _; omega, by show _ ≤ (8 : Int); omega⟩, rfl⟩
theorem c_ixChar (d i : Nat) (hi : i < 4) (h : Hp_) (c f t : Int32) (hf : 0 ≤ f.toInt) (ht : t.toInt ≤ (tln i : Int)) : Ci (m_J1_indexOfChar_4cfef (d + 0) 0 0) [.ref (2000 + i), .int c, .int f, .int t] h (fun r h' => rin r.toInt (-1, 8) ∧ h' = h) := by
  refine Ct.of (fun _ _ _ => trivial) rfl (Nat.le_of_ble_eq_true rfl) ?_
  show AW (m_J1_indexOfChar_4cfef (d + 0) 0 0) 0 0 0 [(0, .ref (2000 + i)), (1, .int c), (2, .int f), (3, .int t)] [] h (kI _)
  refine aw_iload_n (i := 1) rfl d_J1_indexOfChar_4cfef_0 1 rfl ?_
  refine aw_i2b d_J1_indexOfChar_4cfef_1 ?_
  refine aw_istore (i := 4) [(0, .ref (2000 + i)), (1, .int c), (2, .int f), (3, .int t), (4, .int (c.toInt8.toInt32))] d_J1_indexOfChar_4cfef_2 (Nat.le_of_ble_eq_true rfl) rfl rfl ?_
  refine aw_iload_n (i := 2) rfl d_J1_indexOfChar_4cfef_4 2 rfl ?_
  refine aw_istore (i := 5) [(0, .ref (2000 + i)), (1, .int c), (2, .int f), (3, .int t), (4, .int (c.toInt8.toInt32)), (5, .int f)] d_J1_indexOfChar_4cfef_5 (Nat.le_of_ble_eq_true rfl) rfl rfl ?_
  exact l_ixc d i hi h c f t _ ht _ f hf rfl
theorem c_ixLatin (d i : Nat) (hi : i < 4) (h : Hp_) (c f t : Int32) : Ci (m_J1_indexOf_4cfef (d + 1) 0 0) [.ref (2000 + i), .int c, .int f, .int t] h (fun r h' => rin r.toInt (-1, 8) ∧ h' = h) := by
  refine Ct.of (fun _ _ _ => trivial) rfl (Nat.le_of_ble_eq_true rfl) ?_
  show AW (m_J1_indexOf_4cfef (d + 1) 0 0) 0 0 0 [(0, .ref (2000 + i)), (1, .int c), (2, .int f), (3, .int t)] [] h (kI _)
  have l9 := tln_le hi
  refine aw_iload_n (i := 1) rfl d_J1_indexOf_4cfef_0 1 rfl ?_
  refine aw_Si [.int c] [] d_J1_indexOf_4cfef_1 (cS_J1_canEncode_9a6ad (d + 0) 0 0) tw_785 rfl (rr0 (Nat.le_of_ble_eq_true rfl) (Nat.le_of_ble_eq_true rfl)) (Nat.le_of_ble_eq_true rfl) xs0 (c_canEncode d c h) (fun r h1 kk => ?_)
  rw [kk]
  refine aw_if_ne (tgt := 9) d_J1_indexOf_4cfef_4 rfl (fun _ => ?_) (fun _ => ?_)
  · refine aw_iload_n (i := 2) rfl d_J1_indexOf_4cfef_9 2 rfl ?_
    refine aw_iconst (v := 0) d_J1_indexOf_4cfef_10 ic_0 ?_
    refine aw_mmax d_J1_indexOf_4cfef_11 tw_788 (show 1 ≤ (d + 1) by omega) (Nat.le_trans (Nat.le_of_ble_eq_true rfl) (show 100 ≤ 100 * (d + 1) by omega)) ⟨Nat.le_refl _, Nat.le_refl _⟩ ?_
    generalize hg : (if f < 0 then (0 : Int32) else f) = g
    have g0 : 0 ≤ g.toInt := by
      rw [← hg]
      split
      · decide
      · rename_i z
        have := q_nlt z
        have o : (0 : Int32).toInt = 0 := rfl
        omega
    refine aw_istore_n (i := 2) rfl [(0, .ref (2000 + i)), (1, .int c), (2, .int g), (3, .int t)] d_J1_indexOf_4cfef_14 (Nat.le_of_ble_eq_true rfl) rfl rfl ?_
    refine aw_iload_n (i := 3) rfl d_J1_indexOf_4cfef_15 3 rfl ?_
    refine aw_aload_n (i := 0) rfl d_J1_indexOf_4cfef_16 0 rfl ?_
    refine aw_tlen hi d_J1_indexOf_4cfef_17 ?_
    refine aw_mmin d_J1_indexOf_4cfef_18 tw_791 (show 1 ≤ (d + 1) by omega) (Nat.le_trans (Nat.le_of_ble_eq_true rfl) (show 100 ≤ 100 * (d + 1) by omega)) ⟨Nat.le_refl _, Nat.le_refl _⟩ ?_
    generalize hg2 : (if Int32.ofNat (tln i) < t then Int32.ofNat (tln i) else t) = u
    have en : (Int32.ofNat (tln i)).toInt = (tln i : Int) := Int32.toInt_ofNat_of_lt (by omega)
    have u0 : u.toInt ≤ (tln i : Int) := by
      rw [← hg2]
      split
      · omega
      · rename_i z
        have := q_nlt z
        omega
    refine aw_istore_n (i := 3) rfl [(0, .ref (2000 + i)), (1, .int c), (2, .int g), (3, .int u)] d_J1_indexOf_4cfef_21 (Nat.le_of_ble_eq_true rfl) rfl rfl ?_
    refine aw_iload_n (i := 2) rfl d_J1_indexOf_4cfef_22 2 rfl ?_
    refine aw_iload_n (i := 3) rfl d_J1_indexOf_4cfef_23 3 rfl ?_
    refine aw_icmp_lt (tgt := 29) d_J1_indexOf_4cfef_24 rfl (fun _ => ?_) (fun _ => ?_)
    · refine aw_aload_n (i := 0) rfl d_J1_indexOf_4cfef_29 0 rfl ?_
      refine aw_iload_n (i := 1) rfl d_J1_indexOf_4cfef_30 1 rfl ?_
      refine aw_iload_n (i := 2) rfl d_J1_indexOf_4cfef_31 2 rfl ?_
      refine aw_iload_n (i := 3) rfl d_J1_indexOf_4cfef_32 3 rfl ?_
      refine aw_Si [.ref (2000 + i), .int c, .int g, .int u] [] d_J1_indexOf_4cfef_33 (cS_J1_indexOfChar_4cfef (d + 0) 0 0) tw_792 rfl (rr0 (Nat.le_of_ble_eq_true rfl) (Nat.le_of_ble_eq_true rfl)) (Nat.le_of_ble_eq_true rfl) xs0 (c_ixChar d i hi h c g u g0 u0) (fun r h1 kk => ?_)
      exact aw_iret rfl d_J1_indexOf_4cfef_36 ⟨Nat.le_refl _, Nat.le_refl _⟩ ⟨_, rfl, kk⟩
    · refine aw_iconst (v := -1) d_J1_indexOf_4cfef_27 ic_m1 ?_
      exact aw_iret rfl d_J1_indexOf_4cfef_28 ⟨Nat.le_refl _, Nat.le_refl _⟩ ⟨_, rfl, ⟨by decide, by decide⟩, rfl⟩
  · refine aw_iconst (v := -1) d_J1_indexOf_4cfef_7 ic_m1 ?_
    exact aw_iret rfl d_J1_indexOf_4cfef_8 ⟨Nat.le_refl _, Nat.le_refl _⟩ ⟨_, rfl, ⟨by decide, by decide⟩, rfl⟩
theorem c_ix2 (d i : Nat) (hi : i < 4) (h : Hp_) (c f : Int32) : Ci (m_J0_indexOf_7cf53 (d + 2) 0 0) [.ref (1000 + i), .int c, .int f] h (fun r h' => rin r.toInt (-1, 8) ∧ h' = h) := by
  refine Ct.of (fun _ _ _ => trivial) rfl (Nat.le_of_ble_eq_true rfl) ?_
  show AW (m_J0_indexOf_7cf53 (d + 2) 0 0) 0 0 0 [(0, .ref (1000 + i)), (1, .int c), (2, .int f)] [] h (kI _)
  refine aw_aload_n (i := 0) rfl d_J0_indexOf_7cf53_0 0 rfl ?_
  refine aw_Ti [] [] hi d_J0_indexOf_7cf53_1 rfl (cV_J0_isLatin1_aae02 (d + 0) 0 0) tw_768 rfl (rr0 (Nat.le_of_ble_eq_true rfl) (Nat.le_of_ble_eq_true rfl)) (Nat.le_of_ble_eq_true rfl) xs0 (c_isLatin1 d i hi h) (fun r h1 kk => ?_)
  obtain ⟨e1, e2⟩ := kk
  rw [e2, e1]
  refine aw_if_eq (tgt := 23) d_J0_indexOf_7cf53_4 rfl (fun c => absurd c (by decide)) (fun _ => ?_)
  refine aw_aload_n (i := 0) rfl d_J0_indexOf_7cf53_7 0 rfl ?_
  refine aw_tval hi tw_2711 d_J0_indexOf_7cf53_8 ?_
  refine aw_iload_n (i := 1) rfl d_J0_indexOf_7cf53_11 1 rfl ?_
  refine aw_iload_n (i := 2) rfl d_J0_indexOf_7cf53_12 2 rfl ?_
  refine aw_aload_n (i := 0) rfl d_J0_indexOf_7cf53_13 0 rfl ?_
  refine aw_Ti [] [.int f, .int c, .ref (2000 + i)] hi d_J0_indexOf_7cf53_14 rfl (cV_J0_length_8abf5 (d + 1) 0 0) tw_774 rfl (rr0 (Nat.le_of_ble_eq_true rfl) (Nat.le_of_ble_eq_true rfl)) (Nat.le_of_ble_eq_true rfl) xs0 (c_length d i hi h) (fun t h1 kk => ?_)
  rw [kk.2]
  refine aw_Si [.ref (2000 + i), .int c, .int f, .int t] [] d_J0_indexOf_7cf53_17 (cS_J1_indexOf_4cfef (d + 1) 0 0) tw_782 rfl (rr0 (Nat.le_of_ble_eq_true rfl) (Nat.le_of_ble_eq_true rfl)) (Nat.le_of_ble_eq_true rfl) xs0 (c_ixLatin d i hi h c f t) (fun r h1 kk => ?_)
  refine aw_goto (tgt := 36) d_J0_indexOf_7cf53_20 rfl ?_
  exact aw_iret rfl d_J0_indexOf_7cf53_36 ⟨Nat.le_refl _, Nat.le_refl _⟩ ⟨_, rfl, kk⟩
theorem c_ix1 (d i : Nat) (hi : i < 4) (h : Hp_) (c : Int32) : Ci (m_J0_indexOf_0f7a4 (d + 3) 0 0) [.ref (1000 + i), .int c] h (fun r h' => rin r.toInt (-1, 8) ∧ h' = h) := by
  refine Ct.of (fun _ _ _ => trivial) rfl (Nat.le_of_ble_eq_true rfl) ?_
  show AW (m_J0_indexOf_0f7a4 (d + 3) 0 0) 0 0 0 [(0, .ref (1000 + i)), (1, .int c)] [] h (kI _)
  refine aw_aload_n (i := 0) rfl d_J0_indexOf_0f7a4_0 0 rfl ?_
  refine aw_iload_n (i := 1) rfl d_J0_indexOf_0f7a4_1 1 rfl ?_
  refine aw_iconst (v := 0) d_J0_indexOf_0f7a4_2 ic_0 ?_
  refine aw_Ti [.int c, .int 0] [] hi d_J0_indexOf_0f7a4_3 rfl (cV_J0_indexOf_7cf53 (d + 2) 0 0) tw_764 rfl (rr0 (Nat.le_of_ble_eq_true rfl) (Nat.le_of_ble_eq_true rfl)) (Nat.le_of_ble_eq_true rfl) xs0 (c_ix2 d i hi h c 0) (fun r h1 kk => ?_)
  exact aw_iret rfl d_J0_indexOf_0f7a4_6 ⟨Nat.le_refl _, Nat.le_refl _⟩ ⟨_, rfl, kk⟩
