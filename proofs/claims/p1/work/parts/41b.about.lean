theorem wLa_g : wLa ∈ lw_g := lw_c7 223 (by decide +kernel) (by decide +kernel)
theorem aw_La {L : Nat} {xs : Nat → Int32} {kc ks pc : Nat} {lv : List (Nat × Value)} {K : Option Value → Hp_ → Prop} (x1 x2 : Int32) (hd : decode code pc = .ok (.invokestatic 75, 3)) (hk : kc + 1 ≤ 600002 ∧ ks + 6 ≤ 7302232) (k : AW (ML L xs) (kc + 1) (ks + 6) (pc + 3) lv [.int 1] HF K) : AW (ML L xs) kc ks pc lv [.ref 2, .int x2, .int x1, .ref 0] HF K := by
  intro l p e s m args below meth c dC dI cy A ad0 adV ad dom0 dom H locs ls hf hX hT hE hW hS hl ho hs
  have htg := hf.2.2.2.2.2.2.2.1
  refine aw_back (K' := kLa) (rest := []) (a := ([Value.ref 0, .int x1, .int x2, .ref 2].map (h_cv ad)).toArray) (mc := 1) (ms := 6) xsL hf hX hT hE hW hS hl ho (fun v hv => by cases hv) ?_ (fun v h' kk => ?_)
  · have hws : ∀ w ∈ wLa :: lw_g, ∀ (a' : Array Value) (U : State), s.WarmedH U.vm → w.before a' U = true := fun w hw a' U hWm => by
      have hw' : w ∈ lw_g := (List.mem_cons.mp hw).elim (fun e => e ▸ wLa_g) id
      exact word_at hWm (good_of_word (List.mem_filter.mp hw').2) (htg w hw')
    have hlen : ∀ sig, parseMethodDescriptor yLa.desc = some sig → 4 = sig.parameters.length := fun sig h => by
      have h2 : (parseMethodDescriptor "(LCountyWatch;II[J)I").map (fun d => d.parameters.length) = some 4 := by decide +kernel
      rw [h] at h2
      exact (Option.some.inj h2).symm
    exact vx_runSW (As := [Value.ref 0, .int x1, .int x2, .ref 2].map (h_cv ad)) ⟨hf.1, hf.2.1, hf.2.2.1, hf.2.2.2.2.2.1, htg⟩ (xl_met l dC dI cy ad adV dom H.size hW.1 x1 x2) ⟨⟨rfl, rfl, show 20 + 1 ≤ 2048 from by decide, show 8 + (5 + 11) + 2000 ≤ 84000 from by decide +kernel, hws, List.mem_cons_self⟩, htg _ wLa_g, htg _ tw_0, ⟨by decide, by decide⟩, hlen, htg _ tw_1661, htg _ tw_1662⟩ ⟨cz_blind, fun U hU hWm => ⟨rfl, cp_pre hf hT hW hS hU hWm, hX.2.2.2.go hS hU hWm (cp_sub hf.2.2.2.2.2.2.2.2.2 hW hS)⟩⟩ rfl rfl hl.1 rfl (lv_room (Nat.le_of_ble_eq_true rfl)) hd hk
  · obtain ⟨rfl, rfl⟩ := kk
    exact k
theorem lc_12 (xs : Nat → Int32) : AW (ML 6 xs) 202 318709 756 [(0, .ref 1100), (1, .ref 0), (2, .ref 1), (3, .ref 2), (4, .int 0)] [] HF k1_ := by
  refine aw_aload_n (i := 1) rfl d_L_756 1 rfl ?_
  refine aw_aload_n (i := 0) rfl d_L_757 0 rfl ?_
  refine aw_iload d_L_758 4 rfl ?_
  refine aw_iconst (v := 1) d_L_760 ic_1 ?_
  refine aw_iadd d_L_761 ?_
  refine aw_vi (v2 := 1) (by decide) ?_
  refine aw_sld 1 (by decide) (vin_c (by decide)) d_L_762 ?_
  refine aw_aload_n (i := 0) rfl d_L_763 0 rfl ?_
  refine aw_iload d_L_764 4 rfl ?_
  refine aw_iconst (v := 2) d_L_766 ic_2 ?_
  refine aw_iadd d_L_767 ?_
  refine aw_vi (v2 := 2) (by decide) ?_
  refine aw_sld 2 (by decide) (vin_c (by decide)) d_L_768 ?_
  refine aw_aload_n (i := 3) rfl d_L_769 3 rfl ?_
  refine aw_La (xs 1) (xs 2) d_L_770 ⟨by decide +kernel, by decide +kernel⟩ ?_
  refine aw_istore [(0, .ref 1100), (1, .ref 0), (2, .ref 1), (3, .ref 2), (4, .int 0), (5, .int 1)] d_L_773 (Nat.le_of_ble_eq_true rfl) rfl rfl ?_
  refine aw_aload_n (i := 2) rfl d_L_775 2 rfl ?_
  refine aw_aload_n (i := 0) rfl d_L_776 0 rfl ?_
  refine aw_iload d_L_777 4 rfl ?_
  refine aw_iconst (v := 1) d_L_779 ic_1 ?_
  refine aw_iadd d_L_780 ?_
  refine aw_vi (v2 := 1) (by decide) ?_
  refine aw_sld 1 (by decide) (vin_c (by decide)) d_L_781 ?_
  refine aw_aload_n (i := 0) rfl d_L_782 0 rfl ?_
  refine aw_iload d_L_783 4 rfl ?_
  refine aw_iconst (v := 2) d_L_785 ic_2 ?_
  refine aw_iadd d_L_786 ?_
  refine aw_vi (v2 := 2) (by decide) ?_
  refine aw_sld 2 (by decide) (vin_c (by decide)) d_L_787 ?_
  refine aw_Vi 1 [.int (xs 1), .int (xs 2)] [] d_L_788 (cV_X12_about (0 + 2) 0 0) kc_12 (ws_1 wHF) tw_2454 rfl ⟨⟨Nat.le_of_ble_eq_true rfl, Nat.le_of_ble_eq_true rfl⟩, show 202 + 1 + 0 ≤ 600002 from by decide +kernel, show 318709 + 6 + 0 ≤ 7302232 from by decide +kernel⟩ (Nat.le_of_ble_eq_true rfl) xsL (f_X12_about 0 HF wHF hf_1_7 (xs 1) (xs 2)) (fun r1 h1 k1 => ?_)
  obtain ⟨e8, e9⟩ := k1
  rw [e8, e9]
  refine aw_istore [(0, .ref 1100), (1, .ref 0), (2, .ref 1), (3, .ref 2), (4, .int 0), (5, .int 1), (6, .int 0)] d_L_791 (Nat.le_of_ble_eq_true rfl) rfl rfl ?_
  refine aw_aload_n (i := 2) rfl d_L_793 2 rfl ?_
  refine aw_Vi 1 [] [] d_L_794 (cV_X12_thrown (0 + 0) 0 0) kc_12 (ws_1 (wHF.im 1 1 1)) tw_2136 rfl ⟨⟨Nat.le_of_ble_eq_true rfl, Nat.le_of_ble_eq_true rfl⟩, show 202 + 1 + 0 + 0 ≤ 600002 from by decide +kernel, show 318709 + 6 + 0 + 0 ≤ 7302232 from by decide +kernel⟩ (Nat.le_of_ble_eq_true rfl) xsL (f_X12_thrown1 0 (h_im HF 1 1 1) (wHF.im 1 1 1) (hi_s HF 1 1 1)) (fun r2 h2 k2 => ?_)
  obtain ⟨e8, e9⟩ := k2
  rw [e8]
  refine aw_iload d_L_797 5 rfl ?_
  refine aw_icmp_eq (tgt := 804) d_L_799 rfl (fun _ => ?_) (fun z => absurd rfl z)
  refine aw_iload d_L_804 5 rfl ?_
  refine aw_if_ne (tgt := 821) d_L_806 rfl (fun _ => ?_) (fun z => absurd z (by decide))
  refine aw_goto (tgt := 2434) d_L_821 rfl ?_
  refine aw_lvp [0, 1, 2, 3, 4] [(0, .ref 1100), (1, .ref 0), (2, .ref 1), (3, .ref 2), (4, .int 0)] rfl ?_
  exact lt_6 xs _ _ ⟨by decide +kernel, by decide +kernel⟩ _
