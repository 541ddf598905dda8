section
/-! the law, on every script -/
noncomputable def lX (L : Nat) (xs : Nat → Int32) : (Nat → Nat) → (Nat → Prop) → State → Prop := fun ad A s => va_X (ad 1100) L xs s s.heap ∧ ad 1100 < s.heap.size ∧ ¬ A (ad 1100) ∧ Zx A s
noncomputable abbrev ML (L : Nat) (xs : Nat → Int32) : Mc_ := (lX L xs, x, code, 7, ret, room_1)
theorem xsL {L : Nat} {xs : Nat → Int32} : xs_ (ML L xs) := fun ad ad' A s he hX => by
  have e := he 1100 (by decide)
  show va_X (ad' 1100) L xs s s.heap ∧ ad' 1100 < s.heap.size ∧ ¬ A (ad' 1100) ∧ Zx A s
  rw [e]
  exact hX
section SCR
variable {L : Nat} {xs : Nat → Int32} {kc ks pc : Nat} {lv : List (Nat × Value)} {st : List Value} {h : Hp_} {K : Option Value → Hp_ → Prop}
theorem aw_sld {i : Int32} (n : Nat) (hn : i.toNatClampNeg = n) (hin : vp_in i L) (hd : decode code pc = .ok (.iaload, 1)) (k : AW (ML L xs) kc ks (pc + 1) lv (.int (xs n) :: st) h K) : AW (ML L xs) kc ks pc lv (.int i :: .ref 1100 :: st) h K := by
  intro l p e s m args below meth c dC dI cy A ad0 adV ad dom0 dom H locs ls hf hX hT hE hW hS hl ho hs
  subst hn
  exact va_sld hf.1 hf.2.1 hX.1 hX.2.1 hX.2.2.1 hS hin hd (k l p e s m args below meth c dC dI cy A ad0 adV ad dom0 dom H locs ls hf hX hT hE hW hS hl ho (ok_c ok_i (ok_t (ok_t hs))))
theorem aw_slen (hd : decode code pc = .ok (.arraylength, 1)) (k : AW (ML L xs) kc ks (pc + 1) lv (.int (Int32.ofNat L) :: st) h K) : AW (ML L xs) kc ks pc lv (.ref 1100 :: st) h K := by
  intro l p e s m args below meth c dC dI cy A ad0 adV ad dom0 dom H locs ls hf hX hT hE hW hS hl ho hs
  exact va_slen hf.1 hf.2.1 hX.1 hX.2.1 hX.2.2.1 hS hd (k l p e s m args below meth c dC dI cy A ad0 adV ad dom0 dom H locs ls hf hX hT hE hW hS hl ho (ok_c ok_i (ok_t hs)))
noncomputable abbrev lv5 (i : Nat) : List (Nat × Value) := [(0, .ref 1100), (1, .ref 0), (2, .ref 1), (3, .ref 2), (4, .int (Int32.ofNat i))]
theorem aw_arg {i j : Nat} {n : Int} {v : Int32} (d0 : decode code pc = .ok (.aload_n 0, 1)) (d1 : decode code (pc + 1) = .ok (.iload 4, 2)) (d2 : decode code (pc + 3) = .ok (.iconst n, 1)) (d3 : decode code (pc + 4) = .ok (.iadd, 1)) (d4 : decode code (pc + 5) = .ok (.iaload, 1)) (hv : Int32.ofInt n = v) (hj : Int32.ofNat i + v = Int32.ofNat (i + j)) (hL : i + j < L) (lL : L ≤ 3072) (k : AW (ML L xs) kc ks (pc + 6) (lv5 i) (.int (xs (i + j)) :: st) h K) : AW (ML L xs) kc ks pc (lv5 i) st h K := by
  refine aw_aload_n (i := 0) rfl d0 0 rfl ?_
  refine aw_iload d1 4 rfl ?_
  refine aw_iconst (v := v) d2 hv ?_
  refine aw_iadd d3 ?_
  refine aw_vi (v2 := Int32.ofNat (i + j)) hj ?_
  exact aw_sld (i + j) (on_k (by omega)) (on_in hL (by omega)) d4 k
theorem aw_arg2 {i j : Nat} {n : Int} {v r : Int32} (d0 : decode code pc = .ok (.aload_n 0, 1)) (d1 : decode code (pc + 1) = .ok (.iload 4, 2)) (d2 : decode code (pc + 3) = .ok (.iconst n, 1)) (d3 : decode code (pc + 4) = .ok (.iadd, 1)) (d4 : decode code (pc + 5) = .ok (.iaload, 1)) (hv : Int32.ofInt n = v) (hj : Int32.ofNat i + v = Int32.ofNat (i + j)) (hL : i + j < L) (lL : L ≤ 3072) (k : AW (ML L xs) kc ks (pc + 6) [(0, .ref 1100), (1, .ref 0), (2, .ref 1), (3, .ref 2), (4, .int (Int32.ofNat i)), (5, .int r)] (.int (xs (i + j)) :: st) h K) : AW (ML L xs) kc ks pc [(0, .ref 1100), (1, .ref 0), (2, .ref 1), (3, .ref 2), (4, .int (Int32.ofNat i)), (5, .int r)] st h K := by
  refine aw_aload_n (i := 0) rfl d0 0 rfl ?_
  refine aw_iload d1 4 rfl ?_
  refine aw_iconst (v := v) d2 hv ?_
  refine aw_iadd d3 ?_
  refine aw_vi (v2 := Int32.ofNat (i + j)) hj ?_
  exact aw_sld (i + j) (on_k (by omega)) (on_in hL (by omega)) d4 k
/-- a call whose answer is thrown away -/
theorem aw_Kp {M' : Mc_} {n idx ci N a : Nat} {c : Ctr} {T : u_T} (vs : List Value) (hC : Hc M' c) (ma : am h (vs.reverse ++ [.ref a]) c.1) (I : Iv h) (hp : hm h c.2.1) (hd : decode code pc = .ok (.invokevirtual idx, 3)) (hm : cV_ M' n) (hkc : kc_ ci (mY M').cls T N) (hs : h_sh h a = some (ci + 10, N)) (hlk : Cond.methodLink x.cls idx (mY M') ∈ lw_g) (hn : vs.length = n) (hz : ((mR M').frames + 1 ≤ 2048 ∧ 8 + (mN M' + 11) + (mR M').locals ≤ 84000) ∧ (mR M').cells = 0 ∧ (mR M').slots = 0) (hk : kc ≤ 118216 ∧ ks ≤ 8741458) (hr : ∃ g, c.2.2.1 = some (.inl g)) (hq : decode code (pc + 3) = .ok (.pop, 1))
    (k : ∀ h', Iv h' → Fr c.2.2.2.2 h h' → AW (ML L xs) kc ks (pc + 4) lv [] h' K) : AW (ML L xs) kc ks pc lv (vs.reverse ++ [.ref a]) h K := by
  refine aw_Vk (M := ML L xs) (M' := M') vs hC ma I hp hd hm hkc hs hlk hn (by decide) ⟨hz.1, hz.2.1, hz.2.2, xsL⟩ hk (fun v h' kv => ?_)
  obtain ⟨⟨r, s, gh⟩, eg⟩ := hr
  have q := kv.2.2.2
  rw [eg] at q
  obtain ⟨x2, ev, y2, ey, _⟩ := q
  subst ev
  subst ey
  exact aw_pop hq rfl (k h' kv.1 kv.2.1)
theorem aw_Kv {M' : Mc_} {n idx ci N a : Nat} {c : Ctr} {T : u_T} (vs : List Value) (hC : Hc M' c) (ma : am h (vs.reverse ++ [.ref a]) c.1) (I : Iv h) (hp : hm h c.2.1) (hd : decode code pc = .ok (.invokevirtual idx, 3)) (hm : cV_ M' n) (hkc : kc_ ci (mY M').cls T N) (hs : h_sh h a = some (ci + 10, N)) (hlk : Cond.methodLink x.cls idx (mY M') ∈ lw_g) (hn : vs.length = n) (hz : ((mR M').frames + 1 ≤ 2048 ∧ 8 + (mN M' + 11) + (mR M').locals ≤ 84000) ∧ (mR M').cells = 0 ∧ (mR M').slots = 0) (hk : kc ≤ 118216 ∧ ks ≤ 8741458) (hr : c.2.2.1 = none)
    (k : ∀ h', Iv h' → Fr c.2.2.2.2 h h' → AW (ML L xs) kc ks (pc + 3) lv [] h' K) : AW (ML L xs) kc ks pc lv (vs.reverse ++ [.ref a]) h K := by
  refine aw_Vk (M := ML L xs) (M' := M') vs hC ma I hp hd hm hkc hs hlk hn (by decide) ⟨hz.1, hz.2.1, hz.2.2, xsL⟩ hk (fun v h' kv => ?_)
  have q := kv.2.2.2
  rw [hr] at q
  have ev : v = none := q
  subst ev
  exact k h' kv.1 kv.2.1
end SCR
noncomputable abbrev k1_ : Option Value → Hp_ → Prop := fun v _ => v = some (.int 1)
theorem oa_1 {n : Nat} (h : n < 100000) : Int32.ofNat n + 1 = Int32.ofNat (n + 1) := on_s (by omega)
theorem oa_2 {n : Nat} (h : n < 100000) : Int32.ofNat n + 2 = Int32.ofNat (n + 2) := on_2 h
theorem oa_3 {n : Nat} (h : n < 100000) : Int32.ofNat n + 3 = Int32.ofNat (n + 3) := on_3 h
theorem oa_4 {n : Nat} (h : n < 100000) : Int32.ofNat n + 4 = Int32.ofNat (n + 4) := by
  have t : (4 : Int32).toInt = 4 := rfl
  have a := on_j (n := n) (by omega)
  exact Int32.toInt_inj.mp (by rw [tx_add (by rw [t]; omega) (by rw [t]; omega), t, on_j (n := n + 4) (by omega)]; omega)
theorem oa_5 {n : Nat} (h : n < 100000) : Int32.ofNat n + 5 = Int32.ofNat (n + 5) := by
  have t : (5 : Int32).toInt = 5 := rfl
  have a := on_j (n := n) (by omega)
  exact Int32.toInt_inj.mp (by rw [tx_add (by rw [t]; omega) (by rw [t]; omega), t, on_j (n := n + 5) (by omega)]; omega)
theorem oa_6 {n : Nat} (h : n < 100000) : Int32.ofNat n + Int32.ofInt 6 = Int32.ofNat (n + 6) := by
  have t : (Int32.ofInt 6).toInt = 6 := by decide
  have a := on_j (n := n) (by omega)
  exact Int32.toInt_inj.mp (by rw [tx_add (by rw [t]; omega) (by rw [t]; omega), t, on_j (n := n + 6) (by omega)]; omega)
/-! the room: what the history's rows have cost so far -/
noncomputable def ph (N : Nat) : Nat := if N = 20000 then 60000 else 2 * N
theorem ph_le {N : Nat} (h : N ≤ 20000) : ph N ≤ 60000 := by
  unfold ph
  split <;> omega
noncomputable def Rm (t N kc ks : Nat) : Prop := kc ≤ 202 + t ∧ ks ≤ 318709 + 17 * t + ph N ∧ N ≤ 20000
theorem Rm.up {t N kc ks : Nat} (R : Rm t N kc ks) : Rm (t + 1) N kc ks := ⟨by have := R.1; omega, by have := R.2.1; omega, R.2.2⟩
theorem Rm.con {t N kc ks : Nat} (R : Rm t N kc ks) : Rm (t + 1) N (kc + 1) (ks + 17) := ⟨by have := R.1; omega, by have := R.2.1; omega, R.2.2⟩
theorem Rm.abt {t N kc ks : Nat} (R : Rm t N kc ks) : Rm (t + 1) N (kc + 1) (ks + 6) := ⟨by have := R.1; omega, by have := R.2.1; omega, R.2.2⟩
theorem hcost_le {mc ms N N' : Nat} (h : hcost mc ms N N') (l : N' ≤ 20000) : mc ≤ 1 ∧ ms ≤ 20000 := by
  rcases h with ⟨a, b, c⟩ | ⟨a, b, c, d⟩
  · omega
  · omega
theorem Rm.tick {t N N' kc ks mc ms : Nat} (R : Rm t N kc ks) (h : hcost mc ms N N') (l : N' ≤ 20000) : Rm (t + 1) N' (kc + mc) (ks + ms) := by
  obtain ⟨r1, r2, r3⟩ := R
  rcases h with ⟨a, b, c⟩ | ⟨a, b, c, d⟩
  · subst c
    exact ⟨by omega, by omega, l⟩
  · refine ⟨by omega, ?_, l⟩
    have p : ph N = 2 * N := by
      unfold ph
      rw [if_neg (by omega)]
    rw [p] at r2
    unfold ph
    split
    · omega
    · omega
theorem Rm.ok {t N kc ks : Nat} (R : Rm t N kc ks) (h : t ≤ 600) : kc + 20 ≤ 118216 ∧ ks + 20020 ≤ 8741458 := by
  have p := ph_le R.2.2
  have r1 := R.1
  have r2 := R.2.1
  exact ⟨by omega, by omega⟩
theorem wLa_g : wLa ∈ lw_g := lw_c7 223 (by decide +kernel) (by decide +kernel)
theorem aw_La {L : Nat} {xs : Nat → Int32} {kc ks pc : Nat} {lv : List (Nat × Value)} {h : Hp_} {K : Option Value → Hp_ → Prop} (I : Iv h) (s2 : h_sh h 2 = some (3, 1)) (x1 x2 : Int32) (hd : decode code pc = .ok (.invokestatic 75, 3)) (hk : kc + 1 ≤ 118216 ∧ ks + 6 ≤ 8741458) (k : ∀ r h', Iv h' → Fr [2999] h h' → AW (ML L xs) (kc + 1) (ks + 6) (pc + 3) lv [.int r] h' K) : AW (ML L xs) kc ks pc lv [.ref 2, .int x2, .int x1, .ref 0] h K := by
  intro l p e s m args below meth c dC dI cy A ad0 adV ad dom0 dom H locs ls hf hX hT hE hW hS hl ho hs
  have htg := hf.2.2.2.2.2.2.2.1
  refine aw_back (K' := kLa h) (rest := []) (a := ([Value.ref 0, .int x1, .int x2, .ref 2].map (h_cv ad)).toArray) (mc := 1) (ms := 6) xsL hf hX hT hE hW hS hl ho (fun v hv => by cases hv) ?_ (fun v h' kk => ?_)
  · have hws : ∀ w ∈ wLa :: lw_g, ∀ (a' : Array Value) (U : State), s.WarmedH U.vm → w.before a' U = true := fun w hw a' U hWm => by
      have hw' : w ∈ lw_g := (List.mem_cons.mp hw).elim (fun e => e ▸ wLa_g) id
      exact word_at hWm (good_of_word (List.mem_filter.mp hw').2) (htg w hw')
    have hlen : ∀ sig, parseMethodDescriptor yLa.desc = some sig → 4 = sig.parameters.length := fun sig h => by
      have h2 : (parseMethodDescriptor "(LCountyWatch;II[J)I").map (fun d => d.parameters.length) = some 4 := by decide +kernel
      rw [h] at h2
      exact (Option.some.inj h2).symm
    exact vx_runSW (As := [Value.ref 0, .int x1, .int x2, .ref 2].map (h_cv ad)) ⟨hf.1, hf.2.1, hf.2.2.1, hf.2.2.2.2.2.1, htg⟩ (xl_met l dC dI cy ad adV dom H.size I s2 hW.1 x1 x2) ⟨⟨rfl, rfl, show 20 + 1 ≤ 2048 from by decide, show 8 + (5 + 11) + 2000 ≤ 84000 from by decide +kernel, hws, List.mem_cons_self⟩, htg _ wLa_g, htg _ tw_0, ⟨by decide, by decide⟩, hlen, htg _ tw_1661, htg _ tw_1662⟩ ⟨cz_blind, fun U hU hWm => ⟨rfl, cp_pre hf hT hW hS hU hWm, hX.2.2.2.go hS hU hWm (cp_sub hf.2.2.2.2.2.2.2.2.2 hW hS)⟩⟩ rfl rfl hl.1 rfl (lv_room (Nat.le_of_ble_eq_true rfl)) hd hk
  · obtain ⟨⟨r, er⟩, I', F'⟩ := kk
    subst er
    exact k r h' I' F'
/-! what else is kept: sightings, cases, acts, ranks -/
noncomputable def Qe (h : Hp_) : Prop := ExK h
noncomputable def exoE (ws : List Nat) : Bool := exoK ws
theorem qe_F : Qe HF := exK_F
theorem Qe.fr {ws : List Nat} {h h' : Hp_} (e : Qe h) (f : Fr ws h h') (o : exoE ws = true) : Qe h' := ExK.fr e f o
theorem Qe.mf {W : List Nat} {h h' : Hp_} (e : Qe h) (f : Mf W h h') (o : exoE W = true) : Qe h' := ExK.mf e f o
/-! what is kept besides the tape and the beats: roads, steps, men -/
noncomputable def Qx (h : Hp_) : Prop := ExR h ∧ ExS h ∧ ExM h ∧ Qe h
noncomputable def qxo (ws : List Nat) : Bool := exoR ws && exoS ws && exoM ws && exoE ws
theorem qx_F : Qx HF := ⟨exR_F, exS_F, exM_F, qe_F⟩
theorem Qx.fr {ws : List Nat} {h h' : Hp_} (e : Qx h) (f : Fr ws h h') (o : qxo ws = true) : Qx h' := by
  unfold qxo at o
  simp only [Bool.and_eq_true] at o
  exact ⟨e.1.fr f o.1.1.1, e.2.1.fr f o.1.1.2, e.2.2.1.fr f o.1.2, e.2.2.2.fr f o.2⟩
noncomputable def Li (N : Nat) (h : Hp_) : Prop := Iv h ∧ J2 h ∧ h_sh h 2 = some (3, 1) ∧ (∃ c, h_r h 0 15 = some c ∧ h_sh h c = some (3, N)) ∧ (Rlf rlT h ∧ MefT h) ∧ Qx h
theorem Li.t {N : Nat} {h : Hp_} (L : Li N h) : LiT N h := ⟨L.1, L.2.1, L.2.2.1, L.2.2.2.1, L.2.2.2.2.1.1, L.2.2.2.2.1.2⟩
theorem Li.q {N : Nat} {h : Hp_} (L : Li N h) : Qx h := L.2.2.2.2.2
theorem LiT.mk {N : Nat} {h : Hp_} (T : LiT N h) (q : Qx h) : Li N h := ⟨T.1, T.2.1, T.2.2.1, T.2.2.2.1, ⟨T.2.2.2.2.1, T.2.2.2.2.2⟩, q⟩
theorem Li.z {N : Nat} {h : Hp_} (L : Li N h) : Li0 N h := ⟨L.1, L.2.1, L.2.2.1, L.2.2.2.1⟩
theorem li_F : Li 0 HF := liT_F.mk qx_F
theorem Li.fr {N : Nat} {ws : List Nat} {h h' : Hp_} (L : Li N h) (I : Iv h') (f : Fr ws h h') (o : (((jso ws && !inw ws 0 15) && rlT.all (fun q => !inw ws q.1.1 q.1.2 && !inw ws 1 q.2) && (!inw ws 0 7 && off ws 15 && exoTB ws)) && qxo ws) = true) : Li N h' := by
  rw [Bool.and_eq_true] at o
  exact (L.t.fr I f o.1).mk (L.q.fr f o.2)
theorem Li.fd {N : Nat} {h h1 h2 : Hp_} {r1 r2 : Int32} {L0 : List Int32} (L : Li N h) (k1 : Iv h1 ∧ Fr [11001, 31999] h h1 ∧ Fdx L0 h r1 h1) (k2 : Iv h2 ∧ Fr [1032, 225999] h1 h2 ∧ Fdm L0 h1 r2 h2) : Li N h2 ∧ r1 = r2 := by
  have z := L.t.fd k1 k2
  exact ⟨z.1.mk ((L.q.fr k1.2.1 (by decide +kernel)).fr k2.2.1 (by decide +kernel)), z.2⟩
theorem Li.en {N : Nat} {h h1 h2 : Hp_} {x1 r1 r2 : Int32} (L : Li N h) (k1 : Iv h1 ∧ Fr [11001] h h1 ∧ (((0 ≤ x1 ∧ x1 ≤ h_i h 11 1) ∧ r1 = 1 ∧ h1 = h_im h 11 1 x1) ∨ (¬ (0 ≤ x1 ∧ x1 ≤ h_i h 11 1) ∧ r1 = 0 ∧ h1 = h))) (k2 : Iv h2 ∧ Fr [1032] h1 h2 ∧ (((0 ≤ x1 ∧ x1 ≤ h_i h1 1 32) ∧ r2 = 1 ∧ h2 = h_im h1 1 32 x1) ∨ (¬ (0 ≤ x1 ∧ x1 ≤ h_i h1 1 32) ∧ r2 = 0 ∧ h2 = h1))) : Li N h2 ∧ r1 = r2 := by
  have z := L.t.en k1 k2
  exact ⟨z.1.mk ((L.q.fr k1.2.1 (by decide +kernel)).fr k2.2.1 (by decide +kernel)), z.2⟩
theorem Li.pt {N : Nat} {h h1 h2 : Hp_} {x1 x2 x3 r1 r2 : Int32} (L : Li N h) (k1 : Iv h1 ∧ PtX x1 x2 x3 h r1 h1) (k2 : Iv h2 ∧ PtM x1 x2 x3 h1 r2 h2) : Li N h2 ∧ r1 = r2 := by
  have z := ExR.pt L.1 L.q.1 k1.2 k2.2
  exact ⟨((L.t.fr k1.1 k1.2.1 (by decide +kernel)).fr k2.1 k2.2.1 (by decide +kernel)).mk ⟨z.1, (L.q.2.1.fr k1.2.1 (by decide +kernel)).fr k2.2.1 (by decide +kernel), L.q.2.2.1.pt L.1 k2.1 L.q.1 k1.2 k2.2, (L.q.2.2.2.fr k1.2.1 (by decide +kernel)).fr k2.2.1 (by decide +kernel)⟩, z.2⟩
theorem Li.bt {N : Nat} {h h1 h2 : Hp_} {r1 r2 : Int32} (L : Li N h) (k1 : Iv h1 ∧ Fr wbx h h1 ∧ Btx h r1 h1) (k2 : (Iv h2 ∧ J2 h2) ∧ Btm (h_i h 31) (xn h) h1 r2 h2) : Li N h2 ∧ r1 = r2 := by
  have z := L.t.bt k1 k2
  exact ⟨z.1.mk ⟨(L.q.1.fr k1.2.1 (by decide +kernel)).fr k2.2.1 (by decide +kernel), L.q.2.1.bt L.t k1 k2, L.q.2.2.1.bt L.t k1 k2, (L.q.2.2.2.fr k1.2.1 (by decide +kernel)).fr k2.2.1 (by decide +kernel)⟩, z.2⟩
theorem ExM.j2 {h : Hp_} (I : Iv h) (x : ExM h) (e : h_i h 12 3 = h_i h 1 42) : J2 h := j2_of (s := sX h) I (by rw [← x.1.1]; exact x.m I) x.1.2.2.2 (rwX_in I).1 (by rw [← e]; exact x.2.2.1) x.2.2.2.1
theorem Li.md {N : Nat} {h h1 h2 : Hp_} (L : Li N h) (I1 : Iv h1) (f : Fr wMx h h1) (z : Iv h2 ∧ Fr mwR h1 h2 ∧ ExM h2) (e9 : Qe h2) : Li N h2 := by
  have T1 : LiT N h1 := L.t.fr I1 f (by decide +kernel)
  have e : h_i h2 12 3 = h_i h2 1 42 := by
    rw [(z.2.1.2 12 3 (by decide +kernel)).1, (f.2 12 3 (by decide +kernel)).1, (z.2.1.2 1 42 (by decide +kernel)).1, (f.2 1 42 (by decide +kernel)).1]
    exact L.t.r2
  exact (T1.sr z.1 (z.2.2.j2 z.1 e) (z.2.1.more (by decide +kernel))).mk ⟨(L.q.1.fr f (by decide +kernel)).fr z.2.1 (by decide +kernel), (L.q.2.1.fr f (by decide +kernel)).fr z.2.1 (by decide +kernel), z.2.2, e9⟩
theorem Li.me {N : Nat} {h h1 h2 : Hp_} (L : Li N h) (I1 : Iv h1) (f : Fr wBx h h1) (z : Iv h2 ∧ Fr mwB h1 h2 ∧ ExM h2) (e9 : Qe h2) : Li N h2 := by
  have T1 : LiT N h1 := L.t.fr I1 f (by decide +kernel)
  have e : h_i h2 12 3 = h_i h2 1 42 := by
    rw [(z.2.1.2 12 3 (by decide +kernel)).1, (f.2 12 3 (by decide +kernel)).1, (z.2.1.2 1 42 (by decide +kernel)).1, (f.2 1 42 (by decide +kernel)).1]
    exact L.t.r2
  exact (T1.sr z.1 (z.2.2.j2 z.1 e) (z.2.1.more (by decide +kernel))).mk ⟨(L.q.1.fr f (by decide +kernel)).fr z.2.1 (by decide +kernel), (L.q.2.1.fr f (by decide +kernel)).fr z.2.1 (by decide +kernel), z.2.2, e9⟩
theorem Li.x {N : Nat} {h : Hp_} (L : Li N h) : ExM h := L.q.2.2.1
theorem Li.k {N : Nat} {h : Hp_} (L : Li N h) : ExK h := L.q.2.2.2
theorem Li.n0 {N : Nat} {h : Hp_} (L : Li N h) : h_i h 0 0 = h_i h 1 0 := L.x.1.2.1
theorem c_acX (d : Nat) {h : Hp_} (I : Iv h) (x1 : Int32) : Ci (m_X11_act (d + 141) 0 0) [.ref 0, .int x1] h (fun r h' => Iv h' ∧ Fr wrx_13 h h' ∧ Rlx_13 x1 h r h' ∧ RcX_13 x1 h h') := c_acty d I x1
theorem c_acM (d : Nat) {b : Nat → Int32} {n : Nat} {h : Hp_} (I : Iv h) (q : Qt b n h) (x1 : Int32) : Ci (m_X12_act (d + 80 + 61) 0 0) [.ref 1, .int x1] h (fun r h' => ((Iv h' ∧ Fr wzt h h') ∧ Rlm b n 0 x1 h r h') ∧ RcM b n 0 x1 h h') := c_actg d q.2.1 I q.1 x1
theorem Li.ac {N : Nat} {h h1 h2 : Hp_} {x1 r1 r2 : Int32} (L : Li N h) (k1 : Iv h1 ∧ Fr wrx_13 h h1 ∧ Rlx_13 x1 h r1 h1 ∧ RcX_13 x1 h h1) (k2 : ((Iv h2 ∧ Fr wzt h1 h2) ∧ Rlm (h_i h 31) (xn h) 0 x1 h1 r2 h2) ∧ RcM (h_i h 31) (xn h) 0 x1 h1 h2) : Li N h2 ∧ r1 = r2 := by
  have z := L.t.act ⟨k1.1, k1.2.1, k1.2.2.1⟩ k2.1
  exact ⟨z.1.mk ⟨(L.q.1.fr k1.2.1 (by decide +kernel)).fr k2.1.1.2 (by decide +kernel), (L.q.2.1.fr k1.2.1 (by decide +kernel)).fr k2.1.1.2 (by decide +kernel), (L.x.fr k1.2.1 (by decide +kernel)).fr k2.1.1.2 (by decide +kernel), ExK.ac L.k L.1 L.n0 k1.2.1 k2.1.1.2 k1.2.2 ⟨k2.1.2, k2.2⟩⟩, z.2⟩
theorem c_paX (d : Nat) {h : Hp_} (I : Iv h) (x1 : Int32) : Ci (m_X11_pay (d + 141) 0 0) [.ref 0, .int x1] h (fun r h' => Iv h' ∧ Fr wrx_14 h h' ∧ Rlx_14 x1 h r h') := c_payx d I x1
theorem c_paM (d : Nat) {b : Nat → Int32} {n : Nat} {h : Hp_} (I : Iv h) (q : Qt b n h) (x1 : Int32) : Ci (m_X12_pay (d + 80 + 61) 0 0) [.ref 1, .int x1] h (fun r h' => ((Iv h' ∧ Fr wzt h h') ∧ Rlm b n 1 x1 h r h') ∧ RcM b n 1 x1 h h') := c_payg d q.2.1 I q.1 x1
theorem Li.pa {N : Nat} {h h1 h2 : Hp_} {x1 r1 r2 : Int32} (L : Li N h) (k1 : Iv h1 ∧ Fr wrx_14 h h1 ∧ Rlx_14 x1 h r1 h1) (k2 : ((Iv h2 ∧ Fr wzt h1 h2) ∧ Rlm (h_i h 31) (xn h) 1 x1 h1 r2 h2) ∧ RcM (h_i h 31) (xn h) 1 x1 h1 h2) : Li N h2 ∧ r1 = r2 := by
  have z := L.t.pay k1 k2.1
  exact ⟨z.1.mk ⟨(L.q.1.fr k1.2.1 (by decide +kernel)).fr k2.1.1.2 (by decide +kernel), (L.q.2.1.fr k1.2.1 (by decide +kernel)).fr k2.1.1.2 (by decide +kernel), (L.x.fr k1.2.1 (by decide +kernel)).fr k2.1.1.2 (by decide +kernel), ExK.pa L.k L.1 k1.2.1 k2.1.1.2 ⟨k2.1.2, k2.2⟩⟩, z.2⟩
theorem Li.fn {N : Nat} {h h1 h2 : Hp_} {x1 x2 x3 x4 x5 r1 r2 : Int32} (L : Li N h) (k1 : Iv h1 ∧ Fr [17007, 57999, 58999, 59999, 60999, 61999] h h1 ∧ Fnx x1 x2 x3 x4 x5 h r1 h1) (k2 : Iv h2 ∧ Fr [1079, 249999, 250999, 251999, 252999, 253999] h1 h2 ∧ Fnm x1 x2 x3 x4 x5 h1 r2 h2) : Li N h2 ∧ r1 = r2 := by
  have z := ExK.fn L.k L.1 k1.2.1 k2.2.1 k1.2.2 k2.2.2
  exact ⟨((L.t.fr k1.1 k1.2.1 (by decide +kernel)).fr k2.1 k2.2.1 (by decide +kernel)).mk ⟨(L.q.1.fr k1.2.1 (by decide +kernel)).fr k2.2.1 (by decide +kernel), (L.q.2.1.fr k1.2.1 (by decide +kernel)).fr k2.2.1 (by decide +kernel), (L.x.fr k1.2.1 (by decide +kernel)).fr k2.2.1 (by decide +kernel), z.1⟩, z.2⟩
theorem Li.on {N : Nat} {h h1 h2 : Hp_} {x1 r1 r2 : Int32} (L : Li N h) (k1 : Iv h1 ∧ Fr [18003, 71999, 72999] h h1 ∧ Onx x1 h r1 h1) (k2 : Iv h2 ∧ Fr [1096, 262999, 263999] h1 h2 ∧ Onm x1 h1 r2 h2) : Li N h2 ∧ r1 = r2 := by
  have z := ExK.on L.k L.1 L.n0 k1.2.1 k2.2.1 k1.2.2 k2.2.2
  exact ⟨((L.t.fr k1.1 k1.2.1 (by decide +kernel)).fr k2.1 k2.2.1 (by decide +kernel)).mk ⟨(L.q.1.fr k1.2.1 (by decide +kernel)).fr k2.2.1 (by decide +kernel), (L.q.2.1.fr k1.2.1 (by decide +kernel)).fr k2.2.1 (by decide +kernel), (L.x.fr k1.2.1 (by decide +kernel)).fr k2.2.1 (by decide +kernel), z.1⟩, z.2⟩
theorem Li.rn {N : Nat} {h h1 h2 : Hp_} {x1 x2 x3 r1 r2 : Int32} (L : Li N h) (k1 : Iv h1 ∧ Fr [21004, 104999, 105999, 106999, 107999] h h1 ∧ ocrk (okrx (h_i h 0 7) (h_i h 21 4) x1 x2 x3) (h_i h 21 4) r1 (h_i h1 21 4) ∧ ((okrx (h_i h 0 7) (h_i h 21 4) x1 x2 x3 ∧ ∀ k, h_i h1 104 k = (if k = (h_i h 21 4).toNatClampNeg then x1 else h_i h 104 k) ∧ h_i h1 105 k = (if k = (h_i h 21 4).toNatClampNeg then x2 else h_i h 105 k) ∧ h_i h1 106 k = (if k = (h_i h 21 4).toNatClampNeg then x3 else h_i h 106 k) ∧ h_i h1 107 k = (if k = (h_i h 21 4).toNatClampNeg then h_i h 0 0 else h_i h 107 k)) ∨ (¬ okrx (h_i h 0 7) (h_i h 21 4) x1 x2 x3 ∧ h1 = h))) (k2 : Iv h2 ∧ Fr [1029, 221999, 222999, 223999, 224999] h1 h2 ∧ ocrk (okrn (h_i h1 1 7) (h_i h1 1 29) x1 x2 x3) (h_i h1 1 29) r2 (h_i h2 1 29) ∧ ((okrn (h_i h1 1 7) (h_i h1 1 29) x1 x2 x3 ∧ ∀ k, h_i h2 221 k = (if k = (h_i h1 1 29).toNatClampNeg then x1 else h_i h1 221 k) ∧ h_i h2 222 k = (if k = (h_i h1 1 29).toNatClampNeg then x2 else h_i h1 222 k) ∧ h_i h2 223 k = (if k = (h_i h1 1 29).toNatClampNeg then x3 else h_i h1 223 k) ∧ h_i h2 224 k = (if k = (h_i h1 1 29).toNatClampNeg then h_i h1 1 0 else h_i h1 224 k)) ∨ (¬ okrn (h_i h1 1 7) (h_i h1 1 29) x1 x2 x3 ∧ h2 = h1))) : Li N h2 ∧ r1 = r2 := by
  have z := ExK.rn L.k L.1 L.x.1.1 L.n0 k1 k2
  exact ⟨((L.t.fr k1.1 k1.2.1 (by decide +kernel)).fr k2.1 k2.2.1 (by decide +kernel)).mk ⟨(L.q.1.fr k1.2.1 (by decide +kernel)).fr k2.2.1 (by decide +kernel), (L.q.2.1.fr k1.2.1 (by decide +kernel)).fr k2.2.1 (by decide +kernel), (L.x.fr k1.2.1 (by decide +kernel)).fr k2.2.1 (by decide +kernel), z.1⟩, z.2⟩
theorem c_dwL {N : Nat} (d : Nat) {h : Hp_} (I : Iv h) (L : Li N h) (x1 x2 x3 : Int32) : Ci (m_X11_draw (d + 5) 0 0) [.ref 0, .int x1, .int x2, .int x3] h (fun r h' => Iv h' ∧ Fr wMx h h' ∧ DxX x1 x2 x3 h r h' ∧ LxX (fB tnB (h_i h 0 0) (fDw (h_i h 0 0) (wI h) x2 x3 (h_i h (401 + x1.toNatClampNeg))).1 (h_i h)) h r h') := c_dwK d I L.x L.k x1 x2 x3
theorem c_dwN {N : Nat} (d : Nat) {h h1 : Hp_} (I1 : Iv h1) (L : Li N h) (f : Fr wMx h h1) (x1 x2 x3 : Int32) : Ci (m_X12_draw (d + 5) 0 0) [.ref 1, .int x1, .int x2, .int x3] h1 (fun r h' => DwP PU (fun _ _ b => b) x1 x2 x3 (h_i h (401 + x1.toNatClampNeg)) () h1 r h' ∧ LxM (fB tnB (h_i h 0 0) (fDw (h_i h 0 0) (wI h) x2 x3 (h_i h (401 + x1.toNatClampNeg))).1 (h_i h)) h h1 r h') := c_dwKM d I1 L.1 L.x L.q.1 L.k f x1 x2 x3
theorem Li.dw {N : Nat} {h h1 h2 : Hp_} {x1 x2 x3 r1 r2 : Int32} (L : Li N h) (k1 : Iv h1 ∧ Fr wMx h h1 ∧ DxX x1 x2 x3 h r1 h1 ∧ LxX (fB tnB (h_i h 0 0) (fDw (h_i h 0 0) (wI h) x2 x3 (h_i h (401 + x1.toNatClampNeg))).1 (h_i h)) h r1 h1) (k2 : DwP PU (fun _ _ b => b) x1 x2 x3 (h_i h (401 + x1.toNatClampNeg)) () h1 r2 h2 ∧ LxM (fB tnB (h_i h 0 0) (fDw (h_i h 0 0) (wI h) x2 x3 (h_i h (401 + x1.toNatClampNeg))).1 (h_i h)) h h1 r2 h2) : Li N h2 ∧ r1 = r2 := by
  have z := ExM.dw L.1 L.x L.q.1 k1.2.1 k1.2.2.1 k2.1
  exact ⟨L.md k1.1 k1.2.1 ⟨z.1, z.2.1, z.2.2.1⟩ (ExK.dw L.k L.1 L.x L.q.1 k1.2.1 k1.2.2 k2), z.2.2.2⟩
theorem c_ilL {N : Nat} (d : Nat) {h : Hp_} (I : Iv h) (L : Li N h) (x1 x2 : Int32) (b2 : x2 = 0 ∨ x2 = 1 := by decide) : Ci (m_X11_ill (d + 3) 0 0) [.ref 0, .int x1, .int x2] h (fun r h' => Iv h' ∧ Fr wMx h h' ∧ (x2 = 0 ∨ x2 = 1) ∧ IxX x1 x2 h r h' ∧ LxX (ilB x1 x2 (h_i h 0 0) (h_i h)) h r h') := c_ilK d I L.x L.k x1 x2 b2
theorem c_ilN {N : Nat} (d : Nat) {h h1 : Hp_} (I1 : Iv h1) (L : Li N h) (f : Fr wMx h h1) (x1 x2 : Int32) (b2 : x2 = 0 ∨ x2 = 1 := by decide) : Ci (m_X12_ill (d + 2) 0 0) [.ref 1, .int x1, .int x2] h1 (fun r h' => IxM x1 x2 (h_i h (401 + x1.toNatClampNeg)) h1 r h' ∧ LxM (ilB x1 x2 (h_i h 0 0) (h_i h)) h h1 r h') := c_ilKM d I1 L.1 L.x L.q.1 L.k f x1 x2 b2
theorem Li.il {N : Nat} {h h1 h2 : Hp_} {x1 x2 r1 r2 : Int32} (L : Li N h) (k1 : Iv h1 ∧ Fr wMx h h1 ∧ (x2 = 0 ∨ x2 = 1) ∧ IxX x1 x2 h r1 h1 ∧ LxX (ilB x1 x2 (h_i h 0 0) (h_i h)) h r1 h1) (k2 : IxM x1 x2 (h_i h (401 + x1.toNatClampNeg)) h1 r2 h2 ∧ LxM (ilB x1 x2 (h_i h 0 0) (h_i h)) h h1 r2 h2) : Li N h2 ∧ r1 = r2 := by
  have z := ExM.il L.1 L.x L.q.1 k1.2.1 k1.2.2.1 k1.1 k1.2.2.2.1 k2.1
  exact ⟨L.md k1.1 k1.2.1 ⟨z.1, z.2.1, z.2.2.1⟩ (ExK.il L.k L.1 L.x L.q.1 k1.2.1 k1.2.2.1 k1.1 k1.2.2.2 k2), z.2.2.2⟩
theorem c_bgL {N : Nat} (d : Nat) {h : Hp_} (I : Iv h) (L : Li N h) (x1 x2 : Int32) : Ci (m_X11_begin (d + 6) 0 0) [.ref 0, .int x1, .int x2] h (fun r h' => Iv h' ∧ Fr wBx h h' ∧ BgX x1 x2 h r h' ∧ LxX (fB tnB (h_i h 0 0) (BgF x1 x2 h).1 (h_i h)) h r h') := c_bgK d I L.x L.k L.q.2.1 L.t.2.2.2.2.2.2.2 x1 x2
theorem c_bgN {N : Nat} (d : Nat) {h h1 : Hp_} (I1 : Iv h1) (L : Li N h) (f : Fr wBx h h1) (x1 x2 : Int32) : Ci (m_X12_begin (d + 4) 0 0) [.ref 1, .int x1, .int x2] h1 (fun r h' => BgM x1 x2 h h1 r h' ∧ LxM (fB tnB (h_i h 0 0) (BgF x1 x2 h).1 (h_i h)) h h1 r h') := c_bgKM d I1 L.1 L.x L.k L.q.1 L.q.2.1 L.t.r2 f x1 x2
theorem Li.bg {N : Nat} {h h1 h2 : Hp_} {x1 x2 r1 r2 : Int32} (L : Li N h) (k1 : Iv h1 ∧ Fr wBx h h1 ∧ BgX x1 x2 h r1 h1 ∧ LxX (fB tnB (h_i h 0 0) (BgF x1 x2 h).1 (h_i h)) h r1 h1) (k2 : BgM x1 x2 h h1 r2 h2 ∧ LxM (fB tnB (h_i h 0 0) (BgF x1 x2 h).1 (h_i h)) h h1 r2 h2) : Li N h2 ∧ r1 = r2 := by
  have z := ExM.bg L.1 L.x L.q.1 L.q.2.1 k1.1 k1.2.1 k1.2.2.1 k2.1
  exact ⟨L.me k1.1 k1.2.1 ⟨z.1, z.2.1, z.2.2.1⟩ (ExK.bg L.k L.1 L.x L.q.1 L.q.2.1 k1.1 k1.2.1 k1.2.2 k2), z.2.2.2⟩
theorem c_tkL {N : Nat} (d : Nat) {h : Hp_} (I : Iv h) (L : Li N h) (x1 : Int32) {c n : Nat} (hc : h_r h 0 15 = some c) (hs : h_sh h c = some (3, n)) (hN : n ≤ 20000) : ∃ mc ms N', N' ≤ 20000 ∧ hcost mc ms n N' ∧ Ci (m_X11_tick (d + 8) mc ms) [.ref 0, .int x1] h (TkL (h_i h 0 7).toNatClampNeg N' (sX h) x1 h) := c_tkK d I L.x L.k L.q.1 L.q.2.1 (fun k hk => (L.t.2.2.2.2.2.2.2 k hk).1) x1 hc hs hN
theorem c_tmL {N : Nat} (d : Nat) {h h1 : Hp_} (I1 : Iv h1) (J1 : J2 h1) (L : Li N h) (f : Mf wsX h h1) (x1 : Int32) : Ci (m_X12_tick (d + 10) 0 0) [.ref 1, .int x1] h1 (TmL (h_i h 0 7).toNatClampNeg (h_i h 16 7).toNatClampNeg (sX h) x1 h h1) := c_tmK d I1 J1 L.1 L.x L.k L.q.1 L.q.2.1 L.t.r2 f x1
theorem Li.tk {N N' : Nat} {h h1 h2 : Hp_} {x1 r1 r2 : Int32} (L : Li N h) (k1 : TkL (h_i h 0 7).toNatClampNeg N' (sX h) x1 h r1 h1) (k2 : TmL (h_i h 0 7).toNatClampNeg (h_i h 16 7).toNatClampNeg (sX h) x1 h h1 r2 h2) : Li N' h2 := (L.t.tick2 k1.1 k2.1.1).mk ⟨(L.q.1.mf k1.1.2.1 (by decide +kernel)).fr k2.1.1.2.2.1 (by decide +kernel), (L.q.2.1.mf k1.1.2.1 (by decide +kernel)).fr k2.1.1.2.2.1 (by decide +kernel), ExM.tk L.1 L.x L.q.1 L.q.2.1 k1.2.1 k2.1, ExK.tk L.k L.1 L.x k1 k2⟩
theorem Li.cn {N : Nat} {h h1 h2 : Hp_} {x1 x2 x3 r1 r2 : Int32} (L : Li N h) (k1 : Cy x1 x2 x3 h r1 h1 ∧ CyA x1 x2 x3 h h1) (k2 : Iv h2 ∧ J2 h2 ∧ Sn h1 h2 ∧ ocm (h_i h1 1 7) x1 x2 x3 r2 (h_i h2 1 7) ∧ Cw (okm (h_i h1 1 7) x1 x2 x3) (h_i h1 1 7) x1 h1 h2 ∧ CwA x1 x2 x3 h1 h2) : Li N h2 := (L.t.con2 k1.1 ⟨k2.1, k2.2.1, k2.2.2.1, k2.2.2.2.1, k2.2.2.2.2.1⟩).mk ⟨(L.q.1.mf k1.1.1.2.1 (by decide +kernel)).fr k2.2.2.1 (by decide +kernel), (L.q.2.1.mf k1.1.1.2.1 (by decide +kernel)).fr k2.2.2.1 (by decide +kernel), (ExM.cn L.1 L.x L.q.1 k1 ⟨k2.2.2.2.1, k2.2.2.2.2.2⟩).1, ExK.con L.k L.1 L.x k1 ⟨k2.2.2.2.1, k2.2.2.2.2.2⟩ k2.2.2.2.2.1⟩
/-! how many are known at q -/
noncomputable def hdV (r : Nat → Int32) (q : Int32) : Nat → Int32
  | 0 => 0
  | k + 1 => if ¬ r k = -1 ∧ ¬ q < r k then hdV r q k + 1 else hdV r q k
theorem hdV_c {f g : Nat → Int32} {q : Int32} : ∀ n, (∀ k, k < n → f k = g k) → hdV f q n = hdV g q n
  | 0, _ => rfl
  | n + 1, e => by
    unfold hdV
    rw [hdV_c n (fun k hk => e k (by omega)), e n (by omega)]
noncomputable def hdQ (r : Nat → Int32) (n : Nat) (m q v : Int32) : Prop := (0 ≤ q ∧ q ≤ m → v = hdV r q n) ∧ (¬ (0 ≤ q ∧ q ≤ m) → v = -1)
theorem c_ckX (d : Nat) {h : Hp_} (I : Iv h) (x1 : Int32) : Ci (m_X4_countKnown (d + 1) 0 0) [.ref 17, .int x1] h (fun r h' => h' = h ∧ r = hdV (h_i h 69) x1 (h_i h 17 16).toNatClampNeg) := by
  have r := (iq17 I).2
  have n16 := n_nat r.1
  have lp : ∀ (t i : Nat), i + t = (h_i h 17 16).toNatClampNeg → AW (m_X4_countKnown (d + 1) 0 0) 0 0 4 [(0, .ref 17), (1, .int x1), (2, .int (hdV (h_i h 69) x1 i)), (3, .int (Int32.ofNat i))] [] h (kI (fun r h' => h' = h ∧ r = hdV (h_i h 69) x1 (h_i h 17 16).toNatClampNeg)) := by
    intro t
    induction t with
    | zero =>
      intro i e
      refine t_X4_countKnown_4 d h I.1 x1 _ _ _ ⟨fun _ => ⟨rfl, by rw [← e]; rfl⟩, fun z => ?_⟩
      have z := q_nle z
      rw [on_j (by omega)] at z
      omega
    | succ t ih =>
      intro i e
      have ki := on_k (n := i) (by omega)
      have oi := on_j (n := i) (by omega)
      have v : vp_in (Int32.ofNat i) 300 := on_in (by omega) (by decide)
      have y := ih (i + 1) (by omega)
      rw [← on_s (by omega)] at y
      refine t_X4_countKnown_4 d h I.1 x1 _ _ _ ⟨fun z => ?_, fun _ => ⟨v, ?_⟩⟩
      · have z := q_le.mp z
        omega
      · rw [ki]
        refine ⟨fun a => ?_, fun a => ⟨v, fun b => ?_, fun b => ?_⟩⟩
        · rw [show hdV (h_i h 69) x1 (i + 1) = hdV (h_i h 69) x1 i from if_neg (fun u => u.1 a)] at y
          exact y
        · rw [show hdV (h_i h 69) x1 (i + 1) = hdV (h_i h 69) x1 i from if_neg (fun u => u.2 b)] at y
          exact y
        · rw [show hdV (h_i h 69) x1 (i + 1) = hdV (h_i h 69) x1 i + 1 from if_pos ⟨a, b⟩] at y
          exact y
  exact t_X4_countKnown d h x1 _ (lp (h_i h 17 16).toNatClampNeg 0 (by omega))
theorem c_cmX {N : Nat} (d : Nat) {h : Hp_} (I : Iv h) (_ : Li N h) (x1 : Int32) : Ci (m_X11_heard (d + 2) 0 0) [.ref 0, .int x1] h (fun r h' => Iv h' ∧ Fr [41999] h h' ∧ hdQ (h_i h 69) (h_i h 17 16).toNatClampNeg (h_i h 0 0) x1 r) := by
  refine t_X11_heard d h I.1 x1 _ (t_X11_isKnown d h I.1 x1 _ ⟨I.1, fun z => ⟨I, Fr.rf _ _, fun w => ?_, fun _ => rfl⟩, fun z => Ci.mono (c_ckX d I x1) (fun r h' k => ?_)⟩)
  · unfold bI at z
    rw [if_pos w] at z
    exact absurd z (by decide)
  · obtain ⟨e, k⟩ := k
    subst e
    refine ⟨I.1, I, Fr.rf _ _, fun _ => k, fun n => ?_⟩
    unfold bI at z
    rw [if_neg n] at z
    exact absurd rfl z
theorem c_cmM {N : Nat} (d : Nat) {h h1 : Hp_} (I1 : Iv h1) (_ : Li N h) (_ : Fr [41999] h h1) (x1 : Int32) : Ci (m_X12_heard (d + 2) 0 0) [.ref 1, .int x1] h1 (fun r h' => Iv h' ∧ h' = h1 ∧ hdQ (h_i h1 260) (h_i h1 1 80).toNatClampNeg (h_i h1 1 0) x1 r) := by
  have r := (iq1 I1).2.1
  have n16 := n_nat r.1
  refine t_X12_heard d h1 I1.1 x1 _ ⟨fun c => ?_, fun n => ⟨I1, rfl, fun c => absurd c n, fun _ => rfl⟩⟩
  have lp : ∀ (t i : Nat), i + t = (h_i h1 1 80).toNatClampNeg → AW (m_X12_heard (d + 2) 0 0) 0 0 14 [(0, .ref 1), (1, .int x1), (2, .int (hdV (h_i h1 260) x1 i)), (3, .int (Int32.ofNat i))] [] h1 (kI (fun r h' => Iv h' ∧ h' = h1 ∧ hdQ (h_i h1 260) (h_i h1 1 80).toNatClampNeg (h_i h1 1 0) x1 r)) := by
    intro t
    induction t with
    | zero =>
      intro i e
      refine t_X12_heard_14 d h1 I1.1 x1 _ _ _ ⟨fun _ => ⟨I1, rfl, fun _ => by rw [← e]; rfl, fun n => absurd c n⟩, fun z => ?_⟩
      have z := q_nle z
      rw [on_j (by omega)] at z
      omega
    | succ t ih =>
      intro i e
      have ki := on_k (n := i) (by omega)
      have oi := on_j (n := i) (by omega)
      have v : vp_in (Int32.ofNat i) 300 := on_in (by omega) (by decide)
      have y := ih (i + 1) (by omega)
      rw [← on_s (by omega)] at y
      refine t_X12_heard_14 d h1 I1.1 x1 _ _ _ ⟨fun z => ?_, fun _ => ⟨v, ?_⟩⟩
      · have z := q_le.mp z
        omega
      · rw [ki]
        refine ⟨fun a => ?_, fun a => ⟨v, fun b => ?_, fun b => ?_⟩⟩
        · rw [show hdV (h_i h1 260) x1 (i + 1) = hdV (h_i h1 260) x1 i from if_neg (fun u => u.1 a)] at y
          rw [Int32.add_zero]
          exact y
        · rw [show hdV (h_i h1 260) x1 (i + 1) = hdV (h_i h1 260) x1 i from if_neg (fun u => u.2 b)] at y
          rw [Int32.add_zero]
          exact y
        · rw [show hdV (h_i h1 260) x1 (i + 1) = hdV (h_i h1 260) x1 i + 1 from if_pos ⟨a, b⟩] at y
          exact y
  exact lp (h_i h1 1 80).toNatClampNeg 0 (by omega)
theorem Li.cm {N : Nat} {h h1 h2 : Hp_} {x1 r1 r2 : Int32} (L : Li N h) (k1 : Iv h1 ∧ Fr [41999] h h1 ∧ hdQ (h_i h 69) (h_i h 17 16).toNatClampNeg (h_i h 0 0) x1 r1) (k2 : Iv h2 ∧ h2 = h1 ∧ hdQ (h_i h1 260) (h_i h1 1 80).toNatClampNeg (h_i h1 1 0) x1 r2) : Li N h2 ∧ r1 = r2 := by
  obtain ⟨I2, e2, k2⟩ := k2
  subst e2
  refine ⟨L.fr k1.1 k1.2.1 (by decide +kernel), ?_⟩
  rw [show h_i h2 260 = h_i h 260 from funext (fun k => fr_i k1.2.1 (by decide +kernel) k), show h_i h2 1 = h_i h 1 from funext (fun k => fr_i k1.2.1 (by decide +kernel) k), L.k.1.1, ← L.n0] at k2
  by_cases c : 0 ≤ x1 ∧ x1 ≤ h_i h 0 0
  · rw [k1.2.2.1 c, k2.1 c]
    exact hdV_c _ (fun k hk => ((L.k.2.2.1 k hk).1.2.2.2.2.2).symm)
  · rw [k1.2.2.2 c, k2.2 c]
end
section
theorem lc_0 {L t N kc ks : Nat} {xs : Nat → Int32} {h : Hp_} (hL : 6 * t + 6 ≤ L) (lL : L ≤ 3072) (L0 : Li N h) (R : Rm t N kc ks) (O : ∀ N kc ks h, Li N h → Rm (t + 1) N kc ks → AW (ML L xs) kc ks 2406 (lv5 (6 * t)) [] h k1_) : AW (ML L xs) kc ks 284 (lv5 (6 * t)) [] h k1_ := by
  have hk := R.ok (by omega)
  refine aw_aload_n (i := 1) rfl d_L_284 1 rfl ?_
  refine aw_arg (j := 1) d_L_285 d_L_286 d_L_288 d_L_289 d_L_290 ic_1 (oa_1 (by omega)) (by omega) lL ?_
  refine aw_arg (j := 2) d_L_291 d_L_292 d_L_294 d_L_295 d_L_296 ic_2 (oa_2 (by omega)) (by omega) lL ?_
  refine aw_arg (j := 3) d_L_297 d_L_298 d_L_300 d_L_301 d_L_302 ic_3 (oa_3 (by omega)) (by omega) lL ?_
  refine aw_Vi 0 [.int (xs (6 * t + 1)), .int (xs (6 * t + 2)), .int (xs (6 * t + 3))] [] d_L_303 (cV_X11_path (0 + 2) 0 0) kc_11 (ws_0 L0.1.1) tw_536 rfl ⟨⟨show 0 + 2 + 1 ≤ 2048 from by decide, show 8 + (4 + 11) + 100 * (0 + 2) ≤ 84000 from by decide⟩, show kc + 0 ≤ 118216 by omega, show ks + 0 ≤ 8741458 by omega⟩ (Nat.le_of_ble_eq_true rfl) xsL (c_ptX 0 L0.1 L0.q.1.2 _ _ _) (fun r1 h1 k1 => ?_)
  refine aw_pop d_L_306 rfl ?_
  refine aw_aload_n (i := 2) rfl d_L_307 2 rfl ?_
  refine aw_arg (j := 1) d_L_308 d_L_309 d_L_311 d_L_312 d_L_313 ic_1 (oa_1 (by omega)) (by omega) lL ?_
  refine aw_arg (j := 2) d_L_314 d_L_315 d_L_317 d_L_318 d_L_319 ic_2 (oa_2 (by omega)) (by omega) lL ?_
  refine aw_arg (j := 3) d_L_320 d_L_321 d_L_323 d_L_324 d_L_325 ic_3 (oa_3 (by omega)) (by omega) lL ?_
  refine aw_Vi 1 [.int (xs (6 * t + 1)), .int (xs (6 * t + 2)), .int (xs (6 * t + 3))] [] d_L_326 (cV_X12_path (0 + 2) 0 0) kc_12 (ws_1 k1.1.1) tw_2136 rfl ⟨⟨show 0 + 2 + 1 ≤ 2048 from by decide, show 8 + (4 + 11) + 100 * (0 + 2) ≤ 84000 from by decide⟩, show kc + 0 ≤ 118216 by omega, show ks + 0 ≤ 8741458 by omega⟩ (Nat.le_of_ble_eq_true rfl) xsL (c_ptM 0 k1.1 _ _ _) (fun r2 h2 k2 => ?_)
  refine aw_pop d_L_329 rfl ?_
  have L2 := (L0.pt k1 k2).1
  refine aw_goto (tgt := 2406) d_L_330 rfl ?_
  exact O _ _ _ _ L2 R.up
theorem lc_1 {L t N kc ks : Nat} {xs : Nat → Int32} {h : Hp_} (hL : 6 * t + 6 ≤ L) (lL : L ≤ 3072) (L0 : Li N h) (R : Rm t N kc ks) (O : ∀ N kc ks h, Li N h → Rm (t + 1) N kc ks → AW (ML L xs) kc ks 2406 (lv5 (6 * t)) [] h k1_) : AW (ML L xs) kc ks 333 (lv5 (6 * t)) [] h k1_ := by
  have hk := R.ok (by omega)
  refine aw_aload_n (i := 1) rfl d_L_333 1 rfl ?_
  refine aw_arg (j := 1) d_L_334 d_L_335 d_L_337 d_L_338 d_L_339 ic_1 (oa_1 (by omega)) (by omega) lL ?_
  refine aw_arg (j := 2) d_L_340 d_L_341 d_L_343 d_L_344 d_L_345 ic_2 (oa_2 (by omega)) (by omega) lL ?_
  refine aw_Kp (M' := m_X11_walk (0 + 2) 0 0) (a := 0) [.int (xs (6 * t + 1)), .int (xs (6 * t + 2))] (hc_X11_walk 0) ⟨⟨_, rfl, rtop_in _, fun _ y => (nomatch y)⟩, ⟨_, rfl, rtop_in _, fun _ y => (nomatch y)⟩, rfl, trivial⟩ L0.1 (fun _ y => (nomatch y)) d_L_346 (cV_X11_walk (0 + 2) 0 0) kc_11 (ws_0 L0.1.1) tw_553 rfl ⟨⟨show 0 + 2 + 1 ≤ 2048 from by decide, show 8 + (3 + 11) + 100 * (0 + 2) ≤ 84000 from by decide⟩, rfl, rfl⟩ ⟨show kc ≤ 118216 by omega, show ks ≤ 8741458 by omega⟩ ⟨_, rfl⟩ d_L_349 (fun h1 I1 F1 => ?_)
  have L1 := L0.fr I1 F1 (by decide +kernel)
  refine aw_aload_n (i := 2) rfl d_L_350 2 rfl ?_
  refine aw_arg (j := 1) d_L_351 d_L_352 d_L_354 d_L_355 d_L_356 ic_1 (oa_1 (by omega)) (by omega) lL ?_
  refine aw_arg (j := 2) d_L_357 d_L_358 d_L_360 d_L_361 d_L_362 ic_2 (oa_2 (by omega)) (by omega) lL ?_
  refine aw_Kp (M' := m_X12_walk (0 + 2) 0 0) (a := 1) [.int (xs (6 * t + 1)), .int (xs (6 * t + 2))] (hc_X12_walk 0) ⟨⟨_, rfl, rtop_in _, fun _ y => (nomatch y)⟩, ⟨_, rfl, rtop_in _, fun _ y => (nomatch y)⟩, rfl, trivial⟩ L1.1 (fun _ y => (nomatch y)) d_L_363 (cV_X12_walk (0 + 2) 0 0) kc_12 (ws_1 L1.1.1) tw_2146 rfl ⟨⟨show 0 + 2 + 1 ≤ 2048 from by decide, show 8 + (3 + 11) + 100 * (0 + 2) ≤ 84000 from by decide⟩, rfl, rfl⟩ ⟨show kc ≤ 118216 by omega, show ks ≤ 8741458 by omega⟩ ⟨_, rfl⟩ d_L_366 (fun h2 I2 F2 => ?_)
  have L2 := L1.fr I2 F2 (by decide +kernel)
  refine aw_goto (tgt := 2406) d_L_367 rfl ?_
  exact O _ _ _ _ L2 R.up
theorem lc_2 {L t N kc ks : Nat} {xs : Nat → Int32} {h : Hp_} (hL : 6 * t + 6 ≤ L) (lL : L ≤ 3072) (L0 : Li N h) (R : Rm t N kc ks) (O : ∀ N kc ks h, Li N h → Rm (t + 1) N kc ks → AW (ML L xs) kc ks 2406 (lv5 (6 * t)) [] h k1_) : AW (ML L xs) kc ks 370 (lv5 (6 * t)) [] h k1_ := by
  have hk := R.ok (by omega)
  refine aw_aload_n (i := 1) rfl d_L_370 1 rfl ?_
  refine aw_arg (j := 1) d_L_371 d_L_372 d_L_374 d_L_375 d_L_376 ic_1 (oa_1 (by omega)) (by omega) lL ?_
  refine aw_arg (j := 2) d_L_377 d_L_378 d_L_380 d_L_381 d_L_382 ic_2 (oa_2 (by omega)) (by omega) lL ?_
  refine aw_arg (j := 3) d_L_383 d_L_384 d_L_386 d_L_387 d_L_388 ic_3 (oa_3 (by omega)) (by omega) lL ?_
  refine aw_Vi 0 [.int (xs (6 * t + 1)), .int (xs (6 * t + 2)), .int (xs (6 * t + 3))] [] d_L_389 (cV_X11_constable (0 + 2) 1 17) kc_11 (ws_0 L0.1.1) tw_562 rfl ⟨⟨show 0 + 2 + 1 ≤ 2048 from by decide, show 8 + (6 + 11) + 100 * (0 + 2) ≤ 84000 from by decide⟩, show kc + 1 ≤ 118216 by omega, show ks + 17 ≤ 8741458 by omega⟩ (Nat.le_of_ble_eq_true rfl) xsL (c_con2 0 L0.1 _ _ _) (fun r1 h1 k1 => ?_)
  refine aw_pop d_L_392 rfl ?_
  have Z1 := L0.z.con k1.1.1
  refine aw_aload_n (i := 2) rfl d_L_393 2 rfl ?_
  refine aw_arg (j := 1) d_L_394 d_L_395 d_L_397 d_L_398 d_L_399 ic_1 (oa_1 (by omega)) (by omega) lL ?_
  refine aw_arg (j := 2) d_L_400 d_L_401 d_L_403 d_L_404 d_L_405 ic_2 (oa_2 (by omega)) (by omega) lL ?_
  refine aw_arg (j := 3) d_L_406 d_L_407 d_L_409 d_L_410 d_L_411 ic_3 (oa_3 (by omega)) (by omega) lL ?_
  refine aw_Vi 1 [.int (xs (6 * t + 1)), .int (xs (6 * t + 2)), .int (xs (6 * t + 3))] [] d_L_412 (cV_X12_constable (0 + 2) 0 0) kc_12 (ws_1 Z1.1.1) tw_2155 rfl ⟨⟨show 0 + 2 + 1 ≤ 2048 from by decide, show 8 + (4 + 11) + 100 * (0 + 2) ≤ 84000 from by decide⟩, show (kc + 1) + 0 ≤ 118216 by omega, show (ks + 17) + 0 ≤ 8741458 by omega⟩ (Nat.le_of_ble_eq_true rfl) xsL (m_con2 0 Z1.1 Z1.2.1 _ _ _) (fun r2 h2 k2 => ?_)
  refine aw_pop d_L_415 rfl ?_
  have L2 := L0.cn k1 k2
  refine aw_goto (tgt := 2406) d_L_416 rfl ?_
  exact O _ _ _ _ L2 R.con
theorem lc_3 {L t N kc ks : Nat} {xs : Nat → Int32} {h : Hp_} (hL : 6 * t + 6 ≤ L) (lL : L ≤ 3072) (L0 : Li N h) (R : Rm t N kc ks) (O : ∀ N kc ks h, Li N h → Rm (t + 1) N kc ks → AW (ML L xs) kc ks 2406 (lv5 (6 * t)) [] h k1_) : AW (ML L xs) kc ks 419 (lv5 (6 * t)) [] h k1_ := by
  have hk := R.ok (by omega)
  refine aw_aload_n (i := 1) rfl d_L_419 1 rfl ?_
  refine aw_arg (j := 1) d_L_420 d_L_421 d_L_423 d_L_424 d_L_425 ic_1 (oa_1 (by omega)) (by omega) lL ?_
  refine aw_arg (j := 2) d_L_426 d_L_427 d_L_429 d_L_430 d_L_431 ic_2 (oa_2 (by omega)) (by omega) lL ?_
  refine aw_arg (j := 3) d_L_432 d_L_433 d_L_435 d_L_436 d_L_437 ic_3 (oa_3 (by omega)) (by omega) lL ?_
  refine aw_arg (j := 4) d_L_438 d_L_439 d_L_441 d_L_442 d_L_443 ic_4 (oa_4 (by omega)) (by omega) lL ?_
  refine aw_arg (j := 5) d_L_444 d_L_445 d_L_447 d_L_448 d_L_449 ic_5 (oa_5 (by omega)) (by omega) lL ?_
  refine aw_Vi 0 [.int (xs (6 * t + 1)), .int (xs (6 * t + 2)), .int (xs (6 * t + 3)), .int (xs (6 * t + 4)), .int (xs (6 * t + 5))] [] d_L_450 (cV_X11_feed (0 + 2) 0 0) kc_11 (ws_0 L0.1.1) tw_641 rfl ⟨⟨show 0 + 2 + 1 ≤ 2048 from by decide, show 8 + (6 + 11) + 100 * (0 + 2) ≤ 84000 from by decide⟩, show kc + 0 ≤ 118216 by omega, show ks + 0 ≤ 8741458 by omega⟩ (Nat.le_of_ble_eq_true rfl) xsL (c_fdX 0 L0.1 _ _ _ _ _) (fun r1 h1 k1 => ?_)
  refine aw_pop d_L_453 rfl ?_
  refine aw_aload_n (i := 2) rfl d_L_454 2 rfl ?_
  refine aw_arg (j := 1) d_L_455 d_L_456 d_L_458 d_L_459 d_L_460 ic_1 (oa_1 (by omega)) (by omega) lL ?_
  refine aw_arg (j := 2) d_L_461 d_L_462 d_L_464 d_L_465 d_L_466 ic_2 (oa_2 (by omega)) (by omega) lL ?_
  refine aw_arg (j := 3) d_L_467 d_L_468 d_L_470 d_L_471 d_L_472 ic_3 (oa_3 (by omega)) (by omega) lL ?_
  refine aw_arg (j := 4) d_L_473 d_L_474 d_L_476 d_L_477 d_L_478 ic_4 (oa_4 (by omega)) (by omega) lL ?_
  refine aw_arg (j := 5) d_L_479 d_L_480 d_L_482 d_L_483 d_L_484 ic_5 (oa_5 (by omega)) (by omega) lL ?_
  refine aw_Vi 1 [.int (xs (6 * t + 1)), .int (xs (6 * t + 2)), .int (xs (6 * t + 3)), .int (xs (6 * t + 4)), .int (xs (6 * t + 5))] [] d_L_485 (cV_X12_feed (0 + 1) 0 0) kc_12 (ws_1 k1.1.1) tw_2179 rfl ⟨⟨show 0 + 1 + 1 ≤ 2048 from by decide, show 8 + (9 + 11) + 100 * (0 + 1) ≤ 84000 from by decide⟩, show kc + 0 ≤ 118216 by omega, show ks + 0 ≤ 8741458 by omega⟩ (Nat.le_of_ble_eq_true rfl) xsL (c_fdM 0 k1.1 _ _ _ _ _) (fun r2 h2 k2 => ?_)
  refine aw_pop d_L_488 rfl ?_
  have L2 := (L0.fd k1 k2).1
  refine aw_goto (tgt := 2406) d_L_489 rfl ?_
  exact O _ _ _ _ L2 R.up
theorem lc_4 {L t N kc ks : Nat} {xs : Nat → Int32} {h : Hp_} (hL : 6 * t + 6 ≤ L) (lL : L ≤ 3072) (L0 : Li N h) (R : Rm t N kc ks) (O : ∀ N kc ks h, Li N h → Rm (t + 1) N kc ks → AW (ML L xs) kc ks 2406 (lv5 (6 * t)) [] h k1_) : AW (ML L xs) kc ks 492 (lv5 (6 * t)) [] h k1_ := by
  have hk := R.ok (by omega)
  refine aw_aload_n (i := 1) rfl d_L_492 1 rfl ?_
  refine aw_arg (j := 1) d_L_493 d_L_494 d_L_496 d_L_497 d_L_498 ic_1 (oa_1 (by omega)) (by omega) lL ?_
  refine aw_Vi 0 [.int (xs (6 * t + 1))] [] d_L_499 (cV_X11_end (0 + 2) 0 0) kc_11 (ws_0 L0.1.1) tw_656 rfl ⟨⟨show 0 + 2 + 1 ≤ 2048 from by decide, show 8 + (2 + 11) + 100 * (0 + 2) ≤ 84000 from by decide⟩, show kc + 0 ≤ 118216 by omega, show ks + 0 ≤ 8741458 by omega⟩ (Nat.le_of_ble_eq_true rfl) xsL (c_enX 0 L0.1 _) (fun r1 h1 k1 => ?_)
  refine aw_pop d_L_502 rfl ?_
  refine aw_aload_n (i := 2) rfl d_L_503 2 rfl ?_
  refine aw_arg (j := 1) d_L_504 d_L_505 d_L_507 d_L_508 d_L_509 ic_1 (oa_1 (by omega)) (by omega) lL ?_
  refine aw_Vi 1 [.int (xs (6 * t + 1))] [] d_L_510 (cV_X12_end (0 + 0) 0 0) kc_12 (ws_1 k1.1.1) tw_2186 rfl ⟨⟨show 0 + 0 + 1 ≤ 2048 from by decide, show 8 + (2 + 11) + 100 * (0 + 0) ≤ 84000 from by decide⟩, show kc + 0 ≤ 118216 by omega, show ks + 0 ≤ 8741458 by omega⟩ (Nat.le_of_ble_eq_true rfl) xsL (c_enM 0 k1.1 _) (fun r2 h2 k2 => ?_)
  refine aw_pop d_L_513 rfl ?_
  have L2 := (L0.en k1 k2).1
  refine aw_goto (tgt := 2406) d_L_514 rfl ?_
  exact O _ _ _ _ L2 R.up
theorem lc_5 {L t N kc ks : Nat} {xs : Nat → Int32} {h : Hp_} (hL : 6 * t + 6 ≤ L) (lL : L ≤ 3072) (L0 : Li N h) (R : Rm t N kc ks) (O : ∀ N kc ks h, Li N h → Rm (t + 1) N kc ks → AW (ML L xs) kc ks 2406 (lv5 (6 * t)) [] h k1_) : AW (ML L xs) kc ks 517 (lv5 (6 * t)) [] h k1_ := by
  have hk := R.ok (by omega)
  refine aw_aload_n (i := 1) rfl d_L_517 1 rfl ?_
  refine aw_arg (j := 1) d_L_518 d_L_519 d_L_521 d_L_522 d_L_523 ic_1 (oa_1 (by omega)) (by omega) lL ?_
  refine aw_Kp (M' := m_X11_fault (0 + 38) 0 0) (a := 0) [.int (xs (6 * t + 1))] (hc_X11_fault 0) ⟨⟨_, rfl, rtop_in _, fun _ y => (nomatch y)⟩, rfl, trivial⟩ L0.1 (fun _ y => (nomatch y)) d_L_524 (cV_X11_fault (0 + 38) 0 0) kc_11 (ws_0 L0.1.1) tw_665 rfl ⟨⟨show 0 + 38 + 1 ≤ 2048 from by decide, show 8 + (2 + 11) + 100 * (0 + 38) ≤ 84000 from by decide⟩, rfl, rfl⟩ ⟨show kc ≤ 118216 by omega, show ks ≤ 8741458 by omega⟩ ⟨_, rfl⟩ d_L_527 (fun h1 I1 F1 => ?_)
  have L1 := L0.fr I1 F1 (by decide +kernel)
  refine aw_aload_n (i := 2) rfl d_L_528 2 rfl ?_
  refine aw_arg (j := 1) d_L_529 d_L_530 d_L_532 d_L_533 d_L_534 ic_1 (oa_1 (by omega)) (by omega) lL ?_
  refine aw_Vi 1 [.int (xs (6 * t + 1))] [] d_L_535 (cV_X12_fault (0 + 80 + 59) 0 0) kc_12 (ws_1 L1.1.1) tw_2291 rfl ⟨⟨show 0 + 80 + 59 + 1 ≤ 2048 from by decide, show 8 + (2 + 11) + 100 * (0 + 80 + 59) ≤ 84000 from by decide⟩, show kc + 0 ≤ 118216 by omega, show ks + 0 ≤ 8741458 by omega⟩ (Nat.le_of_ble_eq_true rfl) xsL (c_fault 0 L1.1 _) (fun r2 h2 k2 => ?_)
  refine aw_pop d_L_538 rfl ?_
  have L2 := L1.fr k2.1 k2.2.1 (by decide +kernel)
  refine aw_goto (tgt := 2406) d_L_539 rfl ?_
  exact O _ _ _ _ L2 R.up
theorem lc_6 {L t N kc ks : Nat} {xs : Nat → Int32} {h : Hp_} (hL : 6 * t + 6 ≤ L) (lL : L ≤ 3072) (L0 : Li N h) (R : Rm t N kc ks) (O : ∀ N kc ks h, Li N h → Rm (t + 1) N kc ks → AW (ML L xs) kc ks 2406 (lv5 (6 * t)) [] h k1_) : AW (ML L xs) kc ks 542 (lv5 (6 * t)) [] h k1_ := by
  have hk := R.ok (by omega)
  refine aw_aload_n (i := 1) rfl d_L_542 1 rfl ?_
  refine aw_Vi 0 [] [] d_L_543 (cV_X11_beat (0 + 105) 0 0) kc_11 (ws_0 L0.1.1) tw_872 rfl ⟨⟨show 0 + 105 + 1 ≤ 2048 from by decide, show 8 + (2 + 11) + 100 * (0 + 105) ≤ 84000 from by decide⟩, show kc + 0 ≤ 118216 by omega, show ks + 0 ≤ 8741458 by omega⟩ (Nat.le_of_ble_eq_true rfl) xsL (c_btX 0 L0.1) (fun r1 h1 k1 => ?_)
  refine aw_pop d_L_546 rfl ?_
  refine aw_aload_n (i := 2) rfl d_L_547 2 rfl ?_
  refine aw_Vi 1 [] [] d_L_548 (cV_X12_beat (0 + 80 + 60) 0 0) kc_12 (ws_1 k1.1.1) tw_2190 rfl ⟨⟨show 0 + 80 + 60 + 1 ≤ 2048 from by decide, show 8 + (1 + 11) + 100 * (0 + 80 + 60) ≤ 84000 from by decide⟩, show kc + 0 ≤ 118216 by omega, show ks + 0 ≤ 8741458 by omega⟩ (Nat.le_of_ble_eq_true rfl) xsL (c_btM 0 k1.1 (L0.t.q k1.2.1 (by decide +kernel))) (fun r2 h2 k2 => ?_)
  refine aw_pop d_L_551 rfl ?_
  have L2 := (L0.bt k1 k2).1
  refine aw_goto (tgt := 2406) d_L_552 rfl ?_
  exact O _ _ _ _ L2 R.up
theorem lc_7 {L t N kc ks : Nat} {xs : Nat → Int32} {h : Hp_} (hL : 6 * t + 6 ≤ L) (lL : L ≤ 3072) (L0 : Li N h) (R : Rm t N kc ks) (O : ∀ N kc ks h, Li N h → Rm (t + 1) N kc ks → AW (ML L xs) kc ks 2406 (lv5 (6 * t)) [] h k1_) : AW (ML L xs) kc ks 555 (lv5 (6 * t)) [] h k1_ := by
  have hk := R.ok (by omega)
  refine aw_aload_n (i := 1) rfl d_L_555 1 rfl ?_
  refine aw_arg (j := 1) d_L_556 d_L_557 d_L_559 d_L_560 d_L_561 ic_1 (oa_1 (by omega)) (by omega) lL ?_
  refine aw_arg (j := 2) d_L_562 d_L_563 d_L_565 d_L_566 d_L_567 ic_2 (oa_2 (by omega)) (by omega) lL ?_
  refine aw_Kp (M' := m_X11_beaten (0 + 2) 0 0) (a := 0) [.int (xs (6 * t + 1)), .int (xs (6 * t + 2))] (hc_X11_beaten 0) ⟨⟨_, rfl, rtop_in _, fun _ y => (nomatch y)⟩, ⟨_, rfl, rtop_in _, fun _ y => (nomatch y)⟩, rfl, trivial⟩ L0.1 (fun _ y => (nomatch y)) d_L_568 (cV_X11_beaten (0 + 2) 0 0) kc_11 (ws_0 L0.1.1) tw_883 rfl ⟨⟨show 0 + 2 + 1 ≤ 2048 from by decide, show 8 + (3 + 11) + 100 * (0 + 2) ≤ 84000 from by decide⟩, rfl, rfl⟩ ⟨show kc ≤ 118216 by omega, show ks ≤ 8741458 by omega⟩ ⟨_, rfl⟩ d_L_571 (fun h1 I1 F1 => ?_)
  have L1 := L0.fr I1 F1 (by decide +kernel)
  refine aw_aload_n (i := 2) rfl d_L_572 2 rfl ?_
  refine aw_arg (j := 1) d_L_573 d_L_574 d_L_576 d_L_577 d_L_578 ic_1 (oa_1 (by omega)) (by omega) lL ?_
  refine aw_arg (j := 2) d_L_579 d_L_580 d_L_582 d_L_583 d_L_584 ic_2 (oa_2 (by omega)) (by omega) lL ?_
  refine aw_Kp (M' := m_X12_beaten (0 + 1) 0 0) (a := 1) [.int (xs (6 * t + 1)), .int (xs (6 * t + 2))] (hc_X12_beaten 0) ⟨⟨_, rfl, rtop_in _, fun _ y => (nomatch y)⟩, ⟨_, rfl, rtop_in _, fun _ y => (nomatch y)⟩, rfl, trivial⟩ L1.1 (fun _ y => (nomatch y)) d_L_585 (cV_X12_beaten (0 + 1) 0 0) kc_12 (ws_1 L1.1.1) tw_2283 rfl ⟨⟨show 0 + 1 + 1 ≤ 2048 from by decide, show 8 + (3 + 11) + 100 * (0 + 1) ≤ 84000 from by decide⟩, rfl, rfl⟩ ⟨show kc ≤ 118216 by omega, show ks ≤ 8741458 by omega⟩ ⟨_, rfl⟩ d_L_588 (fun h2 I2 F2 => ?_)
  have L2 := L1.fr I2 F2 (by decide +kernel)
  refine aw_goto (tgt := 2406) d_L_589 rfl ?_
  exact O _ _ _ _ L2 R.up
theorem lc_8 {L t N kc ks : Nat} {xs : Nat → Int32} {h : Hp_} (hL : 6 * t + 6 ≤ L) (lL : L ≤ 3072) (L0 : Li N h) (R : Rm t N kc ks) (O : ∀ N kc ks h, Li N h → Rm (t + 1) N kc ks → AW (ML L xs) kc ks 2406 (lv5 (6 * t)) [] h k1_) : AW (ML L xs) kc ks 592 (lv5 (6 * t)) [] h k1_ := by
  have hk := R.ok (by omega)
  refine aw_aload_n (i := 1) rfl d_L_592 1 rfl ?_
  refine aw_arg (j := 1) d_L_593 d_L_594 d_L_596 d_L_597 d_L_598 ic_1 (oa_1 (by omega)) (by omega) lL ?_
  refine aw_arg (j := 2) d_L_599 d_L_600 d_L_602 d_L_603 d_L_604 ic_2 (oa_2 (by omega)) (by omega) lL ?_
  refine aw_Vi 0 [.int (xs (6 * t + 1)), .int (xs (6 * t + 2))] [] d_L_605 (cV_X11_begin (0 + 6) 0 0) kc_11 (ws_0 L0.1.1) tw_900 rfl ⟨⟨show 0 + 6 + 1 ≤ 2048 from by decide, show 8 + (4 + 11) + 100 * (0 + 6) ≤ 84000 from by decide⟩, show kc + 0 ≤ 118216 by omega, show ks + 0 ≤ 8741458 by omega⟩ (Nat.le_of_ble_eq_true rfl) xsL (c_bgL 0 L0.1 L0 _ _) (fun r1 h1 k1 => ?_)
  refine aw_pop d_L_608 rfl ?_
  refine aw_aload_n (i := 2) rfl d_L_609 2 rfl ?_
  refine aw_arg (j := 1) d_L_610 d_L_611 d_L_613 d_L_614 d_L_615 ic_1 (oa_1 (by omega)) (by omega) lL ?_
  refine aw_arg (j := 2) d_L_616 d_L_617 d_L_619 d_L_620 d_L_621 ic_2 (oa_2 (by omega)) (by omega) lL ?_
  refine aw_Vi 1 [.int (xs (6 * t + 1)), .int (xs (6 * t + 2))] [] d_L_622 (cV_X12_begin (0 + 4) 0 0) kc_12 (ws_1 k1.1.1) tw_2332 rfl ⟨⟨show 0 + 4 + 1 ≤ 2048 from by decide, show 8 + (4 + 11) + 100 * (0 + 4) ≤ 84000 from by decide⟩, show kc + 0 ≤ 118216 by omega, show ks + 0 ≤ 8741458 by omega⟩ (Nat.le_of_ble_eq_true rfl) xsL (c_bgN 0 k1.1 L0 k1.2.1 _ _) (fun r2 h2 k2 => ?_)
  refine aw_pop d_L_625 rfl ?_
  have L2 := (L0.bg k1 k2).1
  refine aw_goto (tgt := 2406) d_L_626 rfl ?_
  exact O _ _ _ _ L2 R.up
theorem lc_9 {L t N kc ks : Nat} {xs : Nat → Int32} {h : Hp_} (hL : 6 * t + 6 ≤ L) (lL : L ≤ 3072) (L0 : Li N h) (R : Rm t N kc ks) (O : ∀ N kc ks h, Li N h → Rm (t + 1) N kc ks → AW (ML L xs) kc ks 2406 (lv5 (6 * t)) [] h k1_) : AW (ML L xs) kc ks 629 (lv5 (6 * t)) [] h k1_ := by
  have hk := R.ok (by omega)
  refine aw_aload_n (i := 1) rfl d_L_629 1 rfl ?_
  refine aw_arg (j := 1) d_L_630 d_L_631 d_L_633 d_L_634 d_L_635 ic_1 (oa_1 (by omega)) (by omega) lL ?_
  refine aw_arg (j := 2) d_L_636 d_L_637 d_L_639 d_L_640 d_L_641 ic_2 (oa_2 (by omega)) (by omega) lL ?_
  refine aw_arg (j := 3) d_L_642 d_L_643 d_L_645 d_L_646 d_L_647 ic_3 (oa_3 (by omega)) (by omega) lL ?_
  refine aw_Vi 0 [.int (xs (6 * t + 1)), .int (xs (6 * t + 2)), .int (xs (6 * t + 3))] [] d_L_648 (cV_X11_draw (0 + 5) 0 0) kc_11 (ws_0 L0.1.1) tw_971 rfl ⟨⟨show 0 + 5 + 1 ≤ 2048 from by decide, show 8 + (5 + 11) + 100 * (0 + 5) ≤ 84000 from by decide⟩, show kc + 0 ≤ 118216 by omega, show ks + 0 ≤ 8741458 by omega⟩ (Nat.le_of_ble_eq_true rfl) xsL (c_dwL 0 L0.1 L0 _ _ _) (fun r1 h1 k1 => ?_)
  refine aw_pop d_L_651 rfl ?_
  refine aw_aload_n (i := 2) rfl d_L_652 2 rfl ?_
  refine aw_arg (j := 1) d_L_653 d_L_654 d_L_656 d_L_657 d_L_658 ic_1 (oa_1 (by omega)) (by omega) lL ?_
  refine aw_arg (j := 2) d_L_659 d_L_660 d_L_662 d_L_663 d_L_664 ic_2 (oa_2 (by omega)) (by omega) lL ?_
  refine aw_arg (j := 3) d_L_665 d_L_666 d_L_668 d_L_669 d_L_670 ic_3 (oa_3 (by omega)) (by omega) lL ?_
  refine aw_Vi 1 [.int (xs (6 * t + 1)), .int (xs (6 * t + 2)), .int (xs (6 * t + 3))] [] d_L_671 (cV_X12_draw (0 + 5) 0 0) kc_12 (ws_1 k1.1.1) tw_2360 rfl ⟨⟨show 0 + 5 + 1 ≤ 2048 from by decide, show 8 + (4 + 11) + 100 * (0 + 5) ≤ 84000 from by decide⟩, show kc + 0 ≤ 118216 by omega, show ks + 0 ≤ 8741458 by omega⟩ (Nat.le_of_ble_eq_true rfl) xsL (c_dwN 0 k1.1 L0 k1.2.1 _ _ _) (fun r2 h2 k2 => ?_)
  refine aw_pop d_L_674 rfl ?_
  have L2 := (L0.dw k1 k2).1
  refine aw_goto (tgt := 2406) d_L_675 rfl ?_
  exact O _ _ _ _ L2 R.up
theorem lc_10 {L t N kc ks : Nat} {xs : Nat → Int32} {h : Hp_} (hL : 6 * t + 6 ≤ L) (lL : L ≤ 3072) (L0 : Li N h) (R : Rm t N kc ks) (O : ∀ N kc ks h, Li N h → Rm (t + 1) N kc ks → AW (ML L xs) kc ks 2406 (lv5 (6 * t)) [] h k1_) : AW (ML L xs) kc ks 678 (lv5 (6 * t)) [] h k1_ := by
  have hk := R.ok (by omega)
  refine aw_aload_n (i := 1) rfl d_L_678 1 rfl ?_
  refine aw_arg (j := 1) d_L_679 d_L_680 d_L_682 d_L_683 d_L_684 ic_1 (oa_1 (by omega)) (by omega) lL ?_
  refine aw_arg (j := 2) d_L_685 d_L_686 d_L_688 d_L_689 d_L_690 ic_2 (oa_2 (by omega)) (by omega) lL ?_
  refine aw_if_eq (tgt := 698) d_L_691 rfl (fun y691 => ?_) (fun y691 => ?_)
  · refine aw_iconst (v := 0) d_L_698 ic_0 ?_
    refine aw_Vi 0 [.int (xs (6 * t + 1)), .int 0] [] d_L_699 (cV_X11_ill (0 + 3) 0 0) kc_11 (ws_0 L0.1.1) tw_987 rfl ⟨⟨show 0 + 3 + 1 ≤ 2048 from by decide, show 8 + (4 + 11) + 100 * (0 + 3) ≤ 84000 from by decide⟩, show kc + 0 ≤ 118216 by omega, show ks + 0 ≤ 8741458 by omega⟩ (Nat.le_of_ble_eq_true rfl) xsL (c_ilL 0 L0.1 L0 _ _) (fun r1 h1 k1 => ?_)
    refine aw_pop d_L_702 rfl ?_
    refine aw_aload_n (i := 2) rfl d_L_703 2 rfl ?_
    refine aw_arg (j := 1) d_L_704 d_L_705 d_L_707 d_L_708 d_L_709 ic_1 (oa_1 (by omega)) (by omega) lL ?_
    refine aw_arg (j := 2) d_L_710 d_L_711 d_L_713 d_L_714 d_L_715 ic_2 (oa_2 (by omega)) (by omega) lL ?_
    refine aw_if_eq (tgt := 723) d_L_716 rfl (fun _ => ?_) (fun z => absurd y691 z)
    refine aw_iconst (v := 0) d_L_723 ic_0 ?_
    refine aw_Vi 1 [.int (xs (6 * t + 1)), .int 0] [] d_L_724 (cV_X12_ill (0 + 2) 0 0) kc_12 (ws_1 k1.1.1) tw_2376 rfl ⟨⟨show 0 + 2 + 1 ≤ 2048 from by decide, show 8 + (3 + 11) + 100 * (0 + 2) ≤ 84000 from by decide⟩, show kc + 0 ≤ 118216 by omega, show ks + 0 ≤ 8741458 by omega⟩ (Nat.le_of_ble_eq_true rfl) xsL (c_ilN 0 k1.1 L0 k1.2.1 _ _) (fun r2 h2 k2 => ?_)
    refine aw_pop d_L_727 rfl ?_
    have L2 := (L0.il k1 k2).1
    refine aw_goto (tgt := 2406) d_L_728 rfl ?_
    exact O _ _ _ _ L2 R.up
  · refine aw_iconst (v := 1) d_L_694 ic_1 ?_
    refine aw_goto (tgt := 699) d_L_695 rfl ?_
    refine aw_Vi 0 [.int (xs (6 * t + 1)), .int 1] [] d_L_699 (cV_X11_ill (0 + 3) 0 0) kc_11 (ws_0 L0.1.1) tw_987 rfl ⟨⟨show 0 + 3 + 1 ≤ 2048 from by decide, show 8 + (4 + 11) + 100 * (0 + 3) ≤ 84000 from by decide⟩, show kc + 0 ≤ 118216 by omega, show ks + 0 ≤ 8741458 by omega⟩ (Nat.le_of_ble_eq_true rfl) xsL (c_ilL 0 L0.1 L0 _ _) (fun r1 h1 k1 => ?_)
    refine aw_pop d_L_702 rfl ?_
    refine aw_aload_n (i := 2) rfl d_L_703 2 rfl ?_
    refine aw_arg (j := 1) d_L_704 d_L_705 d_L_707 d_L_708 d_L_709 ic_1 (oa_1 (by omega)) (by omega) lL ?_
    refine aw_arg (j := 2) d_L_710 d_L_711 d_L_713 d_L_714 d_L_715 ic_2 (oa_2 (by omega)) (by omega) lL ?_
    refine aw_if_eq (tgt := 723) d_L_716 rfl (fun z => absurd z y691) (fun _ => ?_)
    refine aw_iconst (v := 1) d_L_719 ic_1 ?_
    refine aw_goto (tgt := 724) d_L_720 rfl ?_
    refine aw_Vi 1 [.int (xs (6 * t + 1)), .int 1] [] d_L_724 (cV_X12_ill (0 + 2) 0 0) kc_12 (ws_1 k1.1.1) tw_2376 rfl ⟨⟨show 0 + 2 + 1 ≤ 2048 from by decide, show 8 + (3 + 11) + 100 * (0 + 2) ≤ 84000 from by decide⟩, show kc + 0 ≤ 118216 by omega, show ks + 0 ≤ 8741458 by omega⟩ (Nat.le_of_ble_eq_true rfl) xsL (c_ilN 0 k1.1 L0 k1.2.1 _ _) (fun r2 h2 k2 => ?_)
    refine aw_pop d_L_727 rfl ?_
    have L2 := (L0.il k1 k2).1
    refine aw_goto (tgt := 2406) d_L_728 rfl ?_
    exact O _ _ _ _ L2 R.up
theorem lc_11 {L t N kc ks : Nat} {xs : Nat → Int32} {h : Hp_} (hL : 6 * t + 6 ≤ L) (lL : L ≤ 3072) (L0 : Li N h) (R : Rm t N kc ks) (O : ∀ N kc ks h, Li N h → Rm (t + 1) N kc ks → AW (ML L xs) kc ks 2406 (lv5 (6 * t)) [] h k1_) : AW (ML L xs) kc ks 731 (lv5 (6 * t)) [] h k1_ := by
  have hk := R.ok (by omega)
  refine aw_aload_n (i := 1) rfl d_L_731 1 rfl ?_
  refine aw_arg (j := 1) d_L_732 d_L_733 d_L_735 d_L_736 d_L_737 ic_1 (oa_1 (by omega)) (by omega) lL ?_
  obtain ⟨c0, r0, s0⟩ := L0.2.2.2.1
  obtain ⟨mc, ms, N2, lN, hq, C⟩ := c_tkL 0 L0.1 L0 (xs (6 * t + 1)) r0 s0 R.2.2
  have hq2 : mc ≤ 1 ∧ ms ≤ 20000 := hcost_le hq lN
  refine aw_Vi 0 [.int (xs (6 * t + 1))] [] d_L_738 (cV_X11_tick (0 + 8) mc ms) kc_11 (ws_0 L0.1.1) tw_991 rfl ⟨⟨show 0 + 8 + 1 ≤ 2048 from by decide, show 8 + (5 + 11) + 100 * (0 + 8) ≤ 84000 from by decide⟩, show kc + mc ≤ 118216 by omega, show ks + ms ≤ 8741458 by omega⟩ (Nat.le_of_ble_eq_true rfl) xsL C (fun r1 h1 k1 => ?_)
  refine aw_pop d_L_741 rfl ?_
  have Z1 : Li0 N2 h1 := L0.z.tick k1.1
  refine aw_aload_n (i := 2) rfl d_L_742 2 rfl ?_
  refine aw_arg (j := 1) d_L_743 d_L_744 d_L_746 d_L_747 d_L_748 ic_1 (oa_1 (by omega)) (by omega) lL ?_
  refine aw_Vi 1 [.int (xs (6 * t + 1))] [] d_L_749 (cV_X12_tick (0 + 10) 0 0) kc_12 (ws_1 Z1.1.1) tw_2380 rfl ⟨⟨show 0 + 10 + 1 ≤ 2048 from by decide, show 8 + (4 + 11) + 100 * (0 + 10) ≤ 84000 from by decide⟩, show (kc + mc) + 0 ≤ 118216 by omega, show (ks + ms) + 0 ≤ 8741458 by omega⟩ (Nat.le_of_ble_eq_true rfl) xsL (c_tmL 0 Z1.1 Z1.2.1 L0 k1.1.2.1 _) (fun r2 h2 k2 => ?_)
  refine aw_pop d_L_752 rfl ?_
  have L2 := L0.tk k1 k2
  refine aw_goto (tgt := 2406) d_L_753 rfl ?_
  exact O _ _ _ _ L2 (R.tick hq lN)
theorem lc_12 {L t N kc ks : Nat} {xs : Nat → Int32} {h : Hp_} (hL : 6 * t + 6 ≤ L) (lL : L ≤ 3072) (L0 : Li N h) (R : Rm t N kc ks) (O : ∀ N kc ks h, Li N h → Rm (t + 1) N kc ks → AW (ML L xs) kc ks 2406 (lv5 (6 * t)) [] h k1_) : AW (ML L xs) kc ks 756 (lv5 (6 * t)) [] h k1_ := by
  have hk := R.ok (by omega)
  refine aw_aload_n (i := 1) rfl d_L_756 1 rfl ?_
  refine aw_arg (j := 1) d_L_757 d_L_758 d_L_760 d_L_761 d_L_762 ic_1 (oa_1 (by omega)) (by omega) lL ?_
  refine aw_arg (j := 2) d_L_763 d_L_764 d_L_766 d_L_767 d_L_768 ic_2 (oa_2 (by omega)) (by omega) lL ?_
  refine aw_aload_n (i := 3) rfl d_L_769 3 rfl ?_
  refine aw_La L0.1 L0.2.2.1 (xs (6 * t + 1)) (xs (6 * t + 2)) d_L_770 ⟨show kc + 1 ≤ 118216 by omega, show ks + 6 ≤ 8741458 by omega⟩ (fun r1 h1 I1 F1 => ?_)
  have L1 := L0.fr I1 F1 (by decide +kernel)
  refine aw_istore [(0, .ref 1100), (1, .ref 0), (2, .ref 1), (3, .ref 2), (4, .int (Int32.ofNat (6 * t))), (5, .int r1)] d_L_773 (Nat.le_of_ble_eq_true rfl) rfl rfl ?_
  refine aw_aload_n (i := 2) rfl d_L_775 2 rfl ?_
  refine aw_arg2 (j := 1) d_L_776 d_L_777 d_L_779 d_L_780 d_L_781 ic_1 (oa_1 (by omega)) (by omega) lL ?_
  refine aw_arg2 (j := 2) d_L_782 d_L_783 d_L_785 d_L_786 d_L_787 ic_2 (oa_2 (by omega)) (by omega) lL ?_
  refine aw_Vk (M' := m_X12_about (0 + 2) 0 0) (a := 1) (rest := []) [.int (xs (6 * t + 1)), .int (xs (6 * t + 2))] (hc_X12_about 0) ⟨⟨_, rfl, rtop_in _, fun _ y => (nomatch y)⟩, ⟨_, rfl, rtop_in _, fun _ y => (nomatch y)⟩, rfl, trivial⟩ L1.1 (fun _ y => (nomatch y)) d_L_788 (cV_X12_about (0 + 2) 0 0) kc_12 (ws_1 L1.1.1) tw_2450 rfl (Nat.le_of_ble_eq_true rfl) ⟨⟨show 0 + 2 + 1 ≤ 2048 from by decide, show 8 + (3 + 11) + 100 * (0 + 2) ≤ 84000 from by decide⟩, rfl, rfl, xsL⟩ ⟨show (kc + 1) ≤ 118216 by omega, show (ks + 6) ≤ 8741458 by omega⟩ (fun v2 h2 k2 => ?_)
  obtain ⟨I2, F2, _, x2, ev, y2, ey, _⟩ := k2
  subst ev ey
  have L2 := L1.fr I2 F2 (by decide +kernel)
  refine aw_istore [(0, .ref 1100), (1, .ref 0), (2, .ref 1), (3, .ref 2), (4, .int (Int32.ofNat (6 * t))), (5, .int r1), (6, .int y2)] d_L_791 (Nat.le_of_ble_eq_true rfl) rfl rfl ?_
  refine aw_goto (tgt := 2406) d_L_793 rfl ?_
  refine aw_lvp [0, 1, 2, 3, 4] (lv5 (6 * t)) rfl ?_
  exact O _ _ _ _ L2 R.abt
theorem lc_13 {L t N kc ks : Nat} {xs : Nat → Int32} {h : Hp_} (hL : 6 * t + 6 ≤ L) (lL : L ≤ 3072) (L0 : Li N h) (R : Rm t N kc ks) (O : ∀ N kc ks h, Li N h → Rm (t + 1) N kc ks → AW (ML L xs) kc ks 2406 (lv5 (6 * t)) [] h k1_) : AW (ML L xs) kc ks 796 (lv5 (6 * t)) [] h k1_ := by
  have hk := R.ok (by omega)
  refine aw_aload_n (i := 1) rfl d_L_796 1 rfl ?_
  refine aw_arg (j := 1) d_L_797 d_L_798 d_L_800 d_L_801 d_L_802 ic_1 (oa_1 (by omega)) (by omega) lL ?_
  refine aw_arg (j := 2) d_L_803 d_L_804 d_L_806 d_L_807 d_L_808 ic_2 (oa_2 (by omega)) (by omega) lL ?_
  refine aw_Kp (M' := m_X11_was (0 + 3) 0 0) (a := 0) [.int (xs (6 * t + 1)), .int (xs (6 * t + 2))] (hc_X11_was 0) ⟨⟨_, rfl, rtop_in _, fun _ y => (nomatch y)⟩, ⟨_, rfl, rtop_in _, fun _ y => (nomatch y)⟩, rfl, trivial⟩ L0.1 (fun _ y => (nomatch y)) d_L_809 (cV_X11_was (0 + 3) 0 0) kc_11 (ws_0 L0.1.1) tw_1094 rfl ⟨⟨show 0 + 3 + 1 ≤ 2048 from by decide, show 8 + (4 + 11) + 100 * (0 + 3) ≤ 84000 from by decide⟩, rfl, rfl⟩ ⟨show kc ≤ 118216 by omega, show ks ≤ 8741458 by omega⟩ ⟨_, rfl⟩ d_L_812 (fun h1 I1 F1 => ?_)
  have L1 := L0.fr I1 F1 (by decide +kernel)
  refine aw_aload_n (i := 2) rfl d_L_813 2 rfl ?_
  refine aw_arg (j := 1) d_L_814 d_L_815 d_L_817 d_L_818 d_L_819 ic_1 (oa_1 (by omega)) (by omega) lL ?_
  refine aw_arg (j := 2) d_L_820 d_L_821 d_L_823 d_L_824 d_L_825 ic_2 (oa_2 (by omega)) (by omega) lL ?_
  refine aw_Kp (M' := m_X12_was (0 + 2) 0 0) (a := 1) [.int (xs (6 * t + 1)), .int (xs (6 * t + 2))] (hc_X12_was 0) ⟨⟨_, rfl, rtop_in _, fun _ y => (nomatch y)⟩, ⟨_, rfl, rtop_in _, fun _ y => (nomatch y)⟩, rfl, trivial⟩ L1.1 (fun _ y => (nomatch y)) d_L_826 (cV_X12_was (0 + 2) 0 0) kc_12 (ws_1 L1.1.1) tw_2458 rfl ⟨⟨show 0 + 2 + 1 ≤ 2048 from by decide, show 8 + (3 + 11) + 100 * (0 + 2) ≤ 84000 from by decide⟩, rfl, rfl⟩ ⟨show kc ≤ 118216 by omega, show ks ≤ 8741458 by omega⟩ ⟨_, rfl⟩ d_L_829 (fun h2 I2 F2 => ?_)
  have L2 := L1.fr I2 F2 (by decide +kernel)
  refine aw_goto (tgt := 2406) d_L_830 rfl ?_
  exact O _ _ _ _ L2 R.up
theorem lc_14 {L t N kc ks : Nat} {xs : Nat → Int32} {h : Hp_} (hL : 6 * t + 6 ≤ L) (lL : L ≤ 3072) (L0 : Li N h) (R : Rm t N kc ks) (O : ∀ N kc ks h, Li N h → Rm (t + 1) N kc ks → AW (ML L xs) kc ks 2406 (lv5 (6 * t)) [] h k1_) : AW (ML L xs) kc ks 833 (lv5 (6 * t)) [] h k1_ := by
  have hk := R.ok (by omega)
  refine aw_aload_n (i := 1) rfl d_L_833 1 rfl ?_
  refine aw_arg (j := 1) d_L_834 d_L_835 d_L_837 d_L_838 d_L_839 ic_1 (oa_1 (by omega)) (by omega) lL ?_
  refine aw_arg (j := 2) d_L_840 d_L_841 d_L_843 d_L_844 d_L_845 ic_2 (oa_2 (by omega)) (by omega) lL ?_
  refine aw_arg (j := 3) d_L_846 d_L_847 d_L_849 d_L_850 d_L_851 ic_3 (oa_3 (by omega)) (by omega) lL ?_
  refine aw_Kp (M' := m_X11_point (0 + 3) 0 0) (a := 0) [.int (xs (6 * t + 1)), .int (xs (6 * t + 2)), .int (xs (6 * t + 3))] (hc_X11_point 0) ⟨⟨_, rfl, rtop_in _, fun _ y => (nomatch y)⟩, ⟨_, rfl, rtop_in _, fun _ y => (nomatch y)⟩, ⟨_, rfl, rtop_in _, fun _ y => (nomatch y)⟩, rfl, trivial⟩ L0.1 (fun _ y => (nomatch y)) d_L_852 (cV_X11_point (0 + 3) 0 0) kc_11 (ws_0 L0.1.1) tw_1110 rfl ⟨⟨show 0 + 3 + 1 ≤ 2048 from by decide, show 8 + (4 + 11) + 100 * (0 + 3) ≤ 84000 from by decide⟩, rfl, rfl⟩ ⟨show kc ≤ 118216 by omega, show ks ≤ 8741458 by omega⟩ ⟨_, rfl⟩ d_L_855 (fun h1 I1 F1 => ?_)
  have L1 := L0.fr I1 F1 (by decide +kernel)
  refine aw_aload_n (i := 2) rfl d_L_856 2 rfl ?_
  refine aw_arg (j := 1) d_L_857 d_L_858 d_L_860 d_L_861 d_L_862 ic_1 (oa_1 (by omega)) (by omega) lL ?_
  refine aw_arg (j := 2) d_L_863 d_L_864 d_L_866 d_L_867 d_L_868 ic_2 (oa_2 (by omega)) (by omega) lL ?_
  refine aw_arg (j := 3) d_L_869 d_L_870 d_L_872 d_L_873 d_L_874 ic_3 (oa_3 (by omega)) (by omega) lL ?_
  refine aw_Kp (M' := m_X12_point (0 + 2) 0 0) (a := 1) [.int (xs (6 * t + 1)), .int (xs (6 * t + 2)), .int (xs (6 * t + 3))] (hc_X12_point 0) ⟨⟨_, rfl, rtop_in _, fun _ y => (nomatch y)⟩, ⟨_, rfl, rtop_in _, fun _ y => (nomatch y)⟩, ⟨_, rfl, rtop_in _, fun _ y => (nomatch y)⟩, rfl, trivial⟩ L1.1 (fun _ y => (nomatch y)) d_L_875 (cV_X12_point (0 + 2) 0 0) kc_12 (ws_1 L1.1.1) tw_2312 rfl ⟨⟨show 0 + 2 + 1 ≤ 2048 from by decide, show 8 + (4 + 11) + 100 * (0 + 2) ≤ 84000 from by decide⟩, rfl, rfl⟩ ⟨show kc ≤ 118216 by omega, show ks ≤ 8741458 by omega⟩ ⟨_, rfl⟩ d_L_878 (fun h2 I2 F2 => ?_)
  have L2 := L1.fr I2 F2 (by decide +kernel)
  refine aw_goto (tgt := 2406) d_L_879 rfl ?_
  exact O _ _ _ _ L2 R.up
theorem lc_15 {L t N kc ks : Nat} {xs : Nat → Int32} {h : Hp_} (hL : 6 * t + 6 ≤ L) (lL : L ≤ 3072) (L0 : Li N h) (R : Rm t N kc ks) (O : ∀ N kc ks h, Li N h → Rm (t + 1) N kc ks → AW (ML L xs) kc ks 2406 (lv5 (6 * t)) [] h k1_) : AW (ML L xs) kc ks 882 (lv5 (6 * t)) [] h k1_ := by
  have hk := R.ok (by omega)
  refine aw_aload_n (i := 1) rfl d_L_882 1 rfl ?_
  refine aw_arg (j := 1) d_L_883 d_L_884 d_L_886 d_L_887 d_L_888 ic_1 (oa_1 (by omega)) (by omega) lL ?_
  refine aw_arg (j := 2) d_L_889 d_L_890 d_L_892 d_L_893 d_L_894 ic_2 (oa_2 (by omega)) (by omega) lL ?_
  refine aw_Kp (M' := m_X11_cause (0 + 2) 0 0) (a := 0) [.int (xs (6 * t + 1)), .int (xs (6 * t + 2))] (hc_X11_cause 0) ⟨⟨_, rfl, rtop_in _, fun _ y => (nomatch y)⟩, ⟨_, rfl, rtop_in _, fun _ y => (nomatch y)⟩, rfl, trivial⟩ L0.1 (fun _ y => (nomatch y)) d_L_895 (cV_X11_cause (0 + 2) 0 0) kc_11 (ws_0 L0.1.1) tw_1131 rfl ⟨⟨show 0 + 2 + 1 ≤ 2048 from by decide, show 8 + (3 + 11) + 100 * (0 + 2) ≤ 84000 from by decide⟩, rfl, rfl⟩ ⟨show kc ≤ 118216 by omega, show ks ≤ 8741458 by omega⟩ ⟨_, rfl⟩ d_L_898 (fun h1 I1 F1 => ?_)
  have L1 := L0.fr I1 F1 (by decide +kernel)
  refine aw_aload_n (i := 2) rfl d_L_899 2 rfl ?_
  refine aw_arg (j := 1) d_L_900 d_L_901 d_L_903 d_L_904 d_L_905 ic_1 (oa_1 (by omega)) (by omega) lL ?_
  refine aw_arg (j := 2) d_L_906 d_L_907 d_L_909 d_L_910 d_L_911 ic_2 (oa_2 (by omega)) (by omega) lL ?_
  refine aw_Kp (M' := m_X12_cause (0 + 1) 0 0) (a := 1) [.int (xs (6 * t + 1)), .int (xs (6 * t + 2))] (hc_X12_cause 0) ⟨⟨_, rfl, rtop_in _, fun _ y => (nomatch y)⟩, ⟨_, rfl, rtop_in _, fun _ y => (nomatch y)⟩, rfl, trivial⟩ L1.1 (fun _ y => (nomatch y)) d_L_912 (cV_X12_cause (0 + 1) 0 0) kc_12 (ws_1 L1.1.1) tw_2324 rfl ⟨⟨show 0 + 1 + 1 ≤ 2048 from by decide, show 8 + (3 + 11) + 100 * (0 + 1) ≤ 84000 from by decide⟩, rfl, rfl⟩ ⟨show kc ≤ 118216 by omega, show ks ≤ 8741458 by omega⟩ ⟨_, rfl⟩ d_L_915 (fun h2 I2 F2 => ?_)
  have L2 := L1.fr I2 F2 (by decide +kernel)
  refine aw_goto (tgt := 2406) d_L_916 rfl ?_
  exact O _ _ _ _ L2 R.up
theorem lc_16 {L t N kc ks : Nat} {xs : Nat → Int32} {h : Hp_} (hL : 6 * t + 6 ≤ L) (lL : L ≤ 3072) (L0 : Li N h) (R : Rm t N kc ks) (O : ∀ N kc ks h, Li N h → Rm (t + 1) N kc ks → AW (ML L xs) kc ks 2406 (lv5 (6 * t)) [] h k1_) : AW (ML L xs) kc ks 919 (lv5 (6 * t)) [] h k1_ := by
  have hk := R.ok (by omega)
  refine aw_aload_n (i := 1) rfl d_L_919 1 rfl ?_
  refine aw_arg (j := 1) d_L_920 d_L_921 d_L_923 d_L_924 d_L_925 ic_1 (oa_1 (by omega)) (by omega) lL ?_
  refine aw_arg (j := 2) d_L_926 d_L_927 d_L_929 d_L_930 d_L_931 ic_2 (oa_2 (by omega)) (by omega) lL ?_
  refine aw_Kp (M' := m_X11_causes (0 + 3) 0 0) (a := 0) [.int (xs (6 * t + 1)), .int (xs (6 * t + 2))] (hc_X11_causes 0) ⟨⟨_, rfl, rtop_in _, fun _ y => (nomatch y)⟩, ⟨_, rfl, rtop_in _, fun _ y => (nomatch y)⟩, rfl, trivial⟩ L0.1 (fun _ y => (nomatch y)) d_L_932 (cV_X11_causes (0 + 3) 0 0) kc_11 (ws_0 L0.1.1) tw_1139 rfl ⟨⟨show 0 + 3 + 1 ≤ 2048 from by decide, show 8 + (3 + 11) + 100 * (0 + 3) ≤ 84000 from by decide⟩, rfl, rfl⟩ ⟨show kc ≤ 118216 by omega, show ks ≤ 8741458 by omega⟩ ⟨_, rfl⟩ d_L_935 (fun h1 I1 F1 => ?_)
  have L1 := L0.fr I1 F1 (by decide +kernel)
  refine aw_aload_n (i := 2) rfl d_L_936 2 rfl ?_
  refine aw_arg (j := 1) d_L_937 d_L_938 d_L_940 d_L_941 d_L_942 ic_1 (oa_1 (by omega)) (by omega) lL ?_
  refine aw_arg (j := 2) d_L_943 d_L_944 d_L_946 d_L_947 d_L_948 ic_2 (oa_2 (by omega)) (by omega) lL ?_
  refine aw_Kp (M' := m_X12_causes (0 + 2) 0 0) (a := 1) [.int (xs (6 * t + 1)), .int (xs (6 * t + 2))] (hc_X12_causes 0) ⟨⟨_, rfl, rtop_in _, fun _ y => (nomatch y)⟩, ⟨_, rfl, rtop_in _, fun _ y => (nomatch y)⟩, rfl, trivial⟩ L1.1 (fun _ y => (nomatch y)) d_L_949 (cV_X12_causes (0 + 2) 0 0) kc_12 (ws_1 L1.1.1) tw_2328 rfl ⟨⟨show 0 + 2 + 1 ≤ 2048 from by decide, show 8 + (5 + 11) + 100 * (0 + 2) ≤ 84000 from by decide⟩, rfl, rfl⟩ ⟨show kc ≤ 118216 by omega, show ks ≤ 8741458 by omega⟩ ⟨_, rfl⟩ d_L_952 (fun h2 I2 F2 => ?_)
  have L2 := L1.fr I2 F2 (by decide +kernel)
  refine aw_goto (tgt := 2406) d_L_953 rfl ?_
  exact O _ _ _ _ L2 R.up
theorem lc_17 {L t N kc ks : Nat} {xs : Nat → Int32} {h : Hp_} (hL : 6 * t + 6 ≤ L) (lL : L ≤ 3072) (L0 : Li N h) (R : Rm t N kc ks) (O : ∀ N kc ks h, Li N h → Rm (t + 1) N kc ks → AW (ML L xs) kc ks 2406 (lv5 (6 * t)) [] h k1_) : AW (ML L xs) kc ks 956 (lv5 (6 * t)) [] h k1_ := by
  have hk := R.ok (by omega)
  refine aw_aload_n (i := 1) rfl d_L_956 1 rfl ?_
  refine aw_arg (j := 1) d_L_957 d_L_958 d_L_960 d_L_961 d_L_962 ic_1 (oa_1 (by omega)) (by omega) lL ?_
  refine aw_arg (j := 2) d_L_963 d_L_964 d_L_966 d_L_967 d_L_968 ic_2 (oa_2 (by omega)) (by omega) lL ?_
  refine aw_arg (j := 3) d_L_969 d_L_970 d_L_972 d_L_973 d_L_974 ic_3 (oa_3 (by omega)) (by omega) lL ?_
  refine aw_arg (j := 4) d_L_975 d_L_976 d_L_978 d_L_979 d_L_980 ic_4 (oa_4 (by omega)) (by omega) lL ?_
  refine aw_arg (j := 5) d_L_981 d_L_982 d_L_984 d_L_985 d_L_986 ic_5 (oa_5 (by omega)) (by omega) lL ?_
  refine aw_Vi 0 [.int (xs (6 * t + 1)), .int (xs (6 * t + 2)), .int (xs (6 * t + 3)), .int (xs (6 * t + 4)), .int (xs (6 * t + 5))] [] d_L_987 (cV_X11_find (0 + 1) 0 0) kc_11 (ws_0 L0.1.1) tw_1147 rfl ⟨⟨show 0 + 1 + 1 ≤ 2048 from by decide, show 8 + (6 + 11) + 100 * (0 + 1) ≤ 84000 from by decide⟩, show kc + 0 ≤ 118216 by omega, show ks + 0 ≤ 8741458 by omega⟩ (Nat.le_of_ble_eq_true rfl) xsL (c_fnX 0 L0.1 _ _ _ _ _) (fun r1 h1 k1 => ?_)
  refine aw_pop d_L_990 rfl ?_
  refine aw_aload_n (i := 2) rfl d_L_991 2 rfl ?_
  refine aw_arg (j := 1) d_L_992 d_L_993 d_L_995 d_L_996 d_L_997 ic_1 (oa_1 (by omega)) (by omega) lL ?_
  refine aw_arg (j := 2) d_L_998 d_L_999 d_L_1001 d_L_1002 d_L_1003 ic_2 (oa_2 (by omega)) (by omega) lL ?_
  refine aw_arg (j := 3) d_L_1004 d_L_1005 d_L_1007 d_L_1008 d_L_1009 ic_3 (oa_3 (by omega)) (by omega) lL ?_
  refine aw_arg (j := 4) d_L_1010 d_L_1011 d_L_1013 d_L_1014 d_L_1015 ic_4 (oa_4 (by omega)) (by omega) lL ?_
  refine aw_arg (j := 5) d_L_1016 d_L_1017 d_L_1019 d_L_1020 d_L_1021 ic_5 (oa_5 (by omega)) (by omega) lL ?_
  refine aw_Vi 1 [.int (xs (6 * t + 1)), .int (xs (6 * t + 2)), .int (xs (6 * t + 3)), .int (xs (6 * t + 4)), .int (xs (6 * t + 5))] [] d_L_1022 (cV_X12_find (0 + 2) 0 0) kc_12 (ws_1 k1.1.1) tw_2471 rfl ⟨⟨show 0 + 2 + 1 ≤ 2048 from by decide, show 8 + (6 + 11) + 100 * (0 + 2) ≤ 84000 from by decide⟩, show kc + 0 ≤ 118216 by omega, show ks + 0 ≤ 8741458 by omega⟩ (Nat.le_of_ble_eq_true rfl) xsL (c_fnM 0 k1.1 _ _ _ _ _) (fun r2 h2 k2 => ?_)
  refine aw_pop d_L_1025 rfl ?_
  have L2 := (L0.fn k1 k2).1
  refine aw_goto (tgt := 2406) d_L_1026 rfl ?_
  exact O _ _ _ _ L2 R.up
theorem lc_18 {L t N kc ks : Nat} {xs : Nat → Int32} {h : Hp_} (hL : 6 * t + 6 ≤ L) (lL : L ≤ 3072) (L0 : Li N h) (R : Rm t N kc ks) (O : ∀ N kc ks h, Li N h → Rm (t + 1) N kc ks → AW (ML L xs) kc ks 2406 (lv5 (6 * t)) [] h k1_) : AW (ML L xs) kc ks 1029 (lv5 (6 * t)) [] h k1_ := by
  have hk := R.ok (by omega)
  refine aw_aload_n (i := 1) rfl d_L_1029 1 rfl ?_
  refine aw_arg (j := 1) d_L_1030 d_L_1031 d_L_1033 d_L_1034 d_L_1035 ic_1 (oa_1 (by omega)) (by omega) lL ?_
  refine aw_Vi 0 [.int (xs (6 * t + 1))] [] d_L_1036 (cV_X11_act (0 + 141) 0 0) kc_11 (ws_0 L0.1.1) tw_1155 rfl ⟨⟨show 0 + 141 + 1 ≤ 2048 from by decide, show 8 + (2 + 11) + 100 * (0 + 141) ≤ 84000 from by decide⟩, show kc + 0 ≤ 118216 by omega, show ks + 0 ≤ 8741458 by omega⟩ (Nat.le_of_ble_eq_true rfl) xsL (c_acX 0 L0.1 _) (fun r1 h1 k1 => ?_)
  refine aw_pop d_L_1039 rfl ?_
  refine aw_aload_n (i := 2) rfl d_L_1040 2 rfl ?_
  refine aw_arg (j := 1) d_L_1041 d_L_1042 d_L_1044 d_L_1045 d_L_1046 ic_1 (oa_1 (by omega)) (by omega) lL ?_
  refine aw_Vi 1 [.int (xs (6 * t + 1))] [] d_L_1047 (cV_X12_act (0 + 80 + 61) 0 0) kc_12 (ws_1 k1.1.1) tw_2292 rfl ⟨⟨show 0 + 80 + 61 + 1 ≤ 2048 from by decide, show 8 + (2 + 11) + 100 * (0 + 80 + 61) ≤ 84000 from by decide⟩, show kc + 0 ≤ 118216 by omega, show ks + 0 ≤ 8741458 by omega⟩ (Nat.le_of_ble_eq_true rfl) xsL (c_acM 0 k1.1 (L0.t.q k1.2.1 (by decide +kernel)) _) (fun r2 h2 k2 => ?_)
  refine aw_pop d_L_1050 rfl ?_
  have L2 := (L0.ac k1 k2).1
  refine aw_goto (tgt := 2406) d_L_1051 rfl ?_
  exact O _ _ _ _ L2 R.up
theorem lc_19 {L t N kc ks : Nat} {xs : Nat → Int32} {h : Hp_} (hL : 6 * t + 6 ≤ L) (lL : L ≤ 3072) (L0 : Li N h) (R : Rm t N kc ks) (O : ∀ N kc ks h, Li N h → Rm (t + 1) N kc ks → AW (ML L xs) kc ks 2406 (lv5 (6 * t)) [] h k1_) : AW (ML L xs) kc ks 1054 (lv5 (6 * t)) [] h k1_ := by
  have hk := R.ok (by omega)
  refine aw_aload_n (i := 1) rfl d_L_1054 1 rfl ?_
  refine aw_arg (j := 1) d_L_1055 d_L_1056 d_L_1058 d_L_1059 d_L_1060 ic_1 (oa_1 (by omega)) (by omega) lL ?_
  refine aw_arg (j := 2) d_L_1061 d_L_1062 d_L_1064 d_L_1065 d_L_1066 ic_2 (oa_2 (by omega)) (by omega) lL ?_
  refine aw_Kp (M' := m_X11_force (0 + 2) 0 0) (a := 0) [.int (xs (6 * t + 1)), .int (xs (6 * t + 2))] (hc_X11_force 0) ⟨⟨_, rfl, rtop_in _, fun _ y => (nomatch y)⟩, ⟨_, rfl, rtop_in _, fun _ y => (nomatch y)⟩, rfl, trivial⟩ L0.1 (fun _ y => (nomatch y)) d_L_1067 (cV_X11_force (0 + 2) 0 0) kc_11 (ws_0 L0.1.1) tw_1168 rfl ⟨⟨show 0 + 2 + 1 ≤ 2048 from by decide, show 8 + (3 + 11) + 100 * (0 + 2) ≤ 84000 from by decide⟩, rfl, rfl⟩ ⟨show kc ≤ 118216 by omega, show ks ≤ 8741458 by omega⟩ ⟨_, rfl⟩ d_L_1070 (fun h1 I1 F1 => ?_)
  have L1 := L0.fr I1 F1 (by decide +kernel)
  refine aw_aload_n (i := 2) rfl d_L_1071 2 rfl ?_
  refine aw_arg (j := 1) d_L_1072 d_L_1073 d_L_1075 d_L_1076 d_L_1077 ic_1 (oa_1 (by omega)) (by omega) lL ?_
  refine aw_arg (j := 2) d_L_1078 d_L_1079 d_L_1081 d_L_1082 d_L_1083 ic_2 (oa_2 (by omega)) (by omega) lL ?_
  refine aw_Kp (M' := m_X12_force (0 + 2) 0 0) (a := 1) [.int (xs (6 * t + 1)), .int (xs (6 * t + 2))] (hc_X12_force 0) ⟨⟨_, rfl, rtop_in _, fun _ y => (nomatch y)⟩, ⟨_, rfl, rtop_in _, fun _ y => (nomatch y)⟩, rfl, trivial⟩ L1.1 (fun _ y => (nomatch y)) d_L_1084 (cV_X12_force (0 + 2) 0 0) kc_12 (ws_1 L1.1.1) tw_2304 rfl ⟨⟨show 0 + 2 + 1 ≤ 2048 from by decide, show 8 + (3 + 11) + 100 * (0 + 2) ≤ 84000 from by decide⟩, rfl, rfl⟩ ⟨show kc ≤ 118216 by omega, show ks ≤ 8741458 by omega⟩ ⟨_, rfl⟩ d_L_1087 (fun h2 I2 F2 => ?_)
  have L2 := L1.fr I2 F2 (by decide +kernel)
  refine aw_goto (tgt := 2406) d_L_1088 rfl ?_
  exact O _ _ _ _ L2 R.up
end
section
theorem lc_20 {L t N kc ks : Nat} {xs : Nat → Int32} {h : Hp_} (hL : 6 * t + 6 ≤ L) (lL : L ≤ 3072) (L0 : Li N h) (R : Rm t N kc ks) (O : ∀ N kc ks h, Li N h → Rm (t + 1) N kc ks → AW (ML L xs) kc ks 2406 (lv5 (6 * t)) [] h k1_) : AW (ML L xs) kc ks 1091 (lv5 (6 * t)) [] h k1_ := by
  have hk := R.ok (by omega)
  refine aw_aload_n (i := 1) rfl d_L_1091 1 rfl ?_
  refine aw_arg (j := 1) d_L_1092 d_L_1093 d_L_1095 d_L_1096 d_L_1097 ic_1 (oa_1 (by omega)) (by omega) lL ?_
  refine aw_arg (j := 2) d_L_1098 d_L_1099 d_L_1101 d_L_1102 d_L_1103 ic_2 (oa_2 (by omega)) (by omega) lL ?_
  refine aw_Kp (M' := m_X11_sighting (0 + 2) 0 0) (a := 0) [.int (xs (6 * t + 1)), .int (xs (6 * t + 2))] (hc_X11_sighting 0) ⟨⟨_, rfl, rtop_in _, fun _ y => (nomatch y)⟩, ⟨_, rfl, rtop_in _, fun _ y => (nomatch y)⟩, rfl, trivial⟩ L0.1 (fun _ y => (nomatch y)) d_L_1104 (cV_X11_sighting (0 + 2) 0 0) kc_11 (ws_0 L0.1.1) tw_1172 rfl ⟨⟨show 0 + 2 + 1 ≤ 2048 from by decide, show 8 + (3 + 11) + 100 * (0 + 2) ≤ 84000 from by decide⟩, rfl, rfl⟩ ⟨show kc ≤ 118216 by omega, show ks ≤ 8741458 by omega⟩ ⟨_, rfl⟩ d_L_1107 (fun h1 I1 F1 => ?_)
  have L1 := L0.fr I1 F1 (by decide +kernel)
  refine aw_aload_n (i := 2) rfl d_L_1108 2 rfl ?_
  refine aw_arg (j := 1) d_L_1109 d_L_1110 d_L_1112 d_L_1113 d_L_1114 ic_1 (oa_1 (by omega)) (by omega) lL ?_
  refine aw_arg (j := 2) d_L_1115 d_L_1116 d_L_1118 d_L_1119 d_L_1120 ic_2 (oa_2 (by omega)) (by omega) lL ?_
  refine aw_Kp (M' := m_X12_sighting (0 + 1) 0 0) (a := 1) [.int (xs (6 * t + 1)), .int (xs (6 * t + 2))] (hc_X12_sighting 0) ⟨⟨_, rfl, rtop_in _, fun _ y => (nomatch y)⟩, ⟨_, rfl, rtop_in _, fun _ y => (nomatch y)⟩, rfl, trivial⟩ L1.1 (fun _ y => (nomatch y)) d_L_1121 (cV_X12_sighting (0 + 1) 0 0) kc_12 (ws_1 L1.1.1) tw_2475 rfl ⟨⟨show 0 + 1 + 1 ≤ 2048 from by decide, show 8 + (3 + 11) + 100 * (0 + 1) ≤ 84000 from by decide⟩, rfl, rfl⟩ ⟨show kc ≤ 118216 by omega, show ks ≤ 8741458 by omega⟩ ⟨_, rfl⟩ d_L_1124 (fun h2 I2 F2 => ?_)
  have L2 := L1.fr I2 F2 (by decide +kernel)
  refine aw_goto (tgt := 2406) d_L_1125 rfl ?_
  exact O _ _ _ _ L2 R.up
theorem lc_21 {L t N kc ks : Nat} {xs : Nat → Int32} {h : Hp_} (hL : 6 * t + 6 ≤ L) (lL : L ≤ 3072) (L0 : Li N h) (R : Rm t N kc ks) (O : ∀ N kc ks h, Li N h → Rm (t + 1) N kc ks → AW (ML L xs) kc ks 2406 (lv5 (6 * t)) [] h k1_) : AW (ML L xs) kc ks 1128 (lv5 (6 * t)) [] h k1_ := by
  have hk := R.ok (by omega)
  refine aw_aload_n (i := 1) rfl d_L_1128 1 rfl ?_
  refine aw_arg (j := 1) d_L_1129 d_L_1130 d_L_1132 d_L_1133 d_L_1134 ic_1 (oa_1 (by omega)) (by omega) lL ?_
  refine aw_arg (j := 2) d_L_1135 d_L_1136 d_L_1138 d_L_1139 d_L_1140 ic_2 (oa_2 (by omega)) (by omega) lL ?_
  refine aw_Kp (M' := m_X11_should (0 + 4) 0 0) (a := 0) [.int (xs (6 * t + 1)), .int (xs (6 * t + 2))] (hc_X11_should 0) ⟨⟨_, rfl, rtop_in _, fun _ y => (nomatch y)⟩, ⟨_, rfl, rtop_in _, fun _ y => (nomatch y)⟩, rfl, trivial⟩ L0.1 (fun _ y => (nomatch y)) d_L_1141 (cV_X11_should (0 + 4) 0 0) kc_11 (ws_0 L0.1.1) tw_1181 rfl ⟨⟨show 0 + 4 + 1 ≤ 2048 from by decide, show 8 + (3 + 11) + 100 * (0 + 4) ≤ 84000 from by decide⟩, rfl, rfl⟩ ⟨show kc ≤ 118216 by omega, show ks ≤ 8741458 by omega⟩ ⟨_, rfl⟩ d_L_1144 (fun h1 I1 F1 => ?_)
  have L1 := L0.fr I1 F1 (by decide +kernel)
  refine aw_aload_n (i := 2) rfl d_L_1145 2 rfl ?_
  refine aw_arg (j := 1) d_L_1146 d_L_1147 d_L_1149 d_L_1150 d_L_1151 ic_1 (oa_1 (by omega)) (by omega) lL ?_
  refine aw_arg (j := 2) d_L_1152 d_L_1153 d_L_1155 d_L_1156 d_L_1157 ic_2 (oa_2 (by omega)) (by omega) lL ?_
  refine aw_Kp (M' := m_X12_should (0 + 6) 0 0) (a := 1) [.int (xs (6 * t + 1)), .int (xs (6 * t + 2))] (hc_X12_should 0) ⟨⟨_, rfl, rtop_in _, fun _ y => (nomatch y)⟩, ⟨_, rfl, rtop_in _, fun _ y => (nomatch y)⟩, rfl, trivial⟩ L1.1 (fun _ y => (nomatch y)) d_L_1158 (cV_X12_should (0 + 6) 0 0) kc_12 (ws_1 L1.1.1) tw_2479 rfl ⟨⟨show 0 + 6 + 1 ≤ 2048 from by decide, show 8 + (3 + 11) + 100 * (0 + 6) ≤ 84000 from by decide⟩, rfl, rfl⟩ ⟨show kc ≤ 118216 by omega, show ks ≤ 8741458 by omega⟩ ⟨_, rfl⟩ d_L_1161 (fun h2 I2 F2 => ?_)
  have L2 := L1.fr I2 F2 (by decide +kernel)
  refine aw_goto (tgt := 2406) d_L_1162 rfl ?_
  exact O _ _ _ _ L2 R.up
theorem lc_22 {L t N kc ks : Nat} {xs : Nat → Int32} {h : Hp_} (hL : 6 * t + 6 ≤ L) (lL : L ≤ 3072) (L0 : Li N h) (R : Rm t N kc ks) (O : ∀ N kc ks h, Li N h → Rm (t + 1) N kc ks → AW (ML L xs) kc ks 2406 (lv5 (6 * t)) [] h k1_) : AW (ML L xs) kc ks 1165 (lv5 (6 * t)) [] h k1_ := by
  have hk := R.ok (by omega)
  refine aw_aload_n (i := 1) rfl d_L_1165 1 rfl ?_
  refine aw_arg (j := 1) d_L_1166 d_L_1167 d_L_1169 d_L_1170 d_L_1171 ic_1 (oa_1 (by omega)) (by omega) lL ?_
  refine aw_Vi 0 [.int (xs (6 * t + 1))] [] d_L_1172 (cV_X11_heard (0 + 2) 0 0) kc_11 (ws_0 L0.1.1) tw_1195 rfl ⟨⟨show 0 + 2 + 1 ≤ 2048 from by decide, show 8 + (2 + 11) + 100 * (0 + 2) ≤ 84000 from by decide⟩, show kc + 0 ≤ 118216 by omega, show ks + 0 ≤ 8741458 by omega⟩ (Nat.le_of_ble_eq_true rfl) xsL (c_cmX 0 L0.1 L0 _) (fun r1 h1 k1 => ?_)
  refine aw_aload_n (i := 2) rfl d_L_1175 2 rfl ?_
  refine aw_arg (j := 1) d_L_1176 d_L_1177 d_L_1179 d_L_1180 d_L_1181 ic_1 (oa_1 (by omega)) (by omega) lL ?_
  refine aw_Vi 1 [.int (xs (6 * t + 1))] [.int r1] d_L_1182 (cV_X12_heard (0 + 2) 0 0) kc_12 (ws_1 k1.1.1) tw_2483 rfl ⟨⟨show 0 + 2 + 1 ≤ 2048 from by decide, show 8 + (4 + 11) + 100 * (0 + 2) ≤ 84000 from by decide⟩, show kc + 0 ≤ 118216 by omega, show ks + 0 ≤ 8741458 by omega⟩ (Nat.le_of_ble_eq_true rfl) xsL (c_cmM 0 k1.1 L0 k1.2.1 _) (fun r2 h2 k2 => ?_)
  have L2 := L0.cm k1 k2
  refine aw_icmp_eq (tgt := 2406) d_L_1185 rfl (fun _ => ?_) (fun z => absurd L2.2 z)
  exact O _ _ _ _ L2.1 R.up
theorem lc_23 {L t N kc ks : Nat} {xs : Nat → Int32} {h : Hp_} (hL : 6 * t + 6 ≤ L) (lL : L ≤ 3072) (L0 : Li N h) (R : Rm t N kc ks) (O : ∀ N kc ks h, Li N h → Rm (t + 1) N kc ks → AW (ML L xs) kc ks 2406 (lv5 (6 * t)) [] h k1_) : AW (ML L xs) kc ks 1190 (lv5 (6 * t)) [] h k1_ := by
  have hk := R.ok (by omega)
  refine aw_aload_n (i := 1) rfl d_L_1190 1 rfl ?_
  refine aw_arg (j := 1) d_L_1191 d_L_1192 d_L_1194 d_L_1195 d_L_1196 ic_1 (oa_1 (by omega)) (by omega) lL ?_
  refine aw_Vi 0 [.int (xs (6 * t + 1))] [] d_L_1197 (cV_X11_open (0 + 1) 0 0) kc_11 (ws_0 L0.1.1) tw_1203 rfl ⟨⟨show 0 + 1 + 1 ≤ 2048 from by decide, show 8 + (2 + 11) + 100 * (0 + 1) ≤ 84000 from by decide⟩, show kc + 0 ≤ 118216 by omega, show ks + 0 ≤ 8741458 by omega⟩ (Nat.le_of_ble_eq_true rfl) xsL (c_onX 0 L0.1 _) (fun r1 h1 k1 => ?_)
  refine aw_pop d_L_1200 rfl ?_
  refine aw_aload_n (i := 2) rfl d_L_1201 2 rfl ?_
  refine aw_arg (j := 1) d_L_1202 d_L_1203 d_L_1205 d_L_1206 d_L_1207 ic_1 (oa_1 (by omega)) (by omega) lL ?_
  refine aw_Vi 1 [.int (xs (6 * t + 1))] [] d_L_1208 (cV_X12_open (0 + 1) 0 0) kc_12 (ws_1 k1.1.1) tw_2487 rfl ⟨⟨show 0 + 1 + 1 ≤ 2048 from by decide, show 8 + (2 + 11) + 100 * (0 + 1) ≤ 84000 from by decide⟩, show kc + 0 ≤ 118216 by omega, show ks + 0 ≤ 8741458 by omega⟩ (Nat.le_of_ble_eq_true rfl) xsL (c_onM 0 k1.1 _) (fun r2 h2 k2 => ?_)
  refine aw_pop d_L_1211 rfl ?_
  have L2 := (L0.on k1 k2).1
  refine aw_goto (tgt := 2406) d_L_1212 rfl ?_
  exact O _ _ _ _ L2 R.up
theorem lc_24 {L t N kc ks : Nat} {xs : Nat → Int32} {h : Hp_} (hL : 6 * t + 6 ≤ L) (lL : L ≤ 3072) (L0 : Li N h) (R : Rm t N kc ks) (O : ∀ N kc ks h, Li N h → Rm (t + 1) N kc ks → AW (ML L xs) kc ks 2406 (lv5 (6 * t)) [] h k1_) : AW (ML L xs) kc ks 1215 (lv5 (6 * t)) [] h k1_ := by
  have hk := R.ok (by omega)
  refine aw_aload_n (i := 1) rfl d_L_1215 1 rfl ?_
  refine aw_arg (j := 1) d_L_1216 d_L_1217 d_L_1219 d_L_1220 d_L_1221 ic_1 (oa_1 (by omega)) (by omega) lL ?_
  refine aw_arg (j := 2) d_L_1222 d_L_1223 d_L_1225 d_L_1226 d_L_1227 ic_2 (oa_2 (by omega)) (by omega) lL ?_
  refine aw_Kp (M' := m_X11_need (0 + 1) 0 0) (a := 0) [.int (xs (6 * t + 1)), .int (xs (6 * t + 2))] (hc_X11_need 0) ⟨⟨_, rfl, rtop_in _, fun _ y => (nomatch y)⟩, ⟨_, rfl, rtop_in _, fun _ y => (nomatch y)⟩, rfl, trivial⟩ L0.1 (fun _ y => (nomatch y)) d_L_1228 (cV_X11_need (0 + 1) 0 0) kc_11 (ws_0 L0.1.1) tw_1207 rfl ⟨⟨show 0 + 1 + 1 ≤ 2048 from by decide, show 8 + (3 + 11) + 100 * (0 + 1) ≤ 84000 from by decide⟩, rfl, rfl⟩ ⟨show kc ≤ 118216 by omega, show ks ≤ 8741458 by omega⟩ ⟨_, rfl⟩ d_L_1231 (fun h1 I1 F1 => ?_)
  have L1 := L0.fr I1 F1 (by decide +kernel)
  refine aw_aload_n (i := 2) rfl d_L_1232 2 rfl ?_
  refine aw_arg (j := 1) d_L_1233 d_L_1234 d_L_1236 d_L_1237 d_L_1238 ic_1 (oa_1 (by omega)) (by omega) lL ?_
  refine aw_arg (j := 2) d_L_1239 d_L_1240 d_L_1242 d_L_1243 d_L_1244 ic_2 (oa_2 (by omega)) (by omega) lL ?_
  refine aw_Kp (M' := m_X12_need (0 + 1) 0 0) (a := 1) [.int (xs (6 * t + 1)), .int (xs (6 * t + 2))] (hc_X12_need 0) ⟨⟨_, rfl, rtop_in _, fun _ y => (nomatch y)⟩, ⟨_, rfl, rtop_in _, fun _ y => (nomatch y)⟩, rfl, trivial⟩ L1.1 (fun _ y => (nomatch y)) d_L_1245 (cV_X12_need (0 + 1) 0 0) kc_12 (ws_1 L1.1.1) tw_2491 rfl ⟨⟨show 0 + 1 + 1 ≤ 2048 from by decide, show 8 + (3 + 11) + 100 * (0 + 1) ≤ 84000 from by decide⟩, rfl, rfl⟩ ⟨show kc ≤ 118216 by omega, show ks ≤ 8741458 by omega⟩ ⟨_, rfl⟩ d_L_1248 (fun h2 I2 F2 => ?_)
  have L2 := L1.fr I2 F2 (by decide +kernel)
  refine aw_goto (tgt := 2406) d_L_1249 rfl ?_
  exact O _ _ _ _ L2 R.up
theorem lc_25 {L t N kc ks : Nat} {xs : Nat → Int32} {h : Hp_} (hL : 6 * t + 6 ≤ L) (lL : L ≤ 3072) (L0 : Li N h) (R : Rm t N kc ks) (O : ∀ N kc ks h, Li N h → Rm (t + 1) N kc ks → AW (ML L xs) kc ks 2406 (lv5 (6 * t)) [] h k1_) : AW (ML L xs) kc ks 1252 (lv5 (6 * t)) [] h k1_ := by
  have hk := R.ok (by omega)
  refine aw_aload_n (i := 1) rfl d_L_1252 1 rfl ?_
  refine aw_arg (j := 1) d_L_1253 d_L_1254 d_L_1256 d_L_1257 d_L_1258 ic_1 (oa_1 (by omega)) (by omega) lL ?_
  refine aw_arg (j := 2) d_L_1259 d_L_1260 d_L_1262 d_L_1263 d_L_1264 ic_2 (oa_2 (by omega)) (by omega) lL ?_
  refine aw_Kp (M' := m_X11_want (0 + 1) 0 0) (a := 0) [.int (xs (6 * t + 1)), .int (xs (6 * t + 2))] (hc_X11_want 0) ⟨⟨_, rfl, rtop_in _, fun _ y => (nomatch y)⟩, ⟨_, rfl, rtop_in _, fun _ y => (nomatch y)⟩, rfl, trivial⟩ L0.1 (fun _ y => (nomatch y)) d_L_1265 (cV_X11_want (0 + 1) 0 0) kc_11 (ws_0 L0.1.1) tw_1211 rfl ⟨⟨show 0 + 1 + 1 ≤ 2048 from by decide, show 8 + (3 + 11) + 100 * (0 + 1) ≤ 84000 from by decide⟩, rfl, rfl⟩ ⟨show kc ≤ 118216 by omega, show ks ≤ 8741458 by omega⟩ ⟨_, rfl⟩ d_L_1268 (fun h1 I1 F1 => ?_)
  have L1 := L0.fr I1 F1 (by decide +kernel)
  refine aw_aload_n (i := 2) rfl d_L_1269 2 rfl ?_
  refine aw_arg (j := 1) d_L_1270 d_L_1271 d_L_1273 d_L_1274 d_L_1275 ic_1 (oa_1 (by omega)) (by omega) lL ?_
  refine aw_arg (j := 2) d_L_1276 d_L_1277 d_L_1279 d_L_1280 d_L_1281 ic_2 (oa_2 (by omega)) (by omega) lL ?_
  refine aw_Kp (M' := m_X12_want (0 + 1) 0 0) (a := 1) [.int (xs (6 * t + 1)), .int (xs (6 * t + 2))] (hc_X12_want 0) ⟨⟨_, rfl, rtop_in _, fun _ y => (nomatch y)⟩, ⟨_, rfl, rtop_in _, fun _ y => (nomatch y)⟩, rfl, trivial⟩ L1.1 (fun _ y => (nomatch y)) d_L_1282 (cV_X12_want (0 + 1) 0 0) kc_12 (ws_1 L1.1.1) tw_2495 rfl ⟨⟨show 0 + 1 + 1 ≤ 2048 from by decide, show 8 + (3 + 11) + 100 * (0 + 1) ≤ 84000 from by decide⟩, rfl, rfl⟩ ⟨show kc ≤ 118216 by omega, show ks ≤ 8741458 by omega⟩ ⟨_, rfl⟩ d_L_1285 (fun h2 I2 F2 => ?_)
  have L2 := L1.fr I2 F2 (by decide +kernel)
  refine aw_goto (tgt := 2406) d_L_1286 rfl ?_
  exact O _ _ _ _ L2 R.up
theorem lc_26 {L t N kc ks : Nat} {xs : Nat → Int32} {h : Hp_} (hL : 6 * t + 6 ≤ L) (lL : L ≤ 3072) (L0 : Li N h) (R : Rm t N kc ks) (O : ∀ N kc ks h, Li N h → Rm (t + 1) N kc ks → AW (ML L xs) kc ks 2406 (lv5 (6 * t)) [] h k1_) : AW (ML L xs) kc ks 1289 (lv5 (6 * t)) [] h k1_ := by
  have hk := R.ok (by omega)
  refine aw_aload_n (i := 1) rfl d_L_1289 1 rfl ?_
  refine aw_arg (j := 1) d_L_1290 d_L_1291 d_L_1293 d_L_1294 d_L_1295 ic_1 (oa_1 (by omega)) (by omega) lL ?_
  refine aw_arg (j := 2) d_L_1296 d_L_1297 d_L_1299 d_L_1300 d_L_1301 ic_2 (oa_2 (by omega)) (by omega) lL ?_
  refine aw_arg (j := 3) d_L_1302 d_L_1303 d_L_1305 d_L_1306 d_L_1307 ic_3 (oa_3 (by omega)) (by omega) lL ?_
  refine aw_arg (j := 4) d_L_1308 d_L_1309 d_L_1311 d_L_1312 d_L_1313 ic_4 (oa_4 (by omega)) (by omega) lL ?_
  refine aw_if_eq (tgt := 1321) d_L_1314 rfl (fun y1314 => ?_) (fun y1314 => ?_)
  · refine aw_iconst (v := 0) d_L_1321 ic_0 ?_
    refine aw_Kp (M' := m_X11_state (0 + 2) 0 0) (a := 0) [.int (xs (6 * t + 1)), .int (xs (6 * t + 2)), .int (xs (6 * t + 3)), .int 0] (hc_X11_state 0) ⟨⟨_, rfl, ⟨by decide, by decide⟩, fun _ y => (nomatch y)⟩, ⟨_, rfl, rtop_in _, fun _ y => (nomatch y)⟩, ⟨_, rfl, rtop_in _, fun _ y => (nomatch y)⟩, ⟨_, rfl, rtop_in _, fun _ y => (nomatch y)⟩, rfl, trivial⟩ L0.1 (fun _ y => (nomatch y)) d_L_1322 (cV_X11_state (0 + 2) 0 0) kc_11 (ws_0 L0.1.1) tw_1215 rfl ⟨⟨show 0 + 2 + 1 ≤ 2048 from by decide, show 8 + (5 + 11) + 100 * (0 + 2) ≤ 84000 from by decide⟩, rfl, rfl⟩ ⟨show kc ≤ 118216 by omega, show ks ≤ 8741458 by omega⟩ ⟨_, rfl⟩ d_L_1325 (fun h1 I1 F1 => ?_)
    have L1 := L0.fr I1 F1 (by decide +kernel)
    refine aw_aload_n (i := 2) rfl d_L_1326 2 rfl ?_
    refine aw_arg (j := 1) d_L_1327 d_L_1328 d_L_1330 d_L_1331 d_L_1332 ic_1 (oa_1 (by omega)) (by omega) lL ?_
    refine aw_arg (j := 2) d_L_1333 d_L_1334 d_L_1336 d_L_1337 d_L_1338 ic_2 (oa_2 (by omega)) (by omega) lL ?_
    refine aw_arg (j := 3) d_L_1339 d_L_1340 d_L_1342 d_L_1343 d_L_1344 ic_3 (oa_3 (by omega)) (by omega) lL ?_
    refine aw_arg (j := 4) d_L_1345 d_L_1346 d_L_1348 d_L_1349 d_L_1350 ic_4 (oa_4 (by omega)) (by omega) lL ?_
    refine aw_if_eq (tgt := 1358) d_L_1351 rfl (fun _ => ?_) (fun z => absurd y1314 z)
    refine aw_iconst (v := 0) d_L_1358 ic_0 ?_
    refine aw_Kp (M' := m_X12_state (0 + 2) 0 0) (a := 1) [.int (xs (6 * t + 1)), .int (xs (6 * t + 2)), .int (xs (6 * t + 3)), .int 0] (hc_X12_state 0) ⟨⟨_, rfl, ⟨by decide, by decide⟩, fun _ y => (nomatch y)⟩, ⟨_, rfl, rtop_in _, fun _ y => (nomatch y)⟩, ⟨_, rfl, rtop_in _, fun _ y => (nomatch y)⟩, ⟨_, rfl, rtop_in _, fun _ y => (nomatch y)⟩, rfl, trivial⟩ L1.1 (fun _ y => (nomatch y)) d_L_1359 (cV_X12_state (0 + 2) 0 0) kc_12 (ws_1 L1.1.1) tw_2499 rfl ⟨⟨show 0 + 2 + 1 ≤ 2048 from by decide, show 8 + (5 + 11) + 100 * (0 + 2) ≤ 84000 from by decide⟩, rfl, rfl⟩ ⟨show kc ≤ 118216 by omega, show ks ≤ 8741458 by omega⟩ ⟨_, rfl⟩ d_L_1362 (fun h2 I2 F2 => ?_)
    have L2 := L1.fr I2 F2 (by decide +kernel)
    refine aw_goto (tgt := 2406) d_L_1363 rfl ?_
    exact O _ _ _ _ L2 R.up
  · refine aw_iconst (v := 1) d_L_1317 ic_1 ?_
    refine aw_goto (tgt := 1322) d_L_1318 rfl ?_
    refine aw_Kp (M' := m_X11_state (0 + 2) 0 0) (a := 0) [.int (xs (6 * t + 1)), .int (xs (6 * t + 2)), .int (xs (6 * t + 3)), .int 1] (hc_X11_state 0) ⟨⟨_, rfl, ⟨by decide, by decide⟩, fun _ y => (nomatch y)⟩, ⟨_, rfl, rtop_in _, fun _ y => (nomatch y)⟩, ⟨_, rfl, rtop_in _, fun _ y => (nomatch y)⟩, ⟨_, rfl, rtop_in _, fun _ y => (nomatch y)⟩, rfl, trivial⟩ L0.1 (fun _ y => (nomatch y)) d_L_1322 (cV_X11_state (0 + 2) 0 0) kc_11 (ws_0 L0.1.1) tw_1215 rfl ⟨⟨show 0 + 2 + 1 ≤ 2048 from by decide, show 8 + (5 + 11) + 100 * (0 + 2) ≤ 84000 from by decide⟩, rfl, rfl⟩ ⟨show kc ≤ 118216 by omega, show ks ≤ 8741458 by omega⟩ ⟨_, rfl⟩ d_L_1325 (fun h1 I1 F1 => ?_)
    have L1 := L0.fr I1 F1 (by decide +kernel)
    refine aw_aload_n (i := 2) rfl d_L_1326 2 rfl ?_
    refine aw_arg (j := 1) d_L_1327 d_L_1328 d_L_1330 d_L_1331 d_L_1332 ic_1 (oa_1 (by omega)) (by omega) lL ?_
    refine aw_arg (j := 2) d_L_1333 d_L_1334 d_L_1336 d_L_1337 d_L_1338 ic_2 (oa_2 (by omega)) (by omega) lL ?_
    refine aw_arg (j := 3) d_L_1339 d_L_1340 d_L_1342 d_L_1343 d_L_1344 ic_3 (oa_3 (by omega)) (by omega) lL ?_
    refine aw_arg (j := 4) d_L_1345 d_L_1346 d_L_1348 d_L_1349 d_L_1350 ic_4 (oa_4 (by omega)) (by omega) lL ?_
    refine aw_if_eq (tgt := 1358) d_L_1351 rfl (fun z => absurd z y1314) (fun _ => ?_)
    refine aw_iconst (v := 1) d_L_1354 ic_1 ?_
    refine aw_goto (tgt := 1359) d_L_1355 rfl ?_
    refine aw_Kp (M' := m_X12_state (0 + 2) 0 0) (a := 1) [.int (xs (6 * t + 1)), .int (xs (6 * t + 2)), .int (xs (6 * t + 3)), .int 1] (hc_X12_state 0) ⟨⟨_, rfl, ⟨by decide, by decide⟩, fun _ y => (nomatch y)⟩, ⟨_, rfl, rtop_in _, fun _ y => (nomatch y)⟩, ⟨_, rfl, rtop_in _, fun _ y => (nomatch y)⟩, ⟨_, rfl, rtop_in _, fun _ y => (nomatch y)⟩, rfl, trivial⟩ L1.1 (fun _ y => (nomatch y)) d_L_1359 (cV_X12_state (0 + 2) 0 0) kc_12 (ws_1 L1.1.1) tw_2499 rfl ⟨⟨show 0 + 2 + 1 ≤ 2048 from by decide, show 8 + (5 + 11) + 100 * (0 + 2) ≤ 84000 from by decide⟩, rfl, rfl⟩ ⟨show kc ≤ 118216 by omega, show ks ≤ 8741458 by omega⟩ ⟨_, rfl⟩ d_L_1362 (fun h2 I2 F2 => ?_)
    have L2 := L1.fr I2 F2 (by decide +kernel)
    refine aw_goto (tgt := 2406) d_L_1363 rfl ?_
    exact O _ _ _ _ L2 R.up
theorem lc_27 {L t N kc ks : Nat} {xs : Nat → Int32} {h : Hp_} (hL : 6 * t + 6 ≤ L) (lL : L ≤ 3072) (L0 : Li N h) (R : Rm t N kc ks) (O : ∀ N kc ks h, Li N h → Rm (t + 1) N kc ks → AW (ML L xs) kc ks 2406 (lv5 (6 * t)) [] h k1_) : AW (ML L xs) kc ks 1366 (lv5 (6 * t)) [] h k1_ := by
  have hk := R.ok (by omega)
  refine aw_aload_n (i := 1) rfl d_L_1366 1 rfl ?_
  refine aw_arg (j := 1) d_L_1367 d_L_1368 d_L_1370 d_L_1371 d_L_1372 ic_1 (oa_1 (by omega)) (by omega) lL ?_
  refine aw_Kp (M' := m_X11_withdraw (0 + 7) 0 0) (a := 0) [.int (xs (6 * t + 1))] (hc_X11_withdraw 0) ⟨⟨_, rfl, rtop_in _, fun _ y => (nomatch y)⟩, rfl, trivial⟩ L0.1 (fun _ y => (nomatch y)) d_L_1373 (cV_X11_withdraw (0 + 7) 0 0) kc_11 (ws_0 L0.1.1) tw_1228 rfl ⟨⟨show 0 + 7 + 1 ≤ 2048 from by decide, show 8 + (2 + 11) + 100 * (0 + 7) ≤ 84000 from by decide⟩, rfl, rfl⟩ ⟨show kc ≤ 118216 by omega, show ks ≤ 8741458 by omega⟩ ⟨_, rfl⟩ d_L_1376 (fun h1 I1 F1 => ?_)
  have L1 := L0.fr I1 F1 (by decide +kernel)
  refine aw_aload_n (i := 2) rfl d_L_1377 2 rfl ?_
  refine aw_arg (j := 1) d_L_1378 d_L_1379 d_L_1381 d_L_1382 d_L_1383 ic_1 (oa_1 (by omega)) (by omega) lL ?_
  refine aw_Kp (M' := m_X12_withdraw (0 + 4) 0 0) (a := 1) [.int (xs (6 * t + 1))] (hc_X12_withdraw 0) ⟨⟨_, rfl, rtop_in _, fun _ y => (nomatch y)⟩, rfl, trivial⟩ L1.1 (fun _ y => (nomatch y)) d_L_1384 (cV_X12_withdraw (0 + 4) 0 0) kc_12 (ws_1 L1.1.1) tw_2540 rfl ⟨⟨show 0 + 4 + 1 ≤ 2048 from by decide, show 8 + (4 + 11) + 100 * (0 + 4) ≤ 84000 from by decide⟩, rfl, rfl⟩ ⟨show kc ≤ 118216 by omega, show ks ≤ 8741458 by omega⟩ ⟨_, rfl⟩ d_L_1387 (fun h2 I2 F2 => ?_)
  have L2 := L1.fr I2 F2 (by decide +kernel)
  refine aw_goto (tgt := 2406) d_L_1388 rfl ?_
  exact O _ _ _ _ L2 R.up
theorem lc_28 {L t N kc ks : Nat} {xs : Nat → Int32} {h : Hp_} (hL : 6 * t + 6 ≤ L) (lL : L ≤ 3072) (L0 : Li N h) (R : Rm t N kc ks) (O : ∀ N kc ks h, Li N h → Rm (t + 1) N kc ks → AW (ML L xs) kc ks 2406 (lv5 (6 * t)) [] h k1_) : AW (ML L xs) kc ks 1391 (lv5 (6 * t)) [] h k1_ := by
  have hk := R.ok (by omega)
  refine aw_aload_n (i := 1) rfl d_L_1391 1 rfl ?_
  refine aw_arg (j := 1) d_L_1392 d_L_1393 d_L_1395 d_L_1396 d_L_1397 ic_1 (oa_1 (by omega)) (by omega) lL ?_
  refine aw_arg (j := 2) d_L_1398 d_L_1399 d_L_1401 d_L_1402 d_L_1403 ic_2 (oa_2 (by omega)) (by omega) lL ?_
  refine aw_arg (j := 3) d_L_1404 d_L_1405 d_L_1407 d_L_1408 d_L_1409 ic_3 (oa_3 (by omega)) (by omega) lL ?_
  refine aw_Kp (M' := m_X11_fact (0 + 2) 0 0) (a := 0) [.int (xs (6 * t + 1)), .int (xs (6 * t + 2)), .int (xs (6 * t + 3))] (hc_X11_fact 0) ⟨⟨_, rfl, rtop_in _, fun _ y => (nomatch y)⟩, ⟨_, rfl, rtop_in _, fun _ y => (nomatch y)⟩, ⟨_, rfl, rtop_in _, fun _ y => (nomatch y)⟩, rfl, trivial⟩ L0.1 (fun _ y => (nomatch y)) d_L_1410 (cV_X11_fact (0 + 2) 0 0) kc_11 (ws_0 L0.1.1) tw_1275 rfl ⟨⟨show 0 + 2 + 1 ≤ 2048 from by decide, show 8 + (4 + 11) + 100 * (0 + 2) ≤ 84000 from by decide⟩, rfl, rfl⟩ ⟨show kc ≤ 118216 by omega, show ks ≤ 8741458 by omega⟩ ⟨_, rfl⟩ d_L_1413 (fun h1 I1 F1 => ?_)
  have L1 := L0.fr I1 F1 (by decide +kernel)
  refine aw_aload_n (i := 2) rfl d_L_1414 2 rfl ?_
  refine aw_arg (j := 1) d_L_1415 d_L_1416 d_L_1418 d_L_1419 d_L_1420 ic_1 (oa_1 (by omega)) (by omega) lL ?_
  refine aw_arg (j := 2) d_L_1421 d_L_1422 d_L_1424 d_L_1425 d_L_1426 ic_2 (oa_2 (by omega)) (by omega) lL ?_
  refine aw_arg (j := 3) d_L_1427 d_L_1428 d_L_1430 d_L_1431 d_L_1432 ic_3 (oa_3 (by omega)) (by omega) lL ?_
  refine aw_Kp (M' := m_X12_fact (0 + 3) 0 0) (a := 1) [.int (xs (6 * t + 1)), .int (xs (6 * t + 2)), .int (xs (6 * t + 3))] (hc_X12_fact 0) ⟨⟨_, rfl, rtop_in _, fun _ y => (nomatch y)⟩, ⟨_, rfl, rtop_in _, fun _ y => (nomatch y)⟩, ⟨_, rfl, rtop_in _, fun _ y => (nomatch y)⟩, rfl, trivial⟩ L1.1 (fun _ y => (nomatch y)) d_L_1433 (cV_X12_fact (0 + 3) 0 0) kc_12 (ws_1 L1.1.1) tw_2507 rfl ⟨⟨show 0 + 3 + 1 ≤ 2048 from by decide, show 8 + (4 + 11) + 100 * (0 + 3) ≤ 84000 from by decide⟩, rfl, rfl⟩ ⟨show kc ≤ 118216 by omega, show ks ≤ 8741458 by omega⟩ ⟨_, rfl⟩ d_L_1436 (fun h2 I2 F2 => ?_)
  have L2 := L1.fr I2 F2 (by decide +kernel)
  refine aw_goto (tgt := 2406) d_L_1437 rfl ?_
  exact O _ _ _ _ L2 R.up
theorem lc_29 {L t N kc ks : Nat} {xs : Nat → Int32} {h : Hp_} (hL : 6 * t + 6 ≤ L) (lL : L ≤ 3072) (L0 : Li N h) (R : Rm t N kc ks) (O : ∀ N kc ks h, Li N h → Rm (t + 1) N kc ks → AW (ML L xs) kc ks 2406 (lv5 (6 * t)) [] h k1_) : AW (ML L xs) kc ks 1440 (lv5 (6 * t)) [] h k1_ := by
  have hk := R.ok (by omega)
  refine aw_aload_n (i := 1) rfl d_L_1440 1 rfl ?_
  refine aw_arg (j := 1) d_L_1441 d_L_1442 d_L_1444 d_L_1445 d_L_1446 ic_1 (oa_1 (by omega)) (by omega) lL ?_
  refine aw_arg (j := 2) d_L_1447 d_L_1448 d_L_1450 d_L_1451 d_L_1452 ic_2 (oa_2 (by omega)) (by omega) lL ?_
  refine aw_arg (j := 3) d_L_1453 d_L_1454 d_L_1456 d_L_1457 d_L_1458 ic_3 (oa_3 (by omega)) (by omega) lL ?_
  refine aw_Kp (M' := m_X11_cased (0 + 6) 0 0) (a := 0) [.int (xs (6 * t + 1)), .int (xs (6 * t + 2)), .int (xs (6 * t + 3))] (hc_X11_cased 0) ⟨⟨_, rfl, rtop_in _, fun _ y => (nomatch y)⟩, ⟨_, rfl, rtop_in _, fun _ y => (nomatch y)⟩, ⟨_, rfl, rtop_in _, fun _ y => (nomatch y)⟩, rfl, trivial⟩ L0.1 (fun _ y => (nomatch y)) d_L_1459 (cV_X11_cased (0 + 6) 0 0) kc_11 (ws_0 L0.1.1) tw_1285 rfl ⟨⟨show 0 + 6 + 1 ≤ 2048 from by decide, show 8 + (4 + 11) + 100 * (0 + 6) ≤ 84000 from by decide⟩, rfl, rfl⟩ ⟨show kc ≤ 118216 by omega, show ks ≤ 8741458 by omega⟩ ⟨_, rfl⟩ d_L_1462 (fun h1 I1 F1 => ?_)
  have L1 := L0.fr I1 F1 (by decide +kernel)
  refine aw_aload_n (i := 2) rfl d_L_1463 2 rfl ?_
  refine aw_arg (j := 1) d_L_1464 d_L_1465 d_L_1467 d_L_1468 d_L_1469 ic_1 (oa_1 (by omega)) (by omega) lL ?_
  refine aw_arg (j := 2) d_L_1470 d_L_1471 d_L_1473 d_L_1474 d_L_1475 ic_2 (oa_2 (by omega)) (by omega) lL ?_
  refine aw_arg (j := 3) d_L_1476 d_L_1477 d_L_1479 d_L_1480 d_L_1481 ic_3 (oa_3 (by omega)) (by omega) lL ?_
  refine aw_Kp (M' := m_X12_cased (0 + 4) 0 0) (a := 1) [.int (xs (6 * t + 1)), .int (xs (6 * t + 2)), .int (xs (6 * t + 3))] (hc_X12_cased 0) ⟨⟨_, rfl, rtop_in _, fun _ y => (nomatch y)⟩, ⟨_, rfl, rtop_in _, fun _ y => (nomatch y)⟩, ⟨_, rfl, rtop_in _, fun _ y => (nomatch y)⟩, rfl, trivial⟩ L1.1 (fun _ y => (nomatch y)) d_L_1482 (cV_X12_cased (0 + 4) 0 0) kc_12 (ws_1 L1.1.1) tw_2519 rfl ⟨⟨show 0 + 4 + 1 ≤ 2048 from by decide, show 8 + (4 + 11) + 100 * (0 + 4) ≤ 84000 from by decide⟩, rfl, rfl⟩ ⟨show kc ≤ 118216 by omega, show ks ≤ 8741458 by omega⟩ ⟨_, rfl⟩ d_L_1485 (fun h2 I2 F2 => ?_)
  have L2 := L1.fr I2 F2 (by decide +kernel)
  refine aw_goto (tgt := 2406) d_L_1486 rfl ?_
  exact O _ _ _ _ L2 R.up
theorem lc_30 {L t N kc ks : Nat} {xs : Nat → Int32} {h : Hp_} (hL : 6 * t + 6 ≤ L) (lL : L ≤ 3072) (L0 : Li N h) (R : Rm t N kc ks) (O : ∀ N kc ks h, Li N h → Rm (t + 1) N kc ks → AW (ML L xs) kc ks 2406 (lv5 (6 * t)) [] h k1_) : AW (ML L xs) kc ks 1489 (lv5 (6 * t)) [] h k1_ := by
  have hk := R.ok (by omega)
  refine aw_aload_n (i := 1) rfl d_L_1489 1 rfl ?_
  refine aw_arg (j := 1) d_L_1490 d_L_1491 d_L_1493 d_L_1494 d_L_1495 ic_1 (oa_1 (by omega)) (by omega) lL ?_
  refine aw_arg (j := 2) d_L_1496 d_L_1497 d_L_1499 d_L_1500 d_L_1501 ic_2 (oa_2 (by omega)) (by omega) lL ?_
  refine aw_arg (j := 3) d_L_1502 d_L_1503 d_L_1505 d_L_1506 d_L_1507 ic_3 (oa_3 (by omega)) (by omega) lL ?_
  refine aw_Kp (M' := m_X11_story (0 + 2) 0 0) (a := 0) [.int (xs (6 * t + 1)), .int (xs (6 * t + 2)), .int (xs (6 * t + 3))] (hc_X11_story 0) ⟨⟨_, rfl, rtop_in _, fun _ y => (nomatch y)⟩, ⟨_, rfl, rtop_in _, fun _ y => (nomatch y)⟩, ⟨_, rfl, rtop_in _, fun _ y => (nomatch y)⟩, rfl, trivial⟩ L0.1 (fun _ y => (nomatch y)) d_L_1508 (cV_X11_story (0 + 2) 0 0) kc_11 (ws_0 L0.1.1) tw_1297 rfl ⟨⟨show 0 + 2 + 1 ≤ 2048 from by decide, show 8 + (4 + 11) + 100 * (0 + 2) ≤ 84000 from by decide⟩, rfl, rfl⟩ ⟨show kc ≤ 118216 by omega, show ks ≤ 8741458 by omega⟩ ⟨_, rfl⟩ d_L_1511 (fun h1 I1 F1 => ?_)
  have L1 := L0.fr I1 F1 (by decide +kernel)
  refine aw_aload_n (i := 2) rfl d_L_1512 2 rfl ?_
  refine aw_arg (j := 1) d_L_1513 d_L_1514 d_L_1516 d_L_1517 d_L_1518 ic_1 (oa_1 (by omega)) (by omega) lL ?_
  refine aw_arg (j := 2) d_L_1519 d_L_1520 d_L_1522 d_L_1523 d_L_1524 ic_2 (oa_2 (by omega)) (by omega) lL ?_
  refine aw_arg (j := 3) d_L_1525 d_L_1526 d_L_1528 d_L_1529 d_L_1530 ic_3 (oa_3 (by omega)) (by omega) lL ?_
  refine aw_Kp (M' := m_X12_story (0 + 2) 0 0) (a := 1) [.int (xs (6 * t + 1)), .int (xs (6 * t + 2)), .int (xs (6 * t + 3))] (hc_X12_story 0) ⟨⟨_, rfl, rtop_in _, fun _ y => (nomatch y)⟩, ⟨_, rfl, rtop_in _, fun _ y => (nomatch y)⟩, ⟨_, rfl, rtop_in _, fun _ y => (nomatch y)⟩, rfl, trivial⟩ L1.1 (fun _ y => (nomatch y)) d_L_1531 (cV_X12_story (0 + 2) 0 0) kc_12 (ws_1 L1.1.1) tw_2544 rfl ⟨⟨show 0 + 2 + 1 ≤ 2048 from by decide, show 8 + (5 + 11) + 100 * (0 + 2) ≤ 84000 from by decide⟩, rfl, rfl⟩ ⟨show kc ≤ 118216 by omega, show ks ≤ 8741458 by omega⟩ ⟨_, rfl⟩ d_L_1534 (fun h2 I2 F2 => ?_)
  have L2 := L1.fr I2 F2 (by decide +kernel)
  refine aw_goto (tgt := 2406) d_L_1535 rfl ?_
  exact O _ _ _ _ L2 R.up
theorem lc_31 {L t N kc ks : Nat} {xs : Nat → Int32} {h : Hp_} (hL : 6 * t + 6 ≤ L) (lL : L ≤ 3072) (L0 : Li N h) (R : Rm t N kc ks) (O : ∀ N kc ks h, Li N h → Rm (t + 1) N kc ks → AW (ML L xs) kc ks 2406 (lv5 (6 * t)) [] h k1_) : AW (ML L xs) kc ks 1538 (lv5 (6 * t)) [] h k1_ := by
  have hk := R.ok (by omega)
  refine aw_aload_n (i := 1) rfl d_L_1538 1 rfl ?_
  refine aw_arg (j := 1) d_L_1539 d_L_1540 d_L_1542 d_L_1543 d_L_1544 ic_1 (oa_1 (by omega)) (by omega) lL ?_
  refine aw_Kp (M' := m_X11_next (0 + 5) 0 0) (a := 0) [.int (xs (6 * t + 1))] (hc_X11_next 0) ⟨⟨_, rfl, rtop_in _, fun _ y => (nomatch y)⟩, rfl, trivial⟩ L0.1 (fun _ y => (nomatch y)) d_L_1545 (cV_X11_next (0 + 5) 0 0) kc_11 (ws_0 L0.1.1) tw_1305 rfl ⟨⟨show 0 + 5 + 1 ≤ 2048 from by decide, show 8 + (2 + 11) + 100 * (0 + 5) ≤ 84000 from by decide⟩, rfl, rfl⟩ ⟨show kc ≤ 118216 by omega, show ks ≤ 8741458 by omega⟩ ⟨_, rfl⟩ d_L_1548 (fun h1 I1 F1 => ?_)
  have L1 := L0.fr I1 F1 (by decide +kernel)
  refine aw_aload_n (i := 2) rfl d_L_1549 2 rfl ?_
  refine aw_arg (j := 1) d_L_1550 d_L_1551 d_L_1553 d_L_1554 d_L_1555 ic_1 (oa_1 (by omega)) (by omega) lL ?_
  refine aw_Kp (M' := m_X12_next (0 + 3) 0 0) (a := 1) [.int (xs (6 * t + 1))] (hc_X12_next 0) ⟨⟨_, rfl, rtop_in _, fun _ y => (nomatch y)⟩, rfl, trivial⟩ L1.1 (fun _ y => (nomatch y)) d_L_1556 (cV_X12_next (0 + 3) 0 0) kc_12 (ws_1 L1.1.1) tw_2548 rfl ⟨⟨show 0 + 3 + 1 ≤ 2048 from by decide, show 8 + (11 + 11) + 100 * (0 + 3) ≤ 84000 from by decide⟩, rfl, rfl⟩ ⟨show kc ≤ 118216 by omega, show ks ≤ 8741458 by omega⟩ ⟨_, rfl⟩ d_L_1559 (fun h2 I2 F2 => ?_)
  have L2 := L1.fr I2 F2 (by decide +kernel)
  refine aw_goto (tgt := 2406) d_L_1560 rfl ?_
  exact O _ _ _ _ L2 R.up
theorem lc_32 {L t N kc ks : Nat} {xs : Nat → Int32} {h : Hp_} (hL : 6 * t + 6 ≤ L) (lL : L ≤ 3072) (L0 : Li N h) (R : Rm t N kc ks) (O : ∀ N kc ks h, Li N h → Rm (t + 1) N kc ks → AW (ML L xs) kc ks 2406 (lv5 (6 * t)) [] h k1_) : AW (ML L xs) kc ks 1563 (lv5 (6 * t)) [] h k1_ := by
  have hk := R.ok (by omega)
  refine aw_aload_n (i := 1) rfl d_L_1563 1 rfl ?_
  refine aw_arg (j := 1) d_L_1564 d_L_1565 d_L_1567 d_L_1568 d_L_1569 ic_1 (oa_1 (by omega)) (by omega) lL ?_
  refine aw_if_eq (tgt := 1577) d_L_1570 rfl (fun y1570 => ?_) (fun y1570 => ?_)
  · refine aw_iconst (v := 0) d_L_1577 ic_0 ?_
    refine aw_arg (j := 2) d_L_1578 d_L_1579 d_L_1581 d_L_1582 d_L_1583 ic_2 (oa_2 (by omega)) (by omega) lL ?_
    refine aw_Kp (M' := m_X11_good (0 + 1) 0 0) (a := 0) [.int 0, .int (xs (6 * t + 2))] (hc_X11_good 0) ⟨⟨_, rfl, rtop_in _, fun _ y => (nomatch y)⟩, ⟨_, rfl, ⟨by decide, by decide⟩, fun _ y => (nomatch y)⟩, rfl, trivial⟩ L0.1 (fun _ y => (nomatch y)) d_L_1584 (cV_X11_good (0 + 1) 0 0) kc_11 (ws_0 L0.1.1) tw_1314 rfl ⟨⟨show 0 + 1 + 1 ≤ 2048 from by decide, show 8 + (3 + 11) + 100 * (0 + 1) ≤ 84000 from by decide⟩, rfl, rfl⟩ ⟨show kc ≤ 118216 by omega, show ks ≤ 8741458 by omega⟩ ⟨_, rfl⟩ d_L_1587 (fun h1 I1 F1 => ?_)
    have L1 := L0.fr I1 F1 (by decide +kernel)
    refine aw_aload_n (i := 2) rfl d_L_1588 2 rfl ?_
    refine aw_arg (j := 1) d_L_1589 d_L_1590 d_L_1592 d_L_1593 d_L_1594 ic_1 (oa_1 (by omega)) (by omega) lL ?_
    refine aw_if_eq (tgt := 1602) d_L_1595 rfl (fun _ => ?_) (fun z => absurd y1570 z)
    refine aw_iconst (v := 0) d_L_1602 ic_0 ?_
    refine aw_arg (j := 2) d_L_1603 d_L_1604 d_L_1606 d_L_1607 d_L_1608 ic_2 (oa_2 (by omega)) (by omega) lL ?_
    refine aw_Kp (M' := m_X12_good (0 + 1) 0 0) (a := 1) [.int 0, .int (xs (6 * t + 2))] (hc_X12_good 0) ⟨⟨_, rfl, rtop_in _, fun _ y => (nomatch y)⟩, ⟨_, rfl, ⟨by decide, by decide⟩, fun _ y => (nomatch y)⟩, rfl, trivial⟩ L1.1 (fun _ y => (nomatch y)) d_L_1609 (cV_X12_good (0 + 1) 0 0) kc_12 (ws_1 L1.1.1) tw_2553 rfl ⟨⟨show 0 + 1 + 1 ≤ 2048 from by decide, show 8 + (3 + 11) + 100 * (0 + 1) ≤ 84000 from by decide⟩, rfl, rfl⟩ ⟨show kc ≤ 118216 by omega, show ks ≤ 8741458 by omega⟩ ⟨_, rfl⟩ d_L_1612 (fun h2 I2 F2 => ?_)
    have L2 := L1.fr I2 F2 (by decide +kernel)
    refine aw_goto (tgt := 2406) d_L_1613 rfl ?_
    exact O _ _ _ _ L2 R.up
  · refine aw_iconst (v := 1) d_L_1573 ic_1 ?_
    refine aw_goto (tgt := 1578) d_L_1574 rfl ?_
    refine aw_arg (j := 2) d_L_1578 d_L_1579 d_L_1581 d_L_1582 d_L_1583 ic_2 (oa_2 (by omega)) (by omega) lL ?_
    refine aw_Kp (M' := m_X11_good (0 + 1) 0 0) (a := 0) [.int 1, .int (xs (6 * t + 2))] (hc_X11_good 0) ⟨⟨_, rfl, rtop_in _, fun _ y => (nomatch y)⟩, ⟨_, rfl, ⟨by decide, by decide⟩, fun _ y => (nomatch y)⟩, rfl, trivial⟩ L0.1 (fun _ y => (nomatch y)) d_L_1584 (cV_X11_good (0 + 1) 0 0) kc_11 (ws_0 L0.1.1) tw_1314 rfl ⟨⟨show 0 + 1 + 1 ≤ 2048 from by decide, show 8 + (3 + 11) + 100 * (0 + 1) ≤ 84000 from by decide⟩, rfl, rfl⟩ ⟨show kc ≤ 118216 by omega, show ks ≤ 8741458 by omega⟩ ⟨_, rfl⟩ d_L_1587 (fun h1 I1 F1 => ?_)
    have L1 := L0.fr I1 F1 (by decide +kernel)
    refine aw_aload_n (i := 2) rfl d_L_1588 2 rfl ?_
    refine aw_arg (j := 1) d_L_1589 d_L_1590 d_L_1592 d_L_1593 d_L_1594 ic_1 (oa_1 (by omega)) (by omega) lL ?_
    refine aw_if_eq (tgt := 1602) d_L_1595 rfl (fun z => absurd z y1570) (fun _ => ?_)
    refine aw_iconst (v := 1) d_L_1598 ic_1 ?_
    refine aw_goto (tgt := 1603) d_L_1599 rfl ?_
    refine aw_arg (j := 2) d_L_1603 d_L_1604 d_L_1606 d_L_1607 d_L_1608 ic_2 (oa_2 (by omega)) (by omega) lL ?_
    refine aw_Kp (M' := m_X12_good (0 + 1) 0 0) (a := 1) [.int 1, .int (xs (6 * t + 2))] (hc_X12_good 0) ⟨⟨_, rfl, rtop_in _, fun _ y => (nomatch y)⟩, ⟨_, rfl, ⟨by decide, by decide⟩, fun _ y => (nomatch y)⟩, rfl, trivial⟩ L1.1 (fun _ y => (nomatch y)) d_L_1609 (cV_X12_good (0 + 1) 0 0) kc_12 (ws_1 L1.1.1) tw_2553 rfl ⟨⟨show 0 + 1 + 1 ≤ 2048 from by decide, show 8 + (3 + 11) + 100 * (0 + 1) ≤ 84000 from by decide⟩, rfl, rfl⟩ ⟨show kc ≤ 118216 by omega, show ks ≤ 8741458 by omega⟩ ⟨_, rfl⟩ d_L_1612 (fun h2 I2 F2 => ?_)
    have L2 := L1.fr I2 F2 (by decide +kernel)
    refine aw_goto (tgt := 2406) d_L_1613 rfl ?_
    exact O _ _ _ _ L2 R.up
theorem lc_33 {L t N kc ks : Nat} {xs : Nat → Int32} {h : Hp_} (hL : 6 * t + 6 ≤ L) (lL : L ≤ 3072) (L0 : Li N h) (R : Rm t N kc ks) (O : ∀ N kc ks h, Li N h → Rm (t + 1) N kc ks → AW (ML L xs) kc ks 2406 (lv5 (6 * t)) [] h k1_) : AW (ML L xs) kc ks 1616 (lv5 (6 * t)) [] h k1_ := by
  have hk := R.ok (by omega)
  refine aw_aload_n (i := 1) rfl d_L_1616 1 rfl ?_
  refine aw_arg (j := 1) d_L_1617 d_L_1618 d_L_1620 d_L_1621 d_L_1622 ic_1 (oa_1 (by omega)) (by omega) lL ?_
  refine aw_Kp (M' := m_X11_least (0 + 1) 0 0) (a := 0) [.int (xs (6 * t + 1))] (hc_X11_least 0) ⟨⟨_, rfl, rtop_in _, fun _ y => (nomatch y)⟩, rfl, trivial⟩ L0.1 (fun _ y => (nomatch y)) d_L_1623 (cV_X11_least (0 + 1) 0 0) kc_11 (ws_0 L0.1.1) tw_1323 rfl ⟨⟨show 0 + 1 + 1 ≤ 2048 from by decide, show 8 + (2 + 11) + 100 * (0 + 1) ≤ 84000 from by decide⟩, rfl, rfl⟩ ⟨show kc ≤ 118216 by omega, show ks ≤ 8741458 by omega⟩ ⟨_, rfl⟩ d_L_1626 (fun h1 I1 F1 => ?_)
  have L1 := L0.fr I1 F1 (by decide +kernel)
  refine aw_aload_n (i := 2) rfl d_L_1627 2 rfl ?_
  refine aw_arg (j := 1) d_L_1628 d_L_1629 d_L_1631 d_L_1632 d_L_1633 ic_1 (oa_1 (by omega)) (by omega) lL ?_
  refine aw_Kp (M' := m_X12_least (0 + 1) 0 0) (a := 1) [.int (xs (6 * t + 1))] (hc_X12_least 0) ⟨⟨_, rfl, rtop_in _, fun _ y => (nomatch y)⟩, rfl, trivial⟩ L1.1 (fun _ y => (nomatch y)) d_L_1634 (cV_X12_least (0 + 1) 0 0) kc_12 (ws_1 L1.1.1) tw_2558 rfl ⟨⟨show 0 + 1 + 1 ≤ 2048 from by decide, show 8 + (2 + 11) + 100 * (0 + 1) ≤ 84000 from by decide⟩, rfl, rfl⟩ ⟨show kc ≤ 118216 by omega, show ks ≤ 8741458 by omega⟩ ⟨_, rfl⟩ d_L_1637 (fun h2 I2 F2 => ?_)
  have L2 := L1.fr I2 F2 (by decide +kernel)
  refine aw_goto (tgt := 2406) d_L_1638 rfl ?_
  exact O _ _ _ _ L2 R.up
theorem lc_34 {L t N kc ks : Nat} {xs : Nat → Int32} {h : Hp_} (hL : 6 * t + 6 ≤ L) (lL : L ≤ 3072) (L0 : Li N h) (R : Rm t N kc ks) (O : ∀ N kc ks h, Li N h → Rm (t + 1) N kc ks → AW (ML L xs) kc ks 2406 (lv5 (6 * t)) [] h k1_) : AW (ML L xs) kc ks 1641 (lv5 (6 * t)) [] h k1_ := by
  have hk := R.ok (by omega)
  refine aw_aload_n (i := 1) rfl d_L_1641 1 rfl ?_
  refine aw_Kp (M' := m_X11_joining (0 + 5) 0 0) (a := 0) [] (hc_X11_joining 0) ⟨rfl, trivial⟩ L0.1 (fun _ y => (nomatch y)) d_L_1642 (cV_X11_joining (0 + 5) 0 0) kc_11 (ws_0 L0.1.1) tw_1331 rfl ⟨⟨show 0 + 5 + 1 ≤ 2048 from by decide, show 8 + (1 + 11) + 100 * (0 + 5) ≤ 84000 from by decide⟩, rfl, rfl⟩ ⟨show kc ≤ 118216 by omega, show ks ≤ 8741458 by omega⟩ ⟨_, rfl⟩ d_L_1645 (fun h1 I1 F1 => ?_)
  have L1 := L0.fr I1 F1 (by decide +kernel)
  refine aw_aload_n (i := 2) rfl d_L_1646 2 rfl ?_
  refine aw_Kp (M' := m_X12_joining (0 + 2) 0 0) (a := 1) [] (hc_X12_joining 0) ⟨rfl, trivial⟩ L1.1 (fun _ y => (nomatch y)) d_L_1647 (cV_X12_joining (0 + 2) 0 0) kc_12 (ws_1 L1.1.1) tw_2562 rfl ⟨⟨show 0 + 2 + 1 ≤ 2048 from by decide, show 8 + (1 + 11) + 100 * (0 + 2) ≤ 84000 from by decide⟩, rfl, rfl⟩ ⟨show kc ≤ 118216 by omega, show ks ≤ 8741458 by omega⟩ ⟨_, rfl⟩ d_L_1650 (fun h2 I2 F2 => ?_)
  have L2 := L1.fr I2 F2 (by decide +kernel)
  refine aw_goto (tgt := 2406) d_L_1651 rfl ?_
  exact O _ _ _ _ L2 R.up
theorem lc_35 {L t N kc ks : Nat} {xs : Nat → Int32} {h : Hp_} (hL : 6 * t + 6 ≤ L) (lL : L ≤ 3072) (L0 : Li N h) (R : Rm t N kc ks) (O : ∀ N kc ks h, Li N h → Rm (t + 1) N kc ks → AW (ML L xs) kc ks 2406 (lv5 (6 * t)) [] h k1_) : AW (ML L xs) kc ks 1654 (lv5 (6 * t)) [] h k1_ := by
  have hk := R.ok (by omega)
  refine aw_aload_n (i := 1) rfl d_L_1654 1 rfl ?_
  refine aw_arg (j := 1) d_L_1655 d_L_1656 d_L_1658 d_L_1659 d_L_1660 ic_1 (oa_1 (by omega)) (by omega) lL ?_
  refine aw_Kp (M' := m_X11_joined (0 + 5) 0 0) (a := 0) [.int (xs (6 * t + 1))] (hc_X11_joined 0) ⟨⟨_, rfl, rtop_in _, fun _ y => (nomatch y)⟩, rfl, trivial⟩ L0.1 (fun _ y => (nomatch y)) d_L_1661 (cV_X11_joined (0 + 5) 0 0) kc_11 (ws_0 L0.1.1) tw_1376 rfl ⟨⟨show 0 + 5 + 1 ≤ 2048 from by decide, show 8 + (2 + 11) + 100 * (0 + 5) ≤ 84000 from by decide⟩, rfl, rfl⟩ ⟨show kc ≤ 118216 by omega, show ks ≤ 8741458 by omega⟩ ⟨_, rfl⟩ d_L_1664 (fun h1 I1 F1 => ?_)
  have L1 := L0.fr I1 F1 (by decide +kernel)
  refine aw_aload_n (i := 2) rfl d_L_1665 2 rfl ?_
  refine aw_arg (j := 1) d_L_1666 d_L_1667 d_L_1669 d_L_1670 d_L_1671 ic_1 (oa_1 (by omega)) (by omega) lL ?_
  refine aw_Kp (M' := m_X12_joined (0 + 2) 0 0) (a := 1) [.int (xs (6 * t + 1))] (hc_X12_joined 0) ⟨⟨_, rfl, rtop_in _, fun _ y => (nomatch y)⟩, rfl, trivial⟩ L1.1 (fun _ y => (nomatch y)) d_L_1672 (cV_X12_joined (0 + 2) 0 0) kc_12 (ws_1 L1.1.1) tw_2574 rfl ⟨⟨show 0 + 2 + 1 ≤ 2048 from by decide, show 8 + (7 + 11) + 100 * (0 + 2) ≤ 84000 from by decide⟩, rfl, rfl⟩ ⟨show kc ≤ 118216 by omega, show ks ≤ 8741458 by omega⟩ ⟨_, rfl⟩ d_L_1675 (fun h2 I2 F2 => ?_)
  have L2 := L1.fr I2 F2 (by decide +kernel)
  refine aw_goto (tgt := 2406) d_L_1676 rfl ?_
  exact O _ _ _ _ L2 R.up
theorem lc_36 {L t N kc ks : Nat} {xs : Nat → Int32} {h : Hp_} (hL : 6 * t + 6 ≤ L) (lL : L ≤ 3072) (L0 : Li N h) (R : Rm t N kc ks) (O : ∀ N kc ks h, Li N h → Rm (t + 1) N kc ks → AW (ML L xs) kc ks 2406 (lv5 (6 * t)) [] h k1_) : AW (ML L xs) kc ks 1679 (lv5 (6 * t)) [] h k1_ := by
  have hk := R.ok (by omega)
  refine aw_aload_n (i := 1) rfl d_L_1679 1 rfl ?_
  refine aw_arg (j := 1) d_L_1680 d_L_1681 d_L_1683 d_L_1684 d_L_1685 ic_1 (oa_1 (by omega)) (by omega) lL ?_
  refine aw_Kp (M' := m_X11_rivals (0 + 5) 0 0) (a := 0) [.int (xs (6 * t + 1))] (hc_X11_rivals 0) ⟨⟨_, rfl, rtop_in _, fun _ y => (nomatch y)⟩, rfl, trivial⟩ L0.1 (fun _ y => (nomatch y)) d_L_1686 (cV_X11_rivals (0 + 5) 0 0) kc_11 (ws_0 L0.1.1) tw_1389 rfl ⟨⟨show 0 + 5 + 1 ≤ 2048 from by decide, show 8 + (2 + 11) + 100 * (0 + 5) ≤ 84000 from by decide⟩, rfl, rfl⟩ ⟨show kc ≤ 118216 by omega, show ks ≤ 8741458 by omega⟩ ⟨_, rfl⟩ d_L_1689 (fun h1 I1 F1 => ?_)
  have L1 := L0.fr I1 F1 (by decide +kernel)
  refine aw_aload_n (i := 2) rfl d_L_1690 2 rfl ?_
  refine aw_arg (j := 1) d_L_1691 d_L_1692 d_L_1694 d_L_1695 d_L_1696 ic_1 (oa_1 (by omega)) (by omega) lL ?_
  refine aw_Kp (M' := m_X12_rivals (0 + 4) 0 0) (a := 1) [.int (xs (6 * t + 1))] (hc_X12_rivals 0) ⟨⟨_, rfl, rtop_in _, fun _ y => (nomatch y)⟩, rfl, trivial⟩ L1.1 (fun _ y => (nomatch y)) d_L_1697 (cV_X12_rivals (0 + 4) 0 0) kc_12 (ws_1 L1.1.1) tw_2582 rfl ⟨⟨show 0 + 4 + 1 ≤ 2048 from by decide, show 8 + (2 + 11) + 100 * (0 + 4) ≤ 84000 from by decide⟩, rfl, rfl⟩ ⟨show kc ≤ 118216 by omega, show ks ≤ 8741458 by omega⟩ ⟨_, rfl⟩ d_L_1700 (fun h2 I2 F2 => ?_)
  have L2 := L1.fr I2 F2 (by decide +kernel)
  refine aw_goto (tgt := 2406) d_L_1701 rfl ?_
  exact O _ _ _ _ L2 R.up
theorem lc_37 {L t N kc ks : Nat} {xs : Nat → Int32} {h : Hp_} (hL : 6 * t + 6 ≤ L) (lL : L ≤ 3072) (L0 : Li N h) (R : Rm t N kc ks) (O : ∀ N kc ks h, Li N h → Rm (t + 1) N kc ks → AW (ML L xs) kc ks 2406 (lv5 (6 * t)) [] h k1_) : AW (ML L xs) kc ks 1704 (lv5 (6 * t)) [] h k1_ := by
  have hk := R.ok (by omega)
  refine aw_aload_n (i := 1) rfl d_L_1704 1 rfl ?_
  refine aw_arg (j := 1) d_L_1705 d_L_1706 d_L_1708 d_L_1709 d_L_1710 ic_1 (oa_1 (by omega)) (by omega) lL ?_
  refine aw_Kp (M' := m_X11_sure (0 + 5) 0 0) (a := 0) [.int (xs (6 * t + 1))] (hc_X11_sure 0) ⟨⟨_, rfl, rtop_in _, fun _ y => (nomatch y)⟩, rfl, trivial⟩ L0.1 (fun _ y => (nomatch y)) d_L_1711 (cV_X11_sure (0 + 5) 0 0) kc_11 (ws_0 L0.1.1) tw_1397 rfl ⟨⟨show 0 + 5 + 1 ≤ 2048 from by decide, show 8 + (2 + 11) + 100 * (0 + 5) ≤ 84000 from by decide⟩, rfl, rfl⟩ ⟨show kc ≤ 118216 by omega, show ks ≤ 8741458 by omega⟩ ⟨_, rfl⟩ d_L_1714 (fun h1 I1 F1 => ?_)
  have L1 := L0.fr I1 F1 (by decide +kernel)
  refine aw_aload_n (i := 2) rfl d_L_1715 2 rfl ?_
  refine aw_arg (j := 1) d_L_1716 d_L_1717 d_L_1719 d_L_1720 d_L_1721 ic_1 (oa_1 (by omega)) (by omega) lL ?_
  refine aw_Kp (M' := m_X12_sure (0 + 4) 0 0) (a := 1) [.int (xs (6 * t + 1))] (hc_X12_sure 0) ⟨⟨_, rfl, rtop_in _, fun _ y => (nomatch y)⟩, rfl, trivial⟩ L1.1 (fun _ y => (nomatch y)) d_L_1722 (cV_X12_sure (0 + 4) 0 0) kc_12 (ws_1 L1.1.1) tw_2591 rfl ⟨⟨show 0 + 4 + 1 ≤ 2048 from by decide, show 8 + (4 + 11) + 100 * (0 + 4) ≤ 84000 from by decide⟩, rfl, rfl⟩ ⟨show kc ≤ 118216 by omega, show ks ≤ 8741458 by omega⟩ ⟨_, rfl⟩ d_L_1725 (fun h2 I2 F2 => ?_)
  have L2 := L1.fr I2 F2 (by decide +kernel)
  refine aw_goto (tgt := 2406) d_L_1726 rfl ?_
  exact O _ _ _ _ L2 R.up
theorem lc_38 {L t N kc ks : Nat} {xs : Nat → Int32} {h : Hp_} (hL : 6 * t + 6 ≤ L) (lL : L ≤ 3072) (L0 : Li N h) (R : Rm t N kc ks) (O : ∀ N kc ks h, Li N h → Rm (t + 1) N kc ks → AW (ML L xs) kc ks 2406 (lv5 (6 * t)) [] h k1_) : AW (ML L xs) kc ks 1729 (lv5 (6 * t)) [] h k1_ := by
  have hk := R.ok (by omega)
  refine aw_aload_n (i := 1) rfl d_L_1729 1 rfl ?_
  refine aw_arg (j := 1) d_L_1730 d_L_1731 d_L_1733 d_L_1734 d_L_1735 ic_1 (oa_1 (by omega)) (by omega) lL ?_
  refine aw_arg (j := 2) d_L_1736 d_L_1737 d_L_1739 d_L_1740 d_L_1741 ic_2 (oa_2 (by omega)) (by omega) lL ?_
  refine aw_arg (j := 3) d_L_1742 d_L_1743 d_L_1745 d_L_1746 d_L_1747 ic_3 (oa_3 (by omega)) (by omega) lL ?_
  refine aw_Kp (M' := m_X11_watch (0 + 1) 0 0) (a := 0) [.int (xs (6 * t + 1)), .int (xs (6 * t + 2)), .int (xs (6 * t + 3))] (hc_X11_watch 0) ⟨⟨_, rfl, rtop_in _, fun _ y => (nomatch y)⟩, ⟨_, rfl, rtop_in _, fun _ y => (nomatch y)⟩, ⟨_, rfl, rtop_in _, fun _ y => (nomatch y)⟩, rfl, trivial⟩ L0.1 (fun _ y => (nomatch y)) d_L_1748 (cV_X11_watch (0 + 1) 0 0) kc_11 (ws_0 L0.1.1) tw_1406 rfl ⟨⟨show 0 + 1 + 1 ≤ 2048 from by decide, show 8 + (4 + 11) + 100 * (0 + 1) ≤ 84000 from by decide⟩, rfl, rfl⟩ ⟨show kc ≤ 118216 by omega, show ks ≤ 8741458 by omega⟩ ⟨_, rfl⟩ d_L_1751 (fun h1 I1 F1 => ?_)
  have L1 := L0.fr I1 F1 (by decide +kernel)
  refine aw_aload_n (i := 2) rfl d_L_1752 2 rfl ?_
  refine aw_arg (j := 1) d_L_1753 d_L_1754 d_L_1756 d_L_1757 d_L_1758 ic_1 (oa_1 (by omega)) (by omega) lL ?_
  refine aw_arg (j := 2) d_L_1759 d_L_1760 d_L_1762 d_L_1763 d_L_1764 ic_2 (oa_2 (by omega)) (by omega) lL ?_
  refine aw_arg (j := 3) d_L_1765 d_L_1766 d_L_1768 d_L_1769 d_L_1770 ic_3 (oa_3 (by omega)) (by omega) lL ?_
  refine aw_Kp (M' := m_X12_watch (0 + 2) 0 0) (a := 1) [.int (xs (6 * t + 1)), .int (xs (6 * t + 2)), .int (xs (6 * t + 3))] (hc_X12_watch 0) ⟨⟨_, rfl, rtop_in _, fun _ y => (nomatch y)⟩, ⟨_, rfl, rtop_in _, fun _ y => (nomatch y)⟩, ⟨_, rfl, rtop_in _, fun _ y => (nomatch y)⟩, rfl, trivial⟩ L1.1 (fun _ y => (nomatch y)) d_L_1771 (cV_X12_watch (0 + 2) 0 0) kc_12 (ws_1 L1.1.1) tw_2595 rfl ⟨⟨show 0 + 2 + 1 ≤ 2048 from by decide, show 8 + (4 + 11) + 100 * (0 + 2) ≤ 84000 from by decide⟩, rfl, rfl⟩ ⟨show kc ≤ 118216 by omega, show ks ≤ 8741458 by omega⟩ ⟨_, rfl⟩ d_L_1774 (fun h2 I2 F2 => ?_)
  have L2 := L1.fr I2 F2 (by decide +kernel)
  refine aw_goto (tgt := 2406) d_L_1775 rfl ?_
  exact O _ _ _ _ L2 R.up
theorem lc_39 {L t N kc ks : Nat} {xs : Nat → Int32} {h : Hp_} (hL : 6 * t + 6 ≤ L) (lL : L ≤ 3072) (L0 : Li N h) (R : Rm t N kc ks) (O : ∀ N kc ks h, Li N h → Rm (t + 1) N kc ks → AW (ML L xs) kc ks 2406 (lv5 (6 * t)) [] h k1_) : AW (ML L xs) kc ks 1778 (lv5 (6 * t)) [] h k1_ := by
  have hk := R.ok (by omega)
  refine aw_aload_n (i := 1) rfl d_L_1778 1 rfl ?_
  refine aw_arg (j := 1) d_L_1779 d_L_1780 d_L_1782 d_L_1783 d_L_1784 ic_1 (oa_1 (by omega)) (by omega) lL ?_
  refine aw_arg (j := 2) d_L_1785 d_L_1786 d_L_1788 d_L_1789 d_L_1790 ic_2 (oa_2 (by omega)) (by omega) lL ?_
  refine aw_Kp (M' := m_X11_sees (0 + 4) 0 0) (a := 0) [.int (xs (6 * t + 1)), .int (xs (6 * t + 2))] (hc_X11_sees 0) ⟨⟨_, rfl, rtop_in _, fun _ y => (nomatch y)⟩, ⟨_, rfl, rtop_in _, fun _ y => (nomatch y)⟩, rfl, trivial⟩ L0.1 (fun _ y => (nomatch y)) d_L_1791 (cV_X11_sees (0 + 4) 0 0) kc_11 (ws_0 L0.1.1) tw_1414 rfl ⟨⟨show 0 + 4 + 1 ≤ 2048 from by decide, show 8 + (3 + 11) + 100 * (0 + 4) ≤ 84000 from by decide⟩, rfl, rfl⟩ ⟨show kc ≤ 118216 by omega, show ks ≤ 8741458 by omega⟩ ⟨_, rfl⟩ d_L_1794 (fun h1 I1 F1 => ?_)
  have L1 := L0.fr I1 F1 (by decide +kernel)
  refine aw_aload_n (i := 2) rfl d_L_1795 2 rfl ?_
  refine aw_arg (j := 1) d_L_1796 d_L_1797 d_L_1799 d_L_1800 d_L_1801 ic_1 (oa_1 (by omega)) (by omega) lL ?_
  refine aw_arg (j := 2) d_L_1802 d_L_1803 d_L_1805 d_L_1806 d_L_1807 ic_2 (oa_2 (by omega)) (by omega) lL ?_
  refine aw_Kp (M' := m_X12_sees (0 + 2) 0 0) (a := 1) [.int (xs (6 * t + 1)), .int (xs (6 * t + 2))] (hc_X12_sees 0) ⟨⟨_, rfl, rtop_in _, fun _ y => (nomatch y)⟩, ⟨_, rfl, rtop_in _, fun _ y => (nomatch y)⟩, rfl, trivial⟩ L1.1 (fun _ y => (nomatch y)) d_L_1808 (cV_X12_sees (0 + 2) 0 0) kc_12 (ws_1 L1.1.1) tw_2599 rfl ⟨⟨show 0 + 2 + 1 ≤ 2048 from by decide, show 8 + (3 + 11) + 100 * (0 + 2) ≤ 84000 from by decide⟩, rfl, rfl⟩ ⟨show kc ≤ 118216 by omega, show ks ≤ 8741458 by omega⟩ ⟨_, rfl⟩ d_L_1811 (fun h2 I2 F2 => ?_)
  have L2 := L1.fr I2 F2 (by decide +kernel)
  refine aw_goto (tgt := 2406) d_L_1812 rfl ?_
  exact O _ _ _ _ L2 R.up
end
section
theorem lc_40 {L t N kc ks : Nat} {xs : Nat → Int32} {h : Hp_} (hL : 6 * t + 6 ≤ L) (lL : L ≤ 3072) (L0 : Li N h) (R : Rm t N kc ks) (O : ∀ N kc ks h, Li N h → Rm (t + 1) N kc ks → AW (ML L xs) kc ks 2406 (lv5 (6 * t)) [] h k1_) : AW (ML L xs) kc ks 1815 (lv5 (6 * t)) [] h k1_ := by
  have hk := R.ok (by omega)
  refine aw_aload_n (i := 1) rfl d_L_1815 1 rfl ?_
  refine aw_arg (j := 1) d_L_1816 d_L_1817 d_L_1819 d_L_1820 d_L_1821 ic_1 (oa_1 (by omega)) (by omega) lL ?_
  refine aw_Kp (M' := m_X11_safe (0 + 9) 0 0) (a := 0) [.int (xs (6 * t + 1))] (hc_X11_safe 0) ⟨⟨_, rfl, rtop_in _, fun _ y => (nomatch y)⟩, rfl, trivial⟩ L0.1 (fun _ y => (nomatch y)) d_L_1822 (cV_X11_safe (0 + 9) 0 0) kc_11 (ws_0 L0.1.1) tw_1438 rfl ⟨⟨show 0 + 9 + 1 ≤ 2048 from by decide, show 8 + (2 + 11) + 100 * (0 + 9) ≤ 84000 from by decide⟩, rfl, rfl⟩ ⟨show kc ≤ 118216 by omega, show ks ≤ 8741458 by omega⟩ ⟨_, rfl⟩ d_L_1825 (fun h1 I1 F1 => ?_)
  have L1 := L0.fr I1 F1 (by decide +kernel)
  refine aw_aload_n (i := 2) rfl d_L_1826 2 rfl ?_
  refine aw_arg (j := 1) d_L_1827 d_L_1828 d_L_1830 d_L_1831 d_L_1832 ic_1 (oa_1 (by omega)) (by omega) lL ?_
  refine aw_Kp (M' := m_X12_safe (0 + 8) 0 0) (a := 1) [.int (xs (6 * t + 1))] (hc_X12_safe 0) ⟨⟨_, rfl, rtop_in _, fun _ y => (nomatch y)⟩, rfl, trivial⟩ L1.1 (fun _ y => (nomatch y)) d_L_1833 (cV_X12_safe (0 + 8) 0 0) kc_12 (ws_1 L1.1.1) tw_2607 rfl ⟨⟨show 0 + 8 + 1 ≤ 2048 from by decide, show 8 + (2 + 11) + 100 * (0 + 8) ≤ 84000 from by decide⟩, rfl, rfl⟩ ⟨show kc ≤ 118216 by omega, show ks ≤ 8741458 by omega⟩ ⟨_, rfl⟩ d_L_1836 (fun h2 I2 F2 => ?_)
  have L2 := L1.fr I2 F2 (by decide +kernel)
  refine aw_goto (tgt := 2406) d_L_1837 rfl ?_
  exact O _ _ _ _ L2 R.up
theorem lc_41 {L t N kc ks : Nat} {xs : Nat → Int32} {h : Hp_} (hL : 6 * t + 6 ≤ L) (lL : L ≤ 3072) (L0 : Li N h) (R : Rm t N kc ks) (O : ∀ N kc ks h, Li N h → Rm (t + 1) N kc ks → AW (ML L xs) kc ks 2406 (lv5 (6 * t)) [] h k1_) : AW (ML L xs) kc ks 1840 (lv5 (6 * t)) [] h k1_ := by
  have hk := R.ok (by omega)
  refine aw_aload_n (i := 1) rfl d_L_1840 1 rfl ?_
  refine aw_arg (j := 1) d_L_1841 d_L_1842 d_L_1844 d_L_1845 d_L_1846 ic_1 (oa_1 (by omega)) (by omega) lL ?_
  refine aw_arg (j := 2) d_L_1847 d_L_1848 d_L_1850 d_L_1851 d_L_1852 ic_2 (oa_2 (by omega)) (by omega) lL ?_
  refine aw_Kp (M' := m_X11_share (0 + 9) 0 0) (a := 0) [.int (xs (6 * t + 1)), .int (xs (6 * t + 2))] (hc_X11_share 0) ⟨⟨_, rfl, rtop_in _, fun _ y => (nomatch y)⟩, ⟨_, rfl, rtop_in _, fun _ y => (nomatch y)⟩, rfl, trivial⟩ L0.1 (fun _ y => (nomatch y)) d_L_1853 (cV_X11_share (0 + 9) 0 0) kc_11 (ws_0 L0.1.1) tw_1470 rfl ⟨⟨show 0 + 9 + 1 ≤ 2048 from by decide, show 8 + (3 + 11) + 100 * (0 + 9) ≤ 84000 from by decide⟩, rfl, rfl⟩ ⟨show kc ≤ 118216 by omega, show ks ≤ 8741458 by omega⟩ ⟨_, rfl⟩ d_L_1856 (fun h1 I1 F1 => ?_)
  have L1 := L0.fr I1 F1 (by decide +kernel)
  refine aw_aload_n (i := 2) rfl d_L_1857 2 rfl ?_
  refine aw_arg (j := 1) d_L_1858 d_L_1859 d_L_1861 d_L_1862 d_L_1863 ic_1 (oa_1 (by omega)) (by omega) lL ?_
  refine aw_arg (j := 2) d_L_1864 d_L_1865 d_L_1867 d_L_1868 d_L_1869 ic_2 (oa_2 (by omega)) (by omega) lL ?_
  refine aw_Kp (M' := m_X12_share (0 + 8) 0 0) (a := 1) [.int (xs (6 * t + 1)), .int (xs (6 * t + 2))] (hc_X12_share 0) ⟨⟨_, rfl, rtop_in _, fun _ y => (nomatch y)⟩, ⟨_, rfl, rtop_in _, fun _ y => (nomatch y)⟩, rfl, trivial⟩ L1.1 (fun _ y => (nomatch y)) d_L_1870 (cV_X12_share (0 + 8) 0 0) kc_12 (ws_1 L1.1.1) tw_2623 rfl ⟨⟨show 0 + 8 + 1 ≤ 2048 from by decide, show 8 + (4 + 11) + 100 * (0 + 8) ≤ 84000 from by decide⟩, rfl, rfl⟩ ⟨show kc ≤ 118216 by omega, show ks ≤ 8741458 by omega⟩ ⟨_, rfl⟩ d_L_1873 (fun h2 I2 F2 => ?_)
  have L2 := L1.fr I2 F2 (by decide +kernel)
  refine aw_goto (tgt := 2406) d_L_1874 rfl ?_
  exact O _ _ _ _ L2 R.up
theorem lc_42 {L t N kc ks : Nat} {xs : Nat → Int32} {h : Hp_} (hL : 6 * t + 6 ≤ L) (lL : L ≤ 3072) (L0 : Li N h) (R : Rm t N kc ks) (O : ∀ N kc ks h, Li N h → Rm (t + 1) N kc ks → AW (ML L xs) kc ks 2406 (lv5 (6 * t)) [] h k1_) : AW (ML L xs) kc ks 1877 (lv5 (6 * t)) [] h k1_ := by
  have hk := R.ok (by omega)
  refine aw_aload_n (i := 1) rfl d_L_1877 1 rfl ?_
  refine aw_arg (j := 1) d_L_1878 d_L_1879 d_L_1881 d_L_1882 d_L_1883 ic_1 (oa_1 (by omega)) (by omega) lL ?_
  refine aw_arg (j := 2) d_L_1884 d_L_1885 d_L_1887 d_L_1888 d_L_1889 ic_2 (oa_2 (by omega)) (by omega) lL ?_
  refine aw_arg (j := 3) d_L_1890 d_L_1891 d_L_1893 d_L_1894 d_L_1895 ic_3 (oa_3 (by omega)) (by omega) lL ?_
  refine aw_Kp (M' := m_X11_fair (0 + 1) 0 0) (a := 0) [.int (xs (6 * t + 1)), .int (xs (6 * t + 2)), .int (xs (6 * t + 3))] (hc_X11_fair 0) ⟨⟨_, rfl, rtop_in _, fun _ y => (nomatch y)⟩, ⟨_, rfl, rtop_in _, fun _ y => (nomatch y)⟩, ⟨_, rfl, rtop_in _, fun _ y => (nomatch y)⟩, rfl, trivial⟩ L0.1 (fun _ y => (nomatch y)) d_L_1896 (cV_X11_fair (0 + 1) 0 0) kc_11 (ws_0 L0.1.1) tw_1480 rfl ⟨⟨show 0 + 1 + 1 ≤ 2048 from by decide, show 8 + (4 + 11) + 100 * (0 + 1) ≤ 84000 from by decide⟩, rfl, rfl⟩ ⟨show kc ≤ 118216 by omega, show ks ≤ 8741458 by omega⟩ ⟨_, rfl⟩ d_L_1899 (fun h1 I1 F1 => ?_)
  have L1 := L0.fr I1 F1 (by decide +kernel)
  refine aw_aload_n (i := 2) rfl d_L_1900 2 rfl ?_
  refine aw_arg (j := 1) d_L_1901 d_L_1902 d_L_1904 d_L_1905 d_L_1906 ic_1 (oa_1 (by omega)) (by omega) lL ?_
  refine aw_arg (j := 2) d_L_1907 d_L_1908 d_L_1910 d_L_1911 d_L_1912 ic_2 (oa_2 (by omega)) (by omega) lL ?_
  refine aw_arg (j := 3) d_L_1913 d_L_1914 d_L_1916 d_L_1917 d_L_1918 ic_3 (oa_3 (by omega)) (by omega) lL ?_
  refine aw_Kp (M' := m_X12_fair (0 + 2) 0 0) (a := 1) [.int (xs (6 * t + 1)), .int (xs (6 * t + 2)), .int (xs (6 * t + 3))] (hc_X12_fair 0) ⟨⟨_, rfl, rtop_in _, fun _ y => (nomatch y)⟩, ⟨_, rfl, rtop_in _, fun _ y => (nomatch y)⟩, ⟨_, rfl, rtop_in _, fun _ y => (nomatch y)⟩, rfl, trivial⟩ L1.1 (fun _ y => (nomatch y)) d_L_1919 (cV_X12_fair (0 + 2) 0 0) kc_12 (ws_1 L1.1.1) tw_2627 rfl ⟨⟨show 0 + 2 + 1 ≤ 2048 from by decide, show 8 + (4 + 11) + 100 * (0 + 2) ≤ 84000 from by decide⟩, rfl, rfl⟩ ⟨show kc ≤ 118216 by omega, show ks ≤ 8741458 by omega⟩ ⟨_, rfl⟩ d_L_1922 (fun h2 I2 F2 => ?_)
  have L2 := L1.fr I2 F2 (by decide +kernel)
  refine aw_goto (tgt := 2406) d_L_1923 rfl ?_
  exact O _ _ _ _ L2 R.up
theorem lc_43 {L t N kc ks : Nat} {xs : Nat → Int32} {h : Hp_} (hL : 6 * t + 6 ≤ L) (lL : L ≤ 3072) (L0 : Li N h) (R : Rm t N kc ks) (O : ∀ N kc ks h, Li N h → Rm (t + 1) N kc ks → AW (ML L xs) kc ks 2406 (lv5 (6 * t)) [] h k1_) : AW (ML L xs) kc ks 1926 (lv5 (6 * t)) [] h k1_ := by
  have hk := R.ok (by omega)
  refine aw_aload_n (i := 1) rfl d_L_1926 1 rfl ?_
  refine aw_arg (j := 1) d_L_1927 d_L_1928 d_L_1930 d_L_1931 d_L_1932 ic_1 (oa_1 (by omega)) (by omega) lL ?_
  refine aw_Kp (M' := m_X11_lending (0 + 5) 0 0) (a := 0) [.int (xs (6 * t + 1))] (hc_X11_lending 0) ⟨⟨_, rfl, rtop_in _, fun _ y => (nomatch y)⟩, rfl, trivial⟩ L0.1 (fun _ y => (nomatch y)) d_L_1933 (cV_X11_lending (0 + 5) 0 0) kc_11 (ws_0 L0.1.1) tw_1488 rfl ⟨⟨show 0 + 5 + 1 ≤ 2048 from by decide, show 8 + (2 + 11) + 100 * (0 + 5) ≤ 84000 from by decide⟩, rfl, rfl⟩ ⟨show kc ≤ 118216 by omega, show ks ≤ 8741458 by omega⟩ ⟨_, rfl⟩ d_L_1936 (fun h1 I1 F1 => ?_)
  have L1 := L0.fr I1 F1 (by decide +kernel)
  refine aw_aload_n (i := 2) rfl d_L_1937 2 rfl ?_
  refine aw_arg (j := 1) d_L_1938 d_L_1939 d_L_1941 d_L_1942 d_L_1943 ic_1 (oa_1 (by omega)) (by omega) lL ?_
  refine aw_Kp (M' := m_X12_lending (0 + 3) 0 0) (a := 1) [.int (xs (6 * t + 1))] (hc_X12_lending 0) ⟨⟨_, rfl, rtop_in _, fun _ y => (nomatch y)⟩, rfl, trivial⟩ L1.1 (fun _ y => (nomatch y)) d_L_1944 (cV_X12_lending (0 + 3) 0 0) kc_12 (ws_1 L1.1.1) tw_2635 rfl ⟨⟨show 0 + 3 + 1 ≤ 2048 from by decide, show 8 + (3 + 11) + 100 * (0 + 3) ≤ 84000 from by decide⟩, rfl, rfl⟩ ⟨show kc ≤ 118216 by omega, show ks ≤ 8741458 by omega⟩ ⟨_, rfl⟩ d_L_1947 (fun h2 I2 F2 => ?_)
  have L2 := L1.fr I2 F2 (by decide +kernel)
  refine aw_goto (tgt := 2406) d_L_1948 rfl ?_
  exact O _ _ _ _ L2 R.up
theorem lc_44 {L t N kc ks : Nat} {xs : Nat → Int32} {h : Hp_} (hL : 6 * t + 6 ≤ L) (lL : L ≤ 3072) (L0 : Li N h) (R : Rm t N kc ks) (O : ∀ N kc ks h, Li N h → Rm (t + 1) N kc ks → AW (ML L xs) kc ks 2406 (lv5 (6 * t)) [] h k1_) : AW (ML L xs) kc ks 1951 (lv5 (6 * t)) [] h k1_ := by
  have hk := R.ok (by omega)
  refine aw_aload_n (i := 1) rfl d_L_1951 1 rfl ?_
  refine aw_arg (j := 1) d_L_1952 d_L_1953 d_L_1955 d_L_1956 d_L_1957 ic_1 (oa_1 (by omega)) (by omega) lL ?_
  refine aw_Kp (M' := m_X11_lent (0 + 5) 0 0) (a := 0) [.int (xs (6 * t + 1))] (hc_X11_lent 0) ⟨⟨_, rfl, rtop_in _, fun _ y => (nomatch y)⟩, rfl, trivial⟩ L0.1 (fun _ y => (nomatch y)) d_L_1958 (cV_X11_lent (0 + 5) 0 0) kc_11 (ws_0 L0.1.1) tw_1545 rfl ⟨⟨show 0 + 5 + 1 ≤ 2048 from by decide, show 8 + (2 + 11) + 100 * (0 + 5) ≤ 84000 from by decide⟩, rfl, rfl⟩ ⟨show kc ≤ 118216 by omega, show ks ≤ 8741458 by omega⟩ ⟨_, rfl⟩ d_L_1961 (fun h1 I1 F1 => ?_)
  have L1 := L0.fr I1 F1 (by decide +kernel)
  refine aw_aload_n (i := 2) rfl d_L_1962 2 rfl ?_
  refine aw_arg (j := 1) d_L_1963 d_L_1964 d_L_1966 d_L_1967 d_L_1968 ic_1 (oa_1 (by omega)) (by omega) lL ?_
  refine aw_Kp (M' := m_X12_lent (0 + 3) 0 0) (a := 1) [.int (xs (6 * t + 1))] (hc_X12_lent 0) ⟨⟨_, rfl, rtop_in _, fun _ y => (nomatch y)⟩, rfl, trivial⟩ L1.1 (fun _ y => (nomatch y)) d_L_1969 (cV_X12_lent (0 + 3) 0 0) kc_12 (ws_1 L1.1.1) tw_2656 rfl ⟨⟨show 0 + 3 + 1 ≤ 2048 from by decide, show 8 + (8 + 11) + 100 * (0 + 3) ≤ 84000 from by decide⟩, rfl, rfl⟩ ⟨show kc ≤ 118216 by omega, show ks ≤ 8741458 by omega⟩ ⟨_, rfl⟩ d_L_1972 (fun h2 I2 F2 => ?_)
  have L2 := L1.fr I2 F2 (by decide +kernel)
  refine aw_goto (tgt := 2406) d_L_1973 rfl ?_
  exact O _ _ _ _ L2 R.up
theorem lc_45 {L t N kc ks : Nat} {xs : Nat → Int32} {h : Hp_} (hL : 6 * t + 6 ≤ L) (lL : L ≤ 3072) (L0 : Li N h) (R : Rm t N kc ks) (O : ∀ N kc ks h, Li N h → Rm (t + 1) N kc ks → AW (ML L xs) kc ks 2406 (lv5 (6 * t)) [] h k1_) : AW (ML L xs) kc ks 1976 (lv5 (6 * t)) [] h k1_ := by
  have hk := R.ok (by omega)
  refine aw_aload_n (i := 1) rfl d_L_1976 1 rfl ?_
  refine aw_Kv (M' := m_X11_fairs (0 + 1) 0 0) (a := 0) [] (hc_X11_fairs 0) ⟨rfl, trivial⟩ L0.1 (fun _ y => (nomatch y)) d_L_1977 (cV_X11_fairs (0 + 1) 0 0) kc_11 (ws_0 L0.1.1) tw_1553 rfl ⟨⟨show 0 + 1 + 1 ≤ 2048 from by decide, show 8 + (1 + 11) + 100 * (0 + 1) ≤ 84000 from by decide⟩, rfl, rfl⟩ ⟨show kc ≤ 118216 by omega, show ks ≤ 8741458 by omega⟩ rfl (fun h1 I1 F1 => ?_)
  have L1 := L0.fr I1 F1 (by decide +kernel)
  refine aw_aload_n (i := 2) rfl d_L_1980 2 rfl ?_
  refine aw_Kv (M' := m_X12_fairs (0 + 0) 0 0) (a := 1) [] (hc_X12_fairs 0) ⟨rfl, trivial⟩ L1.1 (fun _ y => (nomatch y)) d_L_1981 (cV_X12_fairs (0 + 0) 0 0) kc_12 (ws_1 L1.1.1) tw_2631 rfl ⟨⟨show 0 + 0 + 1 ≤ 2048 from by decide, show 8 + (1 + 11) + 100 * (0 + 0) ≤ 84000 from by decide⟩, rfl, rfl⟩ ⟨show kc ≤ 118216 by omega, show ks ≤ 8741458 by omega⟩ rfl (fun h2 I2 F2 => ?_)
  have L2 := L1.fr I2 F2 (by decide +kernel)
  refine aw_goto (tgt := 2406) d_L_1984 rfl ?_
  exact O _ _ _ _ L2 R.up
theorem lc_46 {L t N kc ks : Nat} {xs : Nat → Int32} {h : Hp_} (hL : 6 * t + 6 ≤ L) (lL : L ≤ 3072) (L0 : Li N h) (R : Rm t N kc ks) (O : ∀ N kc ks h, Li N h → Rm (t + 1) N kc ks → AW (ML L xs) kc ks 2406 (lv5 (6 * t)) [] h k1_) : AW (ML L xs) kc ks 1987 (lv5 (6 * t)) [] h k1_ := by
  have hk := R.ok (by omega)
  refine aw_aload_n (i := 1) rfl d_L_1987 1 rfl ?_
  refine aw_arg (j := 1) d_L_1988 d_L_1989 d_L_1991 d_L_1992 d_L_1993 ic_1 (oa_1 (by omega)) (by omega) lL ?_
  refine aw_Vi 0 [.int (xs (6 * t + 1))] [] d_L_1994 (cV_X11_pay (0 + 141) 0 0) kc_11 (ws_0 L0.1.1) tw_1561 rfl ⟨⟨show 0 + 141 + 1 ≤ 2048 from by decide, show 8 + (2 + 11) + 100 * (0 + 141) ≤ 84000 from by decide⟩, show kc + 0 ≤ 118216 by omega, show ks + 0 ≤ 8741458 by omega⟩ (Nat.le_of_ble_eq_true rfl) xsL (c_paX 0 L0.1 _) (fun r1 h1 k1 => ?_)
  refine aw_pop d_L_1997 rfl ?_
  refine aw_aload_n (i := 2) rfl d_L_1998 2 rfl ?_
  refine aw_arg (j := 1) d_L_1999 d_L_2000 d_L_2002 d_L_2003 d_L_2004 ic_1 (oa_1 (by omega)) (by omega) lL ?_
  refine aw_Vi 1 [.int (xs (6 * t + 1))] [] d_L_2005 (cV_X12_pay (0 + 80 + 61) 0 0) kc_12 (ws_1 k1.1.1) tw_2300 rfl ⟨⟨show 0 + 80 + 61 + 1 ≤ 2048 from by decide, show 8 + (2 + 11) + 100 * (0 + 80 + 61) ≤ 84000 from by decide⟩, show kc + 0 ≤ 118216 by omega, show ks + 0 ≤ 8741458 by omega⟩ (Nat.le_of_ble_eq_true rfl) xsL (c_paM 0 k1.1 (L0.t.q k1.2.1 (by decide +kernel)) _) (fun r2 h2 k2 => ?_)
  refine aw_pop d_L_2008 rfl ?_
  have L2 := (L0.pa k1 k2).1
  refine aw_goto (tgt := 2406) d_L_2009 rfl ?_
  exact O _ _ _ _ L2 R.up
theorem lc_47 {L t N kc ks : Nat} {xs : Nat → Int32} {h : Hp_} (hL : 6 * t + 6 ≤ L) (lL : L ≤ 3072) (L0 : Li N h) (R : Rm t N kc ks) (O : ∀ N kc ks h, Li N h → Rm (t + 1) N kc ks → AW (ML L xs) kc ks 2406 (lv5 (6 * t)) [] h k1_) : AW (ML L xs) kc ks 2012 (lv5 (6 * t)) [] h k1_ := by
  have hk := R.ok (by omega)
  refine aw_aload_n (i := 1) rfl d_L_2012 1 rfl ?_
  refine aw_arg (j := 1) d_L_2013 d_L_2014 d_L_2016 d_L_2017 d_L_2018 ic_1 (oa_1 (by omega)) (by omega) lL ?_
  refine aw_arg (j := 2) d_L_2019 d_L_2020 d_L_2022 d_L_2023 d_L_2024 ic_2 (oa_2 (by omega)) (by omega) lL ?_
  refine aw_arg (j := 3) d_L_2025 d_L_2026 d_L_2028 d_L_2029 d_L_2030 ic_3 (oa_3 (by omega)) (by omega) lL ?_
  refine aw_Vi 0 [.int (xs (6 * t + 1)), .int (xs (6 * t + 2)), .int (xs (6 * t + 3))] [] d_L_2031 (cV_X11_rank (0 + 3) 0 0) kc_11 (ws_0 L0.1.1) tw_1565 rfl ⟨⟨show 0 + 3 + 1 ≤ 2048 from by decide, show 8 + (4 + 11) + 100 * (0 + 3) ≤ 84000 from by decide⟩, show kc + 0 ≤ 118216 by omega, show ks + 0 ≤ 8741458 by omega⟩ (Nat.le_of_ble_eq_true rfl) xsL (c_rnX 0 L0.1 L0.t.2.2.2.2.2.1 _ _ _) (fun r1 h1 k1 => ?_)
  refine aw_pop d_L_2034 rfl ?_
  refine aw_aload_n (i := 2) rfl d_L_2035 2 rfl ?_
  refine aw_arg (j := 1) d_L_2036 d_L_2037 d_L_2039 d_L_2040 d_L_2041 ic_1 (oa_1 (by omega)) (by omega) lL ?_
  refine aw_arg (j := 2) d_L_2042 d_L_2043 d_L_2045 d_L_2046 d_L_2047 ic_2 (oa_2 (by omega)) (by omega) lL ?_
  refine aw_arg (j := 3) d_L_2048 d_L_2049 d_L_2051 d_L_2052 d_L_2053 ic_3 (oa_3 (by omega)) (by omega) lL ?_
  refine aw_Vi 1 [.int (xs (6 * t + 1)), .int (xs (6 * t + 2)), .int (xs (6 * t + 3))] [] d_L_2054 (cV_X12_rank (0 + 2) 0 0) kc_12 (ws_1 k1.1.1) tw_2159 rfl ⟨⟨show 0 + 2 + 1 ≤ 2048 from by decide, show 8 + (4 + 11) + 100 * (0 + 2) ≤ 84000 from by decide⟩, show kc + 0 ≤ 118216 by omega, show ks + 0 ≤ 8741458 by omega⟩ (Nat.le_of_ble_eq_true rfl) xsL (c_rnM 0 k1.1 _ _ _) (fun r2 h2 k2 => ?_)
  refine aw_pop d_L_2057 rfl ?_
  have L2 := (L0.rn k1 k2).1
  refine aw_goto (tgt := 2406) d_L_2058 rfl ?_
  exact O _ _ _ _ L2 R.up
theorem lc_48 {L t N kc ks : Nat} {xs : Nat → Int32} {h : Hp_} (hL : 6 * t + 6 ≤ L) (lL : L ≤ 3072) (L0 : Li N h) (R : Rm t N kc ks) (O : ∀ N kc ks h, Li N h → Rm (t + 1) N kc ks → AW (ML L xs) kc ks 2406 (lv5 (6 * t)) [] h k1_) : AW (ML L xs) kc ks 2061 (lv5 (6 * t)) [] h k1_ := by
  have hk := R.ok (by omega)
  refine aw_aload_n (i := 1) rfl d_L_2061 1 rfl ?_
  refine aw_arg (j := 1) d_L_2062 d_L_2063 d_L_2065 d_L_2066 d_L_2067 ic_1 (oa_1 (by omega)) (by omega) lL ?_
  refine aw_arg (j := 2) d_L_2068 d_L_2069 d_L_2071 d_L_2072 d_L_2073 ic_2 (oa_2 (by omega)) (by omega) lL ?_
  refine aw_arg (j := 3) d_L_2074 d_L_2075 d_L_2077 d_L_2078 d_L_2079 ic_3 (oa_3 (by omega)) (by omega) lL ?_
  refine aw_Kp (M' := m_X11_ranked (0 + 2) 0 0) (a := 0) [.int (xs (6 * t + 1)), .int (xs (6 * t + 2)), .int (xs (6 * t + 3))] (hc_X11_ranked 0) ⟨⟨_, rfl, rtop_in _, fun _ y => (nomatch y)⟩, ⟨_, rfl, rtop_in _, fun _ y => (nomatch y)⟩, ⟨_, rfl, rtop_in _, fun _ y => (nomatch y)⟩, rfl, trivial⟩ L0.1 (fun _ y => (nomatch y)) d_L_2080 (cV_X11_ranked (0 + 2) 0 0) kc_11 (ws_0 L0.1.1) tw_1573 rfl ⟨⟨show 0 + 2 + 1 ≤ 2048 from by decide, show 8 + (5 + 11) + 100 * (0 + 2) ≤ 84000 from by decide⟩, rfl, rfl⟩ ⟨show kc ≤ 118216 by omega, show ks ≤ 8741458 by omega⟩ ⟨_, rfl⟩ d_L_2083 (fun h1 I1 F1 => ?_)
  have L1 := L0.fr I1 F1 (by decide +kernel)
  refine aw_aload_n (i := 2) rfl d_L_2084 2 rfl ?_
  refine aw_arg (j := 1) d_L_2085 d_L_2086 d_L_2088 d_L_2089 d_L_2090 ic_1 (oa_1 (by omega)) (by omega) lL ?_
  refine aw_arg (j := 2) d_L_2091 d_L_2092 d_L_2094 d_L_2095 d_L_2096 ic_2 (oa_2 (by omega)) (by omega) lL ?_
  refine aw_arg (j := 3) d_L_2097 d_L_2098 d_L_2100 d_L_2101 d_L_2102 ic_3 (oa_3 (by omega)) (by omega) lL ?_
  refine aw_Kp (M' := m_X12_ranked (0 + 2) 0 0) (a := 1) [.int (xs (6 * t + 1)), .int (xs (6 * t + 2)), .int (xs (6 * t + 3))] (hc_X12_ranked 0) ⟨⟨_, rfl, rtop_in _, fun _ y => (nomatch y)⟩, ⟨_, rfl, rtop_in _, fun _ y => (nomatch y)⟩, ⟨_, rfl, rtop_in _, fun _ y => (nomatch y)⟩, rfl, trivial⟩ L1.1 (fun _ y => (nomatch y)) d_L_2103 (cV_X12_ranked (0 + 2) 0 0) kc_12 (ws_1 L1.1.1) tw_2167 rfl ⟨⟨show 0 + 2 + 1 ≤ 2048 from by decide, show 8 + (4 + 11) + 100 * (0 + 2) ≤ 84000 from by decide⟩, rfl, rfl⟩ ⟨show kc ≤ 118216 by omega, show ks ≤ 8741458 by omega⟩ ⟨_, rfl⟩ d_L_2106 (fun h2 I2 F2 => ?_)
  have L2 := L1.fr I2 F2 (by decide +kernel)
  refine aw_goto (tgt := 2406) d_L_2107 rfl ?_
  exact O _ _ _ _ L2 R.up
theorem lc_49 {L t N kc ks : Nat} {xs : Nat → Int32} {h : Hp_} (hL : 6 * t + 6 ≤ L) (lL : L ≤ 3072) (L0 : Li N h) (R : Rm t N kc ks) (O : ∀ N kc ks h, Li N h → Rm (t + 1) N kc ks → AW (ML L xs) kc ks 2406 (lv5 (6 * t)) [] h k1_) : AW (ML L xs) kc ks 2110 (lv5 (6 * t)) [] h k1_ := by
  have hk := R.ok (by omega)
  refine aw_aload_n (i := 1) rfl d_L_2110 1 rfl ?_
  refine aw_arg (j := 1) d_L_2111 d_L_2112 d_L_2114 d_L_2115 d_L_2116 ic_1 (oa_1 (by omega)) (by omega) lL ?_
  refine aw_arg (j := 2) d_L_2117 d_L_2118 d_L_2120 d_L_2121 d_L_2122 ic_2 (oa_2 (by omega)) (by omega) lL ?_
  refine aw_arg (j := 3) d_L_2123 d_L_2124 d_L_2126 d_L_2127 d_L_2128 ic_3 (oa_3 (by omega)) (by omega) lL ?_
  refine aw_Kp (M' := m_X11_paid (0 + 6) 0 0) (a := 0) [.int (xs (6 * t + 1)), .int (xs (6 * t + 2)), .int (xs (6 * t + 3))] (hc_X11_paid 0) ⟨⟨_, rfl, rtop_in _, fun _ y => (nomatch y)⟩, ⟨_, rfl, rtop_in _, fun _ y => (nomatch y)⟩, ⟨_, rfl, rtop_in _, fun _ y => (nomatch y)⟩, rfl, trivial⟩ L0.1 (fun _ y => (nomatch y)) d_L_2129 (cV_X11_paid (0 + 6) 0 0) kc_11 (ws_0 L0.1.1) tw_1577 rfl ⟨⟨show 0 + 6 + 1 ≤ 2048 from by decide, show 8 + (5 + 11) + 100 * (0 + 6) ≤ 84000 from by decide⟩, rfl, rfl⟩ ⟨show kc ≤ 118216 by omega, show ks ≤ 8741458 by omega⟩ ⟨_, rfl⟩ d_L_2132 (fun h1 I1 F1 => ?_)
  have L1 := L0.fr I1 F1 (by decide +kernel)
  refine aw_aload_n (i := 2) rfl d_L_2133 2 rfl ?_
  refine aw_arg (j := 1) d_L_2134 d_L_2135 d_L_2137 d_L_2138 d_L_2139 ic_1 (oa_1 (by omega)) (by omega) lL ?_
  refine aw_arg (j := 2) d_L_2140 d_L_2141 d_L_2143 d_L_2144 d_L_2145 ic_2 (oa_2 (by omega)) (by omega) lL ?_
  refine aw_arg (j := 3) d_L_2146 d_L_2147 d_L_2149 d_L_2150 d_L_2151 ic_3 (oa_3 (by omega)) (by omega) lL ?_
  refine aw_Kp (M' := m_X12_paid (0 + 7) 0 0) (a := 1) [.int (xs (6 * t + 1)), .int (xs (6 * t + 2)), .int (xs (6 * t + 3))] (hc_X12_paid 0) ⟨⟨_, rfl, rtop_in _, fun _ y => (nomatch y)⟩, ⟨_, rfl, rtop_in _, fun _ y => (nomatch y)⟩, ⟨_, rfl, rtop_in _, fun _ y => (nomatch y)⟩, rfl, trivial⟩ L1.1 (fun _ y => (nomatch y)) d_L_2152 (cV_X12_paid (0 + 7) 0 0) kc_12 (ws_1 L1.1.1) tw_2660 rfl ⟨⟨show 0 + 7 + 1 ≤ 2048 from by decide, show 8 + (4 + 11) + 100 * (0 + 7) ≤ 84000 from by decide⟩, rfl, rfl⟩ ⟨show kc ≤ 118216 by omega, show ks ≤ 8741458 by omega⟩ ⟨_, rfl⟩ d_L_2155 (fun h2 I2 F2 => ?_)
  have L2 := L1.fr I2 F2 (by decide +kernel)
  refine aw_goto (tgt := 2406) d_L_2156 rfl ?_
  exact O _ _ _ _ L2 R.up
theorem lc_50 {L t N kc ks : Nat} {xs : Nat → Int32} {h : Hp_} (hL : 6 * t + 6 ≤ L) (lL : L ≤ 3072) (L0 : Li N h) (R : Rm t N kc ks) (O : ∀ N kc ks h, Li N h → Rm (t + 1) N kc ks → AW (ML L xs) kc ks 2406 (lv5 (6 * t)) [] h k1_) : AW (ML L xs) kc ks 2159 (lv5 (6 * t)) [] h k1_ := by
  have hk := R.ok (by omega)
  refine aw_aload_n (i := 1) rfl d_L_2159 1 rfl ?_
  refine aw_Kp (M' := m_X11_book (0 + 6) 0 0) (a := 0) [] (hc_X11_book 0) ⟨rfl, trivial⟩ L0.1 (fun _ y => (nomatch y)) d_L_2160 (cV_X11_book (0 + 6) 0 0) kc_11 (ws_0 L0.1.1) tw_1602 rfl ⟨⟨show 0 + 6 + 1 ≤ 2048 from by decide, show 8 + (4 + 11) + 100 * (0 + 6) ≤ 84000 from by decide⟩, rfl, rfl⟩ ⟨show kc ≤ 118216 by omega, show ks ≤ 8741458 by omega⟩ ⟨_, rfl⟩ d_L_2163 (fun h1 I1 F1 => ?_)
  have L1 := L0.fr I1 F1 (by decide +kernel)
  refine aw_aload_n (i := 2) rfl d_L_2164 2 rfl ?_
  refine aw_Vi 1 [] [] d_L_2165 (cV_X12_book (0 + 8) 0 0) kc_12 (ws_1 L1.1.1) tw_2668 rfl ⟨⟨show 0 + 8 + 1 ≤ 2048 from by decide, show 8 + (5 + 11) + 100 * (0 + 8) ≤ 84000 from by decide⟩, show kc + 0 ≤ 118216 by omega, show ks + 0 ≤ 8741458 by omega⟩ (Nat.le_of_ble_eq_true rfl) xsL (c_book 0 L1.1) (fun r2 h2 k2 => ?_)
  refine aw_pop d_L_2168 rfl ?_
  have L2 := L1.fr k2.1 k2.2 (by decide +kernel)
  refine aw_goto (tgt := 2406) d_L_2169 rfl ?_
  exact O _ _ _ _ L2 R.up
theorem lc_51 {L t N kc ks : Nat} {xs : Nat → Int32} {h : Hp_} (hL : 6 * t + 6 ≤ L) (lL : L ≤ 3072) (L0 : Li N h) (R : Rm t N kc ks) (O : ∀ N kc ks h, Li N h → Rm (t + 1) N kc ks → AW (ML L xs) kc ks 2406 (lv5 (6 * t)) [] h k1_) : AW (ML L xs) kc ks 2172 (lv5 (6 * t)) [] h k1_ := by
  have hk := R.ok (by omega)
  refine aw_aload_n (i := 1) rfl d_L_2172 1 rfl ?_
  refine aw_arg (j := 1) d_L_2173 d_L_2174 d_L_2176 d_L_2177 d_L_2178 ic_1 (oa_1 (by omega)) (by omega) lL ?_
  refine aw_arg (j := 2) d_L_2179 d_L_2180 d_L_2182 d_L_2183 d_L_2184 ic_2 (oa_2 (by omega)) (by omega) lL ?_
  refine aw_Kp (M' := m_X11_line (0 + 2) 0 0) (a := 0) [.int (xs (6 * t + 1)), .int (xs (6 * t + 2))] (hc_X11_line 0) ⟨⟨_, rfl, rtop_in _, fun _ y => (nomatch y)⟩, ⟨_, rfl, rtop_in _, fun _ y => (nomatch y)⟩, rfl, trivial⟩ L0.1 (fun _ y => (nomatch y)) d_L_2185 (cV_X11_line (0 + 2) 0 0) kc_11 (ws_0 L0.1.1) tw_1619 rfl ⟨⟨show 0 + 2 + 1 ≤ 2048 from by decide, show 8 + (3 + 11) + 100 * (0 + 2) ≤ 84000 from by decide⟩, rfl, rfl⟩ ⟨show kc ≤ 118216 by omega, show ks ≤ 8741458 by omega⟩ ⟨_, rfl⟩ d_L_2188 (fun h1 I1 F1 => ?_)
  have L1 := L0.fr I1 F1 (by decide +kernel)
  refine aw_aload_n (i := 2) rfl d_L_2189 2 rfl ?_
  refine aw_arg (j := 1) d_L_2190 d_L_2191 d_L_2193 d_L_2194 d_L_2195 ic_1 (oa_1 (by omega)) (by omega) lL ?_
  refine aw_arg (j := 2) d_L_2196 d_L_2197 d_L_2199 d_L_2200 d_L_2201 ic_2 (oa_2 (by omega)) (by omega) lL ?_
  refine aw_Kp (M' := m_X12_line (0 + 1) 0 0) (a := 1) [.int (xs (6 * t + 1)), .int (xs (6 * t + 2))] (hc_X12_line 0) ⟨⟨_, rfl, rtop_in _, fun _ y => (nomatch y)⟩, ⟨_, rfl, rtop_in _, fun _ y => (nomatch y)⟩, rfl, trivial⟩ L1.1 (fun _ y => (nomatch y)) d_L_2202 (cV_X12_line (0 + 1) 0 0) kc_12 (ws_1 L1.1.1) tw_2672 rfl ⟨⟨show 0 + 1 + 1 ≤ 2048 from by decide, show 8 + (3 + 11) + 100 * (0 + 1) ≤ 84000 from by decide⟩, rfl, rfl⟩ ⟨show kc ≤ 118216 by omega, show ks ≤ 8741458 by omega⟩ ⟨_, rfl⟩ d_L_2205 (fun h2 I2 F2 => ?_)
  have L2 := L1.fr I2 F2 (by decide +kernel)
  refine aw_goto (tgt := 2406) d_L_2206 rfl ?_
  exact O _ _ _ _ L2 R.up
theorem lc_52 {L t N kc ks : Nat} {xs : Nat → Int32} {h : Hp_} (hL : 6 * t + 6 ≤ L) (lL : L ≤ 3072) (L0 : Li N h) (R : Rm t N kc ks) (O : ∀ N kc ks h, Li N h → Rm (t + 1) N kc ks → AW (ML L xs) kc ks 2406 (lv5 (6 * t)) [] h k1_) : AW (ML L xs) kc ks 2209 (lv5 (6 * t)) [] h k1_ := by
  have hk := R.ok (by omega)
  refine aw_aload_n (i := 1) rfl d_L_2209 1 rfl ?_
  refine aw_arg (j := 1) d_L_2210 d_L_2211 d_L_2213 d_L_2214 d_L_2215 ic_1 (oa_1 (by omega)) (by omega) lL ?_
  refine aw_arg (j := 2) d_L_2216 d_L_2217 d_L_2219 d_L_2220 d_L_2221 ic_2 (oa_2 (by omega)) (by omega) lL ?_
  refine aw_arg (j := 3) d_L_2222 d_L_2223 d_L_2225 d_L_2226 d_L_2227 ic_3 (oa_3 (by omega)) (by omega) lL ?_
  refine aw_Kp (M' := m_X11_mark (0 + 3) 0 0) (a := 0) [.int (xs (6 * t + 1)), .int (xs (6 * t + 2)), .int (xs (6 * t + 3))] (hc_X11_mark 0) ⟨⟨_, rfl, rtop_in _, fun _ y => (nomatch y)⟩, ⟨_, rfl, rtop_in _, fun _ y => (nomatch y)⟩, ⟨_, rfl, rtop_in _, fun _ y => (nomatch y)⟩, rfl, trivial⟩ L0.1 (fun _ y => (nomatch y)) d_L_2228 (cV_X11_mark (0 + 3) 0 0) kc_11 (ws_0 L0.1.1) tw_1628 rfl ⟨⟨show 0 + 3 + 1 ≤ 2048 from by decide, show 8 + (4 + 11) + 100 * (0 + 3) ≤ 84000 from by decide⟩, rfl, rfl⟩ ⟨show kc ≤ 118216 by omega, show ks ≤ 8741458 by omega⟩ ⟨_, rfl⟩ d_L_2231 (fun h1 I1 F1 => ?_)
  have L1 := L0.fr I1 F1 (by decide +kernel)
  refine aw_aload_n (i := 2) rfl d_L_2232 2 rfl ?_
  refine aw_arg (j := 1) d_L_2233 d_L_2234 d_L_2236 d_L_2237 d_L_2238 ic_1 (oa_1 (by omega)) (by omega) lL ?_
  refine aw_arg (j := 2) d_L_2239 d_L_2240 d_L_2242 d_L_2243 d_L_2244 ic_2 (oa_2 (by omega)) (by omega) lL ?_
  refine aw_arg (j := 3) d_L_2245 d_L_2246 d_L_2248 d_L_2249 d_L_2250 ic_3 (oa_3 (by omega)) (by omega) lL ?_
  refine aw_Kp (M' := m_X12_mark (0 + 2) 0 0) (a := 1) [.int (xs (6 * t + 1)), .int (xs (6 * t + 2)), .int (xs (6 * t + 3))] (hc_X12_mark 0) ⟨⟨_, rfl, rtop_in _, fun _ y => (nomatch y)⟩, ⟨_, rfl, rtop_in _, fun _ y => (nomatch y)⟩, ⟨_, rfl, rtop_in _, fun _ y => (nomatch y)⟩, rfl, trivial⟩ L1.1 (fun _ y => (nomatch y)) d_L_2251 (cV_X12_mark (0 + 2) 0 0) kc_12 (ws_1 L1.1.1) tw_2677 rfl ⟨⟨show 0 + 2 + 1 ≤ 2048 from by decide, show 8 + (4 + 11) + 100 * (0 + 2) ≤ 84000 from by decide⟩, rfl, rfl⟩ ⟨show kc ≤ 118216 by omega, show ks ≤ 8741458 by omega⟩ ⟨_, rfl⟩ d_L_2254 (fun h2 I2 F2 => ?_)
  have L2 := L1.fr I2 F2 (by decide +kernel)
  refine aw_goto (tgt := 2406) d_L_2255 rfl ?_
  exact O _ _ _ _ L2 R.up
theorem lc_53 {L t N kc ks : Nat} {xs : Nat → Int32} {h : Hp_} (hL : 6 * t + 6 ≤ L) (lL : L ≤ 3072) (L0 : Li N h) (R : Rm t N kc ks) (O : ∀ N kc ks h, Li N h → Rm (t + 1) N kc ks → AW (ML L xs) kc ks 2406 (lv5 (6 * t)) [] h k1_) : AW (ML L xs) kc ks 2258 (lv5 (6 * t)) [] h k1_ := by
  have hk := R.ok (by omega)
  refine aw_aload_n (i := 1) rfl d_L_2258 1 rfl ?_
  refine aw_arg (j := 1) d_L_2259 d_L_2260 d_L_2262 d_L_2263 d_L_2264 ic_1 (oa_1 (by omega)) (by omega) lL ?_
  refine aw_Kp (M' := m_X11_size (0 + 1) 0 0) (a := 0) [.int (xs (6 * t + 1))] (hc_X11_size 0) ⟨⟨_, rfl, rtop_in _, fun _ y => (nomatch y)⟩, rfl, trivial⟩ L0.1 (fun _ y => (nomatch y)) d_L_2265 (cV_X11_size (0 + 1) 0 0) kc_11 (ws_0 L0.1.1) tw_1636 rfl ⟨⟨show 0 + 1 + 1 ≤ 2048 from by decide, show 8 + (2 + 11) + 100 * (0 + 1) ≤ 84000 from by decide⟩, rfl, rfl⟩ ⟨show kc ≤ 118216 by omega, show ks ≤ 8741458 by omega⟩ ⟨_, rfl⟩ d_L_2268 (fun h1 I1 F1 => ?_)
  have L1 := L0.fr I1 F1 (by decide +kernel)
  refine aw_aload_n (i := 2) rfl d_L_2269 2 rfl ?_
  refine aw_arg (j := 1) d_L_2270 d_L_2271 d_L_2273 d_L_2274 d_L_2275 ic_1 (oa_1 (by omega)) (by omega) lL ?_
  refine aw_Kp (M' := m_X12_size (0 + 1) 0 0) (a := 1) [.int (xs (6 * t + 1))] (hc_X12_size 0) ⟨⟨_, rfl, rtop_in _, fun _ y => (nomatch y)⟩, rfl, trivial⟩ L1.1 (fun _ y => (nomatch y)) d_L_2276 (cV_X12_size (0 + 1) 0 0) kc_12 (ws_1 L1.1.1) tw_2681 rfl ⟨⟨show 0 + 1 + 1 ≤ 2048 from by decide, show 8 + (2 + 11) + 100 * (0 + 1) ≤ 84000 from by decide⟩, rfl, rfl⟩ ⟨show kc ≤ 118216 by omega, show ks ≤ 8741458 by omega⟩ ⟨_, rfl⟩ d_L_2279 (fun h2 I2 F2 => ?_)
  have L2 := L1.fr I2 F2 (by decide +kernel)
  refine aw_goto (tgt := 2406) d_L_2280 rfl ?_
  exact O _ _ _ _ L2 R.up
theorem lc_54 {L t N kc ks : Nat} {xs : Nat → Int32} {h : Hp_} (hL : 6 * t + 6 ≤ L) (lL : L ≤ 3072) (L0 : Li N h) (R : Rm t N kc ks) (O : ∀ N kc ks h, Li N h → Rm (t + 1) N kc ks → AW (ML L xs) kc ks 2406 (lv5 (6 * t)) [] h k1_) : AW (ML L xs) kc ks 2283 (lv5 (6 * t)) [] h k1_ := by
  have hk := R.ok (by omega)
  refine aw_aload_n (i := 1) rfl d_L_2283 1 rfl ?_
  refine aw_arg (j := 1) d_L_2284 d_L_2285 d_L_2287 d_L_2288 d_L_2289 ic_1 (oa_1 (by omega)) (by omega) lL ?_
  refine aw_arg (j := 2) d_L_2290 d_L_2291 d_L_2293 d_L_2294 d_L_2295 ic_2 (oa_2 (by omega)) (by omega) lL ?_
  refine aw_Kp (M' := m_X11_habit (0 + 2) 0 0) (a := 0) [.int (xs (6 * t + 1)), .int (xs (6 * t + 2))] (hc_X11_habit 0) ⟨⟨_, rfl, rtop_in _, fun _ y => (nomatch y)⟩, ⟨_, rfl, rtop_in _, fun _ y => (nomatch y)⟩, rfl, trivial⟩ L0.1 (fun _ y => (nomatch y)) d_L_2296 (cV_X11_habit (0 + 2) 0 0) kc_11 (ws_0 L0.1.1) tw_1640 rfl ⟨⟨show 0 + 2 + 1 ≤ 2048 from by decide, show 8 + (3 + 11) + 100 * (0 + 2) ≤ 84000 from by decide⟩, rfl, rfl⟩ ⟨show kc ≤ 118216 by omega, show ks ≤ 8741458 by omega⟩ ⟨_, rfl⟩ d_L_2299 (fun h1 I1 F1 => ?_)
  have L1 := L0.fr I1 F1 (by decide +kernel)
  refine aw_aload_n (i := 2) rfl d_L_2300 2 rfl ?_
  refine aw_arg (j := 1) d_L_2301 d_L_2302 d_L_2304 d_L_2305 d_L_2306 ic_1 (oa_1 (by omega)) (by omega) lL ?_
  refine aw_arg (j := 2) d_L_2307 d_L_2308 d_L_2310 d_L_2311 d_L_2312 ic_2 (oa_2 (by omega)) (by omega) lL ?_
  refine aw_Kp (M' := m_X12_habit (0 + 1) 0 0) (a := 1) [.int (xs (6 * t + 1)), .int (xs (6 * t + 2))] (hc_X12_habit 0) ⟨⟨_, rfl, rtop_in _, fun _ y => (nomatch y)⟩, ⟨_, rfl, rtop_in _, fun _ y => (nomatch y)⟩, rfl, trivial⟩ L1.1 (fun _ y => (nomatch y)) d_L_2313 (cV_X12_habit (0 + 1) 0 0) kc_12 (ws_1 L1.1.1) tw_2685 rfl ⟨⟨show 0 + 1 + 1 ≤ 2048 from by decide, show 8 + (6 + 11) + 100 * (0 + 1) ≤ 84000 from by decide⟩, rfl, rfl⟩ ⟨show kc ≤ 118216 by omega, show ks ≤ 8741458 by omega⟩ ⟨_, rfl⟩ d_L_2316 (fun h2 I2 F2 => ?_)
  have L2 := L1.fr I2 F2 (by decide +kernel)
  refine aw_goto (tgt := 2406) d_L_2317 rfl ?_
  exact O _ _ _ _ L2 R.up
theorem lc_55 {L t N kc ks : Nat} {xs : Nat → Int32} {h : Hp_} (hL : 6 * t + 6 ≤ L) (lL : L ≤ 3072) (L0 : Li N h) (R : Rm t N kc ks) (O : ∀ N kc ks h, Li N h → Rm (t + 1) N kc ks → AW (ML L xs) kc ks 2406 (lv5 (6 * t)) [] h k1_) : AW (ML L xs) kc ks 2320 (lv5 (6 * t)) [] h k1_ := by
  have hk := R.ok (by omega)
  refine aw_aload_n (i := 1) rfl d_L_2320 1 rfl ?_
  refine aw_arg (j := 1) d_L_2321 d_L_2322 d_L_2324 d_L_2325 d_L_2326 ic_1 (oa_1 (by omega)) (by omega) lL ?_
  refine aw_arg (j := 2) d_L_2327 d_L_2328 d_L_2330 d_L_2331 d_L_2332 ic_2 (oa_2 (by omega)) (by omega) lL ?_
  refine aw_arg (j := 3) d_L_2333 d_L_2334 d_L_2336 d_L_2337 d_L_2338 ic_3 (oa_3 (by omega)) (by omega) lL ?_
  refine aw_arg (j := 4) d_L_2339 d_L_2340 d_L_2342 d_L_2343 d_L_2344 ic_4 (oa_4 (by omega)) (by omega) lL ?_
  refine aw_Kp (M' := m_X11_complain (0 + 3) 0 0) (a := 0) [.int (xs (6 * t + 1)), .int (xs (6 * t + 2)), .int (xs (6 * t + 3)), .int (xs (6 * t + 4))] (hc_X11_complain 0) ⟨⟨_, rfl, rtop_in _, fun _ y => (nomatch y)⟩, ⟨_, rfl, rtop_in _, fun _ y => (nomatch y)⟩, ⟨_, rfl, rtop_in _, fun _ y => (nomatch y)⟩, ⟨_, rfl, rtop_in _, fun _ y => (nomatch y)⟩, rfl, trivial⟩ L0.1 (fun _ y => (nomatch y)) d_L_2345 (cV_X11_complain (0 + 3) 0 0) kc_11 (ws_0 L0.1.1) tw_1649 rfl ⟨⟨show 0 + 3 + 1 ≤ 2048 from by decide, show 8 + (8 + 11) + 100 * (0 + 3) ≤ 84000 from by decide⟩, rfl, rfl⟩ ⟨show kc ≤ 118216 by omega, show ks ≤ 8741458 by omega⟩ ⟨_, rfl⟩ d_L_2348 (fun h1 I1 F1 => ?_)
  have L1 := L0.fr I1 F1 (by decide +kernel)
  refine aw_aload_n (i := 2) rfl d_L_2349 2 rfl ?_
  refine aw_arg (j := 1) d_L_2350 d_L_2351 d_L_2353 d_L_2354 d_L_2355 ic_1 (oa_1 (by omega)) (by omega) lL ?_
  refine aw_arg (j := 2) d_L_2356 d_L_2357 d_L_2359 d_L_2360 d_L_2361 ic_2 (oa_2 (by omega)) (by omega) lL ?_
  refine aw_arg (j := 3) d_L_2362 d_L_2363 d_L_2365 d_L_2366 d_L_2367 ic_3 (oa_3 (by omega)) (by omega) lL ?_
  refine aw_arg (j := 4) d_L_2368 d_L_2369 d_L_2371 d_L_2372 d_L_2373 ic_4 (oa_4 (by omega)) (by omega) lL ?_
  refine aw_Kp (M' := m_X12_complain (0 + 2) 0 0) (a := 1) [.int (xs (6 * t + 1)), .int (xs (6 * t + 2)), .int (xs (6 * t + 3)), .int (xs (6 * t + 4))] (hc_X12_complain 0) ⟨⟨_, rfl, rtop_in _, fun _ y => (nomatch y)⟩, ⟨_, rfl, rtop_in _, fun _ y => (nomatch y)⟩, ⟨_, rfl, rtop_in _, fun _ y => (nomatch y)⟩, ⟨_, rfl, rtop_in _, fun _ y => (nomatch y)⟩, rfl, trivial⟩ L1.1 (fun _ y => (nomatch y)) d_L_2374 (cV_X12_complain (0 + 2) 0 0) kc_12 (ws_1 L1.1.1) tw_2466 rfl ⟨⟨show 0 + 2 + 1 ≤ 2048 from by decide, show 8 + (7 + 11) + 100 * (0 + 2) ≤ 84000 from by decide⟩, rfl, rfl⟩ ⟨show kc ≤ 118216 by omega, show ks ≤ 8741458 by omega⟩ ⟨_, rfl⟩ d_L_2377 (fun h2 I2 F2 => ?_)
  have L2 := L1.fr I2 F2 (by decide +kernel)
  refine aw_goto (tgt := 2406) d_L_2378 rfl ?_
  exact O _ _ _ _ L2 R.up
theorem lc_56 {L t N kc ks : Nat} {xs : Nat → Int32} {h : Hp_} (hL : 6 * t + 6 ≤ L) (lL : L ≤ 3072) (L0 : Li N h) (R : Rm t N kc ks) (O : ∀ N kc ks h, Li N h → Rm (t + 1) N kc ks → AW (ML L xs) kc ks 2406 (lv5 (6 * t)) [] h k1_) : AW (ML L xs) kc ks 2381 (lv5 (6 * t)) [] h k1_ := by
  have hk := R.ok (by omega)
  refine aw_aload_n (i := 1) rfl d_L_2381 1 rfl ?_
  refine aw_arg (j := 1) d_L_2382 d_L_2383 d_L_2385 d_L_2386 d_L_2387 ic_1 (oa_1 (by omega)) (by omega) lL ?_
  refine aw_Kp (M' := m_X11_count (0 + 1) 0 0) (a := 0) [.int (xs (6 * t + 1))] (hc_X11_count 0) ⟨⟨_, rfl, rtop_in _, fun _ y => (nomatch y)⟩, rfl, trivial⟩ L0.1 (fun _ y => (nomatch y)) d_L_2388 (cV_X11_count (0 + 1) 0 0) kc_11 (ws_0 L0.1.1) tw_1653 rfl ⟨⟨show 0 + 1 + 1 ≤ 2048 from by decide, show 8 + (2 + 11) + 100 * (0 + 1) ≤ 84000 from by decide⟩, rfl, rfl⟩ ⟨show kc ≤ 118216 by omega, show ks ≤ 8741458 by omega⟩ ⟨_, rfl⟩ d_L_2391 (fun h1 I1 F1 => ?_)
  have L1 := L0.fr I1 F1 (by decide +kernel)
  refine aw_aload_n (i := 2) rfl d_L_2392 2 rfl ?_
  refine aw_arg (j := 1) d_L_2393 d_L_2394 d_L_2396 d_L_2397 d_L_2398 ic_1 (oa_1 (by omega)) (by omega) lL ?_
  refine aw_Kp (M' := m_X12_count (0 + 0) 0 0) (a := 1) [.int (xs (6 * t + 1))] (hc_X12_count 0) ⟨⟨_, rfl, rtop_in _, fun _ y => (nomatch y)⟩, rfl, trivial⟩ L1.1 (fun _ y => (nomatch y)) d_L_2399 (cV_X12_count (0 + 0) 0 0) kc_12 (ws_1 L1.1.1) tw_2689 rfl ⟨⟨show 0 + 0 + 1 ≤ 2048 from by decide, show 8 + (5 + 11) + 100 * (0 + 0) ≤ 84000 from by decide⟩, rfl, rfl⟩ ⟨show kc ≤ 118216 by omega, show ks ≤ 8741458 by omega⟩ ⟨_, rfl⟩ d_L_2402 (fun h2 I2 F2 => ?_)
  have L2 := L1.fr I2 F2 (by decide +kernel)
  refine aw_goto (tgt := 2406) d_L_2403 rfl ?_
  exact O _ _ _ _ L2 R.up
end
section
/-! the law's loop, call by call -/
theorem law_exit {L kc ks : Nat} {xs : Nat → Int32} {h : Hp_} {lv : List (Nat × Value)} (hk : kc ≤ 118216 ∧ ks ≤ 8741458) : AW (ML L xs) kc ks 2412 lv [] h k1_ := by
  refine aw_iconst (v := 1) d_L_2412 ic_1 ?_
  exact aw_zret (ty := .boolean) rfl rfl d_L_2413 hk rfl
theorem law_sw {L t N kc ks : Nat} {xs : Nat → Int32} {h : Hp_} (hL : 6 * t + 6 ≤ L) (lL : L ≤ 3072) (L0 : Li N h) (R : Rm t N kc ks) (O : ∀ N kc ks h, Li N h → Rm (t + 1) N kc ks → AW (ML L xs) kc ks 2406 (lv5 (6 * t)) [] h k1_) (sv : Int32) : AW (ML L xs) kc ks 40 (lv5 (6 * t)) [.int sv] h k1_ := by
  by_cases e0 : sv = 0
  · refine aw_tableIn (off := 244) (tgt := 284) d_L_40 (by rw [e0]; decide) (by rw [e0]; decide) (by rw [e0]; decide) rfl ?_
    exact lc_0 hL lL L0 R O
  by_cases e1 : sv = 1
  · refine aw_tableIn (off := 293) (tgt := 333) d_L_40 (by rw [e1]; decide) (by rw [e1]; decide) (by rw [e1]; decide) rfl ?_
    exact lc_1 hL lL L0 R O
  by_cases e2 : sv = 2
  · refine aw_tableIn (off := 330) (tgt := 370) d_L_40 (by rw [e2]; decide) (by rw [e2]; decide) (by rw [e2]; decide) rfl ?_
    exact lc_2 hL lL L0 R O
  by_cases e3 : sv = 3
  · refine aw_tableIn (off := 379) (tgt := 419) d_L_40 (by rw [e3]; decide) (by rw [e3]; decide) (by rw [e3]; decide) rfl ?_
    exact lc_3 hL lL L0 R O
  by_cases e4 : sv = 4
  · refine aw_tableIn (off := 452) (tgt := 492) d_L_40 (by rw [e4]; decide) (by rw [e4]; decide) (by rw [e4]; decide) rfl ?_
    exact lc_4 hL lL L0 R O
  by_cases e5 : sv = 5
  · refine aw_tableIn (off := 477) (tgt := 517) d_L_40 (by rw [e5]; decide) (by rw [e5]; decide) (by rw [e5]; decide) rfl ?_
    exact lc_5 hL lL L0 R O
  by_cases e6 : sv = 6
  · refine aw_tableIn (off := 502) (tgt := 542) d_L_40 (by rw [e6]; decide) (by rw [e6]; decide) (by rw [e6]; decide) rfl ?_
    exact lc_6 hL lL L0 R O
  by_cases e7 : sv = 7
  · refine aw_tableIn (off := 515) (tgt := 555) d_L_40 (by rw [e7]; decide) (by rw [e7]; decide) (by rw [e7]; decide) rfl ?_
    exact lc_7 hL lL L0 R O
  by_cases e8 : sv = 8
  · refine aw_tableIn (off := 552) (tgt := 592) d_L_40 (by rw [e8]; decide) (by rw [e8]; decide) (by rw [e8]; decide) rfl ?_
    exact lc_8 hL lL L0 R O
  by_cases e9 : sv = 9
  · refine aw_tableIn (off := 589) (tgt := 629) d_L_40 (by rw [e9]; decide) (by rw [e9]; decide) (by rw [e9]; decide) rfl ?_
    exact lc_9 hL lL L0 R O
  by_cases e10 : sv = 10
  · refine aw_tableIn (off := 638) (tgt := 678) d_L_40 (by rw [e10]; decide) (by rw [e10]; decide) (by rw [e10]; decide) rfl ?_
    exact lc_10 hL lL L0 R O
  by_cases e11 : sv = 11
  · refine aw_tableIn (off := 691) (tgt := 731) d_L_40 (by rw [e11]; decide) (by rw [e11]; decide) (by rw [e11]; decide) rfl ?_
    exact lc_11 hL lL L0 R O
  by_cases e12 : sv = 12
  · refine aw_tableIn (off := 716) (tgt := 756) d_L_40 (by rw [e12]; decide) (by rw [e12]; decide) (by rw [e12]; decide) rfl ?_
    exact lc_12 hL lL L0 R O
  by_cases e13 : sv = 13
  · refine aw_tableIn (off := 756) (tgt := 796) d_L_40 (by rw [e13]; decide) (by rw [e13]; decide) (by rw [e13]; decide) rfl ?_
    exact lc_13 hL lL L0 R O
  by_cases e14 : sv = 14
  · refine aw_tableIn (off := 793) (tgt := 833) d_L_40 (by rw [e14]; decide) (by rw [e14]; decide) (by rw [e14]; decide) rfl ?_
    exact lc_14 hL lL L0 R O
  by_cases e15 : sv = 15
  · refine aw_tableIn (off := 842) (tgt := 882) d_L_40 (by rw [e15]; decide) (by rw [e15]; decide) (by rw [e15]; decide) rfl ?_
    exact lc_15 hL lL L0 R O
  by_cases e16 : sv = 16
  · refine aw_tableIn (off := 879) (tgt := 919) d_L_40 (by rw [e16]; decide) (by rw [e16]; decide) (by rw [e16]; decide) rfl ?_
    exact lc_16 hL lL L0 R O
  by_cases e17 : sv = 17
  · refine aw_tableIn (off := 916) (tgt := 956) d_L_40 (by rw [e17]; decide) (by rw [e17]; decide) (by rw [e17]; decide) rfl ?_
    exact lc_17 hL lL L0 R O
  by_cases e18 : sv = 18
  · refine aw_tableIn (off := 989) (tgt := 1029) d_L_40 (by rw [e18]; decide) (by rw [e18]; decide) (by rw [e18]; decide) rfl ?_
    exact lc_18 hL lL L0 R O
  by_cases e19 : sv = 19
  · refine aw_tableIn (off := 1014) (tgt := 1054) d_L_40 (by rw [e19]; decide) (by rw [e19]; decide) (by rw [e19]; decide) rfl ?_
    exact lc_19 hL lL L0 R O
  by_cases e20 : sv = 20
  · refine aw_tableIn (off := 1051) (tgt := 1091) d_L_40 (by rw [e20]; decide) (by rw [e20]; decide) (by rw [e20]; decide) rfl ?_
    exact lc_20 hL lL L0 R O
  by_cases e21 : sv = 21
  · refine aw_tableIn (off := 1088) (tgt := 1128) d_L_40 (by rw [e21]; decide) (by rw [e21]; decide) (by rw [e21]; decide) rfl ?_
    exact lc_21 hL lL L0 R O
  by_cases e22 : sv = 22
  · refine aw_tableIn (off := 1125) (tgt := 1165) d_L_40 (by rw [e22]; decide) (by rw [e22]; decide) (by rw [e22]; decide) rfl ?_
    exact lc_22 hL lL L0 R O
  by_cases e23 : sv = 23
  · refine aw_tableIn (off := 1150) (tgt := 1190) d_L_40 (by rw [e23]; decide) (by rw [e23]; decide) (by rw [e23]; decide) rfl ?_
    exact lc_23 hL lL L0 R O
  by_cases e24 : sv = 24
  · refine aw_tableIn (off := 1175) (tgt := 1215) d_L_40 (by rw [e24]; decide) (by rw [e24]; decide) (by rw [e24]; decide) rfl ?_
    exact lc_24 hL lL L0 R O
  by_cases e25 : sv = 25
  · refine aw_tableIn (off := 1212) (tgt := 1252) d_L_40 (by rw [e25]; decide) (by rw [e25]; decide) (by rw [e25]; decide) rfl ?_
    exact lc_25 hL lL L0 R O
  by_cases e26 : sv = 26
  · refine aw_tableIn (off := 1249) (tgt := 1289) d_L_40 (by rw [e26]; decide) (by rw [e26]; decide) (by rw [e26]; decide) rfl ?_
    exact lc_26 hL lL L0 R O
  by_cases e27 : sv = 27
  · refine aw_tableIn (off := 1326) (tgt := 1366) d_L_40 (by rw [e27]; decide) (by rw [e27]; decide) (by rw [e27]; decide) rfl ?_
    exact lc_27 hL lL L0 R O
  by_cases e28 : sv = 28
  · refine aw_tableIn (off := 1351) (tgt := 1391) d_L_40 (by rw [e28]; decide) (by rw [e28]; decide) (by rw [e28]; decide) rfl ?_
    exact lc_28 hL lL L0 R O
  by_cases e29 : sv = 29
  · refine aw_tableIn (off := 1400) (tgt := 1440) d_L_40 (by rw [e29]; decide) (by rw [e29]; decide) (by rw [e29]; decide) rfl ?_
    exact lc_29 hL lL L0 R O
  by_cases e30 : sv = 30
  · refine aw_tableIn (off := 1449) (tgt := 1489) d_L_40 (by rw [e30]; decide) (by rw [e30]; decide) (by rw [e30]; decide) rfl ?_
    exact lc_30 hL lL L0 R O
  by_cases e31 : sv = 31
  · refine aw_tableIn (off := 1498) (tgt := 1538) d_L_40 (by rw [e31]; decide) (by rw [e31]; decide) (by rw [e31]; decide) rfl ?_
    exact lc_31 hL lL L0 R O
  by_cases e32 : sv = 32
  · refine aw_tableIn (off := 1523) (tgt := 1563) d_L_40 (by rw [e32]; decide) (by rw [e32]; decide) (by rw [e32]; decide) rfl ?_
    exact lc_32 hL lL L0 R O
  by_cases e33 : sv = 33
  · refine aw_tableIn (off := 1576) (tgt := 1616) d_L_40 (by rw [e33]; decide) (by rw [e33]; decide) (by rw [e33]; decide) rfl ?_
    exact lc_33 hL lL L0 R O
  by_cases e34 : sv = 34
  · refine aw_tableIn (off := 1601) (tgt := 1641) d_L_40 (by rw [e34]; decide) (by rw [e34]; decide) (by rw [e34]; decide) rfl ?_
    exact lc_34 hL lL L0 R O
  by_cases e35 : sv = 35
  · refine aw_tableIn (off := 1614) (tgt := 1654) d_L_40 (by rw [e35]; decide) (by rw [e35]; decide) (by rw [e35]; decide) rfl ?_
    exact lc_35 hL lL L0 R O
  by_cases e36 : sv = 36
  · refine aw_tableIn (off := 1639) (tgt := 1679) d_L_40 (by rw [e36]; decide) (by rw [e36]; decide) (by rw [e36]; decide) rfl ?_
    exact lc_36 hL lL L0 R O
  by_cases e37 : sv = 37
  · refine aw_tableIn (off := 1664) (tgt := 1704) d_L_40 (by rw [e37]; decide) (by rw [e37]; decide) (by rw [e37]; decide) rfl ?_
    exact lc_37 hL lL L0 R O
  by_cases e38 : sv = 38
  · refine aw_tableIn (off := 1689) (tgt := 1729) d_L_40 (by rw [e38]; decide) (by rw [e38]; decide) (by rw [e38]; decide) rfl ?_
    exact lc_38 hL lL L0 R O
  by_cases e39 : sv = 39
  · refine aw_tableIn (off := 1738) (tgt := 1778) d_L_40 (by rw [e39]; decide) (by rw [e39]; decide) (by rw [e39]; decide) rfl ?_
    exact lc_39 hL lL L0 R O
  by_cases e40 : sv = 40
  · refine aw_tableIn (off := 1775) (tgt := 1815) d_L_40 (by rw [e40]; decide) (by rw [e40]; decide) (by rw [e40]; decide) rfl ?_
    exact lc_40 hL lL L0 R O
  by_cases e41 : sv = 41
  · refine aw_tableIn (off := 1800) (tgt := 1840) d_L_40 (by rw [e41]; decide) (by rw [e41]; decide) (by rw [e41]; decide) rfl ?_
    exact lc_41 hL lL L0 R O
  by_cases e42 : sv = 42
  · refine aw_tableIn (off := 1837) (tgt := 1877) d_L_40 (by rw [e42]; decide) (by rw [e42]; decide) (by rw [e42]; decide) rfl ?_
    exact lc_42 hL lL L0 R O
  by_cases e43 : sv = 43
  · refine aw_tableIn (off := 1886) (tgt := 1926) d_L_40 (by rw [e43]; decide) (by rw [e43]; decide) (by rw [e43]; decide) rfl ?_
    exact lc_43 hL lL L0 R O
  by_cases e44 : sv = 44
  · refine aw_tableIn (off := 1911) (tgt := 1951) d_L_40 (by rw [e44]; decide) (by rw [e44]; decide) (by rw [e44]; decide) rfl ?_
    exact lc_44 hL lL L0 R O
  by_cases e45 : sv = 45
  · refine aw_tableIn (off := 1936) (tgt := 1976) d_L_40 (by rw [e45]; decide) (by rw [e45]; decide) (by rw [e45]; decide) rfl ?_
    exact lc_45 hL lL L0 R O
  by_cases e46 : sv = 46
  · refine aw_tableIn (off := 1947) (tgt := 1987) d_L_40 (by rw [e46]; decide) (by rw [e46]; decide) (by rw [e46]; decide) rfl ?_
    exact lc_46 hL lL L0 R O
  by_cases e47 : sv = 47
  · refine aw_tableIn (off := 1972) (tgt := 2012) d_L_40 (by rw [e47]; decide) (by rw [e47]; decide) (by rw [e47]; decide) rfl ?_
    exact lc_47 hL lL L0 R O
  by_cases e48 : sv = 48
  · refine aw_tableIn (off := 2021) (tgt := 2061) d_L_40 (by rw [e48]; decide) (by rw [e48]; decide) (by rw [e48]; decide) rfl ?_
    exact lc_48 hL lL L0 R O
  by_cases e49 : sv = 49
  · refine aw_tableIn (off := 2070) (tgt := 2110) d_L_40 (by rw [e49]; decide) (by rw [e49]; decide) (by rw [e49]; decide) rfl ?_
    exact lc_49 hL lL L0 R O
  by_cases e50 : sv = 50
  · refine aw_tableIn (off := 2119) (tgt := 2159) d_L_40 (by rw [e50]; decide) (by rw [e50]; decide) (by rw [e50]; decide) rfl ?_
    exact lc_50 hL lL L0 R O
  by_cases e51 : sv = 51
  · refine aw_tableIn (off := 2132) (tgt := 2172) d_L_40 (by rw [e51]; decide) (by rw [e51]; decide) (by rw [e51]; decide) rfl ?_
    exact lc_51 hL lL L0 R O
  by_cases e52 : sv = 52
  · refine aw_tableIn (off := 2169) (tgt := 2209) d_L_40 (by rw [e52]; decide) (by rw [e52]; decide) (by rw [e52]; decide) rfl ?_
    exact lc_52 hL lL L0 R O
  by_cases e53 : sv = 53
  · refine aw_tableIn (off := 2218) (tgt := 2258) d_L_40 (by rw [e53]; decide) (by rw [e53]; decide) (by rw [e53]; decide) rfl ?_
    exact lc_53 hL lL L0 R O
  by_cases e54 : sv = 54
  · refine aw_tableIn (off := 2243) (tgt := 2283) d_L_40 (by rw [e54]; decide) (by rw [e54]; decide) (by rw [e54]; decide) rfl ?_
    exact lc_54 hL lL L0 R O
  by_cases e55 : sv = 55
  · refine aw_tableIn (off := 2280) (tgt := 2320) d_L_40 (by rw [e55]; decide) (by rw [e55]; decide) (by rw [e55]; decide) rfl ?_
    exact lc_55 hL lL L0 R O
  by_cases e56 : sv = 56
  · refine aw_tableIn (off := 2341) (tgt := 2381) d_L_40 (by rw [e56]; decide) (by rw [e56]; decide) (by rw [e56]; decide) rfl ?_
    exact lc_56 hL lL L0 R O
  have n0 := sw_ne (0) (by decide) e0
  have n1 := sw_ne (1) (by decide) e1
  have n2 := sw_ne (2) (by decide) e2
  have n3 := sw_ne (3) (by decide) e3
  have n4 := sw_ne (4) (by decide) e4
  have n5 := sw_ne (5) (by decide) e5
  have n6 := sw_ne (6) (by decide) e6
  have n7 := sw_ne (7) (by decide) e7
  have n8 := sw_ne (8) (by decide) e8
  have n9 := sw_ne (9) (by decide) e9
  have n10 := sw_ne (10) (by decide) e10
  have n11 := sw_ne (11) (by decide) e11
  have n12 := sw_ne (12) (by decide) e12
  have n13 := sw_ne (13) (by decide) e13
  have n14 := sw_ne (14) (by decide) e14
  have n15 := sw_ne (15) (by decide) e15
  have n16 := sw_ne (16) (by decide) e16
  have n17 := sw_ne (17) (by decide) e17
  have n18 := sw_ne (18) (by decide) e18
  have n19 := sw_ne (19) (by decide) e19
  have n20 := sw_ne (20) (by decide) e20
  have n21 := sw_ne (21) (by decide) e21
  have n22 := sw_ne (22) (by decide) e22
  have n23 := sw_ne (23) (by decide) e23
  have n24 := sw_ne (24) (by decide) e24
  have n25 := sw_ne (25) (by decide) e25
  have n26 := sw_ne (26) (by decide) e26
  have n27 := sw_ne (27) (by decide) e27
  have n28 := sw_ne (28) (by decide) e28
  have n29 := sw_ne (29) (by decide) e29
  have n30 := sw_ne (30) (by decide) e30
  have n31 := sw_ne (31) (by decide) e31
  have n32 := sw_ne (32) (by decide) e32
  have n33 := sw_ne (33) (by decide) e33
  have n34 := sw_ne (34) (by decide) e34
  have n35 := sw_ne (35) (by decide) e35
  have n36 := sw_ne (36) (by decide) e36
  have n37 := sw_ne (37) (by decide) e37
  have n38 := sw_ne (38) (by decide) e38
  have n39 := sw_ne (39) (by decide) e39
  have n40 := sw_ne (40) (by decide) e40
  have n41 := sw_ne (41) (by decide) e41
  have n42 := sw_ne (42) (by decide) e42
  have n43 := sw_ne (43) (by decide) e43
  have n44 := sw_ne (44) (by decide) e44
  have n45 := sw_ne (45) (by decide) e45
  have n46 := sw_ne (46) (by decide) e46
  have n47 := sw_ne (47) (by decide) e47
  have n48 := sw_ne (48) (by decide) e48
  have n49 := sw_ne (49) (by decide) e49
  have n50 := sw_ne (50) (by decide) e50
  have n51 := sw_ne (51) (by decide) e51
  have n52 := sw_ne (52) (by decide) e52
  have n53 := sw_ne (53) (by decide) e53
  have n54 := sw_ne (54) (by decide) e54
  have n55 := sw_ne (55) (by decide) e55
  have n56 := sw_ne (56) (by decide) e56
  refine aw_tableOut (tgt := 2406) d_L_40 (by omega) rfl ?_
  exact O _ _ _ _ L0 R.up
theorem law_loop {L : Nat} {xs : Nat → Int32} (lL : L ≤ 3072) : ∀ (r t N kc ks : Nat) (h : Hp_), 513 ≤ t + r → t ≤ 512 → Li N h → Rm t N kc ks → AW (ML L xs) kc ks 23 (lv5 (6 * t)) [] h k1_ := by
  intro r
  induction r with
  | zero =>
    intro t N kc ks h m lt
    omega
  | succ r ih =>
    intro t N kc ks h m lt L0 R
    have hk := R.ok (by omega)
    have oL : (Int32.ofNat L).toInt = (L : Int) := on_j (by omega)
    have ot := on_j (n := 6 * t) (by omega)
    have t6 : (6 : Int32).toInt = 6 := rfl
    have e6 : (Int32.ofNat L - 6).toInt = (L : Int) - 6 := by rw [tx_sub (by rw [t6, oL]; omega) (by rw [t6, oL]; omega), oL, t6]
    refine aw_iload d_L_23 4 rfl ?_
    refine aw_aload_n (i := 0) rfl d_L_25 0 rfl ?_
    refine aw_slen d_L_26 ?_
    refine aw_bipush (v := 6) d_L_27 ib_6 ?_
    refine aw_isub d_L_29 ?_
    refine aw_icmp_gt (tgt := 2412) d_L_30 rfl (fun _ => law_exit ⟨by omega, by omega⟩) (fun c => ?_)
    have c := q_nlt c
    have hL : 6 * t + 6 ≤ L := by omega
    have O : ∀ N kc ks h, Li N h → Rm (t + 1) N kc ks → AW (ML L xs) kc ks 2406 (lv5 (6 * t)) [] h k1_ := by
      intro N kc ks h L1 R1
      refine aw_iinc (v := Int32.ofNat (6 * (t + 1))) (lv5 (6 * (t + 1))) d_L_2406 4 rfl (oa_6 (n := 6 * t) (by omega)) (Nat.le_of_ble_eq_true rfl) rfl rfl ?_
      refine aw_goto (tgt := 23) d_L_2409 rfl ?_
      exact ih (t + 1) N kc ks h (by omega) (by omega) L1 R1
    refine aw_aload_n (i := 0) rfl d_L_33 0 rfl ?_
    refine aw_iload d_L_34 4 rfl ?_
    refine aw_sld (6 * t) (on_k (by omega)) (on_in (by omega) (by omega)) d_L_36 ?_
    refine aw_bipush (v := 63) d_L_37 ib_63 ?_
    refine aw_iand d_L_39 ?_
    exact law_sw hL lL L0 R O _
theorem law_pre (L : Nat) (xs : Nat → Int32) (hL : L ≤ 3072) : AW (ML L xs) 0 0 0 [(0, .ref 1100)] [] hE k1_ := by
  refine aw_new (ci := 11) 0 kc_11 tw_27 tw_28 tw_1 rfl (Nat.le_of_ble_eq_true rfl) xsL (show 0 + 1 ≤ 118216 from by decide +kernel) (show 0 + 16 ≤ 8741458 from by decide +kernel) d_L_0 ?_
  show AW (ML L xs) 1 16 3 [(0, .ref 1100)] [.ref 0] G0 k1_
  refine aw_dup d_L_3 rfl ?_
  refine aw_callI (vs := []) (a := 0) (rest := [.ref 0]) d_L_4 (cI_X11_init (0 + 2) 99 30357) ⟨rfl, rfl⟩ tw_30 tw_29 rfl ⟨Nat.le_of_ble_eq_true rfl, Nat.le_of_ble_eq_true rfl⟩ (Nat.le_of_ble_eq_true rfl) ⟨show 1 + 99 ≤ 118216 from by decide +kernel, show 16 + 30357 ≤ 8741458 from by decide +kernel⟩ xsL (k_X11_init_0 0) (fun v h9 kk => ?_)
  obtain ⟨rfl, rfl⟩ := kk
  show AW (ML L xs) 100 30373 7 [(0, .ref 1100)] [.ref 0] G37 k1_
  refine aw_astore_n (i := 1) rfl [(0, .ref 1100), (1, .ref 0)] d_L_7 (Nat.le_of_ble_eq_true rfl) rfl rfl ?_
  refine aw_new (ci := 12) 1 kc_12 tw_1735 tw_1736 tw_13 (by decide +kernel) (Nat.le_of_ble_eq_true rfl) xsL (show 100 + 1 ≤ 118216 from by decide +kernel) (show 30373 + 131 ≤ 8741458 from by decide +kernel) d_L_8 ?_
  show AW (ML L xs) 101 30504 11 [(0, .ref 1100), (1, .ref 0)] [.ref 1] GM0 k1_
  refine aw_dup d_L_11 rfl ?_
  refine aw_callI (vs := []) (a := 1) (rest := [.ref 1]) d_L_12 (cI_X12_init (0 + 1) 100 288204) ⟨rfl, rfl⟩ tw_1738 tw_1737 rfl ⟨Nat.le_of_ble_eq_true rfl, Nat.le_of_ble_eq_true rfl⟩ (Nat.le_of_ble_eq_true rfl) ⟨show 101 + 100 ≤ 118216 from by decide +kernel, show 30504 + 288204 ≤ 8741458 from by decide +kernel⟩ xsL (k_X12_init_1 0 GM0 (by decide +kernel) (rng_none (by decide +kernel))) (fun v h9 kk => ?_)
  obtain ⟨rfl, rfl⟩ := kk
  show AW (ML L xs) 201 318708 15 [(0, .ref 1100), (1, .ref 0)] [.ref 1] (CH_1 GM0) k1_
  refine aw_astore_n (i := 2) rfl [(0, .ref 1100), (1, .ref 0), (2, .ref 1)] d_L_15 (Nat.le_of_ble_eq_true rfl) rfl rfl ?_
  refine aw_iconst (v := 1) d_L_16 ic_1 ?_
  refine aw_newa (t := 3) (atype := .long) 2 1 (by decide) rfl tw_426 (by decide +kernel) (Nat.le_of_ble_eq_true rfl) xsL (by decide) (by decide) (by decide) (show 201 + 1 ≤ 118216 from by decide +kernel) (show 318708 + 1 ≤ 8741458 from by decide +kernel) d_L_17 ?_
  show AW (ML L xs) 202 318709 19 [(0, .ref 1100), (1, .ref 0), (2, .ref 1)] [.ref 2] HF k1_
  refine aw_astore_n (i := 3) rfl [(0, .ref 1100), (1, .ref 0), (2, .ref 1), (3, .ref 2)] d_L_19 (Nat.le_of_ble_eq_true rfl) rfl rfl ?_
  refine aw_iconst (v := 0) d_L_20 ic_0 ?_
  refine aw_istore [(0, .ref 1100), (1, .ref 0), (2, .ref 1), (3, .ref 2), (4, .int 0)] d_L_21 (Nat.le_of_ble_eq_true rfl) rfl rfl ?_
  exact law_loop hL 513 0 0 202 318709 HF (by decide) (by decide) li_F ⟨by decide, by decide, by decide⟩
end
section
theorem lw_m1 {w : Cond} (i : Nat) (h0 : tables_1_1[i]? = some w) : w ∈ lw_tbl := List.mem_append_right _ (by have h : w ∈ tables_1_1 := List.mem_of_getElem? h0; unfold tables_1; exact List.mem_append_left _ h)
theorem lw_m2 {w : Cond} (i : Nat) (h0 : tables_1_2[i]? = some w) : w ∈ lw_tbl := List.mem_append_right _ (by have h : w ∈ tables_1_2 := List.mem_of_getElem? h0; unfold tables_1; exact List.mem_append_right _ (List.mem_append_left _ h))
theorem lw_m3 {w : Cond} (i : Nat) (h0 : tables_1_3[i]? = some w) : w ∈ lw_tbl := List.mem_append_right _ (by have h : w ∈ tables_1_3 := List.mem_of_getElem? h0; unfold tables_1; exact List.mem_append_right _ (List.mem_append_right _ (List.mem_append_left _ h)))
theorem lw_m4 {w : Cond} (i : Nat) (h0 : tables_1_4[i]? = some w) : w ∈ lw_tbl := List.mem_append_right _ (by have h : w ∈ tables_1_4 := List.mem_of_getElem? h0; unfold tables_1; exact List.mem_append_right _ (List.mem_append_right _ (List.mem_append_right _ (List.mem_append_left _ h))))
theorem lw_m5 {w : Cond} (i : Nat) (h0 : tables_1_5[i]? = some w) : w ∈ lw_tbl := List.mem_append_right _ (by have h : w ∈ tables_1_5 := List.mem_of_getElem? h0; unfold tables_1; exact List.mem_append_right _ (List.mem_append_right _ (List.mem_append_right _ (List.mem_append_right _ (List.mem_append_left _ h)))))
theorem lw_m6 {w : Cond} (i : Nat) (h0 : tables_1_6[i]? = some w) : w ∈ lw_tbl := List.mem_append_right _ (by have h : w ∈ tables_1_6 := List.mem_of_getElem? h0; unfold tables_1; exact List.mem_append_right _ (List.mem_append_right _ (List.mem_append_right _ (List.mem_append_right _ (List.mem_append_right _ (List.mem_append_left _ h))))))
theorem lw_m7 {w : Cond} (i : Nat) (h0 : tables_1_7[i]? = some w) : w ∈ lw_tbl := List.mem_append_right _ (by have h : w ∈ tables_1_7 := List.mem_of_getElem? h0; unfold tables_1; exact List.mem_append_right _ (List.mem_append_right _ (List.mem_append_right _ (List.mem_append_right _ (List.mem_append_right _ (List.mem_append_right _ (List.mem_append_left _ h)))))))
theorem lw_m8 {w : Cond} (i : Nat) (h0 : tables_1_8[i]? = some w) : w ∈ lw_tbl := List.mem_append_right _ (by have h : w ∈ tables_1_8 := List.mem_of_getElem? h0; unfold tables_1; exact List.mem_append_right _ (List.mem_append_right _ (List.mem_append_right _ (List.mem_append_right _ (List.mem_append_right _ (List.mem_append_right _ (List.mem_append_right _ (List.mem_append_left _ h))))))))
theorem lw_m11 {w : Cond} (i : Nat) (h0 : tables_1_11[i]? = some w) : w ∈ lw_tbl := List.mem_append_right _ (by have h : w ∈ tables_1_11 := List.mem_of_getElem? h0; unfold tables_1; exact List.mem_append_right _ (List.mem_append_right _ (List.mem_append_right _ (List.mem_append_right _ (List.mem_append_right _ (List.mem_append_right _ (List.mem_append_right _ (List.mem_append_right _ (List.mem_append_right _ (List.mem_append_right _ (List.mem_append_left _ h)))))))))))
theorem lw_m12 {w : Cond} (i : Nat) (h0 : tables_1_12[i]? = some w) : w ∈ lw_tbl := List.mem_append_right _ (by have h : w ∈ tables_1_12 := List.mem_of_getElem? h0; unfold tables_1; exact List.mem_append_right _ (List.mem_append_right _ (List.mem_append_right _ (List.mem_append_right _ (List.mem_append_right _ (List.mem_append_right _ (List.mem_append_right _ (List.mem_append_right _ (List.mem_append_right _ (List.mem_append_right _ (List.mem_append_right _ (h))))))))))))
theorem sw_0 : Cond.stringRef "CountyWatch$Reader" 15 "" ∈ lw_tbl := lw_m1 58 (by decide +kernel)
theorem sw_1 : Cond.stringRef "CountyWatch$Reader" 108 "kwphdcnet" ∈ lw_tbl := lw_m4 7 (by decide +kernel)
theorem sw_2 : Cond.stringRef "CountyWatch$Reader" 110 "cymxta" ∈ lw_tbl := lw_m4 8 (by decide +kernel)
theorem sw_3 : Cond.stringRef "CountyWatch$Reader" 124 "xnrt" ∈ lw_tbl := lw_m4 139 (by decide +kernel)
theorem sw_4 : Cond.stringRef "CountyWatch" 376 "kwphdcnet" ∈ lw_tbl := lw_m5 101 (by decide +kernel)
theorem sw_5 : Cond.stringRef "CountyWatchModel" 565 "kwphdcnet" ∈ lw_tbl := lw_m11 3 (by decide +kernel)
theorem nw_0 : Cond.methodLinkNest "CountyWatch" 18 ⟨"CountyWatch$Reader", "<init>", "()V"⟩ "CountyWatch" ∈ lw_tbl := lw_m1 54 (by decide +kernel)
theorem nw_1 : Cond.methodLinkNest "CountyWatch" 25 ⟨"CountyWatch$Beats", "<init>", "()V"⟩ "CountyWatch" ∈ lw_tbl := lw_m1 99 (by decide +kernel)
theorem nw_2 : Cond.methodLinkNest "CountyWatch" 32 ⟨"CountyWatch$Rules", "<init>", "()V"⟩ "CountyWatch" ∈ lw_tbl := lw_m1 120 (by decide +kernel)
theorem nw_3 : Cond.methodLinkNest "CountyWatch" 48 ⟨"CountyWatch$Points", "<init>", "()V"⟩ "CountyWatch" ∈ lw_tbl := lw_m1 148 (by decide +kernel)
theorem nw_4 : Cond.methodLinkNest "CountyWatch" 55 ⟨"CountyWatch$Looks", "<init>", "()V"⟩ "CountyWatch" ∈ lw_tbl := lw_m1 192 (by decide +kernel)
theorem nw_5 : Cond.methodLinkNest "CountyWatch" 69 ⟨"CountyWatch$Goods", "<init>", "()V"⟩ "CountyWatch" ∈ lw_tbl := lw_m2 77 (by decide +kernel)
theorem nw_6 : Cond.methodLinkNest "CountyWatch" 76 ⟨"CountyWatch$Plans", "<init>", "()V"⟩ "CountyWatch" ∈ lw_tbl := lw_m2 119 (by decide +kernel)
theorem nw_7 : Cond.methodLinkNest "CountyWatch$Roads" 16 ⟨"CountyWatch", "isPlace", "(I)Z"⟩ "CountyWatch" ∈ lw_tbl := lw_m3 81 (by decide +kernel)
theorem nw_8 : Cond.methodLinkNest "CountyWatch$Reader" 43 ⟨"CountyWatch", "within", "(III)Z"⟩ "CountyWatch" ∈ lw_tbl := lw_m3 184 (by decide +kernel)
theorem nw_9 : Cond.methodLinkNest "CountyWatch$Looks" 59 ⟨"CountyWatch", "within", "(III)Z"⟩ "CountyWatch" ∈ lw_tbl := lw_m5 71 (by decide +kernel)
theorem nw_10 : Cond.methodLinkNest "CountyWatch$Payroll" 69 ⟨"CountyWatch", "within", "(III)Z"⟩ "CountyWatch" ∈ lw_tbl := lw_m5 84 (by decide +kernel)
theorem nw_11 : Cond.methodLinkNest "CountyWatch$Rules" 45 ⟨"CountyWatch", "within", "(III)Z"⟩ "CountyWatch" ∈ lw_tbl := lw_m5 107 (by decide +kernel)
theorem nw_12 : Cond.methodLinkNest "CountyWatch$Cases" 71 ⟨"CountyWatch", "within", "(III)Z"⟩ "CountyWatch" ∈ lw_tbl := lw_m6 27 (by decide +kernel)
theorem nw_13 : Cond.methodLinkNest "CountyWatch$Beats" 50 ⟨"CountyWatch", "within", "(III)Z"⟩ "CountyWatch" ∈ lw_tbl := lw_m6 233 (by decide +kernel)
theorem nw_14 : Cond.methodLinkNest "CountyWatch$Plans" 79 ⟨"CountyWatch", "within", "(III)Z"⟩ "CountyWatch" ∈ lw_tbl := lw_m7 39 (by decide +kernel)
theorem ao_w : Cond.arrayOver (.object "CountyWatch$Constable") ∈ lw_tbl := lw_m1 145 (by decide +kernel)
theorem st_nest {args : Array Value} {s : State} (hts : ∀ w ∈ lw_tbl, w.before args s = true) : ∀ w ∈ h_nest, va_Nw (.methodLinkNest w.1 w.2.1 w.2.2 "CountyWatch") s := by
  unfold h_nest
  exact List.forall_mem_cons.mpr ⟨va_Nw.of rfl (hts _ nw_0), List.forall_mem_cons.mpr ⟨va_Nw.of rfl (hts _ nw_1), List.forall_mem_cons.mpr ⟨va_Nw.of rfl (hts _ nw_2), List.forall_mem_cons.mpr ⟨va_Nw.of rfl (hts _ nw_3), List.forall_mem_cons.mpr ⟨va_Nw.of rfl (hts _ nw_4), List.forall_mem_cons.mpr ⟨va_Nw.of rfl (hts _ nw_5), List.forall_mem_cons.mpr ⟨va_Nw.of rfl (hts _ nw_6), List.forall_mem_cons.mpr ⟨va_Nw.of rfl (hts _ nw_7), List.forall_mem_cons.mpr ⟨va_Nw.of rfl (hts _ nw_8), List.forall_mem_cons.mpr ⟨va_Nw.of rfl (hts _ nw_9), List.forall_mem_cons.mpr ⟨va_Nw.of rfl (hts _ nw_10), List.forall_mem_cons.mpr ⟨va_Nw.of rfl (hts _ nw_11), List.forall_mem_cons.mpr ⟨va_Nw.of rfl (hts _ nw_12), List.forall_mem_cons.mpr ⟨va_Nw.of rfl (hts _ nw_13), List.forall_mem_cons.mpr ⟨va_Nw.of rfl (hts _ nw_14), fun _ h => absurd h List.not_mem_nil⟩⟩⟩⟩⟩⟩⟩⟩⟩⟩⟩⟩⟩⟩⟩
theorem st_K {args : Array Value} {s : State} (hts : ∀ w ∈ lw_tbl, w.before args s = true) : ∃ (dC : Nat → ClassId) (dI : Nat → Nat → Nat) (cy : Nat → ClassId), cx_ dC dI cy s := by
  have htg : ∀ w ∈ lw_g, w.before args s = true := fun w hw => hts w (List.mem_filter.mp hw).1
  obtain ⟨c0, i0, K0⟩ := u_known (C := RX0) (T := TX0) (N := 4) (n := 4) htg iX0 (htg _ tw_98)
  obtain ⟨c1, i1, K1⟩ := u_known (C := RX1) (T := TX1) (N := 16) (n := 16) htg iX1 (htg _ tw_254)
  obtain ⟨c2, i2, K2⟩ := u_known (C := RX2) (T := TX2) (N := 17) (n := 17) htg iX2 (htg _ tw_566)
  obtain ⟨c3, i3, K3⟩ := u_known (C := RX3) (T := TX3) (N := 11) (n := 11) htg iX3 (htg _ tw_316)
  obtain ⟨c4, i4, K4⟩ := u_known (C := RX4) (T := TX4) (N := 17) (n := 17) htg iX4 (htg _ tw_191)
  obtain ⟨c5, i5, K5⟩ := u_known (C := RX5) (T := TX5) (N := 16) (n := 16) htg iX5 (htg _ tw_428)
  obtain ⟨c6, i6, K6⟩ := u_known (C := RX6) (T := TX6) (N := 20) (n := 20) htg iX6 (htg _ tw_358)
  obtain ⟨c7, i7, K7⟩ := u_known (C := RX7) (T := TX7) (N := 12) (n := 12) htg iX7 (htg _ tw_147)
  obtain ⟨c8, i8, K8⟩ := u_known (C := RX8) (T := TX8) (N := 10) (n := 10) htg iX8 (htg _ tw_53)
  obtain ⟨c9, i9, K9⟩ := u_known (C := RX9) (T := TX9) (N := 2) (n := 2) htg iX9 (htg _ tw_36)
  obtain ⟨c10, i10, K10⟩ := u_known (C := RX10) (T := TX10) (N := 6) (n := 6) htg iX10 (htg _ tw_119)
  obtain ⟨c11, i11, K11⟩ := u_known (C := RX11) (T := TX11) (N := 16) (n := 16) htg iX11 (htg _ tw_28)
  obtain ⟨c12, i12, K12⟩ := u_known (C := RX12) (T := TX12) (N := 131) (n := 131) htg iX12 (htg _ tw_1736)
  obtain ⟨a0, q0, m0, f0, g0, j0⟩ := Cond.arrayClass_spec (type := .int) (htg _ tw_51)
  obtain ⟨a1, q1, m1, f1, g1, j1⟩ := Cond.arrayClass_spec (type := .boolean) (htg _ tw_252)
  obtain ⟨a2, q2, m2, f2, g2, j2⟩ := Cond.arrayClass_spec (type := .byte) (htg _ tw_96)
  obtain ⟨a3, q3, m3, f3, g3, j3⟩ := Cond.arrayClass_spec (type := .long) (htg _ tw_426)
  obtain ⟨m4, a4, q4, n4, _, g4, j4, f4⟩ := Cond.arrayOver_spec (n := "CountyWatch$Constable") (hts _ ao_w)
  refine ⟨fun k => [c0, c1, c2, c3, c4, c5, c6, c7, c8, c9, c10, c11, c12].getD k c0, fun k => [i0, i1, i2, i3, i4, i5, i6, i7, i8, i9, i10, i11, i12].getD k i0, fun t => [a0, a1, a2, a3, a4].getD t a0, ⟨fun k q hq => ?_, fun k q hq => ?_⟩, st_nest hts, va_AO.of (hts _ ao_w)⟩
  · match k, hq with
    | 0, hq => cases hq; exact K0
    | 1, hq => cases hq; exact K1
    | 2, hq => cases hq; exact K2
    | 3, hq => cases hq; exact K3
    | 4, hq => cases hq; exact K4
    | 5, hq => cases hq; exact K5
    | 6, hq => cases hq; exact K6
    | 7, hq => cases hq; exact K7
    | 8, hq => cases hq; exact K8
    | 9, hq => cases hq; exact K9
    | 10, hq => cases hq; exact K10
    | 11, hq => cases hq; exact K11
    | 12, hq => cases hq; exact K12
    | k + 13, hq => simp [kl_] at hq
  · match k, hq with
    | 0, hq => cases hq; exact ⟨fun n z => ⟨fun k h => (by cases h), q0, g0, m0, j0⟩, f0⟩
    | 1, hq => cases hq; exact ⟨fun n z => ⟨fun k h => (by cases h), q1, g1, m1, j1⟩, f1⟩
    | 2, hq => cases hq; exact ⟨fun n z => ⟨fun k h => (by cases h), q2, g2, m2, j2⟩, f2⟩
    | 3, hq => cases hq; exact ⟨fun n z => ⟨fun k h => (by cases h), q3, g3, m3, j3⟩, f3⟩
    | 4, hq => cases hq; exact ⟨fun n z => ⟨fun k h => (by cases h), q4, g4, m4, j4⟩, q4, m4, g4, j4, n4, f4⟩
    | k + 5, hq => simp [h_tys] at hq
theorem vk_str {own tx : String} {k a : Nat} {args : Array Value} {U : State} (h1 : (Cond.stringRef own k tx).before args U = true) (h2 : (Term.string own k).eval args U none [] U = some (.ref a)) : vk_R own k tx a U := vk_R.of h1 h2
noncomputable def tm_ (i : Nat) : Term := .string "CountyWatch$Reader" ([15, 108, 110, 124].getD i 15)
theorem cw_0 : Cond.laysStatic "java/lang/String" "COMPACT_STRINGS" "Z" ∈ lw_tbl := lw_m4 53 (by decide +kernel)
theorem cw_1 : Cond.laysStatic "jdk/internal/util/Preconditions" "SIOOBE_FORMATTER" "Ljava/util/function/BiFunction;" ∈ lw_tbl := lw_m4 94 (by decide +kernel)
theorem st_T {b : Nat} {s : State} (hts : ∀ w ∈ lw_tbl, w.before #[Value.ref b] s = true) (hgv : (Jvm.Cond.and given_1 narrow_1).before #[Value.ref b] s = true) (A : Nat → Prop) (hA : ∀ a : Nat, a < s.heap.size → ¬ A a) : ∃ ad adV : Nat → Nat, ad 1100 = b ∧ st_ ad adV A s := by
  have hg := flat_of_before _ hgv
  obtain ⟨adK, adV, h1, h2⟩ := vk_Sof (args := #[Value.ref b]) (s := s) (N := 4) (tm := tm_) (len := [0, 9, 6, 4]) (byt := [[], [107, 119, 112, 104, 100, 99, 110, 101, 116], [99, 121, 109, 120, 116, 97], [120, 110, 114, 116]]) (A := A)
    (fun i hi => by match i, hi with | 0, _ => decide | 1, _ => decide | 2, _ => decide | 3, _ => decide | i + 4, hi => exact absurd hi (by omega))
    (fun i hi => by match i, hi with | 0, _ => exact hg _ (by decide +kernel) | 1, _ => exact hg _ (by decide +kernel) | 2, _ => exact hg _ (by decide +kernel) | 3, _ => exact hg _ (by decide +kernel) | i + 4, hi => exact absurd hi (by omega))
    (fun i hi => by match i, hi with | 0, _ => exact hg _ (by decide +kernel) | 1, _ => exact hg _ (by decide +kernel) | 2, _ => exact hg _ (by decide +kernel) | 3, _ => exact hg _ (by decide +kernel) | i + 4, hi => exact absurd hi (by omega))
    (fun i hi => by match i, hi with | 0, _ => exact hg _ (by decide +kernel) | 1, _ => exact hg _ (by decide +kernel) | 2, _ => exact hg _ (by decide +kernel) | 3, _ => exact hg _ (by decide +kernel) | i + 4, hi => exact absurd hi (by omega))
    (fun i hi => by match i, hi with | 0, _ => exact hg _ (by decide +kernel) | 1, _ => exact hg _ (by decide +kernel) | 2, _ => exact hg _ (by decide +kernel) | 3, _ => exact hg _ (by decide +kernel) | i + 4, hi => exact absurd hi (by omega))
    (fun i hi j hj => by
      match i, hi with
      | 0, _ =>
        exact absurd hj (by simp)
      | 1, _ =>
        match j, hj with
        | 0, _ => exact hg _ (by decide +kernel)
        | 1, _ => exact hg _ (by decide +kernel)
        | 2, _ => exact hg _ (by decide +kernel)
        | 3, _ => exact hg _ (by decide +kernel)
        | 4, _ => exact hg _ (by decide +kernel)
        | 5, _ => exact hg _ (by decide +kernel)
        | 6, _ => exact hg _ (by decide +kernel)
        | 7, _ => exact hg _ (by decide +kernel)
        | 8, _ => exact hg _ (by decide +kernel)
        | j + 9, hj => exact absurd hj (by simp)
      | 2, _ =>
        match j, hj with
        | 0, _ => exact hg _ (by decide +kernel)
        | 1, _ => exact hg _ (by decide +kernel)
        | 2, _ => exact hg _ (by decide +kernel)
        | 3, _ => exact hg _ (by decide +kernel)
        | 4, _ => exact hg _ (by decide +kernel)
        | 5, _ => exact hg _ (by decide +kernel)
        | j + 6, hj => exact absurd hj (by simp)
      | 3, _ =>
        match j, hj with
        | 0, _ => exact hg _ (by decide +kernel)
        | 1, _ => exact hg _ (by decide +kernel)
        | 2, _ => exact hg _ (by decide +kernel)
        | 3, _ => exact hg _ (by decide +kernel)
        | j + 4, hj => exact absurd hj (by simp)
      | i + 4, hi => exact absurd hi (by omega)
    )
    (fun i j hi hj hij => by
      match i, j, hi, hj, hij with
      | 0, 0, _, _, h => exact absurd rfl h
      | 0, 1, _, _, _ => exact Or.inl (hg _ (by decide +kernel))
      | 0, 2, _, _, _ => exact Or.inl (hg _ (by decide +kernel))
      | 0, 3, _, _, _ => exact Or.inl (hg _ (by decide +kernel))
      | 1, 0, _, _, _ => exact Or.inr (hg _ (by decide +kernel))
      | 1, 1, _, _, h => exact absurd rfl h
      | 1, 2, _, _, _ => exact Or.inl (hg _ (by decide +kernel))
      | 1, 3, _, _, _ => exact Or.inl (hg _ (by decide +kernel))
      | 2, 0, _, _, _ => exact Or.inr (hg _ (by decide +kernel))
      | 2, 1, _, _, _ => exact Or.inr (hg _ (by decide +kernel))
      | 2, 2, _, _, h => exact absurd rfl h
      | 2, 3, _, _, _ => exact Or.inl (hg _ (by decide +kernel))
      | 3, 0, _, _, _ => exact Or.inr (hg _ (by decide +kernel))
      | 3, 1, _, _, _ => exact Or.inr (hg _ (by decide +kernel))
      | 3, 2, _, _, _ => exact Or.inr (hg _ (by decide +kernel))
      | 3, 3, _, _, h => exact absurd rfl h
      | i + 4, _, hi, _, _ => exact absurd hi (by omega)
      | _, j + 4, _, hj, _ => exact absurd hj (by omega)
    ) hA
  have hc : va_Z "java/lang/String" "COMPACT_STRINGS" "Z" (.int 1) A s s.heap := va_Zof (hts _ cw_0) (hts _ (List.mem_filter.mp tw_16).1) (va_eqi (hg (Cond.eq (.static "java/lang/String" "COMPACT_STRINGS" "Z") (.int 1)) (by decide +kernel))) hA
  have hq : va_Zq "jdk/internal/util/Preconditions" "SIOOBE_FORMATTER" "Ljava/util/function/BiFunction;" A s s.heap := va_Zqof (hts _ cw_1) (hts _ (List.mem_filter.mp tw_19).1) (hg (Cond.isRef (.static "jdk/internal/util/Preconditions" "SIOOBE_FORMATTER" "Ljava/util/function/BiFunction;")) (by decide +kernel)) hA
  obtain ⟨w, hw⟩ : ∃ w : Nat, va_Z "jdk/internal/util/Preconditions" "SIOOBE_FORMATTER" "Ljava/util/function/BiFunction;" .null A s s.heap ∨ va_Z "jdk/internal/util/Preconditions" "SIOOBE_FORMATTER" "Ljava/util/function/BiFunction;" (.ref w) A s s.heap := by
    rcases hq with z | ⟨u, z⟩
    · exact ⟨0, Or.inl z⟩
    · exact ⟨u, Or.inr z⟩
  obtain ⟨adW, hadW⟩ : ∃ adW : Nat → Nat, adW = fun i => if i = 100 then w else adV i := ⟨_, rfl⟩
  have eW : ∀ i, i < 4 → adW i = adV i := fun i hi => by
    rw [hadW]
    show (if i = 100 then w else adV i) = adV i
    rw [if_neg (by omega)]
  obtain ⟨ad, had⟩ : ∃ ad : Nat → Nat, ad = fun a => if a = 1100 then b else if a < 2000 then adK (a - 1000) else adW (a - 2000) := ⟨_, rfl⟩
  have e : ∀ i, i < 4 → ad (1000 + i) = adK i := fun i hi => by
    rw [had]
    show (if 1000 + i = 1100 then b else if 1000 + i < 2000 then adK (1000 + i - 1000) else adW (1000 + i - 2000)) = adK i
    rw [if_neg (by omega), if_pos (by omega), Nat.add_sub_cancel_left]
  have e2 : ∀ i, ad (2000 + i) = adW i := fun i => by
    rw [had]
    show (if 2000 + i = 1100 then b else if 2000 + i < 2000 then adK (2000 + i - 1000) else adW (2000 + i - 2000)) = adW i
    rw [if_neg (by omega), if_neg (by omega), Nat.add_sub_cancel_left]
  have e3 : ad 2100 = w := by
    rw [show (2100 : Nat) = 2000 + 100 by decide, e2, hadW]
    show (if (100 : Nat) = 100 then w else adV 100) = w
    rw [if_pos rfl]
  refine ⟨ad, adW, by rw [had]; rfl, ⟨⟨fun i hi => ?_, fun i j hi hj hij => ?_⟩, e2, hc, by rw [e3]; exact hw⟩, ?_⟩
  · have z := h1.1 i hi
    rw [← e i hi, ← eW i hi] at z
    exact z
  · have z : ad (1000 + i) = ad (1000 + j) := hij
    rw [e i hi, e j hj] at z
    exact h1.2 i j hi hj z
  · have e0 := h2 0 (by decide)
    have e1 := h2 1 (by decide)
    have e2 := h2 2 (by decide)
    have e3 := h2 3 (by decide)
    have f4 : (Term.string "CountyWatch" 376).eval #[Value.ref b] s none [] s = some (.ref (adK 1)) := va_eqR (hg (Cond.eq (.string "CountyWatch$Reader" 108) (.string "CountyWatch" 376)) (by decide +kernel)) e1
    have f5 : (Term.string "CountyWatchModel" 565).eval #[Value.ref b] s none [] s = some (.ref (adK 1)) := va_eqR (hg (Cond.eq (.string "CountyWatch$Reader" 108) (.string "CountyWatchModel" 565)) (by decide +kernel)) e1
    unfold h_strs
    exact List.forall_mem_cons.mpr ⟨by show vk_R _ _ _ (ad (1000 + 0)) s; rw [e 0 (by decide)]; exact vk_str (hts _ sw_0) e0, List.forall_mem_cons.mpr ⟨by show vk_R _ _ _ (ad (1000 + 1)) s; rw [e 1 (by decide)]; exact vk_str (hts _ sw_1) e1, List.forall_mem_cons.mpr ⟨by show vk_R _ _ _ (ad (1000 + 2)) s; rw [e 2 (by decide)]; exact vk_str (hts _ sw_2) e2, List.forall_mem_cons.mpr ⟨by show vk_R _ _ _ (ad (1000 + 3)) s; rw [e 3 (by decide)]; exact vk_str (hts _ sw_3) e3, List.forall_mem_cons.mpr ⟨by show vk_R _ _ _ (ad (1000 + 1)) s; rw [e 1 (by decide)]; exact vk_str (hts _ sw_4) f4, List.forall_mem_cons.mpr ⟨by show vk_R _ _ _ (ad (1000 + 1)) s; rw [e 1 (by decide)]; exact vk_str (hts _ sw_5) f5, fun _ h => absurd h List.not_mem_nil⟩⟩⟩⟩⟩⟩
theorem zw_308 : Cond.stringRef "CountyWatch" 308 "no such constable" ∈ lw_tbl := lw_m8 28 (by decide +kernel)
theorem zw_316 : Cond.stringRef "CountyWatch" 316 "no such what" ∈ lw_tbl := lw_m8 54 (by decide +kernel)
theorem zw_us : Cond.laysStatic Bundle.tN "UNASSIGNED_STACK" Bundle.steD ∈ lw_tbl := lw_m8 16 (by decide +kernel)
theorem zw_ss : Cond.laysStatic Bundle.tN "SUPPRESSED_SENTINEL" Bundle.listD ∈ lw_tbl := lw_m8 18 (by decide +kernel)
theorem lw_mm {w : Cond} (h : w ∈ tables_1) : w ∈ lw_tbl := List.mem_append_right _ h
theorem zw_all : (aE).all (fun w => decide (w ∈ tables_1_8) || decide (w ∈ tables_1_7) || decide (w ∈ tables_1_12) || decide (w ∈ tables_1_1) || decide (w ∈ tables_1)) = true := by decide +kernel
theorem st_Z {b : Nat} {s : State} (hts : ∀ w ∈ lw_tbl, w.before #[Value.ref b] s = true) (hgv : (Jvm.Cond.and given_1 narrow_1).before #[Value.ref b] s = true) (A : Nat → Prop) (hA : ∀ a : Nat, a < s.heap.size → ¬ A a) : Zx A s := by
  have hg := flat_of_before _ hgv
  have hin : (Cond.initialized Bundle.tN).before #[Value.ref b] s = true := hts _ (List.mem_filter.mp tw_22).1
  refine ⟨vx_Zqof (hts _ zw_us) hin (hg _ (by decide +kernel)) hA, vx_Zqof (hts _ zw_ss) hin (hg _ (by decide +kernel)) hA, ?_, ?_, fun w hw => ?_⟩
  · obtain ⟨a, c, cA, kA, q1, -⟩ := Cond.exactly_spec (args := #[Value.ref b]) (first := s) (o := none) (s := s) (idx := []) (t := .string "CountyWatch" 308) (cls := "java/lang/String") (hg (Cond.exactly (.string "CountyWatch" 308) "java/lang/String") (by decide +kernel))
    exact ⟨a, vk_str (hts _ zw_308) q1⟩
  · obtain ⟨a, c, cA, kA, q1, -⟩ := Cond.exactly_spec (args := #[Value.ref b]) (first := s) (o := none) (s := s) (idx := []) (t := .string "CountyWatch" 316) (cls := "java/lang/String") (hg (Cond.exactly (.string "CountyWatch" 316) "java/lang/String") (by decide +kernel))
    exact ⟨a, vk_str (hts _ zw_316) q1⟩
  · have z := List.all_eq_true.mp zw_all w hw
    simp only [Bool.or_eq_true, decide_eq_true_eq] at z
    have hm : w ∈ lw_tbl := by
      rcases z with (((z | z) | z) | z) | z
      · obtain ⟨i, hi⟩ := List.getElem?_of_mem z
        exact lw_m8 i hi
      · obtain ⟨i, hi⟩ := List.getElem?_of_mem z
        exact lw_m7 i hi
      · obtain ⟨i, hi⟩ := List.getElem?_of_mem z
        exact lw_m12 i hi
      · obtain ⟨i, hi⟩ := List.getElem?_of_mem z
        exact lw_m1 i hi
      · exact lw_mm z
    exact va_tabs (ft_ot w hw) rfl (hts w hm)
end
