/-! the law, on every script -/
def lX (L : Nat) (xs : Nat → Int32) : (Nat → Nat) → (Nat → Prop) → State → Prop := fun ad A s => va_X (ad 1100) L xs s s.heap ∧ ad 1100 < s.heap.size ∧ ¬ A (ad 1100) ∧ Zx A s
abbrev ML (L : Nat) (xs : Nat → Int32) : Mc_ := (lX L xs, x, code, 7, ret, room_1)
theorem xsL {L : Nat} {xs : Nat → Int32} : xs_ (ML L xs) := fun ad ad' A s he hX => by
  have e := he 1100 (by decide)
  show va_X (ad' 1100) L xs s s.heap ∧ ad' 1100 < s.heap.size ∧ ¬ A (ad' 1100) ∧ Zx A s
  rw [e]
  exact hX
section SCR
variable {L : Nat} {xs : Nat → Int32} {kc ks pc : Nat} {lv : List (Nat × Value)} {st : List Value} {h : Hp_} {K : Option Value → Hp_ → Prop}
theorem aw_sld {i : Int32} (n : Nat) (hn : i.toNatClampNeg = n) (hin : vp_in i L) (hd : decode code pc = .ok (.iaload, 1)) (k : AW (ML L xs) kc ks (pc + 1) lv (.int (xs n) :: st) h K) : AW (ML L xs) kc ks pc lv (.int i :: .ref 1100 :: st) h K := by
  intro l p e s m args below meth c dC dI cy A ad0 adV ad dom0 dom H locs ls hf hX hT hE hW hS hl ho hs
  subst hn
  exact va_sld hf.1 hf.2.1 hX.1 hX.2.1 hX.2.2.1 hS hin hd (k l p e s m args below meth c dC dI cy A ad0 adV ad dom0 dom H locs ls hf hX hT hE hW hS hl ho (ok_c ok_i (ok_t (ok_t hs))))
theorem aw_slen (hd : decode code pc = .ok (.arraylength, 1)) (k : AW (ML L xs) kc ks (pc + 1) lv (.int (Int32.ofNat L) :: st) h K) : AW (ML L xs) kc ks pc lv (.ref 1100 :: st) h K := by
  intro l p e s m args below meth c dC dI cy A ad0 adV ad dom0 dom H locs ls hf hX hT hE hW hS hl ho hs
  exact va_slen hf.1 hf.2.1 hX.1 hX.2.1 hX.2.2.1 hS hd (k l p e s m args below meth c dC dI cy A ad0 adV ad dom0 dom H locs ls hf hX hT hE hW hS hl ho (ok_c ok_i (ok_t hs)))
abbrev lv5 (i : Nat) : List (Nat × Value) := [(0, .ref 1100), (1, .ref 0), (2, .ref 1), (3, .ref 2), (4, .int (Int32.ofNat i))]
theorem aw_arg {i j : Nat} {n : Int} {v : Int32} (d0 : decode code pc = .ok (.aload_n 0, 1)) (d1 : decode code (pc + 1) = .ok (.iload 4, 2)) (d2 : decode code (pc + 3) = .ok (.iconst n, 1)) (d3 : decode code (pc + 4) = .ok (.iadd, 1)) (d4 : decode code (pc + 5) = .ok (.iaload, 1)) (hv : Int32.ofInt n = v) (hj : Int32.ofNat i + v = Int32.ofNat (i + j)) (hL : i + j < L) (lL : L ≤ 3072) (k : AW (ML L xs) kc ks (pc + 6) (lv5 i) (.int (xs (i + j)) :: st) h K) : AW (ML L xs) kc ks pc (lv5 i) st h K := by
  refine aw_aload_n (i := 0) rfl d0 0 rfl ?_
  refine aw_iload d1 4 rfl ?_
  refine aw_iconst (v := v) d2 hv ?_
  refine aw_iadd d3 ?_
  refine aw_vi (v2 := Int32.ofNat (i + j)) hj ?_
  exact aw_sld (i + j) (on_k (by omega)) (on_in hL (by omega)) d4 k
theorem aw_arg2 {i j : Nat} {n : Int} {v r : Int32} (d0 : decode code pc = .ok (.aload_n 0, 1)) (d1 : decode code (pc + 1) = .ok (.iload 4, 2)) (d2 : decode code (pc + 3) = .ok (.iconst n, 1)) (d3 : decode code (pc + 4) = .ok (.iadd, 1)) (d4 : decode code (pc + 5) = .ok (.iaload, 1)) (hv : Int32.ofInt n = v) (hj : Int32.ofNat i + v = Int32.ofNat (i + j)) (hL : i + j < L) (lL : L ≤ 3072) (k : AW (ML L xs) kc ks (pc + 6) [(0, .ref 1100), (1, .ref 0), (2, .ref 1), (3, .ref 2), (4, .int (Int32.ofNat i)), (5, .int r)] (.int (xs (i + j)) :: st) h K) : AW (ML L xs) kc ks pc [(0, .ref 1100), (1, .ref 0), (2, .ref 1), (3, .ref 2), (4, .int (Int32.ofNat i)), (5, .int r)] st h K := by
  refine aw_aload_n (i := 0) rfl d0 0 rfl ?_
  refine aw_iload d1 4 rfl ?_
  refine aw_iconst (v := v) d2 hv ?_
  refine aw_iadd d3 ?_
  refine aw_vi (v2 := Int32.ofNat (i + j)) hj ?_
  exact aw_sld (i + j) (on_k (by omega)) (on_in hL (by omega)) d4 k
/-- a call whose answer is thrown away -/
theorem aw_Kp {M' : Mc_} {n idx ci N a : Nat} {c : Ctr} {T : u_T} (vs : List Value) (hC : Hc M' c) (ma : am h (vs.reverse ++ [.ref a]) c.1) (I : Iv h) (hp : hm h c.2.1) (hd : decode code pc = .ok (.invokevirtual idx, 3)) (hm : cV_ M' n) (hkc : kc_ ci (mY M').cls T N) (hs : h_sh h a = some (ci + 10, N)) (hlk : Cond.methodLink x.cls idx (mY M') ∈ lw_g) (hn : vs.length = n) (hz : ((mR M').frames + 1 ≤ 2048 ∧ 8 + (mN M' + 11) + (mR M').locals ≤ 84000) ∧ (mR M').cells = 0 ∧ (mR M').slots = 0) (hk : kc ≤ 494584 ∧ ks ≤ 7612352) (hr : ∃ g, c.2.2.1 = some (.inl g)) (hq : decode code (pc + 3) = .ok (.pop, 1))
    (k : ∀ h', Iv h' → Fr c.2.2.2.2 h h' → AW (ML L xs) kc ks (pc + 4) lv [] h' K) : AW (ML L xs) kc ks pc lv (vs.reverse ++ [.ref a]) h K := by
  refine aw_Vk (M := ML L xs) (M' := M') vs hC ma I hp hd hm hkc hs hlk hn (by decide) ⟨hz.1, hz.2.1, hz.2.2, xsL⟩ hk (fun v h' kv => ?_)
  obtain ⟨⟨r, s, gh⟩, eg⟩ := hr
  have q := kv.2.2.2
  rw [eg] at q
  obtain ⟨x2, ev, y2, ey, _⟩ := q
  subst ev
  subst ey
  exact aw_pop hq rfl (k h' kv.1 kv.2.1)
theorem aw_Kv {M' : Mc_} {n idx ci N a : Nat} {c : Ctr} {T : u_T} (vs : List Value) (hC : Hc M' c) (ma : am h (vs.reverse ++ [.ref a]) c.1) (I : Iv h) (hp : hm h c.2.1) (hd : decode code pc = .ok (.invokevirtual idx, 3)) (hm : cV_ M' n) (hkc : kc_ ci (mY M').cls T N) (hs : h_sh h a = some (ci + 10, N)) (hlk : Cond.methodLink x.cls idx (mY M') ∈ lw_g) (hn : vs.length = n) (hz : ((mR M').frames + 1 ≤ 2048 ∧ 8 + (mN M' + 11) + (mR M').locals ≤ 84000) ∧ (mR M').cells = 0 ∧ (mR M').slots = 0) (hk : kc ≤ 494584 ∧ ks ≤ 7612352) (hr : c.2.2.1 = none)
    (k : ∀ h', Iv h' → Fr c.2.2.2.2 h h' → AW (ML L xs) kc ks (pc + 3) lv [] h' K) : AW (ML L xs) kc ks pc lv (vs.reverse ++ [.ref a]) h K := by
  refine aw_Vk (M := ML L xs) (M' := M') vs hC ma I hp hd hm hkc hs hlk hn (by decide) ⟨hz.1, hz.2.1, hz.2.2, xsL⟩ hk (fun v h' kv => ?_)
  have q := kv.2.2.2
  rw [hr] at q
  have ev : v = none := q
  subst ev
  exact k h' kv.1 kv.2.1
end SCR
abbrev k1_ : Option Value → Hp_ → Prop := fun v _ => v = some (.int 1)
theorem oa_1 {n : Nat} (h : n < 100000) : Int32.ofNat n + 1 = Int32.ofNat (n + 1) := on_s (by omega)
theorem oa_2 {n : Nat} (h : n < 100000) : Int32.ofNat n + 2 = Int32.ofNat (n + 2) := on_2 h
theorem oa_3 {n : Nat} (h : n < 100000) : Int32.ofNat n + 3 = Int32.ofNat (n + 3) := on_3 h
theorem oa_4 {n : Nat} (h : n < 100000) : Int32.ofNat n + 4 = Int32.ofNat (n + 4) := by
  have t : (4 : Int32).toInt = 4 := rfl
  have a := on_j (n := n) (by omega)
  exact Int32.toInt_inj.mp (by rw [tx_add (by rw [t]; omega) (by rw [t]; omega), t, on_j (n := n + 4) (by omega)]; omega)
theorem oa_5 {n : Nat} (h : n < 100000) : Int32.ofNat n + 5 = Int32.ofNat (n + 5) := by
  have t : (5 : Int32).toInt = 5 := rfl
  have a := on_j (n := n) (by omega)
  exact Int32.toInt_inj.mp (by rw [tx_add (by rw [t]; omega) (by rw [t]; omega), t, on_j (n := n + 5) (by omega)]; omega)
theorem oa_6 {n : Nat} (h : n < 100000) : Int32.ofNat n + Int32.ofInt 6 = Int32.ofNat (n + 6) := by
  have t : (Int32.ofInt 6).toInt = 6 := by decide
  have a := on_j (n := n) (by omega)
  exact Int32.toInt_inj.mp (by rw [tx_add (by rw [t]; omega) (by rw [t]; omega), t, on_j (n := n + 6) (by omega)]; omega)
/-! the room: what the history's rows have cost so far -/
def ph (N : Nat) : Nat := if N = 20000 then 60000 else 2 * N
theorem ph_le {N : Nat} (h : N ≤ 20000) : ph N ≤ 60000 := by
  unfold ph
  split <;> omega
def Rm (t N kc ks : Nat) : Prop := kc ≤ 202 + t ∧ ks ≤ 318709 + 17 * t + ph N ∧ N ≤ 20000
theorem Rm.up {t N kc ks : Nat} (R : Rm t N kc ks) : Rm (t + 1) N kc ks := ⟨by have := R.1; omega, by have := R.2.1; omega, R.2.2⟩
theorem Rm.con {t N kc ks : Nat} (R : Rm t N kc ks) : Rm (t + 1) N (kc + 1) (ks + 17) := ⟨by have := R.1; omega, by have := R.2.1; omega, R.2.2⟩
theorem Rm.abt {t N kc ks : Nat} (R : Rm t N kc ks) : Rm (t + 1) N (kc + 1) (ks + 6) := ⟨by have := R.1; omega, by have := R.2.1; omega, R.2.2⟩
theorem hcost_le {mc ms N N' : Nat} (h : hcost mc ms N N') (l : N' ≤ 20000) : mc ≤ 1 ∧ ms ≤ 20000 := by
  rcases h with ⟨a, b, c⟩ | ⟨a, b, c, d⟩
  · omega
  · omega
theorem Rm.tick {t N N' kc ks mc ms : Nat} (R : Rm t N kc ks) (h : hcost mc ms N N') (l : N' ≤ 20000) : Rm (t + 1) N' (kc + mc) (ks + ms) := by
  obtain ⟨r1, r2, r3⟩ := R
  rcases h with ⟨a, b, c⟩ | ⟨a, b, c, d⟩
  · subst c
    exact ⟨by omega, by omega, l⟩
  · refine ⟨by omega, ?_, l⟩
    have p : ph N = 2 * N := by
      unfold ph
      rw [if_neg (by omega)]
    rw [p] at r2
    unfold ph
    split
    · omega
    · omega
theorem Rm.ok {t N kc ks : Nat} (R : Rm t N kc ks) (h : t ≤ 600) : kc + 20 ≤ 494584 ∧ ks + 20020 ≤ 7612352 := by
  have p := ph_le R.2.2
  have r1 := R.1
  have r2 := R.2.1
  exact ⟨by omega, by omega⟩
theorem wLa_g : wLa ∈ lw_g := lw_c7 223 (by decide +kernel) (by decide +kernel)
theorem aw_La {L : Nat} {xs : Nat → Int32} {kc ks pc : Nat} {lv : List (Nat × Value)} {h : Hp_} {K : Option Value → Hp_ → Prop} (I : Iv h) (s2 : h_sh h 2 = some (3, 1)) (x1 x2 : Int32) (hd : decode code pc = .ok (.invokestatic 75, 3)) (hk : kc + 1 ≤ 494584 ∧ ks + 6 ≤ 7612352) (k : ∀ r h', Iv h' → Fr [2999] h h' → AW (ML L xs) (kc + 1) (ks + 6) (pc + 3) lv [.int r] h' K) : AW (ML L xs) kc ks pc lv [.ref 2, .int x2, .int x1, .ref 0] h K := by
  intro l p e s m args below meth c dC dI cy A ad0 adV ad dom0 dom H locs ls hf hX hT hE hW hS hl ho hs
  have htg := hf.2.2.2.2.2.2.2.1
  refine aw_back (K' := kLa h) (rest := []) (a := ([Value.ref 0, .int x1, .int x2, .ref 2].map (h_cv ad)).toArray) (mc := 1) (ms := 6) xsL hf hX hT hE hW hS hl ho (fun v hv => by cases hv) ?_ (fun v h' kk => ?_)
  · have hws : ∀ w ∈ wLa :: lw_g, ∀ (a' : Array Value) (U : State), s.WarmedH U.vm → w.before a' U = true := fun w hw a' U hWm => by
      have hw' : w ∈ lw_g := (List.mem_cons.mp hw).elim (fun e => e ▸ wLa_g) id
      exact word_at hWm (good_of_word (List.mem_filter.mp hw').2) (htg w hw')
    have hlen : ∀ sig, parseMethodDescriptor yLa.desc = some sig → 4 = sig.parameters.length := fun sig h => by
      have h2 : (parseMethodDescriptor "(LCountyWatch;II[J)I").map (fun d => d.parameters.length) = some 4 := by decide +kernel
      rw [h] at h2
      exact (Option.some.inj h2).symm
    exact vx_runSW (As := [Value.ref 0, .int x1, .int x2, .ref 2].map (h_cv ad)) ⟨hf.1, hf.2.1, hf.2.2.1, hf.2.2.2.2.2.1, htg⟩ (xl_met l dC dI cy ad adV dom H.size I s2 hW.1 x1 x2) ⟨⟨rfl, rfl, show 20 + 1 ≤ 2048 from by decide, show 8 + (5 + 11) + 2000 ≤ 84000 from by decide +kernel, hws, List.mem_cons_self⟩, htg _ wLa_g, htg _ tw_0, ⟨by decide, by decide⟩, hlen, htg _ tw_1661, htg _ tw_1662⟩ ⟨cz_blind, fun U hU hWm => ⟨rfl, cp_pre hf hT hW hS hU hWm, hX.2.2.2.go hS hU hWm (cp_sub hf.2.2.2.2.2.2.2.2.2 hW hS)⟩⟩ rfl rfl hl.1 rfl (lv_room (Nat.le_of_ble_eq_true rfl)) hd hk
  · obtain ⟨⟨r, er⟩, I', F'⟩ := kk
    subst er
    exact k r h' I' F'
/-! what else is kept: sightings, cases, acts, ranks -/
def Qe (h : Hp_) : Prop := ExK h
def exoE (ws : List Nat) : Bool := exoK ws
theorem qe_F : Qe HF := exK_F
theorem Qe.fr {ws : List Nat} {h h' : Hp_} (e : Qe h) (f : Fr ws h h') (o : exoE ws = true) : Qe h' := ExK.fr e f o
theorem Qe.mf {W : List Nat} {h h' : Hp_} (e : Qe h) (f : Mf W h h') (o : exoE W = true) : Qe h' := ExK.mf e f o
/-! what is kept besides the tape and the beats: roads, steps, men -/
def Qx (h : Hp_) : Prop := ExR h ∧ ExS h ∧ ExM h ∧ Qe h
def qxo (ws : List Nat) : Bool := exoR ws && exoS ws && exoM ws && exoE ws
theorem qx_F : Qx HF := ⟨exR_F, exS_F, exM_F, qe_F⟩
theorem Qx.fr {ws : List Nat} {h h' : Hp_} (e : Qx h) (f : Fr ws h h') (o : qxo ws = true) : Qx h' := by
  unfold qxo at o
  simp only [Bool.and_eq_true] at o
  exact ⟨e.1.fr f o.1.1.1, e.2.1.fr f o.1.1.2, e.2.2.1.fr f o.1.2, e.2.2.2.fr f o.2⟩
def Li (N : Nat) (h : Hp_) : Prop := Iv h ∧ J2 h ∧ h_sh h 2 = some (3, 1) ∧ (∃ c, h_r h 0 15 = some c ∧ h_sh h c = some (3, N)) ∧ (Rlf rlT h ∧ MefT h) ∧ Qx h
theorem Li.t {N : Nat} {h : Hp_} (L : Li N h) : LiT N h := ⟨L.1, L.2.1, L.2.2.1, L.2.2.2.1, L.2.2.2.2.1.1, L.2.2.2.2.1.2⟩
theorem Li.q {N : Nat} {h : Hp_} (L : Li N h) : Qx h := L.2.2.2.2.2
theorem LiT.mk {N : Nat} {h : Hp_} (T : LiT N h) (q : Qx h) : Li N h := ⟨T.1, T.2.1, T.2.2.1, T.2.2.2.1, ⟨T.2.2.2.2.1, T.2.2.2.2.2⟩, q⟩
theorem Li.z {N : Nat} {h : Hp_} (L : Li N h) : Li0 N h := ⟨L.1, L.2.1, L.2.2.1, L.2.2.2.1⟩
theorem li_F : Li 0 HF := liT_F.mk qx_F
theorem Li.fr {N : Nat} {ws : List Nat} {h h' : Hp_} (L : Li N h) (I : Iv h') (f : Fr ws h h') (o : (((jso ws && !inw ws 0 15) && rlT.all (fun q => !inw ws q.1.1 q.1.2 && !inw ws 1 q.2) && (!inw ws 0 7 && off ws 15 && exoTB ws)) && qxo ws) = true) : Li N h' := by
  rw [Bool.and_eq_true] at o
  exact (L.t.fr I f o.1).mk (L.q.fr f o.2)
theorem Li.fd {N : Nat} {h h1 h2 : Hp_} {r1 r2 : Int32} {L0 : List Int32} (L : Li N h) (k1 : Iv h1 ∧ Fr [11001, 31999] h h1 ∧ Fdx L0 h r1 h1) (k2 : Iv h2 ∧ Fr [1032, 225999] h1 h2 ∧ Fdm L0 h1 r2 h2) : Li N h2 ∧ r1 = r2 := by
  have z := L.t.fd k1 k2
  exact ⟨z.1.mk ((L.q.fr k1.2.1 (by decide +kernel)).fr k2.2.1 (by decide +kernel)), z.2⟩
theorem Li.en {N : Nat} {h h1 h2 : Hp_} {x1 r1 r2 : Int32} (L : Li N h) (k1 : Iv h1 ∧ Fr [11001] h h1 ∧ (((0 ≤ x1 ∧ x1 ≤ h_i h 11 1) ∧ r1 = 1 ∧ h1 = h_im h 11 1 x1) ∨ (¬ (0 ≤ x1 ∧ x1 ≤ h_i h 11 1) ∧ r1 = 0 ∧ h1 = h))) (k2 : Iv h2 ∧ Fr [1032] h1 h2 ∧ (((0 ≤ x1 ∧ x1 ≤ h_i h1 1 32) ∧ r2 = 1 ∧ h2 = h_im h1 1 32 x1) ∨ (¬ (0 ≤ x1 ∧ x1 ≤ h_i h1 1 32) ∧ r2 = 0 ∧ h2 = h1))) : Li N h2 ∧ r1 = r2 := by
  have z := L.t.en k1 k2
  exact ⟨z.1.mk ((L.q.fr k1.2.1 (by decide +kernel)).fr k2.2.1 (by decide +kernel)), z.2⟩
theorem Li.pt {N : Nat} {h h1 h2 : Hp_} {x1 x2 x3 r1 r2 : Int32} (L : Li N h) (k1 : Iv h1 ∧ PtX x1 x2 x3 h r1 h1) (k2 : Iv h2 ∧ PtM x1 x2 x3 h1 r2 h2) : Li N h2 ∧ r1 = r2 := by
  have z := ExR.pt L.1 L.q.1 k1.2 k2.2
  exact ⟨((L.t.fr k1.1 k1.2.1 (by decide +kernel)).fr k2.1 k2.2.1 (by decide +kernel)).mk ⟨z.1, (L.q.2.1.fr k1.2.1 (by decide +kernel)).fr k2.2.1 (by decide +kernel), L.q.2.2.1.pt L.1 k2.1 L.q.1 k1.2 k2.2, (L.q.2.2.2.fr k1.2.1 (by decide +kernel)).fr k2.2.1 (by decide +kernel)⟩, z.2⟩
theorem Li.bt {N : Nat} {h h1 h2 : Hp_} {r1 r2 : Int32} (L : Li N h) (k1 : Iv h1 ∧ Fr wbx h h1 ∧ Btx h r1 h1) (k2 : (Iv h2 ∧ J2 h2) ∧ Btm (h_i h 31) (xn h) h1 r2 h2) : Li N h2 ∧ r1 = r2 := by
  have z := L.t.bt k1 k2
  exact ⟨z.1.mk ⟨(L.q.1.fr k1.2.1 (by decide +kernel)).fr k2.2.1 (by decide +kernel), L.q.2.1.bt L.t k1 k2, L.q.2.2.1.bt L.t k1 k2, (L.q.2.2.2.fr k1.2.1 (by decide +kernel)).fr k2.2.1 (by decide +kernel)⟩, z.2⟩
theorem ExM.j2 {h : Hp_} (I : Iv h) (x : ExM h) (e : h_i h 12 3 = h_i h 1 42) : J2 h := j2_of (s := sX h) I (by rw [← x.1.1]; exact x.m I) x.1.2.2.2 (rwX_in I).1 (by rw [← e]; exact x.2.2.1) x.2.2.2.1
theorem Li.md {N : Nat} {h h1 h2 : Hp_} (L : Li N h) (I1 : Iv h1) (f : Fr wMx h h1) (z : Iv h2 ∧ Fr mwR h1 h2 ∧ ExM h2) (e9 : Qe h2) : Li N h2 := by
  have T1 : LiT N h1 := L.t.fr I1 f (by decide +kernel)
  have e : h_i h2 12 3 = h_i h2 1 42 := by
    rw [(z.2.1.2 12 3 (by decide +kernel)).1, (f.2 12 3 (by decide +kernel)).1, (z.2.1.2 1 42 (by decide +kernel)).1, (f.2 1 42 (by decide +kernel)).1]
    exact L.t.r2
  exact (T1.sr z.1 (z.2.2.j2 z.1 e) (z.2.1.more (by decide +kernel))).mk ⟨(L.q.1.fr f (by decide +kernel)).fr z.2.1 (by decide +kernel), (L.q.2.1.fr f (by decide +kernel)).fr z.2.1 (by decide +kernel), z.2.2, e9⟩
theorem Li.me {N : Nat} {h h1 h2 : Hp_} (L : Li N h) (I1 : Iv h1) (f : Fr wBx h h1) (z : Iv h2 ∧ Fr mwB h1 h2 ∧ ExM h2) (e9 : Qe h2) : Li N h2 := by
  have T1 : LiT N h1 := L.t.fr I1 f (by decide +kernel)
  have e : h_i h2 12 3 = h_i h2 1 42 := by
    rw [(z.2.1.2 12 3 (by decide +kernel)).1, (f.2 12 3 (by decide +kernel)).1, (z.2.1.2 1 42 (by decide +kernel)).1, (f.2 1 42 (by decide +kernel)).1]
    exact L.t.r2
  exact (T1.sr z.1 (z.2.2.j2 z.1 e) (z.2.1.more (by decide +kernel))).mk ⟨(L.q.1.fr f (by decide +kernel)).fr z.2.1 (by decide +kernel), (L.q.2.1.fr f (by decide +kernel)).fr z.2.1 (by decide +kernel), z.2.2, e9⟩
theorem Li.x {N : Nat} {h : Hp_} (L : Li N h) : ExM h := L.q.2.2.1
theorem Li.k {N : Nat} {h : Hp_} (L : Li N h) : ExK h := L.q.2.2.2
theorem Li.n0 {N : Nat} {h : Hp_} (L : Li N h) : h_i h 0 0 = h_i h 1 0 := L.x.1.2.1
theorem c_acX (d : Nat) {h : Hp_} (I : Iv h) (x1 : Int32) : Ci (m_X11_act (d + 141) 0 0) [.ref 0, .int x1] h (fun r h' => Iv h' ∧ Fr wrx_13 h h' ∧ Rlx_13 x1 h r h' ∧ RcX_13 x1 h h') := c_acty d I x1
theorem c_acM (d : Nat) {b : Nat → Int32} {n : Nat} {h : Hp_} (I : Iv h) (q : Qt b n h) (x1 : Int32) : Ci (m_X12_act (d + 80 + 61) 0 0) [.ref 1, .int x1] h (fun r h' => ((Iv h' ∧ Fr wzt h h') ∧ Rlm b n 0 x1 h r h') ∧ RcM b n 0 x1 h h') := c_actg d q.2.1 I q.1 x1
theorem Li.ac {N : Nat} {h h1 h2 : Hp_} {x1 r1 r2 : Int32} (L : Li N h) (k1 : Iv h1 ∧ Fr wrx_13 h h1 ∧ Rlx_13 x1 h r1 h1 ∧ RcX_13 x1 h h1) (k2 : ((Iv h2 ∧ Fr wzt h1 h2) ∧ Rlm (h_i h 31) (xn h) 0 x1 h1 r2 h2) ∧ RcM (h_i h 31) (xn h) 0 x1 h1 h2) : Li N h2 ∧ r1 = r2 := by
  have z := L.t.act ⟨k1.1, k1.2.1, k1.2.2.1⟩ k2.1
  exact ⟨z.1.mk ⟨(L.q.1.fr k1.2.1 (by decide +kernel)).fr k2.1.1.2 (by decide +kernel), (L.q.2.1.fr k1.2.1 (by decide +kernel)).fr k2.1.1.2 (by decide +kernel), (L.x.fr k1.2.1 (by decide +kernel)).fr k2.1.1.2 (by decide +kernel), ExK.ac L.k L.1 L.n0 k1.2.1 k2.1.1.2 k1.2.2 ⟨k2.1.2, k2.2⟩⟩, z.2⟩
theorem c_paX (d : Nat) {h : Hp_} (I : Iv h) (x1 : Int32) : Ci (m_X11_pay (d + 141) 0 0) [.ref 0, .int x1] h (fun r h' => Iv h' ∧ Fr wrx_14 h h' ∧ Rlx_14 x1 h r h') := c_payx d I x1
theorem c_paM (d : Nat) {b : Nat → Int32} {n : Nat} {h : Hp_} (I : Iv h) (q : Qt b n h) (x1 : Int32) : Ci (m_X12_pay (d + 80 + 61) 0 0) [.ref 1, .int x1] h (fun r h' => ((Iv h' ∧ Fr wzt h h') ∧ Rlm b n 1 x1 h r h') ∧ RcM b n 1 x1 h h') := c_payg d q.2.1 I q.1 x1
theorem Li.pa {N : Nat} {h h1 h2 : Hp_} {x1 r1 r2 : Int32} (L : Li N h) (k1 : Iv h1 ∧ Fr wrx_14 h h1 ∧ Rlx_14 x1 h r1 h1) (k2 : ((Iv h2 ∧ Fr wzt h1 h2) ∧ Rlm (h_i h 31) (xn h) 1 x1 h1 r2 h2) ∧ RcM (h_i h 31) (xn h) 1 x1 h1 h2) : Li N h2 ∧ r1 = r2 := by
  have z := L.t.pay k1 k2.1
  exact ⟨z.1.mk ⟨(L.q.1.fr k1.2.1 (by decide +kernel)).fr k2.1.1.2 (by decide +kernel), (L.q.2.1.fr k1.2.1 (by decide +kernel)).fr k2.1.1.2 (by decide +kernel), (L.x.fr k1.2.1 (by decide +kernel)).fr k2.1.1.2 (by decide +kernel), ExK.pa L.k L.1 k1.2.1 k2.1.1.2 ⟨k2.1.2, k2.2⟩⟩, z.2⟩
theorem Li.fn {N : Nat} {h h1 h2 : Hp_} {x1 x2 x3 x4 x5 r1 r2 : Int32} (L : Li N h) (k1 : Iv h1 ∧ Fr [17007, 57999, 58999, 59999, 60999, 61999] h h1 ∧ Fnx x1 x2 x3 x4 x5 h r1 h1) (k2 : Iv h2 ∧ Fr [1079, 249999, 250999, 251999, 252999, 253999] h1 h2 ∧ Fnm x1 x2 x3 x4 x5 h1 r2 h2) : Li N h2 ∧ r1 = r2 := by
  have z := ExK.fn L.k L.1 k1.2.1 k2.2.1 k1.2.2 k2.2.2
  exact ⟨((L.t.fr k1.1 k1.2.1 (by decide +kernel)).fr k2.1 k2.2.1 (by decide +kernel)).mk ⟨(L.q.1.fr k1.2.1 (by decide +kernel)).fr k2.2.1 (by decide +kernel), (L.q.2.1.fr k1.2.1 (by decide +kernel)).fr k2.2.1 (by decide +kernel), (L.x.fr k1.2.1 (by decide +kernel)).fr k2.2.1 (by decide +kernel), z.1⟩, z.2⟩
theorem Li.on {N : Nat} {h h1 h2 : Hp_} {x1 r1 r2 : Int32} (L : Li N h) (k1 : Iv h1 ∧ Fr [18003, 71999, 72999] h h1 ∧ Onx x1 h r1 h1) (k2 : Iv h2 ∧ Fr [1096, 262999, 263999] h1 h2 ∧ Onm x1 h1 r2 h2) : Li N h2 ∧ r1 = r2 := by
  have z := ExK.on L.k L.1 L.n0 k1.2.1 k2.2.1 k1.2.2 k2.2.2
  exact ⟨((L.t.fr k1.1 k1.2.1 (by decide +kernel)).fr k2.1 k2.2.1 (by decide +kernel)).mk ⟨(L.q.1.fr k1.2.1 (by decide +kernel)).fr k2.2.1 (by decide +kernel), (L.q.2.1.fr k1.2.1 (by decide +kernel)).fr k2.2.1 (by decide +kernel), (L.x.fr k1.2.1 (by decide +kernel)).fr k2.2.1 (by decide +kernel), z.1⟩, z.2⟩
theorem Li.rn {N : Nat} {h h1 h2 : Hp_} {x1 x2 x3 r1 r2 : Int32} (L : Li N h) (k1 : Iv h1 ∧ Fr [21004, 104999, 105999, 106999, 107999] h h1 ∧ ocrk (okrx (h_i h 0 7) (h_i h 21 4) x1 x2 x3) (h_i h 21 4) r1 (h_i h1 21 4) ∧ ((okrx (h_i h 0 7) (h_i h 21 4) x1 x2 x3 ∧ ∀ k, h_i h1 104 k = (if k = (h_i h 21 4).toNatClampNeg then x1 else h_i h 104 k) ∧ h_i h1 105 k = (if k = (h_i h 21 4).toNatClampNeg then x2 else h_i h 105 k) ∧ h_i h1 106 k = (if k = (h_i h 21 4).toNatClampNeg then x3 else h_i h 106 k) ∧ h_i h1 107 k = (if k = (h_i h 21 4).toNatClampNeg then h_i h 0 0 else h_i h 107 k)) ∨ (¬ okrx (h_i h 0 7) (h_i h 21 4) x1 x2 x3 ∧ h1 = h))) (k2 : Iv h2 ∧ Fr [1029, 221999, 222999, 223999, 224999] h1 h2 ∧ ocrk (okrn (h_i h1 1 7) (h_i h1 1 29) x1 x2 x3) (h_i h1 1 29) r2 (h_i h2 1 29) ∧ ((okrn (h_i h1 1 7) (h_i h1 1 29) x1 x2 x3 ∧ ∀ k, h_i h2 221 k = (if k = (h_i h1 1 29).toNatClampNeg then x1 else h_i h1 221 k) ∧ h_i h2 222 k = (if k = (h_i h1 1 29).toNatClampNeg then x2 else h_i h1 222 k) ∧ h_i h2 223 k = (if k = (h_i h1 1 29).toNatClampNeg then x3 else h_i h1 223 k) ∧ h_i h2 224 k = (if k = (h_i h1 1 29).toNatClampNeg then h_i h1 1 0 else h_i h1 224 k)) ∨ (¬ okrn (h_i h1 1 7) (h_i h1 1 29) x1 x2 x3 ∧ h2 = h1))) : Li N h2 ∧ r1 = r2 := by
  have z := ExK.rn L.k L.1 L.x.1.1 L.n0 k1 k2
  exact ⟨((L.t.fr k1.1 k1.2.1 (by decide +kernel)).fr k2.1 k2.2.1 (by decide +kernel)).mk ⟨(L.q.1.fr k1.2.1 (by decide +kernel)).fr k2.2.1 (by decide +kernel), (L.q.2.1.fr k1.2.1 (by decide +kernel)).fr k2.2.1 (by decide +kernel), (L.x.fr k1.2.1 (by decide +kernel)).fr k2.2.1 (by decide +kernel), z.1⟩, z.2⟩
theorem c_dwL {N : Nat} (d : Nat) {h : Hp_} (I : Iv h) (L : Li N h) (x1 x2 x3 : Int32) : Ci (m_X11_draw (d + 5) 0 0) [.ref 0, .int x1, .int x2, .int x3] h (fun r h' => Iv h' ∧ Fr wMx h h' ∧ DxX x1 x2 x3 h r h' ∧ LxX (fB tnB (h_i h 0 0) (fDw (h_i h 0 0) (wI h) x2 x3 (h_i h (401 + x1.toNatClampNeg))).1 (h_i h)) h r h') := c_dwK d I L.x L.k x1 x2 x3
theorem c_dwN {N : Nat} (d : Nat) {h h1 : Hp_} (I1 : Iv h1) (L : Li N h) (f : Fr wMx h h1) (x1 x2 x3 : Int32) : Ci (m_X12_draw (d + 5) 0 0) [.ref 1, .int x1, .int x2, .int x3] h1 (fun r h' => DwP PU (fun _ _ b => b) x1 x2 x3 (h_i h (401 + x1.toNatClampNeg)) () h1 r h' ∧ LxM (fB tnB (h_i h 0 0) (fDw (h_i h 0 0) (wI h) x2 x3 (h_i h (401 + x1.toNatClampNeg))).1 (h_i h)) h h1 r h') := c_dwKM d I1 L.1 L.x L.q.1 L.k f x1 x2 x3
theorem Li.dw {N : Nat} {h h1 h2 : Hp_} {x1 x2 x3 r1 r2 : Int32} (L : Li N h) (k1 : Iv h1 ∧ Fr wMx h h1 ∧ DxX x1 x2 x3 h r1 h1 ∧ LxX (fB tnB (h_i h 0 0) (fDw (h_i h 0 0) (wI h) x2 x3 (h_i h (401 + x1.toNatClampNeg))).1 (h_i h)) h r1 h1) (k2 : DwP PU (fun _ _ b => b) x1 x2 x3 (h_i h (401 + x1.toNatClampNeg)) () h1 r2 h2 ∧ LxM (fB tnB (h_i h 0 0) (fDw (h_i h 0 0) (wI h) x2 x3 (h_i h (401 + x1.toNatClampNeg))).1 (h_i h)) h h1 r2 h2) : Li N h2 ∧ r1 = r2 := by
  have z := ExM.dw L.1 L.x L.q.1 k1.2.1 k1.2.2.1 k2.1
  exact ⟨L.md k1.1 k1.2.1 ⟨z.1, z.2.1, z.2.2.1⟩ (ExK.dw L.k L.1 L.x L.q.1 k1.2.1 k1.2.2 k2), z.2.2.2⟩
theorem c_ilL {N : Nat} (d : Nat) {h : Hp_} (I : Iv h) (L : Li N h) (x1 x2 : Int32) (b2 : x2 = 0 ∨ x2 = 1 := by decide) : Ci (m_X11_ill (d + 3) 0 0) [.ref 0, .int x1, .int x2] h (fun r h' => Iv h' ∧ Fr wMx h h' ∧ (x2 = 0 ∨ x2 = 1) ∧ IxX x1 x2 h r h' ∧ LxX (ilB x1 x2 (h_i h 0 0) (h_i h)) h r h') := c_ilK d I L.x L.k x1 x2 b2
theorem c_ilN {N : Nat} (d : Nat) {h h1 : Hp_} (I1 : Iv h1) (L : Li N h) (f : Fr wMx h h1) (x1 x2 : Int32) (b2 : x2 = 0 ∨ x2 = 1 := by decide) : Ci (m_X12_ill (d + 2) 0 0) [.ref 1, .int x1, .int x2] h1 (fun r h' => IxM x1 x2 (h_i h (401 + x1.toNatClampNeg)) h1 r h' ∧ LxM (ilB x1 x2 (h_i h 0 0) (h_i h)) h h1 r h') := c_ilKM d I1 L.1 L.x L.q.1 L.k f x1 x2 b2
theorem Li.il {N : Nat} {h h1 h2 : Hp_} {x1 x2 r1 r2 : Int32} (L : Li N h) (k1 : Iv h1 ∧ Fr wMx h h1 ∧ (x2 = 0 ∨ x2 = 1) ∧ IxX x1 x2 h r1 h1 ∧ LxX (ilB x1 x2 (h_i h 0 0) (h_i h)) h r1 h1) (k2 : IxM x1 x2 (h_i h (401 + x1.toNatClampNeg)) h1 r2 h2 ∧ LxM (ilB x1 x2 (h_i h 0 0) (h_i h)) h h1 r2 h2) : Li N h2 ∧ r1 = r2 := by
  have z := ExM.il L.1 L.x L.q.1 k1.2.1 k1.2.2.1 k1.1 k1.2.2.2.1 k2.1
  exact ⟨L.md k1.1 k1.2.1 ⟨z.1, z.2.1, z.2.2.1⟩ (ExK.il L.k L.1 L.x L.q.1 k1.2.1 k1.2.2.1 k1.1 k1.2.2.2 k2), z.2.2.2⟩
theorem c_bgL {N : Nat} (d : Nat) {h : Hp_} (I : Iv h) (L : Li N h) (x1 x2 : Int32) : Ci (m_X11_begin (d + 6) 0 0) [.ref 0, .int x1, .int x2] h (fun r h' => Iv h' ∧ Fr wBx h h' ∧ BgX x1 x2 h r h' ∧ LxX (fB tnB (h_i h 0 0) (BgF x1 x2 h).1 (h_i h)) h r h') := c_bgK d I L.x L.k L.q.2.1 L.t.2.2.2.2.2.2.2 x1 x2
theorem c_bgN {N : Nat} (d : Nat) {h h1 : Hp_} (I1 : Iv h1) (L : Li N h) (f : Fr wBx h h1) (x1 x2 : Int32) : Ci (m_X12_begin (d + 4) 0 0) [.ref 1, .int x1, .int x2] h1 (fun r h' => BgM x1 x2 h h1 r h' ∧ LxM (fB tnB (h_i h 0 0) (BgF x1 x2 h).1 (h_i h)) h h1 r h') := c_bgKM d I1 L.1 L.x L.k L.q.1 L.q.2.1 L.t.r2 f x1 x2
theorem Li.bg {N : Nat} {h h1 h2 : Hp_} {x1 x2 r1 r2 : Int32} (L : Li N h) (k1 : Iv h1 ∧ Fr wBx h h1 ∧ BgX x1 x2 h r1 h1 ∧ LxX (fB tnB (h_i h 0 0) (BgF x1 x2 h).1 (h_i h)) h r1 h1) (k2 : BgM x1 x2 h h1 r2 h2 ∧ LxM (fB tnB (h_i h 0 0) (BgF x1 x2 h).1 (h_i h)) h h1 r2 h2) : Li N h2 ∧ r1 = r2 := by
  have z := ExM.bg L.1 L.x L.q.1 L.q.2.1 k1.1 k1.2.1 k1.2.2.1 k2.1
  exact ⟨L.me k1.1 k1.2.1 ⟨z.1, z.2.1, z.2.2.1⟩ (ExK.bg L.k L.1 L.x L.q.1 L.q.2.1 k1.1 k1.2.1 k1.2.2 k2), z.2.2.2⟩
theorem c_tkL {N : Nat} (d : Nat) {h : Hp_} (I : Iv h) (L : Li N h) (x1 : Int32) {c n : Nat} (hc : h_r h 0 15 = some c) (hs : h_sh h c = some (3, n)) (hN : n ≤ 20000) : ∃ mc ms N', N' ≤ 20000 ∧ hcost mc ms n N' ∧ Ci (m_X11_tick (d + 8) mc ms) [.ref 0, .int x1] h (TkL (h_i h 0 7).toNatClampNeg N' (sX h) x1 h) := c_tkK d I L.x L.k L.q.1 L.q.2.1 (fun k hk => (L.t.2.2.2.2.2.2.2 k hk).1) x1 hc hs hN
theorem c_tmL {N : Nat} (d : Nat) {h h1 : Hp_} (I1 : Iv h1) (J1 : J2 h1) (L : Li N h) (f : Mf wsX h h1) (x1 : Int32) : Ci (m_X12_tick (d + 10) 0 0) [.ref 1, .int x1] h1 (TmL (h_i h 0 7).toNatClampNeg (h_i h 16 7).toNatClampNeg (sX h) x1 h h1) := c_tmK d I1 J1 L.1 L.x L.k L.q.1 L.q.2.1 L.t.r2 f x1
theorem Li.tk {N N' : Nat} {h h1 h2 : Hp_} {x1 r1 r2 : Int32} (L : Li N h) (k1 : TkL (h_i h 0 7).toNatClampNeg N' (sX h) x1 h r1 h1) (k2 : TmL (h_i h 0 7).toNatClampNeg (h_i h 16 7).toNatClampNeg (sX h) x1 h h1 r2 h2) : Li N' h2 := (L.t.tick2 k1.1 k2.1.1).mk ⟨(L.q.1.mf k1.1.2.1 (by decide +kernel)).fr k2.1.1.2.2.1 (by decide +kernel), (L.q.2.1.mf k1.1.2.1 (by decide +kernel)).fr k2.1.1.2.2.1 (by decide +kernel), ExM.tk L.1 L.x L.q.1 L.q.2.1 k1.2.1 k2.1, ExK.tk L.k L.1 L.x k1 k2⟩
theorem Li.cn {N : Nat} {h h1 h2 : Hp_} {x1 x2 x3 r1 r2 : Int32} (L : Li N h) (k1 : Cy x1 x2 x3 h r1 h1 ∧ CyA x1 x2 x3 h h1) (k2 : Iv h2 ∧ J2 h2 ∧ Sn h1 h2 ∧ ocm (h_i h1 1 7) x1 x2 x3 r2 (h_i h2 1 7) ∧ Cw (okm (h_i h1 1 7) x1 x2 x3) (h_i h1 1 7) x1 h1 h2 ∧ CwA x1 x2 x3 h1 h2) : Li N h2 := (L.t.con2 k1.1 ⟨k2.1, k2.2.1, k2.2.2.1, k2.2.2.2.1, k2.2.2.2.2.1⟩).mk ⟨(L.q.1.mf k1.1.1.2.1 (by decide +kernel)).fr k2.2.2.1 (by decide +kernel), (L.q.2.1.mf k1.1.1.2.1 (by decide +kernel)).fr k2.2.2.1 (by decide +kernel), (ExM.cn L.1 L.x L.q.1 k1 ⟨k2.2.2.2.1, k2.2.2.2.2.2⟩).1, ExK.con L.k L.1 L.x k1 ⟨k2.2.2.2.1, k2.2.2.2.2.2⟩ k2.2.2.2.2.1⟩
theorem c_hasX (d : Nat) {h : Hp_} (w : Wf h) (x1 : Int32) : Ci (m_X4_has (d + 0) 0 0) [.ref 17, .int x1] h (fun r h' => (((0 ≤ x1 ∧ x1 < h_i h 17 16) ∧ r = 1) ∨ (¬ (0 ≤ x1 ∧ x1 < h_i h 17 16) ∧ r = 0)) ∧ h' = h) := t_X4_has d h w x1 _ ⟨fun z => ⟨Or.inr ⟨fun u => by
  have a := q_lt.mp z
  have b := q_le.mp u.1
  omega, rfl⟩, rfl⟩, fun z => ⟨fun y => ⟨Or.inr ⟨fun u => by
  have a := q_le.mp y
  have b := q_lt.mp u.2
  omega, rfl⟩, rfl⟩, fun y => ⟨Or.inl ⟨⟨q_le.mpr (q_nlt z), q_lt.mpr (q_nle y)⟩, rfl⟩, rfl⟩⟩⟩
theorem le_s1 {x n : Int32} (b : 0 ≤ n.toInt ∧ n.toInt ≤ 1000) : (0 ≤ x ∧ x ≤ n - 1) ↔ (0 ≤ x ∧ x < n) := by
  have t1 : (1 : Int32).toInt = 1 := rfl
  have e : (n - 1).toInt = n.toInt - 1 := by rw [tx_sub (by rw [t1]; omega) (by rw [t1]; omega), t1]
  refine ⟨fun u => ⟨u.1, q_lt.mpr ?_⟩, fun u => ⟨u.1, q_le.mpr ?_⟩⟩
  · have := q_le.mp u.2
    omega
  · have := q_lt.mp u.2
    omega
theorem s_in {h : Hp_} (I : Iv h) {x1 : Int32} (c : 0 ≤ x1 ∧ x1 < h_i h 17 16) : (0 ≤ x1.toInt ∧ x1.toInt < (h_i h 17 16).toInt) ∧ vp_in x1 300 ∧ x1.toNatClampNeg < (h_i h 17 16).toNatClampNeg ∧ x1.toNatClampNeg < 300 ∧ Int32.ofNat x1.toNatClampNeg = x1 ∧ (0 ≤ x1.toInt ∧ x1.toInt ≤ 299) := by
  have a := q_le.mp c.1
  have b := q_lt.mp c.2
  rw [show (0 : Int32).toInt = 0 from rfl] at a
  have r := (iq17 I).2
  have n := n_nat r.1
  have nx := n_nat a
  exact ⟨⟨a, b⟩, v300 ⟨a, by omega⟩, by omega, by omega, of_nat32 a, a, by omega⟩
/-! what should have been done, as known at q -/
def shQ (E : Enl) (b : Bl) (L at_ : Nat → Int32) (n m x1 x2 v : Int32) : Prop := ((0 ≤ x1 ∧ x1 < n) ∧ at_ x1.toNatClampNeg ≤ x2 ∧ x2 ≤ m → v = evB E (at_ x1.toNatClampNeg / 1440) x2 L x1.toNatClampNeg b) ∧ (¬ ((0 ≤ x1 ∧ x1 < n) ∧ at_ x1.toNatClampNeg ≤ x2 ∧ x2 ≤ m) → v = -1)
theorem c_cmX {N : Nat} (d : Nat) {h : Hp_} (I : Iv h) (L : Li N h) (x1 x2 : Int32) : Ci (m_X11_should (d + 4) 0 0) [.ref 0, .int x1, .int x2] h (fun r h' => Iv h' ∧ Fr [41999] h h' ∧ shQ (El h) (h_i h) (h_i h 70) (h_i h 66) (h_i h 17 16) (h_i h 0 0) x1 x2 r) := by
  refine t_X11_should d h I.1 x1 x2 _ (Ci.mono (c_hasX d I.1 x1) (fun r h1 k => ?_))
  obtain ⟨k, e1⟩ := k
  subst e1
  rcases k with ⟨c, e⟩ | ⟨c, e⟩
  · have s := s_in I c
    refine ⟨I.1, fun z => absurd (e.symm.trans z) (by decide), fun _ => t_X4_minuteOf d h1 I.1 x1 _ (Ci.mono (c_has4 d I.1 s.1) (fun r2 h2 k2 => ?_))⟩
    obtain ⟨e2, eh⟩ := k2
    subst eh
    refine ⟨I.1, fun z => absurd (e2.symm.trans z) (by decide), fun _ => ⟨s.2.1, I.1, fun y => t_X4_due d h2 I.1 x1 x2 _ (Ci.mono (c_has4 d I.1 s.1) (fun r3 h3 k3 => ?_)), fun y => ⟨I, Fr.rf _ _, fun u => absurd u.2 y, fun _ => rfl⟩⟩⟩
    obtain ⟨e3, eh⟩ := k3
    subst eh
    refine ⟨I.1, fun _ => ⟨s.2.1, Ci.mono (c_inf d I _ _) (fun r8 h6 k6 => ?_)⟩, fun z => absurd (e3.symm.trans z) (by decide)⟩
    obtain ⟨eh, e8⟩ := k6
    subst eh
    rw [e8]
    exact ⟨I.1, Ci.mono (c_ans d (E := El h6) I (L.k.pb I L.x).2.2.2.2.2 s.2.2.2.2.2 _ _) (fun r11 h9 k9 => ⟨k9.1.1, k9.1.1, k9.1, k9.2.1, fun _ => k9.2.2, fun u => absurd ⟨c, y⟩ u⟩)⟩
  · exact ⟨I.1, fun _ => ⟨I, Fr.rf _ _, fun u => absurd u.1 c, fun _ => rfl⟩, fun z => absurd e z⟩
theorem c_cmM {N : Nat} (d : Nat) {h h1 : Hp_} (I1 : Iv h1) (L : Li N h) (f : Fr [41999] h h1) (x1 x2 : Int32) : Ci (m_X12_should (d + 7) 0 0) [.ref 1, .int x1, .int x2] h1 (fun r h' => Iv h' ∧ Fr wzL h1 h' ∧ shQ (El h) (h_i h) (h_i h1 261) (h_i h1 257) (h_i h1 1 80) (h_i h1 1 0) x1 x2 r) := by
  have r := (iq1 I1).2.1
  have P : PEm (El h) (h_i h) h1 := (L.k.pm L.1 L.x L.q.1).2.2.2.2.fr f (by decide +kernel) (fun x => x.fr f (by decide +kernel))
  refine t_X12_should d h1 I1.1 x1 x2 _ ⟨fun n => ⟨I1, Fr.rf _ _, fun u => absurd ((le_s1 ⟨r.1, by omega⟩).mpr u.1) n, fun _ => rfl⟩, fun c => ?_⟩
  have c := (le_s1 ⟨r.1, by omega⟩).mp c
  have a := q_le.mp c.1
  have b := q_lt.mp c.2
  rw [show (0 : Int32).toInt = 0 from rfl] at a
  have na := n_nat a
  refine ⟨v300 ⟨a, by omega⟩, fun y => ⟨I1, Fr.rf _ _, fun u => absurd u.2 y, fun _ => rfl⟩, fun y => ?_⟩
  have C := c_letM d I1 P x1.toNatClampNeg (by omega) x2
  rw [of_nat32 a] at C
  exact Ci.mono C (fun r10 h8 k => ⟨k.1.1, k.1, k.2.1, fun _ => k.2.2, fun u => absurd ⟨c, y⟩ u⟩)
theorem Li.cm {N : Nat} {h h1 h2 : Hp_} {x1 x2 r1 r2 : Int32} (L : Li N h) (k1 : Iv h1 ∧ Fr [41999] h h1 ∧ shQ (El h) (h_i h) (h_i h 70) (h_i h 66) (h_i h 17 16) (h_i h 0 0) x1 x2 r1) (k2 : Iv h2 ∧ Fr wzL h1 h2 ∧ shQ (El h) (h_i h) (h_i h1 261) (h_i h1 257) (h_i h1 1 80) (h_i h1 1 0) x1 x2 r2) : Li N h2 ∧ r1 = r2 := by
  refine ⟨(L.fr k1.1 k1.2.1 (by decide +kernel)).fr k2.1 k2.2.1 (by decide +kernel), ?_⟩
  have g : ∀ a, off [41999] a = true → h_i h1 a = h_i h a := fun a o => funext (fun k => fr_i k1.2.1 o k)
  have k := k2.2.2
  rw [g 261 (by decide +kernel), g 257 (by decide +kernel), g 1 (by decide +kernel), L.k.1.1, ← L.n0] at k
  unfold shQ at k
  have p := k1.2.2
  unfold shQ at p
  by_cases c : 0 ≤ x1 ∧ x1 < h_i h 17 16
  · have q := L.k.2.2.1 x1.toNatClampNeg (s_in L.1 c).2.2.1
    rw [q.1.2.2.1] at k
    by_cases y : h_i h 66 x1.toNatClampNeg ≤ x2 ∧ x2 ≤ h_i h 0 0
    · rw [p.1 ⟨c, y⟩, k.1 ⟨c, y⟩]
      exact evB_c (n13_in L.1) (fun k hk => (L.k.gd hk).1) (fun t ht => (q.2 t ht).symm)
    · rw [p.2 (fun u => y u.2), k.2 (fun u => y u.2)]
  · rw [p.2 (fun u => c u.1), k.2 (fun u => c u.1)]
