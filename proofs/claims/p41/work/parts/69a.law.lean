/-! the law, on every script -/
def lX (L : Nat) (xs : Nat → Int32) : (Nat → Nat) → (Nat → Prop) → State → Prop := fun ad A s => va_X (ad 1100) L xs s s.heap ∧ ad 1100 < s.heap.size ∧ ¬ A (ad 1100) ∧ Zx A s
abbrev ML (L : Nat) (xs : Nat → Int32) : Mc_ := (lX L xs, x, code, 7, ret, room_1)
theorem xsL {L : Nat} {xs : Nat → Int32} : xs_ (ML L xs) := fun ad ad' A s he hX => by
  have e := he 1100 (by decide)
  show va_X (ad' 1100) L xs s s.heap ∧ ad' 1100 < s.heap.size ∧ ¬ A (ad' 1100) ∧ Zx A s
  rw [e]
  exact hX
section SCR
variable {L : Nat} {xs : Nat → Int32} {kc ks pc : Nat} {lv : List (Nat × Value)} {st : List Value} {h : Hp_} {K : Option Value → Hp_ → Prop}
theorem aw_sld {i : Int32} (n : Nat) (hn : i.toNatClampNeg = n) (hin : vp_in i L) (hd : decode code pc = .ok (.iaload, 1)) (k : AW (ML L xs) kc ks (pc + 1) lv (.int (xs n) :: st) h K) : AW (ML L xs) kc ks pc lv (.int i :: .ref 1100 :: st) h K := by
  intro l p e s m args below meth c dC dI cy A ad0 adV ad dom0 dom H locs ls hf hX hT hE hW hS hl ho hs
  subst hn
  exact va_sld hf.1 hf.2.1 hX.1 hX.2.1 hX.2.2.1 hS hin hd (k l p e s m args below meth c dC dI cy A ad0 adV ad dom0 dom H locs ls hf hX hT hE hW hS hl ho (ok_c ok_i (ok_t (ok_t hs))))
theorem aw_slen (hd : decode code pc = .ok (.arraylength, 1)) (k : AW (ML L xs) kc ks (pc + 1) lv (.int (Int32.ofNat L) :: st) h K) : AW (ML L xs) kc ks pc lv (.ref 1100 :: st) h K := by
  intro l p e s m args below meth c dC dI cy A ad0 adV ad dom0 dom H locs ls hf hX hT hE hW hS hl ho hs
  exact va_slen hf.1 hf.2.1 hX.1 hX.2.1 hX.2.2.1 hS hd (k l p e s m args below meth c dC dI cy A ad0 adV ad dom0 dom H locs ls hf hX hT hE hW hS hl ho (ok_c ok_i (ok_t hs)))
abbrev lv5 (i : Nat) : List (Nat × Value) := [(0, .ref 1100), (1, .ref 0), (2, .ref 1), (3, .ref 2), (4, .int (Int32.ofNat i))]
theorem aw_arg {i j : Nat} {n : Int} {v : Int32} (d0 : decode code pc = .ok (.aload_n 0, 1)) (d1 : decode code (pc + 1) = .ok (.iload 4, 2)) (d2 : decode code (pc + 3) = .ok (.iconst n, 1)) (d3 : decode code (pc + 4) = .ok (.iadd, 1)) (d4 : decode code (pc + 5) = .ok (.iaload, 1)) (hv : Int32.ofInt n = v) (hj : Int32.ofNat i + v = Int32.ofNat (i + j)) (hL : i + j < L) (lL : L ≤ 3072) (k : AW (ML L xs) kc ks (pc + 6) (lv5 i) (.int (xs (i + j)) :: st) h K) : AW (ML L xs) kc ks pc (lv5 i) st h K := by
  refine aw_aload_n (i := 0) rfl d0 0 rfl ?_
  refine aw_iload d1 4 rfl ?_
  refine aw_iconst (v := v) d2 hv ?_
  refine aw_iadd d3 ?_
  refine aw_vi (v2 := Int32.ofNat (i + j)) hj ?_
  exact aw_sld (i + j) (on_k (by omega)) (on_in hL (by omega)) d4 k
theorem aw_arg2 {i j : Nat} {n : Int} {v r : Int32} (d0 : decode code pc = .ok (.aload_n 0, 1)) (d1 : decode code (pc + 1) = .ok (.iload 4, 2)) (d2 : decode code (pc + 3) = .ok (.iconst n, 1)) (d3 : decode code (pc + 4) = .ok (.iadd, 1)) (d4 : decode code (pc + 5) = .ok (.iaload, 1)) (hv : Int32.ofInt n = v) (hj : Int32.ofNat i + v = Int32.ofNat (i + j)) (hL : i + j < L) (lL : L ≤ 3072) (k : AW (ML L xs) kc ks (pc + 6) [(0, .ref 1100), (1, .ref 0), (2, .ref 1), (3, .ref 2), (4, .int (Int32.ofNat i)), (5, .int r)] (.int (xs (i + j)) :: st) h K) : AW (ML L xs) kc ks pc [(0, .ref 1100), (1, .ref 0), (2, .ref 1), (3, .ref 2), (4, .int (Int32.ofNat i)), (5, .int r)] st h K := by
  refine aw_aload_n (i := 0) rfl d0 0 rfl ?_
  refine aw_iload d1 4 rfl ?_
  refine aw_iconst (v := v) d2 hv ?_
  refine aw_iadd d3 ?_
  refine aw_vi (v2 := Int32.ofNat (i + j)) hj ?_
  exact aw_sld (i + j) (on_k (by omega)) (on_in hL (by omega)) d4 k
/-- a call whose answer is thrown away -/
theorem aw_Kp {M' : Mc_} {n idx ci N a : Nat} {c : Ctr} {T : u_T} (vs : List Value) (hC : Hc M' c) (ma : am h (vs.reverse ++ [.ref a]) c.1) (I : Iv h) (hp : hm h c.2.1) (hd : decode code pc = .ok (.invokevirtual idx, 3)) (hm : cV_ M' n) (hkc : kc_ ci (mY M').cls T N) (hs : h_sh h a = some (ci + 10, N)) (hlk : Cond.methodLink x.cls idx (mY M') ∈ lw_g) (hn : vs.length = n) (hz : ((mR M').frames + 1 ≤ 2048 ∧ 8 + (mN M' + 11) + (mR M').locals ≤ 84000) ∧ (mR M').cells = 0 ∧ (mR M').slots = 0) (hk : kc ≤ 494584 ∧ ks ≤ 7612352) (hr : ∃ g, c.2.2.1 = some (.inl g)) (hq : decode code (pc + 3) = .ok (.pop, 1))
    (k : ∀ h', Iv h' → Fr c.2.2.2.2 h h' → AW (ML L xs) kc ks (pc + 4) lv [] h' K) : AW (ML L xs) kc ks pc lv (vs.reverse ++ [.ref a]) h K := by
  refine aw_Vk (M := ML L xs) (M' := M') vs hC ma I hp hd hm hkc hs hlk hn (by decide) ⟨hz.1, hz.2.1, hz.2.2, xsL⟩ hk (fun v h' kv => ?_)
  obtain ⟨⟨r, s, gh⟩, eg⟩ := hr
  have q := kv.2.2.2
  rw [eg] at q
  obtain ⟨x2, ev, y2, ey, _⟩ := q
  subst ev
  subst ey
  exact aw_pop hq rfl (k h' kv.1 kv.2.1)
theorem aw_Kv {M' : Mc_} {n idx ci N a : Nat} {c : Ctr} {T : u_T} (vs : List Value) (hC : Hc M' c) (ma : am h (vs.reverse ++ [.ref a]) c.1) (I : Iv h) (hp : hm h c.2.1) (hd : decode code pc = .ok (.invokevirtual idx, 3)) (hm : cV_ M' n) (hkc : kc_ ci (mY M').cls T N) (hs : h_sh h a = some (ci + 10, N)) (hlk : Cond.methodLink x.cls idx (mY M') ∈ lw_g) (hn : vs.length = n) (hz : ((mR M').frames + 1 ≤ 2048 ∧ 8 + (mN M' + 11) + (mR M').locals ≤ 84000) ∧ (mR M').cells = 0 ∧ (mR M').slots = 0) (hk : kc ≤ 494584 ∧ ks ≤ 7612352) (hr : c.2.2.1 = none)
    (k : ∀ h', Iv h' → Fr c.2.2.2.2 h h' → AW (ML L xs) kc ks (pc + 3) lv [] h' K) : AW (ML L xs) kc ks pc lv (vs.reverse ++ [.ref a]) h K := by
  refine aw_Vk (M := ML L xs) (M' := M') vs hC ma I hp hd hm hkc hs hlk hn (by decide) ⟨hz.1, hz.2.1, hz.2.2, xsL⟩ hk (fun v h' kv => ?_)
  have q := kv.2.2.2
  rw [hr] at q
  have ev : v = none := q
  subst ev
  exact k h' kv.1 kv.2.1
end SCR
abbrev k1_ : Option Value → Hp_ → Prop := fun v _ => v = some (.int 1)
theorem oa_1 {n : Nat} (h : n < 100000) : Int32.ofNat n + 1 = Int32.ofNat (n + 1) := on_s (by omega)
theorem oa_2 {n : Nat} (h : n < 100000) : Int32.ofNat n + 2 = Int32.ofNat (n + 2) := on_2 h
theorem oa_3 {n : Nat} (h : n < 100000) : Int32.ofNat n + 3 = Int32.ofNat (n + 3) := on_3 h
theorem oa_4 {n : Nat} (h : n < 100000) : Int32.ofNat n + 4 = Int32.ofNat (n + 4) := by
  have t : (4 : Int32).toInt = 4 := rfl
  have a := on_j (n := n) (by omega)
  exact Int32.toInt_inj.mp (by rw [tx_add (by rw [t]; omega) (by rw [t]; omega), t, on_j (n := n + 4) (by omega)]; omega)
theorem oa_5 {n : Nat} (h : n < 100000) : Int32.ofNat n + 5 = Int32.ofNat (n + 5) := by
  have t : (5 : Int32).toInt = 5 := rfl
  have a := on_j (n := n) (by omega)
  exact Int32.toInt_inj.mp (by rw [tx_add (by rw [t]; omega) (by rw [t]; omega), t, on_j (n := n + 5) (by omega)]; omega)
theorem oa_6 {n : Nat} (h : n < 100000) : Int32.ofNat n + Int32.ofInt 6 = Int32.ofNat (n + 6) := by
  have t : (Int32.ofInt 6).toInt = 6 := by decide
  have a := on_j (n := n) (by omega)
  exact Int32.toInt_inj.mp (by rw [tx_add (by rw [t]; omega) (by rw [t]; omega), t, on_j (n := n + 6) (by omega)]; omega)
/-! the room: what the history's rows have cost so far -/
def ph (N : Nat) : Nat := if N = 20000 then 60000 else 2 * N
theorem ph_le {N : Nat} (h : N ≤ 20000) : ph N ≤ 60000 := by
  unfold ph
  split <;> omega
def Rm (t N kc ks : Nat) : Prop := kc ≤ 202 + t ∧ ks ≤ 318709 + 17 * t + ph N ∧ N ≤ 20000
theorem Rm.up {t N kc ks : Nat} (R : Rm t N kc ks) : Rm (t + 1) N kc ks := ⟨by have := R.1; omega, by have := R.2.1; omega, R.2.2⟩
theorem Rm.con {t N kc ks : Nat} (R : Rm t N kc ks) : Rm (t + 1) N (kc + 1) (ks + 17) := ⟨by have := R.1; omega, by have := R.2.1; omega, R.2.2⟩
theorem Rm.abt {t N kc ks : Nat} (R : Rm t N kc ks) : Rm (t + 1) N (kc + 1) (ks + 6) := ⟨by have := R.1; omega, by have := R.2.1; omega, R.2.2⟩
theorem hcost_le {mc ms N N' : Nat} (h : hcost mc ms N N') (l : N' ≤ 20000) : mc ≤ 1 ∧ ms ≤ 20000 := by
  rcases h with ⟨a, b, c⟩ | ⟨a, b, c, d⟩
  · omega
  · omega
theorem Rm.tick {t N N' kc ks mc ms : Nat} (R : Rm t N kc ks) (h : hcost mc ms N N') (l : N' ≤ 20000) : Rm (t + 1) N' (kc + mc) (ks + ms) := by
  obtain ⟨r1, r2, r3⟩ := R
  rcases h with ⟨a, b, c⟩ | ⟨a, b, c, d⟩
  · subst c
    exact ⟨by omega, by omega, l⟩
  · refine ⟨by omega, ?_, l⟩
    have p : ph N = 2 * N := by
      unfold ph
      rw [if_neg (by omega)]
    rw [p] at r2
    unfold ph
    split
    · omega
    · omega
theorem Rm.ok {t N kc ks : Nat} (R : Rm t N kc ks) (h : t ≤ 600) : kc + 20 ≤ 494584 ∧ ks + 20020 ≤ 7612352 := by
  have p := ph_le R.2.2
  have r1 := R.1
  have r2 := R.2.1
  exact ⟨by omega, by omega⟩
theorem wLa_g : wLa ∈ lw_g := lw_c7 223 (by decide +kernel) (by decide +kernel)
theorem aw_La {L : Nat} {xs : Nat → Int32} {kc ks pc : Nat} {lv : List (Nat × Value)} {h : Hp_} {K : Option Value → Hp_ → Prop} (I : Iv h) (s2 : h_sh h 2 = some (3, 1)) (x1 x2 : Int32) (hd : decode code pc = .ok (.invokestatic 75, 3)) (hk : kc + 1 ≤ 494584 ∧ ks + 6 ≤ 7612352) (k : ∀ r h', Iv h' → Fr [2999] h h' → AW (ML L xs) (kc + 1) (ks + 6) (pc + 3) lv [.int r] h' K) : AW (ML L xs) kc ks pc lv [.ref 2, .int x2, .int x1, .ref 0] h K := by
  intro l p e s m args below meth c dC dI cy A ad0 adV ad dom0 dom H locs ls hf hX hT hE hW hS hl ho hs
  have htg := hf.2.2.2.2.2.2.2.1
  refine aw_back (K' := kLa h) (rest := []) (a := ([Value.ref 0, .int x1, .int x2, .ref 2].map (h_cv ad)).toArray) (mc := 1) (ms := 6) xsL hf hX hT hE hW hS hl ho (fun v hv => by cases hv) ?_ (fun v h' kk => ?_)
  · have hws : ∀ w ∈ wLa :: lw_g, ∀ (a' : Array Value) (U : State), s.WarmedH U.vm → w.before a' U = true := fun w hw a' U hWm => by
      have hw' : w ∈ lw_g := (List.mem_cons.mp hw).elim (fun e => e ▸ wLa_g) id
      exact word_at hWm (good_of_word (List.mem_filter.mp hw').2) (htg w hw')
    have hlen : ∀ sig, parseMethodDescriptor yLa.desc = some sig → 4 = sig.parameters.length := fun sig h => by
      have h2 : (parseMethodDescriptor "(LCountyWatch;II[J)I").map (fun d => d.parameters.length) = some 4 := by decide +kernel
      rw [h] at h2
      exact (Option.some.inj h2).symm
    exact vx_runSW (As := [Value.ref 0, .int x1, .int x2, .ref 2].map (h_cv ad)) ⟨hf.1, hf.2.1, hf.2.2.1, hf.2.2.2.2.2.1, htg⟩ (xl_met l dC dI cy ad adV dom H.size I s2 hW.1 x1 x2) ⟨⟨rfl, rfl, show 20 + 1 ≤ 2048 from by decide, show 8 + (5 + 11) + 2000 ≤ 84000 from by decide +kernel, hws, List.mem_cons_self⟩, htg _ wLa_g, htg _ tw_0, ⟨by decide, by decide⟩, hlen, htg _ tw_1661, htg _ tw_1662⟩ ⟨cz_blind, fun U hU hWm => ⟨rfl, cp_pre hf hT hW hS hU hWm, hX.2.2.2.go hS hU hWm (cp_sub hf.2.2.2.2.2.2.2.2.2 hW hS)⟩⟩ rfl rfl hl.1 rfl (lv_room (Nat.le_of_ble_eq_true rfl)) hd hk
  · obtain ⟨⟨r, er⟩, I', F'⟩ := kk
    subst er
    exact k r h' I' F'
/-! what is kept besides the tape and the beats -/
def Qx (h : Hp_) : Prop := ExR h ∧ ExS h ∧ ExW h
def qxo (ws : List Nat) : Bool := exoR ws && exoS ws && exoW ws
theorem qx_F : Qx HF := ⟨exR_F, exS_F, exW_F⟩
theorem Qx.fr {ws : List Nat} {h h' : Hp_} (e : Qx h) (f : Fr ws h h') (o : qxo ws = true) : Qx h' := by
  unfold qxo at o
  simp only [Bool.and_eq_true] at o
  exact ⟨e.1.fr f o.1.1, e.2.1.fr f o.1.2, e.2.2.fr f o.2⟩
theorem Qx.mf {W : List Nat} {h h' : Hp_} (e : Qx h) (f : Mf W h h') (o : qxo W = true) : Qx h' := by
  unfold qxo at o
  simp only [Bool.and_eq_true] at o
  exact ⟨e.1.mf f o.1.1, e.2.1.mf f o.1.2, e.2.2.mf f o.2⟩
def Li (N : Nat) (h : Hp_) : Prop := Iv h ∧ J2 h ∧ h_sh h 2 = some (3, 1) ∧ (∃ c, h_r h 0 15 = some c ∧ h_sh h c = some (3, N)) ∧ (Rlf rlT h ∧ MefT h) ∧ Qx h
theorem Li.t {N : Nat} {h : Hp_} (L : Li N h) : LiT N h := ⟨L.1, L.2.1, L.2.2.1, L.2.2.2.1, L.2.2.2.2.1.1, L.2.2.2.2.1.2⟩
theorem Li.q {N : Nat} {h : Hp_} (L : Li N h) : Qx h := L.2.2.2.2.2
theorem LiT.mk {N : Nat} {h : Hp_} (T : LiT N h) (q : Qx h) : Li N h := ⟨T.1, T.2.1, T.2.2.1, T.2.2.2.1, ⟨T.2.2.2.2.1, T.2.2.2.2.2⟩, q⟩
theorem Li.z {N : Nat} {h : Hp_} (L : Li N h) : Li0 N h := ⟨L.1, L.2.1, L.2.2.1, L.2.2.2.1⟩
theorem li_F : Li 0 HF := liT_F.mk qx_F
theorem Li.fr {N : Nat} {ws : List Nat} {h h' : Hp_} (L : Li N h) (I : Iv h') (f : Fr ws h h') (o : (((jso ws && !inw ws 0 15) && rlT.all (fun q => !inw ws q.1.1 q.1.2 && !inw ws 1 q.2) && (!inw ws 0 7 && off ws 15 && exoTB ws)) && qxo ws) = true) : Li N h' := by
  rw [Bool.and_eq_true] at o
  exact (L.t.fr I f o.1).mk (L.q.fr f o.2)
theorem Li.sr {N : Nat} {h h' : Hp_} (L : Li N h) (I : Iv h') (J : J2 h') (s : Sr h h') : Li N h' := (L.t.sr I J s).mk (L.q.fr s (by decide +kernel))
theorem Li.con2 {N : Nat} {h h1 h2 : Hp_} {x1 x2 x3 r1 r2 : Int32} (L : Li N h) (k1 : Cy x1 x2 x3 h r1 h1) (k2 : Iv h2 ∧ J2 h2 ∧ Sn h1 h2 ∧ ocm (h_i h1 1 7) x1 x2 x3 r2 (h_i h2 1 7) ∧ Cw (okm (h_i h1 1 7) x1 x2 x3) (h_i h1 1 7) x1 h1 h2) : Li N h2 := (L.t.con2 k1 k2).mk ((L.q.mf k1.1.2.1 (by decide +kernel)).fr k2.2.2.1 (by decide +kernel))
theorem Li.tick2 {N N' : Nat} {h h1 h2 : Hp_} {x r1 r2 : Int32} (L : Li N h) (k1 : Iv h1 ∧ Mf wsX h h1 ∧ (∃ c', h_r h1 0 15 = some c' ∧ h_sh h1 c' = some (3, N')) ∧ otk (h_i h 0 0) x r1 (h_i h1 0 0)) (k2 : Iv h2 ∧ J2 h2 ∧ Fr wsT h1 h2 ∧ otk (h_i h1 1 0) x r2 (h_i h2 1 0)) : Li N' h2 := (L.t.tick2 k1 k2).mk ((L.q.mf k1.2.1 (by decide +kernel)).fr k2.2.2.1 (by decide +kernel))
theorem Li.fd {N : Nat} {h h1 h2 : Hp_} {r1 r2 : Int32} {L0 : List Int32} (L : Li N h) (k1 : Iv h1 ∧ Fr [11001, 31999] h h1 ∧ Fdx L0 h r1 h1) (k2 : Iv h2 ∧ Fr [1032, 225999] h1 h2 ∧ Fdm L0 h1 r2 h2) : Li N h2 ∧ r1 = r2 := by
  have z := L.t.fd k1 k2
  exact ⟨z.1.mk ((L.q.fr k1.2.1 (by decide +kernel)).fr k2.2.1 (by decide +kernel)), z.2⟩
theorem Li.en {N : Nat} {h h1 h2 : Hp_} {x1 r1 r2 : Int32} (L : Li N h) (k1 : Iv h1 ∧ Fr [11001] h h1 ∧ (((0 ≤ x1 ∧ x1 ≤ h_i h 11 1) ∧ r1 = 1 ∧ h1 = h_im h 11 1 x1) ∨ (¬ (0 ≤ x1 ∧ x1 ≤ h_i h 11 1) ∧ r1 = 0 ∧ h1 = h))) (k2 : Iv h2 ∧ Fr [1032] h1 h2 ∧ (((0 ≤ x1 ∧ x1 ≤ h_i h1 1 32) ∧ r2 = 1 ∧ h2 = h_im h1 1 32 x1) ∨ (¬ (0 ≤ x1 ∧ x1 ≤ h_i h1 1 32) ∧ r2 = 0 ∧ h2 = h1))) : Li N h2 ∧ r1 = r2 := by
  have z := L.t.en k1 k2
  exact ⟨z.1.mk ((L.q.fr k1.2.1 (by decide +kernel)).fr k2.2.1 (by decide +kernel)), z.2⟩
theorem Li.act {N : Nat} {h h1 h2 : Hp_} {x1 r1 r2 : Int32} (L : Li N h) (k1 : Iv h1 ∧ Fr wrx_13 h h1 ∧ Rlx_13 x1 h r1 h1) (k2 : (Iv h2 ∧ Fr wzt h1 h2) ∧ Rlm (h_i h 31) (xn h) 0 x1 h1 r2 h2) : Li N h2 ∧ r1 = r2 := by
  have z := L.t.act k1 k2
  exact ⟨z.1.mk ((L.q.fr k1.2.1 (by decide +kernel)).fr k2.1.2 (by decide +kernel)), z.2⟩
theorem Li.pay {N : Nat} {h h1 h2 : Hp_} {x1 r1 r2 : Int32} (L : Li N h) (k1 : Iv h1 ∧ Fr wrx_14 h h1 ∧ Rlx_14 x1 h r1 h1) (k2 : (Iv h2 ∧ Fr wzt h1 h2) ∧ Rlm (h_i h 31) (xn h) 1 x1 h1 r2 h2) : Li N h2 ∧ r1 = r2 := by
  have z := L.t.pay k1 k2
  exact ⟨z.1.mk ((L.q.fr k1.2.1 (by decide +kernel)).fr k2.1.2 (by decide +kernel)), z.2⟩
theorem Li.pt {N : Nat} {h h1 h2 : Hp_} {x1 x2 x3 r1 r2 : Int32} (L : Li N h) (k1 : Iv h1 ∧ PtX x1 x2 x3 h r1 h1) (k2 : Iv h2 ∧ PtM x1 x2 x3 h1 r2 h2) : Li N h2 ∧ r1 = r2 := by
  have z := ExR.pt L.1 L.q.1 k1.2 k2.2
  exact ⟨((L.t.fr k1.1 k1.2.1 (by decide +kernel)).fr k2.1 k2.2.1 (by decide +kernel)).mk ⟨z.1, (L.q.2.1.fr k1.2.1 (by decide +kernel)).fr k2.2.1 (by decide +kernel), (L.q.2.2.fr k1.2.1 (by decide +kernel)).fr k2.2.1 (by decide +kernel)⟩, z.2⟩
theorem Li.wt {N : Nat} {h h1 h2 : Hp_} {x1 x2 x3 r1 r2 : Int32} (L : Li N h) (k1 : Iv h1 ∧ WtX x1 x2 x3 h r1 h1) (k2 : Iv h2 ∧ WtM x1 x2 x3 h1 r2 h2) : Li N h2 ∧ r1 = r2 := by
  have z := ExW.wt L.1 L.q.2.2 k1.2 k2.2
  exact ⟨((L.t.fr k1.1 k1.2.1 (by decide +kernel)).fr k2.1 k2.2.1 (by decide +kernel)).mk ⟨(L.q.1.fr k1.2.1 (by decide +kernel)).fr k2.2.1 (by decide +kernel), (L.q.2.1.fr k1.2.1 (by decide +kernel)).fr k2.2.1 (by decide +kernel), z.1⟩, z.2⟩
theorem Li.bt {N : Nat} {h h1 h2 : Hp_} {r1 r2 : Int32} (L : Li N h) (k1 : Iv h1 ∧ Fr wbx h h1 ∧ Btx h r1 h1) (k2 : (Iv h2 ∧ J2 h2) ∧ Btm (h_i h 31) (xn h) h1 r2 h2) : Li N h2 ∧ r1 = r2 := by
  have z := L.t.bt k1 k2
  exact ⟨z.1.mk ⟨(L.q.1.fr k1.2.1 (by decide +kernel)).fr k2.2.1 (by decide +kernel), L.q.2.1.bt L.t k1 k2, (L.q.2.2.fr k1.2.1 (by decide +kernel)).fr k2.2.1 (by decide +kernel)⟩, z.2⟩
/-! sees -/
def seeV (h : Hp_) (x1 x2 : Int32) : Bool := wkS (wX h) (h_i h 281 x2.toNatClampNeg).toNatClampNeg (h_i h 282 x2.toNatClampNeg).toInt (h_i h 283 x2.toNatClampNeg).toInt (bL h x1.toNatClampNeg) 0 0
def seeA (h : Hp_) (x1 x2 : Int32) : Int32 := if (0 ≤ x1.toInt ∧ x1.toInt < (h_i h 12 3).toInt) ∧ (0 ≤ x2.toInt ∧ x2.toInt < (h_i h 20 3).toInt) then (if seeV h x1 x2 = true then 1 else 0) else -1
theorem w_in {h : Hp_} (I : Iv h) : 0 ≤ (h_i h 20 3).toInt ∧ (h_i h 20 3).toInt ≤ 8 := by
  have rg := I.2.1 20 3
  rw [show tf 20 3 = (0, 8) by decide +kernel] at rg
  exact ⟨rg.1, rg.2⟩
/-- the class: whether a beat looks at a watch -/
theorem c_isX {N : Nat} (d : Nat) {h : Hp_} (I : Iv h) (L : LiT N h) (R : ExP h) (S : ExS h) (W : ExW h) (x1 x2 : Int32) (b1 : 0 ≤ x1.toInt ∧ x1.toInt < (h_i h 12 3).toInt) (b2 : 0 ≤ x2.toInt ∧ x2.toInt < (h_i h 20 3).toInt) : Ci (m_X6_isSeen (d + 3) 0 0) [.ref 20, .int x2, .int x1, .ref 12, .ref 10] h (fun r h' => h' = h ∧ r = if seeV h x1 x2 = true then 1 else 0) := by
  have t0 : (0 : Int32).toInt = 0 := rfl
  have b3 := x12_in I
  have b8 := w_in I
  have n1 := n_nat b1.1
  have n2 := n_nat b2.1
  have n12 := n_nat b3.1
  have n20 := n_nat b8.1
  have v2 : vp_in x2 8 := dp_in (lo := 0) (hi := 7) ⟨b2.1, by show _ ≤ (7 : Int); omega⟩ (by decide) (by decide)
  have B := L.2.2.2.2.2.2.2 x1.toNatClampNeg (by omega)
  have z := z227 I x1.toNatClampNeg
  have q := W.2 x2.toNatClampNeg (by omega)
  have sS := S x1.toNatClampNeg (by omega)
  refine t_X6_isSeen d h I.1 x2 x1 _ (t_X6_hasWatch d h I.1 x2 _ ⟨fun y => ?_, fun _ => ⟨fun y => ?_, fun _ => ⟨I.1, fun y => absurd y (by decide), fun _ => ⟨v2, v2, v2, ?_⟩⟩⟩⟩)
  · have y := q_lt.mp y
    omega
  · have y := q_le.mp y
    omega
  · rw [q.1.1, q.1.2.1, q.1.2.2]
    have p := q.2.1
    rw [q.1.1] at p
    refine Ci.mono (c_lkX d I (wX h) (wX_le I R) (fun a b ha hb => c_mnX d I a b ha hb) x1 _ _ _ ⟨fun y => ?_, fun y => ?_⟩ p (bL h x1.toNatClampNeg) (by rw [bL_l]; exact z.1) ?_ (fun k x e => ?_) (fun x hx => ?_)) (fun r h' k => ?_)
    · have y := q_lt.mp y
      omega
    · have y := q_le.mp y
      omega
    · rw [B.1, bL_l]
      exact (of_nat32 (by omega)).symm
    · have l : k < (bL h x1.toNatClampNeg).length := (List.getElem?_eq_some_iff.mp e).1
      rw [bL_l] at l
      rw [bL_g l] at e
      rw [← Option.some.inj e]
      exact (sS k l).1
    · obtain ⟨i, hi, e⟩ := bL_m hx
      rw [e]
      exact (sS i hi).2
    · obtain ⟨e, k⟩ := k
      subst e
      unfold seeV
      refine ⟨I.1, fun e0 => ⟨rfl, ?_⟩, fun n0 => ⟨rfl, ?_⟩⟩
      · rcases k with k | k
        · rw [k.1] at e0
          exact absurd e0 (by decide)
        · rw [if_neg (by rw [k.2]; decide)]
      · rcases k with k | k
        · rw [if_pos k.2]
        · exact absurd k.1 n0
theorem c_isM {N : Nat} (d : Nat) {h : Hp_} (I : Iv h) (R : ExP h) (S : ExS h) (W : ExW h) (x1 x2 : Int32) (b1 : 0 ≤ x1.toInt ∧ x1.toInt < (h_i h 12 3).toInt) (b2 : 0 ≤ x2.toInt ∧ x2.toInt < (h_i h 20 3).toInt) : Ci (m_X12_doesSee (d + 1) 0 0) [.ref 1, .int x1, .int x2] h (fun r h' => Iv h' ∧ Fr [203999] h h' ∧ r = if seeV h x1 x2 = true then 1 else 0) := by
  have b3 := x12_in I
  have b8 := w_in I
  have n1 := n_nat b1.1
  have n2 := n_nat b2.1
  have n12 := n_nat b3.1
  have n20 := n_nat b8.1
  have q := W.2 x2.toNatClampNeg (by omega)
  rw [q.1.1, q.1.2.1, q.1.2.2] at q
  refine Ci.mono (c_dsM d I R x1 x2 ⟨b1.1, by omega⟩ ⟨b2.1, by omega⟩ (fun i hi => (S x1.toNatClampNeg (by omega) i hi).2) ⟨q.2.1.1, q.2.2.2⟩) (fun r h' k => ⟨k.1, k.2.1, ?_⟩)
  unfold seeV
  rcases k.2.2 with k | k
  · rw [if_pos k.2]
    exact k.1
  · rw [if_neg (by rw [k.2]; decide)]
    exact k.1
theorem c_cmX {N : Nat} (d : Nat) {h : Hp_} (I : Iv h) (L : Li N h) (x1 x2 : Int32) : Ci (m_X11_sees (d + 4) 0 0) [.ref 0, .int x1, .int x2] h (fun r h' => Iv h' ∧ h' = h ∧ r = seeA h x1 x2) := by
  have t0 : (0 : Int32).toInt = 0 := rfl
  refine t_X11_sees d h I.1 x1 x2 _ (Ci.mono (c_has d I x1) (fun r h1 k => ?_))
  obtain ⟨e, k⟩ := k
  subst e
  unfold seeA
  refine ⟨I.1, fun e0 => ⟨I, rfl, ?_⟩, fun n0 => ?_⟩
  · rcases k with k | k
    · rw [e0] at k
      exact absurd k.1 (by decide)
    · rw [if_neg (fun y => k.2 ⟨fun u => ?_, fun u => ?_⟩)]
      · have u := q_lt.mp u
        omega
      · have u := q_le.mp u
        omega
  · have y : ¬ x1 < 0 ∧ ¬ h_i h1 12 3 ≤ x1 := by
      rcases k with k | k
      · exact k.2
      · exact absurd k.1 n0
    have y1 := q_nlt y.1
    have y2 := q_nle y.2
    refine t_X6_hasWatch d h1 I.1 x2 _ ⟨fun u => ⟨I.1, fun w => absurd rfl w, fun _ => ⟨I, rfl, ?_⟩⟩, fun u => ⟨fun v => ⟨I.1, fun w => absurd rfl w, fun _ => ⟨I, rfl, ?_⟩⟩, fun v => ⟨I.1, fun _ => ?_, fun w => absurd w (by decide)⟩⟩⟩
    · have u := q_lt.mp u
      rw [if_neg (fun y => by have := y.2.1; omega)]
    · have v := q_le.mp v
      rw [if_neg (fun y => by have := y.2.2; omega)]
    · have u := q_nlt u
      have v := q_nle v
      refine Ci.mono (c_isX d I L.t L.q.1.2 L.q.2.1 L.q.2.2 x1 x2 ⟨by omega, by omega⟩ ⟨by omega, by omega⟩) (fun r3 h3 k => ?_)
      obtain ⟨e, k⟩ := k
      subst e
      rw [if_pos ⟨⟨by omega, by omega⟩, ⟨by omega, by omega⟩⟩]
      refine ⟨I.1, fun e0 => ⟨I, rfl, ?_⟩, fun n0 => ⟨I, rfl, ?_⟩⟩
      · rw [← k]
        exact e0.symm
      · by_cases c : seeV h3 x1 x2 = true
        · rw [if_pos c]
        · rw [if_neg c] at k
          exact absurd k n0
theorem c_cmM {N : Nat} (d : Nat) {h : Hp_} (I : Iv h) (L : Li N h) (x1 x2 : Int32) : Ci (m_X12_sees (d + 2) 0 0) [.ref 1, .int x1, .int x2] h (fun r h' => Iv h' ∧ Fr [203999] h h' ∧ r = seeA h x1 x2) := by
  have t0 : (0 : Int32).toInt = 0 := rfl
  have t1 : (1 : Int32).toInt = 1 := rfl
  have b3 := x12_in I
  have b8 := w_in I
  have e42 : h_i h 1 42 = h_i h 12 3 := L.t.r2.symm
  have e108 : h_i h 1 108 = h_i h 20 3 := L.q.2.2.1.symm
  have s1 : (h_i h 12 3 - 1).toInt = (h_i h 12 3).toInt - 1 := by rw [tx_sub (by rw [t1]; omega) (by rw [t1]; omega), t1]
  have s2 : (h_i h 20 3 - 1).toInt = (h_i h 20 3).toInt - 1 := by rw [tx_sub (by rw [t1]; omega) (by rw [t1]; omega), t1]
  have T := t_X12_sees d h I.1 x1 x2
  rw [e42, e108] at T
  unfold seeA
  refine T _ ⟨fun n => ⟨I, Fr.rf _ _, ?_⟩, fun y => ⟨fun n => ⟨I, Fr.rf _ _, ?_⟩, fun y2 => ?_⟩⟩
  · rw [if_neg (fun y => n ⟨q_le.mpr (by have := y.1.1; omega), q_le.mpr (by have := y.1.2; omega)⟩)]
  · rw [if_neg (fun y => n ⟨q_le.mpr (by have := y.2.1; omega), q_le.mpr (by have := y.2.2; omega)⟩)]
  · have u1 := q_le.mp y.1
    have u2 := q_le.mp y.2
    have u3 := q_le.mp y2.1
    have u4 := q_le.mp y2.2
    refine Ci.mono (c_isM (N := N) d I L.q.1.2 L.q.2.1 L.q.2.2 x1 x2 ⟨by omega, by omega⟩ ⟨by omega, by omega⟩) (fun r h' k => ?_)
    rw [if_pos ⟨⟨by omega, by omega⟩, ⟨by omega, by omega⟩⟩]
    refine ⟨k.1.1, fun e0 => ⟨k.1, k.2.1, ?_⟩, fun n0 => ⟨k.1, k.2.1, ?_⟩⟩
    · rw [← k.2.2]
      exact e0.symm
    · by_cases c : seeV h x1 x2 = true
      · rw [if_pos c]
      · have k3 := k.2.2
        rw [if_neg c] at k3
        exact absurd k3 n0
theorem Li.ee {N : Nat} {h h1 : Hp_} (L : Li N h) (e : h1 = h) : Li N h1 := e ▸ L
theorem Li.cm {N : Nat} {h h1 h2 : Hp_} {x1 x2 r1 r2 : Int32} (L : Li N h) (k1 : Iv h1 ∧ h1 = h ∧ r1 = seeA h x1 x2) (k2 : Iv h2 ∧ Fr [203999] h1 h2 ∧ r2 = seeA h1 x1 x2) : Li N h2 ∧ r1 = r2 := by
  obtain ⟨_, e, k1⟩ := k1
  subst e
  exact ⟨L.fr k2.1 k2.2.1 (by decide +kernel), k1.trans k2.2.2.symm⟩
