/-! the law, on every script -/
def lX (L : Nat) (xs : Nat → Int32) : (Nat → Nat) → (Nat → Prop) → State → Prop := fun ad A s => va_X (ad 1100) L xs s s.heap ∧ ad 1100 < s.heap.size ∧ ¬ A (ad 1100) ∧ Zx A s
abbrev ML (L : Nat) (xs : Nat → Int32) : Mc_ := (lX L xs, x, code, 7, ret, room_1)
theorem xsL {L : Nat} {xs : Nat → Int32} : xs_ (ML L xs) := fun ad ad' A s he hX => by
  have e := he 1100 (by decide)
  show va_X (ad' 1100) L xs s s.heap ∧ ad' 1100 < s.heap.size ∧ ¬ A (ad' 1100) ∧ Zx A s
  rw [e]
  exact hX
section SCR
variable {L : Nat} {xs : Nat → Int32} {kc ks pc : Nat} {lv : List (Nat × Value)} {st : List Value} {h : Hp_} {K : Option Value → Hp_ → Prop}
theorem aw_sld {i : Int32} (n : Nat) (hn : i.toNatClampNeg = n) (hin : vp_in i L) (hd : decode code pc = .ok (.iaload, 1)) (k : AW (ML L xs) kc ks (pc + 1) lv (.int (xs n) :: st) h K) : AW (ML L xs) kc ks pc lv (.int i :: .ref 1100 :: st) h K := by
  intro l p e s m args below meth c dC dI cy A ad0 adV ad dom0 dom H locs ls hf hX hT hE hW hS hl ho hs
  subst hn
  exact va_sld hf.1 hf.2.1 hX.1 hX.2.1 hX.2.2.1 hS hin hd (k l p e s m args below meth c dC dI cy A ad0 adV ad dom0 dom H locs ls hf hX hT hE hW hS hl ho (ok_c ok_i (ok_t (ok_t hs))))
theorem aw_slen (hd : decode code pc = .ok (.arraylength, 1)) (k : AW (ML L xs) kc ks (pc + 1) lv (.int (Int32.ofNat L) :: st) h K) : AW (ML L xs) kc ks pc lv (.ref 1100 :: st) h K := by
  intro l p e s m args below meth c dC dI cy A ad0 adV ad dom0 dom H locs ls hf hX hT hE hW hS hl ho hs
  exact va_slen hf.1 hf.2.1 hX.1 hX.2.1 hX.2.2.1 hS hd (k l p e s m args below meth c dC dI cy A ad0 adV ad dom0 dom H locs ls hf hX hT hE hW hS hl ho (ok_c ok_i (ok_t hs)))
abbrev lv5 (i : Nat) : List (Nat × Value) := [(0, .ref 1100), (1, .ref 0), (2, .ref 1), (3, .ref 2), (4, .int (Int32.ofNat i))]
theorem aw_arg {i j : Nat} {n : Int} {v : Int32} (d0 : decode code pc = .ok (.aload_n 0, 1)) (d1 : decode code (pc + 1) = .ok (.iload 4, 2)) (d2 : decode code (pc + 3) = .ok (.iconst n, 1)) (d3 : decode code (pc + 4) = .ok (.iadd, 1)) (d4 : decode code (pc + 5) = .ok (.iaload, 1)) (hv : Int32.ofInt n = v) (hj : Int32.ofNat i + v = Int32.ofNat (i + j)) (hL : i + j < L) (lL : L ≤ 3072) (k : AW (ML L xs) kc ks (pc + 6) (lv5 i) (.int (xs (i + j)) :: st) h K) : AW (ML L xs) kc ks pc (lv5 i) st h K := by
  refine aw_aload_n (i := 0) rfl d0 0 rfl ?_
  refine aw_iload d1 4 rfl ?_
  refine aw_iconst (v := v) d2 hv ?_
  refine aw_iadd d3 ?_
  refine aw_vi (v2 := Int32.ofNat (i + j)) hj ?_
  exact aw_sld (i + j) (on_k (by omega)) (on_in hL (by omega)) d4 k
theorem aw_arg2 {i j : Nat} {n : Int} {v r : Int32} (d0 : decode code pc = .ok (.aload_n 0, 1)) (d1 : decode code (pc + 1) = .ok (.iload 4, 2)) (d2 : decode code (pc + 3) = .ok (.iconst n, 1)) (d3 : decode code (pc + 4) = .ok (.iadd, 1)) (d4 : decode code (pc + 5) = .ok (.iaload, 1)) (hv : Int32.ofInt n = v) (hj : Int32.ofNat i + v = Int32.ofNat (i + j)) (hL : i + j < L) (lL : L ≤ 3072) (k : AW (ML L xs) kc ks (pc + 6) [(0, .ref 1100), (1, .ref 0), (2, .ref 1), (3, .ref 2), (4, .int (Int32.ofNat i)), (5, .int r)] (.int (xs (i + j)) :: st) h K) : AW (ML L xs) kc ks pc [(0, .ref 1100), (1, .ref 0), (2, .ref 1), (3, .ref 2), (4, .int (Int32.ofNat i)), (5, .int r)] st h K := by
  refine aw_aload_n (i := 0) rfl d0 0 rfl ?_
  refine aw_iload d1 4 rfl ?_
  refine aw_iconst (v := v) d2 hv ?_
  refine aw_iadd d3 ?_
  refine aw_vi (v2 := Int32.ofNat (i + j)) hj ?_
  exact aw_sld (i + j) (on_k (by omega)) (on_in hL (by omega)) d4 k
/-- a call whose answer is thrown away -/
theorem aw_Kp {M' : Mc_} {n idx ci N a : Nat} {c : Ctr} {T : u_T} (vs : List Value) (hC : Hc M' c) (ma : am h (vs.reverse ++ [.ref a]) c.1) (I : Iv h) (hp : hm h c.2.1) (hd : decode code pc = .ok (.invokevirtual idx, 3)) (hm : cV_ M' n) (hkc : kc_ ci (mY M').cls T N) (hs : h_sh h a = some (ci + 10, N)) (hlk : Cond.methodLink x.cls idx (mY M') ∈ lw_g) (hn : vs.length = n) (hz : ((mR M').frames + 1 ≤ 2048 ∧ 8 + (mN M' + 11) + (mR M').locals ≤ 84000) ∧ (mR M').cells = 0 ∧ (mR M').slots = 0) (hk : kc ≤ 336206 ∧ ks ≤ 8087488) (hr : ∃ g, c.2.2.1 = some (.inl g)) (hq : decode code (pc + 3) = .ok (.pop, 1))
    (k : ∀ h', Iv h' → Fr c.2.2.2.2 h h' → AW (ML L xs) kc ks (pc + 4) lv [] h' K) : AW (ML L xs) kc ks pc lv (vs.reverse ++ [.ref a]) h K := by
  refine aw_Vk (M := ML L xs) (M' := M') vs hC ma I hp hd hm hkc hs hlk hn (by decide) ⟨hz.1, hz.2.1, hz.2.2, xsL⟩ hk (fun v h' kv => ?_)
  obtain ⟨⟨r, s, gh⟩, eg⟩ := hr
  have q := kv.2.2.2
  rw [eg] at q
  obtain ⟨x2, ev, y2, ey, _⟩ := q
  subst ev
  subst ey
  exact aw_pop hq rfl (k h' kv.1 kv.2.1)
theorem aw_Kv {M' : Mc_} {n idx ci N a : Nat} {c : Ctr} {T : u_T} (vs : List Value) (hC : Hc M' c) (ma : am h (vs.reverse ++ [.ref a]) c.1) (I : Iv h) (hp : hm h c.2.1) (hd : decode code pc = .ok (.invokevirtual idx, 3)) (hm : cV_ M' n) (hkc : kc_ ci (mY M').cls T N) (hs : h_sh h a = some (ci + 10, N)) (hlk : Cond.methodLink x.cls idx (mY M') ∈ lw_g) (hn : vs.length = n) (hz : ((mR M').frames + 1 ≤ 2048 ∧ 8 + (mN M' + 11) + (mR M').locals ≤ 84000) ∧ (mR M').cells = 0 ∧ (mR M').slots = 0) (hk : kc ≤ 336206 ∧ ks ≤ 8087488) (hr : c.2.2.1 = none)
    (k : ∀ h', Iv h' → Fr c.2.2.2.2 h h' → AW (ML L xs) kc ks (pc + 3) lv [] h' K) : AW (ML L xs) kc ks pc lv (vs.reverse ++ [.ref a]) h K := by
  refine aw_Vk (M := ML L xs) (M' := M') vs hC ma I hp hd hm hkc hs hlk hn (by decide) ⟨hz.1, hz.2.1, hz.2.2, xsL⟩ hk (fun v h' kv => ?_)
  have q := kv.2.2.2
  rw [hr] at q
  have ev : v = none := q
  subst ev
  exact k h' kv.1 kv.2.1
end SCR
abbrev k1_ : Option Value → Hp_ → Prop := fun v _ => v = some (.int 1)
theorem oa_1 {n : Nat} (h : n < 100000) : Int32.ofNat n + 1 = Int32.ofNat (n + 1) := on_s (by omega)
theorem oa_2 {n : Nat} (h : n < 100000) : Int32.ofNat n + 2 = Int32.ofNat (n + 2) := on_2 h
theorem oa_3 {n : Nat} (h : n < 100000) : Int32.ofNat n + 3 = Int32.ofNat (n + 3) := on_3 h
theorem oa_4 {n : Nat} (h : n < 100000) : Int32.ofNat n + 4 = Int32.ofNat (n + 4) := by
  have t : (4 : Int32).toInt = 4 := rfl
  have a := on_j (n := n) (by omega)
  exact Int32.toInt_inj.mp (by rw [tx_add (by rw [t]; omega) (by rw [t]; omega), t, on_j (n := n + 4) (by omega)]; omega)
theorem oa_5 {n : Nat} (h : n < 100000) : Int32.ofNat n + 5 = Int32.ofNat (n + 5) := by
  have t : (5 : Int32).toInt = 5 := rfl
  have a := on_j (n := n) (by omega)
  exact Int32.toInt_inj.mp (by rw [tx_add (by rw [t]; omega) (by rw [t]; omega), t, on_j (n := n + 5) (by omega)]; omega)
theorem oa_6 {n : Nat} (h : n < 100000) : Int32.ofNat n + Int32.ofInt 6 = Int32.ofNat (n + 6) := by
  have t : (Int32.ofInt 6).toInt = 6 := by decide
  have a := on_j (n := n) (by omega)
  exact Int32.toInt_inj.mp (by rw [tx_add (by rw [t]; omega) (by rw [t]; omega), t, on_j (n := n + 6) (by omega)]; omega)
/-! the room: what the history's rows have cost so far -/
def ph (N : Nat) : Nat := if N = 20000 then 60000 else 2 * N
theorem ph_le {N : Nat} (h : N ≤ 20000) : ph N ≤ 60000 := by
  unfold ph
  split <;> omega
def Rm (t N kc ks : Nat) : Prop := kc ≤ 202 + t ∧ ks ≤ 318709 + 17 * t + ph N ∧ N ≤ 20000
theorem Rm.up {t N kc ks : Nat} (R : Rm t N kc ks) : Rm (t + 1) N kc ks := ⟨by have := R.1; omega, by have := R.2.1; omega, R.2.2⟩
theorem Rm.con {t N kc ks : Nat} (R : Rm t N kc ks) : Rm (t + 1) N (kc + 1) (ks + 17) := ⟨by have := R.1; omega, by have := R.2.1; omega, R.2.2⟩
theorem Rm.abt {t N kc ks : Nat} (R : Rm t N kc ks) : Rm (t + 1) N (kc + 1) (ks + 6) := ⟨by have := R.1; omega, by have := R.2.1; omega, R.2.2⟩
theorem hcost_le {mc ms N N' : Nat} (h : hcost mc ms N N') (l : N' ≤ 20000) : mc ≤ 1 ∧ ms ≤ 20000 := by
  rcases h with ⟨a, b, c⟩ | ⟨a, b, c, d⟩
  · omega
  · omega
theorem Rm.tick {t N N' kc ks mc ms : Nat} (R : Rm t N kc ks) (h : hcost mc ms N N') (l : N' ≤ 20000) : Rm (t + 1) N' (kc + mc) (ks + ms) := by
  obtain ⟨r1, r2, r3⟩ := R
  rcases h with ⟨a, b, c⟩ | ⟨a, b, c, d⟩
  · subst c
    exact ⟨by omega, by omega, l⟩
  · refine ⟨by omega, ?_, l⟩
    have p : ph N = 2 * N := by
      unfold ph
      rw [if_neg (by omega)]
    rw [p] at r2
    unfold ph
    split
    · omega
    · omega
theorem Rm.ok {t N kc ks : Nat} (R : Rm t N kc ks) (h : t ≤ 600) : kc + 20 ≤ 336206 ∧ ks + 20020 ≤ 8087488 := by
  have p := ph_le R.2.2
  have r1 := R.1
  have r2 := R.2.1
  exact ⟨by omega, by omega⟩
theorem wLa_g : wLa ∈ lw_g := lw_c7 223 (by decide +kernel) (by decide +kernel)
theorem aw_La {L : Nat} {xs : Nat → Int32} {kc ks pc : Nat} {lv : List (Nat × Value)} {h : Hp_} {K : Option Value → Hp_ → Prop} (I : Iv h) (s2 : h_sh h 2 = some (3, 1)) (x1 x2 : Int32) (hd : decode code pc = .ok (.invokestatic 75, 3)) (hk : kc + 1 ≤ 336206 ∧ ks + 6 ≤ 8087488) (k : ∀ r h', Iv h' → Fr [2999] h h' → AW (ML L xs) (kc + 1) (ks + 6) (pc + 3) lv [.int r] h' K) : AW (ML L xs) kc ks pc lv [.ref 2, .int x2, .int x1, .ref 0] h K := by
  intro l p e s m args below meth c dC dI cy A ad0 adV ad dom0 dom H locs ls hf hX hT hE hW hS hl ho hs
  have htg := hf.2.2.2.2.2.2.2.1
  refine aw_back (K' := kLa h) (rest := []) (a := ([Value.ref 0, .int x1, .int x2, .ref 2].map (h_cv ad)).toArray) (mc := 1) (ms := 6) xsL hf hX hT hE hW hS hl ho (fun v hv => by cases hv) ?_ (fun v h' kk => ?_)
  · have hws : ∀ w ∈ wLa :: lw_g, ∀ (a' : Array Value) (U : State), s.WarmedH U.vm → w.before a' U = true := fun w hw a' U hWm => by
      have hw' : w ∈ lw_g := (List.mem_cons.mp hw).elim (fun e => e ▸ wLa_g) id
      exact word_at hWm (good_of_word (List.mem_filter.mp hw').2) (htg w hw')
    have hlen : ∀ sig, parseMethodDescriptor yLa.desc = some sig → 4 = sig.parameters.length := fun sig h => by
      have h2 : (parseMethodDescriptor "(LCountyWatch;II[J)I").map (fun d => d.parameters.length) = some 4 := by decide +kernel
      rw [h] at h2
      exact (Option.some.inj h2).symm
    exact vx_runSW (As := [Value.ref 0, .int x1, .int x2, .ref 2].map (h_cv ad)) ⟨hf.1, hf.2.1, hf.2.2.1, hf.2.2.2.2.2.1, htg⟩ (xl_met l dC dI cy ad adV dom H.size I s2 hW.1 x1 x2) ⟨⟨rfl, rfl, show 20 + 1 ≤ 2048 from by decide, show 8 + (5 + 11) + 2000 ≤ 84000 from by decide +kernel, hws, List.mem_cons_self⟩, htg _ wLa_g, htg _ tw_0, ⟨by decide, by decide⟩, hlen, htg _ tw_1661, htg _ tw_1662⟩ ⟨cz_blind, fun U hU hWm => ⟨rfl, cp_pre hf hT hW hS hU hWm, hX.2.2.2.go hS hU hWm (cp_sub hf.2.2.2.2.2.2.2.2.2 hW hS)⟩⟩ rfl rfl hl.1 rfl (lv_room (Nat.le_of_ble_eq_true rfl)) hd hk
  · obtain ⟨⟨r, er⟩, I', F'⟩ := kk
    subst er
    exact k r h' I' F'
/-! what else is kept: the causes told -/
def Qe (h : Hp_) : Prop := ExC h
def exoE (ws : List Nat) : Bool := exoC ws
theorem qe_F : Qe HF := exC_F
theorem Qe.fr {ws : List Nat} {h h' : Hp_} (e : Qe h) (f : Fr ws h h') (o : exoE ws = true) : Qe h' := ExC.fr e f o
theorem Qe.mf {W : List Nat} {h h' : Hp_} (e : Qe h) (f : Mf W h h') (o : exoE W = true) : Qe h' := ExC.mf e f o
theorem Qe.dw {h h1 h2 : Hp_} {x1 x2 x3 r1 r2 : Int32} (e : Qe h) (_ : Iv h) (_ : ExM h) (f : Fr wMx h h1) (_ : DxX x1 x2 x3 h r1 h1) (_ : DwP PU (fun _ _ b => b) x1 x2 x3 (h_i h (401 + x1.toNatClampNeg)) () h1 r2 h2) (f2 : Fr mwR h1 h2) : Qe h2 := (e.fr f (by decide +kernel)).fr f2 (by decide +kernel)
theorem Qe.il {h h1 h2 : Hp_} {x1 x2 r1 r2 : Int32} (e : Qe h) (_ : Iv h) (_ : ExM h) (f : Fr wMx h h1) (_ : x2 = 0 ∨ x2 = 1) (_ : IxX x1 x2 h r1 h1) (_ : IxM x1 x2 (h_i h (401 + x1.toNatClampNeg)) h1 r2 h2) (f2 : Fr mwR h1 h2) : Qe h2 := (e.fr f (by decide +kernel)).fr f2 (by decide +kernel)
theorem Qe.bg {h h1 h2 : Hp_} {x1 x2 r1 r2 : Int32} (e : Qe h) (_ : Iv h) (_ : ExM h) (f : Fr wBx h h1) (_ : BgX x1 x2 h r1 h1) (_ : BgM x1 x2 h h1 r2 h2) (f2 : Fr mwB h1 h2) : Qe h2 := (e.fr f (by decide +kernel)).fr f2 (by decide +kernel)
theorem Qe.tk {h h1 h2 : Hp_} {x1 r1 r2 : Int32} {N' : Nat} (e : Qe h) (_ : Iv h) (_ : ExM h) (_ : ExR h) (_ : ExS h) (k1 : Tkx PU lU tU nU (h_i h 0 7).toNatClampNeg N' (sX h) x1 h r1 h1) (k2 : Tkm PU lU tU nU (h_i h 0 7).toNatClampNeg (h_i h 16 7).toNatClampNeg (sX h) x1 h1 r2 h2) : Qe h2 := (e.mf k1.1.2.1 (by decide +kernel)).fr k2.1.2.2.1 (by decide +kernel)
theorem Qe.cn {h h1 h2 : Hp_} {x1 x2 x3 r1 r2 : Int32} (e : Qe h) (_ : Iv h) (_ : ExM h) (k1 : Cy x1 x2 x3 h r1 h1 ∧ CyA x1 x2 x3 h h1) (_ : ocm (h_i h1 1 7) x1 x2 x3 r2 (h_i h2 1 7) ∧ CwA x1 x2 x3 h1 h2) (f2 : Sn h1 h2) : Qe h2 := (e.mf k1.1.1.2.1 (by decide +kernel)).fr f2 (by decide +kernel)
/-! what is kept besides the tape and the beats: roads, steps, men -/
def Qx (h : Hp_) : Prop := ExR h ∧ ExS h ∧ ExM h ∧ Qe h
def qxo (ws : List Nat) : Bool := exoR ws && exoS ws && exoM ws && exoE ws
theorem qx_F : Qx HF := ⟨exR_F, exS_F, exM_F, qe_F⟩
theorem Qx.fr {ws : List Nat} {h h' : Hp_} (e : Qx h) (f : Fr ws h h') (o : qxo ws = true) : Qx h' := by
  unfold qxo at o
  simp only [Bool.and_eq_true] at o
  exact ⟨e.1.fr f o.1.1.1, e.2.1.fr f o.1.1.2, e.2.2.1.fr f o.1.2, e.2.2.2.fr f o.2⟩
def Li (N : Nat) (h : Hp_) : Prop := Iv h ∧ J2 h ∧ h_sh h 2 = some (3, 1) ∧ (∃ c, h_r h 0 15 = some c ∧ h_sh h c = some (3, N)) ∧ (Rlf rlT h ∧ MefT h) ∧ Qx h
theorem Li.t {N : Nat} {h : Hp_} (L : Li N h) : LiT N h := ⟨L.1, L.2.1, L.2.2.1, L.2.2.2.1, L.2.2.2.2.1.1, L.2.2.2.2.1.2⟩
theorem Li.q {N : Nat} {h : Hp_} (L : Li N h) : Qx h := L.2.2.2.2.2
theorem LiT.mk {N : Nat} {h : Hp_} (T : LiT N h) (q : Qx h) : Li N h := ⟨T.1, T.2.1, T.2.2.1, T.2.2.2.1, ⟨T.2.2.2.2.1, T.2.2.2.2.2⟩, q⟩
theorem Li.z {N : Nat} {h : Hp_} (L : Li N h) : Li0 N h := ⟨L.1, L.2.1, L.2.2.1, L.2.2.2.1⟩
theorem li_F : Li 0 HF := liT_F.mk qx_F
theorem Li.fr {N : Nat} {ws : List Nat} {h h' : Hp_} (L : Li N h) (I : Iv h') (f : Fr ws h h') (o : (((jso ws && !inw ws 0 15) && rlT.all (fun q => !inw ws q.1.1 q.1.2 && !inw ws 1 q.2) && (!inw ws 0 7 && off ws 15 && exoTB ws)) && qxo ws) = true) : Li N h' := by
  rw [Bool.and_eq_true] at o
  exact (L.t.fr I f o.1).mk (L.q.fr f o.2)
theorem Li.fd {N : Nat} {h h1 h2 : Hp_} {r1 r2 : Int32} {L0 : List Int32} (L : Li N h) (k1 : Iv h1 ∧ Fr [11001, 31999] h h1 ∧ Fdx L0 h r1 h1) (k2 : Iv h2 ∧ Fr [1032, 225999] h1 h2 ∧ Fdm L0 h1 r2 h2) : Li N h2 ∧ r1 = r2 := by
  have z := L.t.fd k1 k2
  exact ⟨z.1.mk ((L.q.fr k1.2.1 (by decide +kernel)).fr k2.2.1 (by decide +kernel)), z.2⟩
theorem Li.en {N : Nat} {h h1 h2 : Hp_} {x1 r1 r2 : Int32} (L : Li N h) (k1 : Iv h1 ∧ Fr [11001] h h1 ∧ (((0 ≤ x1 ∧ x1 ≤ h_i h 11 1) ∧ r1 = 1 ∧ h1 = h_im h 11 1 x1) ∨ (¬ (0 ≤ x1 ∧ x1 ≤ h_i h 11 1) ∧ r1 = 0 ∧ h1 = h))) (k2 : Iv h2 ∧ Fr [1032] h1 h2 ∧ (((0 ≤ x1 ∧ x1 ≤ h_i h1 1 32) ∧ r2 = 1 ∧ h2 = h_im h1 1 32 x1) ∨ (¬ (0 ≤ x1 ∧ x1 ≤ h_i h1 1 32) ∧ r2 = 0 ∧ h2 = h1))) : Li N h2 ∧ r1 = r2 := by
  have z := L.t.en k1 k2
  exact ⟨z.1.mk ((L.q.fr k1.2.1 (by decide +kernel)).fr k2.2.1 (by decide +kernel)), z.2⟩
theorem Li.act {N : Nat} {h h1 h2 : Hp_} {x1 r1 r2 : Int32} (L : Li N h) (k1 : Iv h1 ∧ Fr wrx_13 h h1 ∧ Rlx_13 x1 h r1 h1) (k2 : (Iv h2 ∧ Fr wzt h1 h2) ∧ Rlm (h_i h 31) (xn h) 0 x1 h1 r2 h2) : Li N h2 ∧ r1 = r2 := by
  have z := L.t.act k1 k2
  exact ⟨z.1.mk ((L.q.fr k1.2.1 (by decide +kernel)).fr k2.1.2 (by decide +kernel)), z.2⟩
theorem Li.pay {N : Nat} {h h1 h2 : Hp_} {x1 r1 r2 : Int32} (L : Li N h) (k1 : Iv h1 ∧ Fr wrx_14 h h1 ∧ Rlx_14 x1 h r1 h1) (k2 : (Iv h2 ∧ Fr wzt h1 h2) ∧ Rlm (h_i h 31) (xn h) 1 x1 h1 r2 h2) : Li N h2 ∧ r1 = r2 := by
  have z := L.t.pay k1 k2
  exact ⟨z.1.mk ((L.q.fr k1.2.1 (by decide +kernel)).fr k2.1.2 (by decide +kernel)), z.2⟩
theorem Li.pt {N : Nat} {h h1 h2 : Hp_} {x1 x2 x3 r1 r2 : Int32} (L : Li N h) (k1 : Iv h1 ∧ PtX x1 x2 x3 h r1 h1) (k2 : Iv h2 ∧ PtM x1 x2 x3 h1 r2 h2) : Li N h2 ∧ r1 = r2 := by
  have z := ExR.pt L.1 L.q.1 k1.2 k2.2
  exact ⟨((L.t.fr k1.1 k1.2.1 (by decide +kernel)).fr k2.1 k2.2.1 (by decide +kernel)).mk ⟨z.1, (L.q.2.1.fr k1.2.1 (by decide +kernel)).fr k2.2.1 (by decide +kernel), L.q.2.2.1.pt L.1 k2.1 L.q.1 k1.2 k2.2, (L.q.2.2.2.fr k1.2.1 (by decide +kernel)).fr k2.2.1 (by decide +kernel)⟩, z.2⟩
theorem Li.bt {N : Nat} {h h1 h2 : Hp_} {r1 r2 : Int32} (L : Li N h) (k1 : Iv h1 ∧ Fr wbx h h1 ∧ Btx h r1 h1) (k2 : (Iv h2 ∧ J2 h2) ∧ Btm (h_i h 31) (xn h) h1 r2 h2) : Li N h2 ∧ r1 = r2 := by
  have z := L.t.bt k1 k2
  exact ⟨z.1.mk ⟨(L.q.1.fr k1.2.1 (by decide +kernel)).fr k2.2.1 (by decide +kernel), L.q.2.1.bt L.t k1 k2, L.q.2.2.1.bt L.t k1 k2, (L.q.2.2.2.fr k1.2.1 (by decide +kernel)).fr k2.2.1 (by decide +kernel)⟩, z.2⟩
theorem ExM.j2 {h : Hp_} (I : Iv h) (x : ExM h) (e : h_i h 12 3 = h_i h 1 42) : J2 h := j2_of (s := sX h) I (by rw [← x.1.1]; exact x.m I) x.1.2.2.2 (rwX_in I).1 (by rw [← e]; exact x.2.2.1) x.2.2.2.1
theorem Li.md {N : Nat} {h h1 h2 : Hp_} (L : Li N h) (I1 : Iv h1) (f : Fr wMx h h1) (z : Iv h2 ∧ Fr mwR h1 h2 ∧ ExM h2) (e9 : Qe h2) : Li N h2 := by
  have T1 : LiT N h1 := L.t.fr I1 f (by decide +kernel)
  have e : h_i h2 12 3 = h_i h2 1 42 := by
    rw [(z.2.1.2 12 3 (by decide +kernel)).1, (f.2 12 3 (by decide +kernel)).1, (z.2.1.2 1 42 (by decide +kernel)).1, (f.2 1 42 (by decide +kernel)).1]
    exact L.t.r2
  exact (T1.sr z.1 (z.2.2.j2 z.1 e) (z.2.1.more (by decide +kernel))).mk ⟨(L.q.1.fr f (by decide +kernel)).fr z.2.1 (by decide +kernel), (L.q.2.1.fr f (by decide +kernel)).fr z.2.1 (by decide +kernel), z.2.2, e9⟩
theorem Li.me {N : Nat} {h h1 h2 : Hp_} (L : Li N h) (I1 : Iv h1) (f : Fr wBx h h1) (z : Iv h2 ∧ Fr mwB h1 h2 ∧ ExM h2) (e9 : Qe h2) : Li N h2 := by
  have T1 : LiT N h1 := L.t.fr I1 f (by decide +kernel)
  have e : h_i h2 12 3 = h_i h2 1 42 := by
    rw [(z.2.1.2 12 3 (by decide +kernel)).1, (f.2 12 3 (by decide +kernel)).1, (z.2.1.2 1 42 (by decide +kernel)).1, (f.2 1 42 (by decide +kernel)).1]
    exact L.t.r2
  exact (T1.sr z.1 (z.2.2.j2 z.1 e) (z.2.1.more (by decide +kernel))).mk ⟨(L.q.1.fr f (by decide +kernel)).fr z.2.1 (by decide +kernel), (L.q.2.1.fr f (by decide +kernel)).fr z.2.1 (by decide +kernel), z.2.2, e9⟩
theorem c_dwL {N : Nat} (d : Nat) {h : Hp_} (I : Iv h) (L : Li N h) (x1 x2 x3 : Int32) : Ci (m_X11_draw (d + 5) 0 0) [.ref 0, .int x1, .int x2, .int x3] h (fun r h' => Iv h' ∧ Fr wMx h h' ∧ DxX x1 x2 x3 h r h') := c_dwX d I L.q.2.2.1 x1 x2 x3
theorem c_dwN {N : Nat} (d : Nat) {h h1 : Hp_} (I1 : Iv h1) (L : Li N h) (f : Fr wMx h h1) (x1 x2 x3 : Int32) : Ci (m_X12_draw (d + 5) 0 0) [.ref 1, .int x1, .int x2, .int x3] h1 (DwP PU (fun _ _ b => b) x1 x2 x3 (h_i h (401 + x1.toNatClampNeg)) () h1) := c_dwM d I1 L.1 L.q.2.2.1 L.q.1 f x1 x2 x3
theorem Li.dw {N : Nat} {h h1 h2 : Hp_} {x1 x2 x3 r1 r2 : Int32} (L : Li N h) (k1 : Iv h1 ∧ Fr wMx h h1 ∧ DxX x1 x2 x3 h r1 h1) (k2 : DwP PU (fun _ _ b => b) x1 x2 x3 (h_i h (401 + x1.toNatClampNeg)) () h1 r2 h2) : Li N h2 ∧ r1 = r2 := by
  have z := ExM.dw L.1 L.q.2.2.1 L.q.1 k1.2.1 k1.2.2 k2
  exact ⟨L.md k1.1 k1.2.1 ⟨z.1, z.2.1, z.2.2.1⟩ (L.q.2.2.2.dw L.1 L.q.2.2.1 k1.2.1 k1.2.2 k2 z.2.1), z.2.2.2⟩
theorem c_ilL {N : Nat} (d : Nat) {h : Hp_} (I : Iv h) (L : Li N h) (x1 x2 : Int32) (b2 : x2 = 0 ∨ x2 = 1 := by decide) : Ci (m_X11_ill (d + 3) 0 0) [.ref 0, .int x1, .int x2] h (fun r h' => Iv h' ∧ Fr wMx h h' ∧ (x2 = 0 ∨ x2 = 1) ∧ IxX x1 x2 h r h') := Ci.mono (c_ilX d I L.q.2.2.1 x1 x2 b2) (fun _ _ k => ⟨k.1, k.2.1, b2, k.2.2⟩)
theorem c_ilN {N : Nat} (d : Nat) {h h1 : Hp_} (I1 : Iv h1) (L : Li N h) (f : Fr wMx h h1) (x1 x2 : Int32) (b2 : x2 = 0 ∨ x2 = 1 := by decide) : Ci (m_X12_ill (d + 2) 0 0) [.ref 1, .int x1, .int x2] h1 (IxM x1 x2 (h_i h (401 + x1.toNatClampNeg)) h1) := c_ilM d I1 L.1 L.q.2.2.1 f x1 x2 b2
theorem Li.il {N : Nat} {h h1 h2 : Hp_} {x1 x2 r1 r2 : Int32} (L : Li N h) (k1 : Iv h1 ∧ Fr wMx h h1 ∧ (x2 = 0 ∨ x2 = 1) ∧ IxX x1 x2 h r1 h1) (k2 : IxM x1 x2 (h_i h (401 + x1.toNatClampNeg)) h1 r2 h2) : Li N h2 ∧ r1 = r2 := by
  have z := ExM.il L.1 L.q.2.2.1 L.q.1 k1.2.1 k1.2.2.1 k1.1 k1.2.2.2 k2
  exact ⟨L.md k1.1 k1.2.1 ⟨z.1, z.2.1, z.2.2.1⟩ (L.q.2.2.2.il L.1 L.q.2.2.1 k1.2.1 k1.2.2.1 k1.2.2.2 k2 z.2.1), z.2.2.2⟩
theorem c_bgL {N : Nat} (d : Nat) {h : Hp_} (I : Iv h) (L : Li N h) (x1 x2 : Int32) : Ci (m_X11_begin (d + 6) 0 0) [.ref 0, .int x1, .int x2] h (fun r h' => Iv h' ∧ Fr wBx h h' ∧ BgX x1 x2 h r h') := c_bgX d I L.q.2.2.1 L.q.2.1 L.t.2.2.2.2.2.2.2 x1 x2
theorem c_bgN {N : Nat} (d : Nat) {h h1 : Hp_} (I1 : Iv h1) (L : Li N h) (f : Fr wBx h h1) (x1 x2 : Int32) : Ci (m_X12_begin (d + 4) 0 0) [.ref 1, .int x1, .int x2] h1 (BgM x1 x2 h h1) := c_bgM d I1 L.1 L.q.2.2.1 L.q.1 L.q.2.1 L.t.r2 f x1 x2
theorem Li.bg {N : Nat} {h h1 h2 : Hp_} {x1 x2 r1 r2 : Int32} (L : Li N h) (k1 : Iv h1 ∧ Fr wBx h h1 ∧ BgX x1 x2 h r1 h1) (k2 : BgM x1 x2 h h1 r2 h2) : Li N h2 ∧ r1 = r2 := by
  have z := ExM.bg L.1 L.q.2.2.1 L.q.1 L.q.2.1 k1.1 k1.2.1 k1.2.2 k2
  exact ⟨L.me k1.1 k1.2.1 ⟨z.1, z.2.1, z.2.2.1⟩ (L.q.2.2.2.bg L.1 L.q.2.2.1 k1.2.1 k1.2.2 k2 z.2.1), z.2.2.2⟩
theorem c_tkL {N : Nat} (d : Nat) {h : Hp_} (I : Iv h) (L : Li N h) (x1 : Int32) {c n : Nat} (hc : h_r h 0 15 = some c) (hs : h_sh h c = some (3, n)) (hN : n ≤ 20000) : ∃ mc ms N', N' ≤ 20000 ∧ hcost mc ms n N' ∧ Ci (m_X11_tick (d + 8) mc ms) [.ref 0, .int x1] h (Tkx PU lU tU nU (h_i h 0 7).toNatClampNeg N' (sX h) x1 h) := c_tkU d I L.q.2.2.1 L.q.1 L.q.2.1 (fun k hk => (L.t.2.2.2.2.2.2.2 k hk).1) x1 hc hs hN
theorem c_tmL {N : Nat} (d : Nat) {h h1 : Hp_} (I1 : Iv h1) (J1 : J2 h1) (L : Li N h) (f : Mf wsX h h1) (x1 : Int32) : Ci (m_X12_tick (d + 10) 0 0) [.ref 1, .int x1] h1 (Tkm PU lU tU nU (h_i h 0 7).toNatClampNeg (h_i h 16 7).toNatClampNeg (sX h) x1 h1) := c_tmU d I1 J1 L.1 L.q.2.2.1 L.q.1 L.q.2.1 L.t.r2 f x1
theorem Li.tk {N N' : Nat} {h h1 h2 : Hp_} {x1 r1 r2 : Int32} (L : Li N h) (k1 : Tkx PU lU tU nU (h_i h 0 7).toNatClampNeg N' (sX h) x1 h r1 h1) (k2 : Tkm PU lU tU nU (h_i h 0 7).toNatClampNeg (h_i h 16 7).toNatClampNeg (sX h) x1 h1 r2 h2) : Li N' h2 := (L.t.tick2 k1.1 k2.1).mk ⟨(L.q.1.mf k1.1.2.1 (by decide +kernel)).fr k2.1.2.2.1 (by decide +kernel), (L.q.2.1.mf k1.1.2.1 (by decide +kernel)).fr k2.1.2.2.1 (by decide +kernel), ExM.tk L.1 L.q.2.2.1 L.q.1 L.q.2.1 k1 k2, L.q.2.2.2.tk L.1 L.q.2.2.1 L.q.1 L.q.2.1 k1 k2⟩
theorem Li.cn {N : Nat} {h h1 h2 : Hp_} {x1 x2 x3 r1 r2 : Int32} (L : Li N h) (k1 : Cy x1 x2 x3 h r1 h1 ∧ CyA x1 x2 x3 h h1) (k2 : Iv h2 ∧ J2 h2 ∧ Sn h1 h2 ∧ ocm (h_i h1 1 7) x1 x2 x3 r2 (h_i h2 1 7) ∧ Cw (okm (h_i h1 1 7) x1 x2 x3) (h_i h1 1 7) x1 h1 h2 ∧ CwA x1 x2 x3 h1 h2) : Li N h2 := (L.t.con2 k1.1 ⟨k2.1, k2.2.1, k2.2.2.1, k2.2.2.2.1, k2.2.2.2.2.1⟩).mk ⟨(L.q.1.mf k1.1.1.2.1 (by decide +kernel)).fr k2.2.2.1 (by decide +kernel), (L.q.2.1.mf k1.1.1.2.1 (by decide +kernel)).fr k2.2.2.1 (by decide +kernel), (ExM.cn L.1 L.q.2.2.1 L.q.1 k1 ⟨k2.2.2.2.1, k2.2.2.2.2.2⟩).1, L.q.2.2.2.cn L.1 L.q.2.2.1 k1 ⟨k2.2.2.2.1, k2.2.2.2.2.2⟩ k2.2.2.1⟩
theorem c_csL {N : Nat} (d : Nat) {h : Hp_} (I : Iv h) (_ : Li N h) (x1 x2 : Int32) : Ci (m_X11_cause (d + 2) 0 0) [.ref 0, .int x1, .int x2] h (fun r h' => Iv h' ∧ Fr wCx h h' ∧ CsX x1 x2 h r h') := c_csX d I x1 x2
theorem c_csN {N : Nat} (d : Nat) {h h1 : Hp_} (I1 : Iv h1) (L : Li N h) (f : Fr wCx h h1) (x1 x2 : Int32) : Ci (m_X12_cause (d + 1) 0 0) [.ref 1, .int x1, .int x2] h1 (fun r h' => Iv h' ∧ Fr wCm h1 h' ∧ CsM ((0 ≤ x1 ∧ x1 ≤ h_i h1 1 63 - 1) ∧ sOP (h_i h1 241 x1.toNatClampNeg) (h_i h1 242 x1.toNatClampNeg) (h_i h1 1 0) = 2 ∧ (1 ≤ x2 ∧ x2 ≤ 9) ∧ ¬ h_i h1 1 64 = 200) x1 x2 h1 r h') := c_csM d I1 x1 x2 (fun y => (v4 L.1 ((r63 L.1 L.q.2.2.1).mp (by rw [(f.2 1 63 (by decide +kernel)).1] at y; exact y))).1)
theorem Li.cs {N : Nat} {h h1 h2 : Hp_} {x1 x2 r1 r2 : Int32} (L : Li N h) (k1 : Iv h1 ∧ Fr wCx h h1 ∧ CsX x1 x2 h r1 h1) (k2 : Iv h2 ∧ Fr wCm h1 h2 ∧ CsM ((0 ≤ x1 ∧ x1 ≤ h_i h1 1 63 - 1) ∧ sOP (h_i h1 241 x1.toNatClampNeg) (h_i h1 242 x1.toNatClampNeg) (h_i h1 1 0) = 2 ∧ (1 ≤ x2 ∧ x2 ≤ 9) ∧ ¬ h_i h1 1 64 = 200) x1 x2 h1 r2 h2) : Li N h2 ∧ r1 = r2 := by
  have f1 := k1.2.1
  have f2 := k2.2.1
  have oe := ok_cs (x1 := x1) (x2 := x2) L.1 L.q.2.2.1 L.q.2.2.2
  rw [← (f1.2 1 63 (by decide +kernel)).1, ← (f1.2 1 0 (by decide +kernel)).1, ← (f1.2 1 64 (by decide +kernel)).1, ← fr_i f1 (a := 241) (by decide +kernel), ← fr_i f1 (a := 242) (by decide +kernel)] at oe
  have z := ExC.cs L.1 L.q.2.2.1 L.q.2.2.2 f1 f2 k1.2.2 k2.2.2 oe
  exact ⟨((L.t.fr k1.1 f1 (by decide +kernel)).fr k2.1 f2 (by decide +kernel)).mk ⟨(L.q.1.fr f1 (by decide +kernel)).fr f2 (by decide +kernel), (L.q.2.1.fr f1 (by decide +kernel)).fr f2 (by decide +kernel), (L.q.2.2.1.fr f1 (by decide +kernel)).fr f2 (by decide +kernel), z.1⟩, z.2⟩
theorem Li.ee {N : Nat} {h h1 : Hp_} (L : Li N h) (e : h1 = h) : Li N h1 := e ▸ L
theorem c_cmX {N : Nat} (d : Nat) {h : Hp_} (I : Iv h) (_ : Li N h) (x1 x2 x3 : Int32) : Ci (m_X11_point (d + 3) 0 0) [.ref 0, .int x1, .int x2, .int x3] h (fun r h' => Iv h' ∧ h' = h ∧ r = pntV h x1 x2 x3) := Ci.mono (c_pnX d I x1 x2 x3) (fun _ _ k => ⟨k.1 ▸ I, k.1, k.2⟩)
theorem c_cmM {N : Nat} (d : Nat) {h : Hp_} (I : Iv h) (L : Li N h) (x1 x2 x3 : Int32) : Ci (m_X12_point (d + 2) 0 0) [.ref 1, .int x1, .int x2, .int x3] h (fun r h' => Iv h' ∧ h' = h ∧ r = pntV h x1 x2 x3) := Ci.mono (c_pnM d I L.q.2.2.1 L.q.2.2.2 x1 x2 x3) (fun _ _ k => ⟨k.1 ▸ I, k.1, k.2⟩)
theorem Li.cm {N : Nat} {h h1 h2 : Hp_} {x1 x2 x3 r1 r2 : Int32} (L : Li N h) (k1 : Iv h1 ∧ h1 = h ∧ r1 = pntV h x1 x2 x3) (k2 : Iv h2 ∧ h2 = h1 ∧ r2 = pntV h1 x1 x2 x3) : Li N h2 ∧ r1 = r2 := by
  obtain ⟨_, e1, k1⟩ := k1
  obtain ⟨_, e2, k2⟩ := k2
  subst e1 e2
  exact ⟨L, k1.trans k2.symm⟩
