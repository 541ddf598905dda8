/-! the law, on every script -/
def lX (L : Nat) (xs : Nat → Int32) : (Nat → Nat) → (Nat → Prop) → State → Prop := fun ad A s => va_X (ad 1100) L xs s s.heap ∧ ad 1100 < s.heap.size ∧ ¬ A (ad 1100) ∧ Zx A s
abbrev ML (L : Nat) (xs : Nat → Int32) : Mc_ := (lX L xs, x, code, 7, ret, room_1)
theorem xsL {L : Nat} {xs : Nat → Int32} : xs_ (ML L xs) := fun ad ad' A s he hX => by
  have e := he 1100 (by decide)
  show va_X (ad' 1100) L xs s s.heap ∧ ad' 1100 < s.heap.size ∧ ¬ A (ad' 1100) ∧ Zx A s
  rw [e]
  exact hX
section SCR
variable {L : Nat} {xs : Nat → Int32} {kc ks pc : Nat} {lv : List (Nat × Value)} {st : List Value} {h : Hp_} {K : Option Value → Hp_ → Prop}
theorem aw_sld {i : Int32} (n : Nat) (hn : i.toNatClampNeg = n) (hin : vp_in i L) (hd : decode code pc = .ok (.iaload, 1)) (k : AW (ML L xs) kc ks (pc + 1) lv (.int (xs n) :: st) h K) : AW (ML L xs) kc ks pc lv (.int i :: .ref 1100 :: st) h K := by
  intro l p e s m args below meth c dC dI cy A ad0 adV ad dom0 dom H locs ls hf hX hT hE hW hS hl ho hs
  subst hn
  exact va_sld hf.1 hf.2.1 hX.1 hX.2.1 hX.2.2.1 hS hin hd (k l p e s m args below meth c dC dI cy A ad0 adV ad dom0 dom H locs ls hf hX hT hE hW hS hl ho (ok_c ok_i (ok_t (ok_t hs))))
theorem aw_slen (hd : decode code pc = .ok (.arraylength, 1)) (k : AW (ML L xs) kc ks (pc + 1) lv (.int (Int32.ofNat L) :: st) h K) : AW (ML L xs) kc ks pc lv (.ref 1100 :: st) h K := by
  intro l p e s m args below meth c dC dI cy A ad0 adV ad dom0 dom H locs ls hf hX hT hE hW hS hl ho hs
  exact va_slen hf.1 hf.2.1 hX.1 hX.2.1 hX.2.2.1 hS hd (k l p e s m args below meth c dC dI cy A ad0 adV ad dom0 dom H locs ls hf hX hT hE hW hS hl ho (ok_c ok_i (ok_t hs)))
abbrev lv5 (i : Nat) : List (Nat × Value) := [(0, .ref 1100), (1, .ref 0), (2, .ref 1), (3, .ref 2), (4, .int (Int32.ofNat i))]
theorem aw_arg {i j : Nat} {n : Int} {v : Int32} (d0 : decode code pc = .ok (.aload_n 0, 1)) (d1 : decode code (pc + 1) = .ok (.iload 4, 2)) (d2 : decode code (pc + 3) = .ok (.iconst n, 1)) (d3 : decode code (pc + 4) = .ok (.iadd, 1)) (d4 : decode code (pc + 5) = .ok (.iaload, 1)) (hv : Int32.ofInt n = v) (hj : Int32.ofNat i + v = Int32.ofNat (i + j)) (hL : i + j < L) (lL : L ≤ 3072) (k : AW (ML L xs) kc ks (pc + 6) (lv5 i) (.int (xs (i + j)) :: st) h K) : AW (ML L xs) kc ks pc (lv5 i) st h K := by
  refine aw_aload_n (i := 0) rfl d0 0 rfl ?_
  refine aw_iload d1 4 rfl ?_
  refine aw_iconst (v := v) d2 hv ?_
  refine aw_iadd d3 ?_
  refine aw_vi (v2 := Int32.ofNat (i + j)) hj ?_
  exact aw_sld (i + j) (on_k (by omega)) (on_in hL (by omega)) d4 k
theorem aw_arg2 {i j : Nat} {n : Int} {v r : Int32} (d0 : decode code pc = .ok (.aload_n 0, 1)) (d1 : decode code (pc + 1) = .ok (.iload 4, 2)) (d2 : decode code (pc + 3) = .ok (.iconst n, 1)) (d3 : decode code (pc + 4) = .ok (.iadd, 1)) (d4 : decode code (pc + 5) = .ok (.iaload, 1)) (hv : Int32.ofInt n = v) (hj : Int32.ofNat i + v = Int32.ofNat (i + j)) (hL : i + j < L) (lL : L ≤ 3072) (k : AW (ML L xs) kc ks (pc + 6) [(0, .ref 1100), (1, .ref 0), (2, .ref 1), (3, .ref 2), (4, .int (Int32.ofNat i)), (5, .int r)] (.int (xs (i + j)) :: st) h K) : AW (ML L xs) kc ks pc [(0, .ref 1100), (1, .ref 0), (2, .ref 1), (3, .ref 2), (4, .int (Int32.ofNat i)), (5, .int r)] st h K := by
  refine aw_aload_n (i := 0) rfl d0 0 rfl ?_
  refine aw_iload d1 4 rfl ?_
  refine aw_iconst (v := v) d2 hv ?_
  refine aw_iadd d3 ?_
  refine aw_vi (v2 := Int32.ofNat (i + j)) hj ?_
  exact aw_sld (i + j) (on_k (by omega)) (on_in hL (by omega)) d4 k
/-- a call whose answer is thrown away -/
theorem aw_Kp {M' : Mc_} {n idx ci N a : Nat} {c : Ctr} {T : u_T} (vs : List Value) (hC : Hc M' c) (ma : am h (vs.reverse ++ [.ref a]) c.1) (I : Iv h) (hp : hm h c.2.1) (hd : decode code pc = .ok (.invokevirtual idx, 3)) (hm : cV_ M' n) (hkc : kc_ ci (mY M').cls T N) (hs : h_sh h a = some (ci + 10, N)) (hlk : Cond.methodLink x.cls idx (mY M') ∈ lw_g) (hn : vs.length = n) (hz : ((mR M').frames + 1 ≤ 2048 ∧ 8 + (mN M' + 11) + (mR M').locals ≤ 84000) ∧ (mR M').cells = 0 ∧ (mR M').slots = 0) (hk : kc ≤ 494584 ∧ ks ≤ 7612352) (hr : ∃ g, c.2.2.1 = some (.inl g)) (hq : decode code (pc + 3) = .ok (.pop, 1))
    (k : ∀ h', Iv h' → Fr c.2.2.2.2 h h' → AW (ML L xs) kc ks (pc + 4) lv [] h' K) : AW (ML L xs) kc ks pc lv (vs.reverse ++ [.ref a]) h K := by
  refine aw_Vk (M := ML L xs) (M' := M') vs hC ma I hp hd hm hkc hs hlk hn (by decide) ⟨hz.1, hz.2.1, hz.2.2, xsL⟩ hk (fun v h' kv => ?_)
  obtain ⟨⟨r, s, gh⟩, eg⟩ := hr
  have q := kv.2.2.2
  rw [eg] at q
  obtain ⟨x2, ev, y2, ey, _⟩ := q
  subst ev
  subst ey
  exact aw_pop hq rfl (k h' kv.1 kv.2.1)
theorem aw_Kv {M' : Mc_} {n idx ci N a : Nat} {c : Ctr} {T : u_T} (vs : List Value) (hC : Hc M' c) (ma : am h (vs.reverse ++ [.ref a]) c.1) (I : Iv h) (hp : hm h c.2.1) (hd : decode code pc = .ok (.invokevirtual idx, 3)) (hm : cV_ M' n) (hkc : kc_ ci (mY M').cls T N) (hs : h_sh h a = some (ci + 10, N)) (hlk : Cond.methodLink x.cls idx (mY M') ∈ lw_g) (hn : vs.length = n) (hz : ((mR M').frames + 1 ≤ 2048 ∧ 8 + (mN M' + 11) + (mR M').locals ≤ 84000) ∧ (mR M').cells = 0 ∧ (mR M').slots = 0) (hk : kc ≤ 494584 ∧ ks ≤ 7612352) (hr : c.2.2.1 = none)
    (k : ∀ h', Iv h' → Fr c.2.2.2.2 h h' → AW (ML L xs) kc ks (pc + 3) lv [] h' K) : AW (ML L xs) kc ks pc lv (vs.reverse ++ [.ref a]) h K := by
  refine aw_Vk (M := ML L xs) (M' := M') vs hC ma I hp hd hm hkc hs hlk hn (by decide) ⟨hz.1, hz.2.1, hz.2.2, xsL⟩ hk (fun v h' kv => ?_)
  have q := kv.2.2.2
  rw [hr] at q
  have ev : v = none := q
  subst ev
  exact k h' kv.1 kv.2.1
end SCR
abbrev k1_ : Option Value → Hp_ → Prop := fun v _ => v = some (.int 1)
theorem oa_1 {n : Nat} (h : n < 100000) : Int32.ofNat n + 1 = Int32.ofNat (n + 1) := on_s (by omega)
theorem oa_2 {n : Nat} (h : n < 100000) : Int32.ofNat n + 2 = Int32.ofNat (n + 2) := on_2 h
theorem oa_3 {n : Nat} (h : n < 100000) : Int32.ofNat n + 3 = Int32.ofNat (n + 3) := on_3 h
theorem oa_4 {n : Nat} (h : n < 100000) : Int32.ofNat n + 4 = Int32.ofNat (n + 4) := by
  have t : (4 : Int32).toInt = 4 := rfl
  have a := on_j (n := n) (by omega)
  exact Int32.toInt_inj.mp (by rw [tx_add (by rw [t]; omega) (by rw [t]; omega), t, on_j (n := n + 4) (by omega)]; omega)
theorem oa_5 {n : Nat} (h : n < 100000) : Int32.ofNat n + 5 = Int32.ofNat (n + 5) := by
  have t : (5 : Int32).toInt = 5 := rfl
  have a := on_j (n := n) (by omega)
  exact Int32.toInt_inj.mp (by rw [tx_add (by rw [t]; omega) (by rw [t]; omega), t, on_j (n := n + 5) (by omega)]; omega)
theorem oa_6 {n : Nat} (h : n < 100000) : Int32.ofNat n + Int32.ofInt 6 = Int32.ofNat (n + 6) := by
  have t : (Int32.ofInt 6).toInt = 6 := by decide
  have a := on_j (n := n) (by omega)
  exact Int32.toInt_inj.mp (by rw [tx_add (by rw [t]; omega) (by rw [t]; omega), t, on_j (n := n + 6) (by omega)]; omega)
/-! the room: what the history's rows have cost so far -/
def ph (N : Nat) : Nat := if N = 20000 then 60000 else 2 * N
theorem ph_le {N : Nat} (h : N ≤ 20000) : ph N ≤ 60000 := by
  unfold ph
  split <;> omega
def Rm (t N kc ks : Nat) : Prop := kc ≤ 202 + t ∧ ks ≤ 318709 + 17 * t + ph N ∧ N ≤ 20000
theorem Rm.up {t N kc ks : Nat} (R : Rm t N kc ks) : Rm (t + 1) N kc ks := ⟨by have := R.1; omega, by have := R.2.1; omega, R.2.2⟩
theorem Rm.con {t N kc ks : Nat} (R : Rm t N kc ks) : Rm (t + 1) N (kc + 1) (ks + 17) := ⟨by have := R.1; omega, by have := R.2.1; omega, R.2.2⟩
theorem Rm.abt {t N kc ks : Nat} (R : Rm t N kc ks) : Rm (t + 1) N (kc + 1) (ks + 6) := ⟨by have := R.1; omega, by have := R.2.1; omega, R.2.2⟩
theorem hcost_le {mc ms N N' : Nat} (h : hcost mc ms N N') (l : N' ≤ 20000) : mc ≤ 1 ∧ ms ≤ 20000 := by
  rcases h with ⟨a, b, c⟩ | ⟨a, b, c, d⟩
  · omega
  · omega
theorem Rm.tick {t N N' kc ks mc ms : Nat} (R : Rm t N kc ks) (h : hcost mc ms N N') (l : N' ≤ 20000) : Rm (t + 1) N' (kc + mc) (ks + ms) := by
  obtain ⟨r1, r2, r3⟩ := R
  rcases h with ⟨a, b, c⟩ | ⟨a, b, c, d⟩
  · subst c
    exact ⟨by omega, by omega, l⟩
  · refine ⟨by omega, ?_, l⟩
    have p : ph N = 2 * N := by
      unfold ph
      rw [if_neg (by omega)]
    rw [p] at r2
    unfold ph
    split
    · omega
    · omega
theorem Rm.ok {t N kc ks : Nat} (R : Rm t N kc ks) (h : t ≤ 600) : kc + 20 ≤ 494584 ∧ ks + 20020 ≤ 7612352 := by
  have p := ph_le R.2.2
  have r1 := R.1
  have r2 := R.2.1
  exact ⟨by omega, by omega⟩
theorem wLa_g : wLa ∈ lw_g := lw_c7 223 (by decide +kernel) (by decide +kernel)
theorem aw_La {L : Nat} {xs : Nat → Int32} {kc ks pc : Nat} {lv : List (Nat × Value)} {h : Hp_} {K : Option Value → Hp_ → Prop} (I : Iv h) (s2 : h_sh h 2 = some (3, 1)) (x1 x2 : Int32) (hd : decode code pc = .ok (.invokestatic 75, 3)) (hk : kc + 1 ≤ 494584 ∧ ks + 6 ≤ 7612352) (k : ∀ r h', Iv h' → Fr [2999] h h' → AW (ML L xs) (kc + 1) (ks + 6) (pc + 3) lv [.int r] h' K) : AW (ML L xs) kc ks pc lv [.ref 2, .int x2, .int x1, .ref 0] h K := by
  intro l p e s m args below meth c dC dI cy A ad0 adV ad dom0 dom H locs ls hf hX hT hE hW hS hl ho hs
  have htg := hf.2.2.2.2.2.2.2.1
  refine aw_back (K' := kLa h) (rest := []) (a := ([Value.ref 0, .int x1, .int x2, .ref 2].map (h_cv ad)).toArray) (mc := 1) (ms := 6) xsL hf hX hT hE hW hS hl ho (fun v hv => by cases hv) ?_ (fun v h' kk => ?_)
  · have hws : ∀ w ∈ wLa :: lw_g, ∀ (a' : Array Value) (U : State), s.WarmedH U.vm → w.before a' U = true := fun w hw a' U hWm => by
      have hw' : w ∈ lw_g := (List.mem_cons.mp hw).elim (fun e => e ▸ wLa_g) id
      exact word_at hWm (good_of_word (List.mem_filter.mp hw').2) (htg w hw')
    have hlen : ∀ sig, parseMethodDescriptor yLa.desc = some sig → 4 = sig.parameters.length := fun sig h => by
      have h2 : (parseMethodDescriptor "(LCountyWatch;II[J)I").map (fun d => d.parameters.length) = some 4 := by decide +kernel
      rw [h] at h2
      exact (Option.some.inj h2).symm
    exact vx_runSW (As := [Value.ref 0, .int x1, .int x2, .ref 2].map (h_cv ad)) ⟨hf.1, hf.2.1, hf.2.2.1, hf.2.2.2.2.2.1, htg⟩ (xl_met l dC dI cy ad adV dom H.size I s2 hW.1 x1 x2) ⟨⟨rfl, rfl, show 20 + 1 ≤ 2048 from by decide, show 8 + (5 + 11) + 2000 ≤ 84000 from by decide +kernel, hws, List.mem_cons_self⟩, htg _ wLa_g, htg _ tw_0, ⟨by decide, by decide⟩, hlen, htg _ tw_1661, htg _ tw_1662⟩ ⟨cz_blind, fun U hU hWm => ⟨rfl, cp_pre hf hT hW hS hU hWm, hX.2.2.2.go hS hU hWm (cp_sub hf.2.2.2.2.2.2.2.2.2 hW hS)⟩⟩ rfl rfl hl.1 rfl (lv_room (Nat.le_of_ble_eq_true rfl)) hd hk
  · obtain ⟨⟨r, er⟩, I', F'⟩ := kk
    subst er
    exact k r h' I' F'
theorem Li.sb {N : Nat} {ws : List Nat} {h h' : Hp_} (L : Li N h) (I : Iv h') (J : J2 h') (f : Fr ws h h') (o : inw ws 0 15 = false) : Li0 N h' := by
  obtain ⟨c, a, b⟩ := L.2.2.2.1
  exact ⟨I, J, by rw [f.1]; exact L.2.2.1, c, by rw [(f.2 0 15 o).2.2]; exact a, by rw [f.1]; exact b⟩
theorem Li.r1 {N : Nat} {h : Hp_} (L : Li N h) : h_i h 11 1 = h_i h 1 32 := L.2.2.2.2.1 ((11, 1), 32) (by decide)
theorem Li.r2 {N : Nat} {h : Hp_} (L : Li N h) : h_i h 12 3 = h_i h 1 42 := L.2.2.2.2.1 ((12, 3), 42) (by decide)
theorem Rlf.mk {h : Hp_} (a : h_i h 11 1 = h_i h 1 32) (b : h_i h 12 3 = h_i h 1 42) : Rlf rl h := fun q hq => by
  simp only [rl, List.mem_cons, List.not_mem_nil, or_false] at hq
  rcases hq with u | u <;> subst u
  · exact a
  · exact b
/-- what the reference's readers want to know of the tape -/
def Qt (b : Nat → Int32) (n : Nat) (h : Hp_) : Prop := Tp b n h ∧ (∀ k, k < n → ¬ b k = -1) ∧ J2 h
theorem Li.q {N : Nat} {ws : List Nat} {h h1 : Hp_} (L : Li N h) (f : Fr ws h h1) (o : (jso ws && off ws 225 && !inw ws 1 32) = true) : Qt (h_i h 31) (xn h) h1 := by
  simp only [Bool.and_eq_true, Bool.not_eq_true'] at o
  refine ⟨⟨fun k hk => ?_, ?_⟩, fun k _ e => ?_, J2_s (Js.fr f o.1.1) L.2.1⟩
  · rw [fr_i f o.1.2 k]
    exact L.2.2.2.2.2.2.1 k hk
  · show (h_i h1 1 32).toNatClampNeg = (h_i h 11 1).toNatClampNeg
    rw [(f.2 1 32 o.2).1, L.r1]
  · have q := (b31_in L.1 k).1
    rw [e] at q
    exact absurd q (by decide)
/-! beat, act, pay, feed, end: neither compared here, and what they do to the tape -/
theorem c_cmX (d : Nat) {h : Hp_} (I : Iv h) : Ci (m_X11_beat (d + 105) 0 0) [.ref 0] h (fun r h' => Iv h' ∧ Fr wbx h h' ∧ (¬ okB (h_i h 31) (xn h) (h_i h 12 3) → r = -1 ∧ h_i h' 12 3 = h_i h 12 3 ∧ h_i h' 11 1 = h_i h 11 1) ∧ (okB (h_i h 31) (xn h) (h_i h 12 3) → r = h_i h 12 3 ∧ h_i h' 12 3 = h_i h 12 3 + 1 ∧ h_i h' 11 1 = 0 ∧ h_i h' 35 (h_i h 12 3).toNatClampNeg = Int32.ofNat (beo (h_i h 31) (xn h)).length)) := c_btx d I
theorem c_cmM (d : Nat) {b : Nat → Int32} {n : Nat} {h : Hp_} (I : Iv h) (q : Qt b n h) : Ci (m_X12_beat (d + 80 + 60) 0 0) [.ref 1] h (fun r h' => (Iv h' ∧ J2 h') ∧ Btm b n h r h') := c_beatf d q.2.1 I q.2.2 q.1
theorem Li.cm {N : Nat} {h h1 h2 : Hp_} {r1 r2 : Int32} (L : Li N h) (k1 : Iv h1 ∧ Fr wbx h h1 ∧ (¬ okB (h_i h 31) (xn h) (h_i h 12 3) → r1 = -1 ∧ h_i h1 12 3 = h_i h 12 3 ∧ h_i h1 11 1 = h_i h 11 1) ∧ (okB (h_i h 31) (xn h) (h_i h 12 3) → r1 = h_i h 12 3 ∧ h_i h1 12 3 = h_i h 12 3 + 1 ∧ h_i h1 11 1 = 0 ∧ h_i h1 35 (h_i h 12 3).toNatClampNeg = Int32.ofNat (beo (h_i h 31) (xn h)).length)) (k2 : (Iv h2 ∧ J2 h2) ∧ Btm (h_i h 31) (xn h) h1 r2 h2) : Li N h2 ∧ r1 = r2 := by
  obtain ⟨I1, F1, kn, ky⟩ := k1
  obtain ⟨⟨I2, JJ⟩, F2, _, mn, my⟩ := k2
  have a42 : h_i h1 1 42 = h_i h 12 3 := (F1.2 1 42 (by decide +kernel)).1.trans L.r2.symm
  have a32 : h_i h1 1 32 = h_i h 11 1 := (F1.2 1 32 (by decide +kernel)).1.trans L.r1.symm
  rw [a42] at mn my
  have b123 : h_i h2 12 3 = h_i h1 12 3 := (F2.2 12 3 (by decide +kernel)).1
  have b111 : h_i h2 11 1 = h_i h1 11 1 := (F2.2 11 1 (by decide +kernel)).1
  have F12 : Fr (wbx ++ wbt) h h2 := (F1.more (by decide +kernel)).tr (F2.more (by decide +kernel))
  have Z : Li0 N h2 := L.sb I2 JJ F12 (by decide +kernel)
  have mm : Mn h2 := L.2.2.2.2.2.1.fr F12 (by decide +kernel)
  have e31 : ∀ k, h_i h2 31 k = h_i h 31 k := fun k => fr_i F12 (by decide +kernel) k
  have e225 : ∀ k, h_i h2 225 k = h_i h 225 k := fun k => fr_i F12 (by decide +kernel) k
  have e235 : ∀ k, h_i h2 235 k = h_i h 235 k := fun k => fr_i F12 (by decide +kernel) k
  have e13 : h_i h2 13 5 = h_i h 13 5 := (F12.2 13 5 (by decide +kernel)).1
  have e14 : h_i h2 14 5 = h_i h 14 5 := (F12.2 14 5 (by decide +kernel)).1
  have X0 := L.2.2.2.2.2.2
  by_cases o : okB (h_i h 31) (xn h) (h_i h 12 3)
  · have ky := ky o
    have my := my o
    refine ⟨Z.li (Rlf.mk ?_ ?_) ⟨mm, ⟨fun k hk => ?_, by rw [e235, e13]; exact X0.2.1, by rw [e235, e14]; exact X0.2.2⟩⟩, ky.1.trans my.1.symm⟩
    · rw [b111, ky.2.2.1, my.2.2.1]
    · rw [b123, ky.2.1, my.2.1]
    · have hk : k < (h_i h2 11 1).toNatClampNeg := hk
      rw [b111, ky.2.2.1] at hk
      exact absurd hk (by show ¬ k < 0; omega)
  · have kn := kn o
    have mn := mn o
    refine ⟨Z.li (Rlf.mk ?_ ?_) ⟨mm, X0.cg e31 e225 e235 (b111.trans kn.2.2) e13 e14⟩, kn.1.trans mn.1.symm⟩
    · rw [b111, kn.2.2, mn.2.2.1, a32]
    · rw [b123, kn.2.1, mn.2.1]
theorem c_actX (d : Nat) {h : Hp_} (I : Iv h) (x1 : Int32) : Ci (m_X11_act (d + 141) 0 0) [.ref 0, .int x1] h (fun r h' => Iv h' ∧ Fr wrx_13 h h' ∧ Rlx_13 x1 h r h') := c_actx d I x1
theorem c_actM (d : Nat) {b : Nat → Int32} {n : Nat} {h : Hp_} (I : Iv h) (q : Qt b n h) (x1 : Int32) : Ci (m_X12_act (d + 80 + 61) 0 0) [.ref 1, .int x1] h (fun r h' => (Iv h' ∧ Fr wzt h h') ∧ Rlm b n 0 x1 h r h') := c_actf d q.2.1 I q.1 x1
theorem Li.act {N : Nat} {h h1 h2 : Hp_} {x1 r1 r2 : Int32} (L : Li N h) (k1 : Iv h1 ∧ Fr wrx_13 h h1 ∧ Rlx_13 x1 h r1 h1) (k2 : (Iv h2 ∧ Fr wzt h1 h2) ∧ Rlm (h_i h 31) (xn h) 0 x1 h1 r2 h2) : Li N h2 ∧ r1 = r2 := by
  obtain ⟨I1, F1, kn, ky⟩ := k1
  obtain ⟨⟨I2, F2⟩, mn, my⟩ := k2
  have X0 := L.2.2.2.2.2.2
  have a5 : h_i h1 235 0 = h_i h 13 5 := (fr_i F1 (by decide +kernel) 0).trans X0.2.1
  have a32 : h_i h1 1 32 = h_i h 11 1 := (F1.2 1 32 (by decide +kernel)).1.trans L.r1.symm
  have a235 : ∀ k, h_i h1 235 k = h_i h 235 k := fun k => fr_i F1 (by decide +kernel) k
  rw [a5] at mn my
  have b111 : h_i h2 11 1 = h_i h1 11 1 := (F2.2 11 1 (by decide +kernel)).1
  have bc5 : h_i h2 13 5 = h_i h1 13 5 := (F2.2 13 5 (by decide +kernel)).1
  have F12 : Fr (wrx_13 ++ wzt) h h2 := (F1.more (by decide +kernel)).tr (F2.more (by decide +kernel))
  have Z : Li0 N h2 := L.z.fr I2 F12 (by decide +kernel)
  have mm : Mn h2 := L.2.2.2.2.2.1.fr F12 (by decide +kernel)
  have e31 : ∀ k, h_i h2 31 k = h_i h 31 k := fun k => fr_i F12 (by decide +kernel) k
  have e225 : ∀ k, h_i h2 225 k = h_i h 225 k := fun k => fr_i F12 (by decide +kernel) k
  have eo : h_i h2 14 5 = h_i h 14 5 := (F12.2 14 5 (by decide +kernel)).1
  have r2' : h_i h2 12 3 = h_i h2 1 42 := by rw [(F12.2 12 3 (by decide +kernel)).1, (F12.2 1 42 (by decide +kernel)).1]; exact L.r2
  by_cases o : okR (h_i h 31) (xn h) 0 x1 (h_i h 13 5)
  · have ky := ky o
    have my := my o
    refine ⟨Z.li (Rlf.mk ?_ r2') ⟨mm, ⟨fun k hk => ?_, ?_, ?_⟩⟩, ky.1.trans my.1.symm⟩
    · rw [b111, ky.2.1, my.2.1]
    · have hk : k < (h_i h2 11 1).toNatClampNeg := hk
      rw [b111, ky.2.1] at hk
      exact absurd hk (by show ¬ k < 0; omega)
    · rw [my.2.2.1, if_pos rfl, bc5, ky.2.2.1]
    · rw [my.2.2.1, if_neg (by decide), a235, eo]; exact X0.2.2
  · have kn := kn o
    have mn := mn o
    refine ⟨Z.li (Rlf.mk ?_ r2') ⟨mm, X0.cg e31 e225 (fun k => (mn.2.2.1 k).trans (a235 k)) (b111.trans kn.2.1) (bc5.trans kn.2.2.1) eo⟩, kn.1.trans mn.1.symm⟩
    rw [b111, kn.2.1, mn.2.1, a32]
theorem c_payX (d : Nat) {h : Hp_} (I : Iv h) (x1 : Int32) : Ci (m_X11_pay (d + 141) 0 0) [.ref 0, .int x1] h (fun r h' => Iv h' ∧ Fr wrx_14 h h' ∧ Rlx_14 x1 h r h') := c_payx d I x1
theorem c_payM (d : Nat) {b : Nat → Int32} {n : Nat} {h : Hp_} (I : Iv h) (q : Qt b n h) (x1 : Int32) : Ci (m_X12_pay (d + 80 + 61) 0 0) [.ref 1, .int x1] h (fun r h' => (Iv h' ∧ Fr wzt h h') ∧ Rlm b n 1 x1 h r h') := c_payf d q.2.1 I q.1 x1
theorem Li.pay {N : Nat} {h h1 h2 : Hp_} {x1 r1 r2 : Int32} (L : Li N h) (k1 : Iv h1 ∧ Fr wrx_14 h h1 ∧ Rlx_14 x1 h r1 h1) (k2 : (Iv h2 ∧ Fr wzt h1 h2) ∧ Rlm (h_i h 31) (xn h) 1 x1 h1 r2 h2) : Li N h2 ∧ r1 = r2 := by
  obtain ⟨I1, F1, kn, ky⟩ := k1
  obtain ⟨⟨I2, F2⟩, mn, my⟩ := k2
  have X0 := L.2.2.2.2.2.2
  have a5 : h_i h1 235 1 = h_i h 14 5 := (fr_i F1 (by decide +kernel) 1).trans X0.2.2
  have a32 : h_i h1 1 32 = h_i h 11 1 := (F1.2 1 32 (by decide +kernel)).1.trans L.r1.symm
  have a235 : ∀ k, h_i h1 235 k = h_i h 235 k := fun k => fr_i F1 (by decide +kernel) k
  rw [a5] at mn my
  have b111 : h_i h2 11 1 = h_i h1 11 1 := (F2.2 11 1 (by decide +kernel)).1
  have bc5 : h_i h2 14 5 = h_i h1 14 5 := (F2.2 14 5 (by decide +kernel)).1
  have F12 : Fr (wrx_14 ++ wzt) h h2 := (F1.more (by decide +kernel)).tr (F2.more (by decide +kernel))
  have Z : Li0 N h2 := L.z.fr I2 F12 (by decide +kernel)
  have mm : Mn h2 := L.2.2.2.2.2.1.fr F12 (by decide +kernel)
  have e31 : ∀ k, h_i h2 31 k = h_i h 31 k := fun k => fr_i F12 (by decide +kernel) k
  have e225 : ∀ k, h_i h2 225 k = h_i h 225 k := fun k => fr_i F12 (by decide +kernel) k
  have eo : h_i h2 13 5 = h_i h 13 5 := (F12.2 13 5 (by decide +kernel)).1
  have r2' : h_i h2 12 3 = h_i h2 1 42 := by rw [(F12.2 12 3 (by decide +kernel)).1, (F12.2 1 42 (by decide +kernel)).1]; exact L.r2
  by_cases o : okR (h_i h 31) (xn h) 1 x1 (h_i h 14 5)
  · have ky := ky o
    have my := my o
    refine ⟨Z.li (Rlf.mk ?_ r2') ⟨mm, ⟨fun k hk => ?_, ?_, ?_⟩⟩, ky.1.trans my.1.symm⟩
    · rw [b111, ky.2.1, my.2.1]
    · have hk : k < (h_i h2 11 1).toNatClampNeg := hk
      rw [b111, ky.2.1] at hk
      exact absurd hk (by show ¬ k < 0; omega)
    · rw [my.2.2.1, if_neg (by decide), a235, eo]; exact X0.2.1
    · rw [my.2.2.1, if_pos rfl, bc5, ky.2.2.1]
  · have kn := kn o
    have mn := mn o
    refine ⟨Z.li (Rlf.mk ?_ r2') ⟨mm, X0.cg e31 e225 (fun k => (mn.2.2.1 k).trans (a235 k)) (b111.trans kn.2.1) eo (bc5.trans kn.2.2.1)⟩, kn.1.trans mn.1.symm⟩
    rw [b111, kn.2.1, mn.2.1, a32]
theorem c_fdX (d : Nat) {h : Hp_} (I : Iv h) (x1 x2 x3 x4 x5 : Int32) : Ci (m_X11_feed (d + 2) 0 0) [.ref 0, .int x1, .int x2, .int x3, .int x4, .int x5] h (fun r h' => Iv h' ∧ Fr [11001, 31999] h h' ∧ Fdx (fdq x1 x2 x3 x4 x5) h r h') := c_fdx d I x1 x2 x3 x4 x5
def Fdm (L : List Int32) (h : Hp_) (r : Int32) (h' : Hp_) : Prop := (tn h + L.length ≤ 160 → r = Int32.ofNat (tn h + L.length) ∧ tn h' = tn h + L.length ∧ Apd 225 (tn h) L h h') ∧ (¬ tn h + L.length ≤ 160 → r = -1 ∧ h' = h)
theorem c_fdM (d : Nat) {h : Hp_} (I : Iv h) (x1 x2 x3 x4 x5 : Int32) : Ci (m_X12_feed (d + 1) 0 0) [.ref 1, .int x1, .int x2, .int x3, .int x4, .int x5] h (fun r h' => Iv h' ∧ Fr [1032, 225999] h h' ∧ Fdm (fdq x1 x2 x3 x4 x5) h r h') := c_fdm d I x1 x2 x3 x4 x5
theorem Li.fd {N : Nat} {h h1 h2 : Hp_} {r1 r2 : Int32} {L0 : List Int32} (L : Li N h) (k1 : Iv h1 ∧ Fr [11001, 31999] h h1 ∧ Fdx L0 h r1 h1) (k2 : Iv h2 ∧ Fr [1032, 225999] h1 h2 ∧ Fdm L0 h1 r2 h2) : Li N h2 ∧ r1 = r2 := by
  obtain ⟨I1, F1, ky, kn⟩ := k1
  obtain ⟨I2, F2, my, mn⟩ := k2
  have X0 := L.2.2.2.2.2.2
  have tt : tn h1 = xn h := by
    show (h_i h1 1 32).toNatClampNeg = (h_i h 11 1).toNatClampNeg
    rw [(F1.2 1 32 (by decide +kernel)).1, L.r1]
  rw [tt] at my mn
  have F12 : Fr [11001, 31999, 1032, 225999] h h2 := (F1.more (by decide +kernel)).tr (F2.more (by decide +kernel))
  have Z : Li0 N h2 := L.z.fr I2 F12 (by decide +kernel)
  have mm : Mn h2 := L.2.2.2.2.2.1.fr F12 (by decide +kernel)
  have b111 : h_i h2 11 1 = h_i h1 11 1 := (F2.2 11 1 (by decide +kernel)).1
  have e31 : ∀ k, h_i h2 31 k = h_i h1 31 k := fun k => fr_i F2 (by decide +kernel) k
  have f225 : ∀ k, h_i h1 225 k = h_i h 225 k := fun k => fr_i F1 (by decide +kernel) k
  have e235 : ∀ k, h_i h2 235 k = h_i h 235 k := fun k => fr_i F12 (by decide +kernel) k
  have e13 : h_i h2 13 5 = h_i h 13 5 := (F12.2 13 5 (by decide +kernel)).1
  have e14 : h_i h2 14 5 = h_i h 14 5 := (F12.2 14 5 (by decide +kernel)).1
  have r2' : h_i h2 12 3 = h_i h2 1 42 := by rw [(F12.2 12 3 (by decide +kernel)).1, (F12.2 1 42 (by decide +kernel)).1]; exact L.r2
  by_cases o : xn h + L0.length ≤ 160
  · have ky := ky o
    have my := my o
    have n1 := xn_i I1
    have n2 : (tn h2 : Int) = (h_i h2 1 32).toInt := tn_i I2
    refine ⟨Z.li (Rlf.mk ?_ r2') ⟨mm, ⟨fun k hk => ?_, by rw [e235, e13]; exact X0.2.1, by rw [e235, e14]; exact X0.2.2⟩⟩, ky.1.trans my.1.symm⟩
    · rw [b111]
      refine Int32.toInt_inj.mp ?_
      have a := ky.2.1
      have b := my.2.1
      omega
    · have hk : k < (h_i h2 11 1).toNatClampNeg := hk
      rw [b111] at hk
      have hk : k < xn h1 := hk
      rw [ky.2.1] at hk
      rw [e31]
      rcases Nat.lt_or_ge k (xn h) with u | u
      · rw [my.2.2.1 k u, f225, ky.2.2.1 k u]
        exact X0.1 k u
      · have l : k - xn h < L0.length := by omega
        have g : L0[k - xn h]? = some (L0[k - xn h]'l) := List.getElem?_eq_getElem l
        have a := ky.2.2.2 _ _ g
        have b := my.2.2.2 _ _ g
        rw [show xn h + (k - xn h) = k by omega] at a b
        rw [a, b]
  · have kn := kn o
    have mn := mn o
    obtain ⟨ka, kb⟩ := kn
    obtain ⟨ma, mb⟩ := mn
    subst kb
    subst mb
    exact ⟨L, ka.trans ma.symm⟩
theorem c_enX (d : Nat) {h : Hp_} (I : Iv h) (x1 : Int32) : Ci (m_X11_end (d + 2) 0 0) [.ref 0, .int x1] h (fun r h' => Iv h' ∧ Fr [11001] h h' ∧ (((0 ≤ x1 ∧ x1 ≤ h_i h 11 1) ∧ r = 1 ∧ h' = h_im h 11 1 x1) ∨ (¬ (0 ≤ x1 ∧ x1 ≤ h_i h 11 1) ∧ r = 0 ∧ h' = h))) := c_endx d I x1
theorem c_enM (d : Nat) {h : Hp_} (I : Iv h) (x1 : Int32) : Ci (m_X12_end (d + 0) 0 0) [.ref 1, .int x1] h (fun r h' => Iv h' ∧ Fr [1032] h h' ∧ (((0 ≤ x1 ∧ x1 ≤ h_i h 1 32) ∧ r = 1 ∧ h' = h_im h 1 32 x1) ∨ (¬ (0 ≤ x1 ∧ x1 ≤ h_i h 1 32) ∧ r = 0 ∧ h' = h))) := by
  have t0 : (0 : Int32).toInt = 0 := rfl
  have z1 : (h_i h 1 32).toInt ≤ 160 := (pz_in I).2
  refine t_X12_end d h I.1 x1 _ ⟨fun z => ⟨I, Fr.rf _ _, Or.inr ⟨fun y => ?_, rfl, rfl⟩⟩, fun z => ⟨fun y => ?_, fun y => ⟨I, Fr.rf _ _, Or.inr ⟨fun u => y u.2, rfl, rfl⟩⟩⟩⟩
  · have z := q_lt.mp z
    have y := q_le.mp y.1
    omega
  · have z := q_nlt z
    have y' := q_le.mp y
    exact ⟨i32 I ⟨by show (0 : Int) ≤ _; omega, by show _ ≤ (160 : Int); omega⟩, (Fr.rf _ _).im (by decide +kernel), Or.inl ⟨⟨q_le.mpr (by omega), y⟩, rfl, rfl⟩⟩
theorem Li.en {N : Nat} {h h1 h2 : Hp_} {x1 r1 r2 : Int32} (L : Li N h) (k1 : Iv h1 ∧ Fr [11001] h h1 ∧ (((0 ≤ x1 ∧ x1 ≤ h_i h 11 1) ∧ r1 = 1 ∧ h1 = h_im h 11 1 x1) ∨ (¬ (0 ≤ x1 ∧ x1 ≤ h_i h 11 1) ∧ r1 = 0 ∧ h1 = h))) (k2 : Iv h2 ∧ Fr [1032] h1 h2 ∧ (((0 ≤ x1 ∧ x1 ≤ h_i h1 1 32) ∧ r2 = 1 ∧ h2 = h_im h1 1 32 x1) ∨ (¬ (0 ≤ x1 ∧ x1 ≤ h_i h1 1 32) ∧ r2 = 0 ∧ h2 = h1))) : Li N h2 ∧ r1 = r2 := by
  obtain ⟨I1, F1, k1⟩ := k1
  obtain ⟨I2, F2, k2⟩ := k2
  have a32 : h_i h1 1 32 = h_i h 11 1 := (F1.2 1 32 (by decide +kernel)).1.trans L.r1.symm
  rw [a32] at k2
  have X0 := L.2.2.2.2.2.2
  rcases k1 with ⟨b, e1, e2⟩ | ⟨b, e1, e2⟩ <;> rcases k2 with ⟨c, e3, e4⟩ | ⟨c, e3, e4⟩
  · have F12 : Fr [11001, 1032] h h2 := (F1.more (by decide +kernel)).tr (F2.more (by decide +kernel))
    have Z : Li0 N h2 := L.z.fr I2 F12 (by decide +kernel)
    have mm : Mn h2 := L.2.2.2.2.2.1.fr F12 (by decide +kernel)
    have r2' : h_i h2 12 3 = h_i h2 1 42 := by rw [(F12.2 12 3 (by decide +kernel)).1, (F12.2 1 42 (by decide +kernel)).1]; exact L.r2
    have b111 : h_i h2 11 1 = x1 := by rw [(F2.2 11 1 (by decide +kernel)).1, e2, im_at]
    have b132 : h_i h2 1 32 = x1 := by rw [e4, im_at]
    refine ⟨Z.li (Rlf.mk (b111.trans b132.symm) r2') ⟨mm, ⟨fun k hk => ?_, ?_, ?_⟩⟩, e1.trans e3.symm⟩
    · rw [fr_i F12 (by decide +kernel), fr_i F12 (by decide +kernel)]
      refine X0.1 k ?_
      have hk : k < (h_i h2 11 1).toNatClampNeg := hk
      rw [b111] at hk
      have b0 := q_le.mp b.1
      have b2 := q_le.mp b.2
      have t0 : (0 : Int32).toInt = 0 := rfl
      have n1 := n_nat (x := x1) (by omega)
      have n2 := xn_i L.1
      omega
    · rw [fr_i F12 (by decide +kernel), (F12.2 13 5 (by decide +kernel)).1]
      exact X0.2.1
    · rw [fr_i F12 (by decide +kernel), (F12.2 14 5 (by decide +kernel)).1]
      exact X0.2.2
  · exact absurd b c
  · exact absurd c b
  · subst e2
    subst e4
    exact ⟨L, e1.trans e3.symm⟩
/-! fault -/
def wzq : List Nat := [11002, 11003, 11004, 11006, 11007, 11009, 32999, 33999]
def flq (b : Nat → Int32) (n : Nat) (x : Int32) : Int32 := if x = 0 then enq b n (beq b n) else if x = 1 then enq b n (ruq b n (clq b n 1)) else if x = 2 then enq b n (ruq b n (clq b n 2)) else -2
theorem c_flX (d : Nat) {h : Hp_} (I : Iv h) (x1 : Int32) : Ci (m_X11_fault (d + 141) 0 0) [.ref 0, .int x1] h (fun r h' => Iv h' ∧ Fr wzq h h' ∧ r = flq (h_i h 31) (xn h) x1) := by
  have kb := c_rb (b := h_i h 31) (n := xn h) d I rfl rfl
  rw [show d + 50 + 54 = d + 104 by omega] at kb
  have k1 := c_rr (b := h_i h 31) (n := xn h) 1 (by decide) d I rfl rfl 1 (by decide)
  rw [show d + 80 + 60 = d + 140 by omega] at k1
  have k2 := c_rr (b := h_i h 31) (n := xn h) 2 (by decide) d I rfl rfl 0 (by decide)
  rw [show d + 80 + 60 = d + 140 by omega] at k2
  refine t_X11_fault d h I.1 x1 _ ⟨fun e => Ci.mono kb (fun r h' k => ⟨k.2.1.1, k.2.1, k.2.2.1.more (by decide +kernel), ?_⟩), fun e => Ci.mono k1 (fun r h' k => ⟨k.2.1.1, k.2.1, k.2.2.1.more (by decide +kernel), ?_⟩), fun e => Ci.mono k2 (fun r h' k => ⟨k.2.1.1, k.2.1, k.2.2.1.more (by decide +kernel), ?_⟩), fun n => ⟨I, Fr.rf _ _, ?_⟩⟩
  · unfold flq
    rw [if_pos e]
    exact k.1.trans k.2.2.2.1
  · unfold flq
    rw [e, if_neg (by decide), if_pos rfl]
    exact k.1.trans k.2.2.2
  · unfold flq
    rw [e, if_neg (by decide), if_neg (by decide), if_pos rfl]
    exact k.1.trans k.2.2.2
  · unfold flq
    rw [if_neg n.1, if_neg n.2.1, if_neg n.2.2]
theorem c_flM (d : Nat) {b : Nat → Int32} {n : Nat} {h : Hp_} (I : Iv h) (q : Qt b n h) (x1 : Int32) : Ci (m_X12_fault (d + 80 + 59) 0 0) [.ref 1, .int x1] h (fun r h' => Iv h' ∧ Fr wzf h h' ∧ r = flq b n x1) := by
  by_cases e0 : x1 = 0
  · subst e0
    refine Ci.mono (c_faultf0 d q.2.1 I q.1) (fun r h' k => ⟨k.1, k.2.1, ?_⟩)
    unfold flq
    rw [if_pos rfl]
    exact k.2.2.1
  · by_cases e1 : x1 = 1
    · subst e1
      refine Ci.mono (c_faultf d q.2.1 I q.1 1 (by decide)) (fun r h' k => ⟨k.1.1, k.1.2.1, ?_⟩)
      unfold flq
      rw [if_neg (by decide), if_pos rfl]
      exact k.2
    · by_cases e2 : x1 = 2
      · subst e2
        refine Ci.mono (c_faultf d q.2.1 I q.1 2 (by decide)) (fun r h' k => ⟨k.1.1, k.1.2.1, ?_⟩)
        unfold flq
        rw [if_neg (by decide), if_neg (by decide), if_pos rfl]
        exact k.2
      · have nb : ¬ (0 ≤ x1 ∧ x1 ≤ 2) := fun y => by
          have y0 := q_le.mp y.1
          have y2 := q_le.mp y.2
          have t0 : (0 : Int32).toInt = 0 := rfl
          have t1 : (1 : Int32).toInt = 1 := rfl
          have t2 : (2 : Int32).toInt = 2 := rfl
          have n0 : ¬ x1.toInt = 0 := fun z => e0 (Int32.toInt_inj.mp (by rw [t0]; exact z))
          have n1 : ¬ x1.toInt = 1 := fun z => e1 (Int32.toInt_inj.mp (by rw [t1]; exact z))
          have n2 : ¬ x1.toInt = 2 := fun z => e2 (Int32.toInt_inj.mp (by rw [t2]; exact z))
          omega
        refine t_X12_fault (d + 80) h I.1 x1 _ ⟨fun y => absurd y nb, fun _ => ⟨I, Fr.rf _ _, ?_⟩⟩
        unfold flq
        rw [if_neg e0, if_neg e1, if_neg e2]
theorem Li.fl {N : Nat} {h h1 h2 : Hp_} {x1 r1 r2 : Int32} (L : Li N h) (k1 : Iv h1 ∧ Fr wzq h h1 ∧ r1 = flq (h_i h 31) (xn h) x1) (k2 : Iv h2 ∧ Fr wzf h1 h2 ∧ r2 = flq (h_i h 31) (xn h) x1) : Li N h2 ∧ r1 = r2 := ⟨(L.fr k1.1 k1.2.1 (by decide +kernel)).fr k2.1 k2.2.1 (by decide +kernel), k1.2.2.trans k2.2.2.symm⟩
