/-! the law, on every script -/
def lX (L : Nat) (xs : Nat → Int32) : (Nat → Nat) → (Nat → Prop) → State → Prop := fun ad A s => va_X (ad 1100) L xs s s.heap ∧ ad 1100 < s.heap.size ∧ ¬ A (ad 1100) ∧ Zx A s
abbrev ML (L : Nat) (xs : Nat → Int32) : Mc_ := (lX L xs, x, code, 7, ret, room_1)
theorem xsL {L : Nat} {xs : Nat → Int32} : xs_ (ML L xs) := fun ad ad' A s he hX => by
  have e := he 1100 (by decide)
  show va_X (ad' 1100) L xs s s.heap ∧ ad' 1100 < s.heap.size ∧ ¬ A (ad' 1100) ∧ Zx A s
  rw [e]
  exact hX
section SCR
variable {L : Nat} {xs : Nat → Int32} {kc ks pc : Nat} {lv : List (Nat × Value)} {st : List Value} {h : Hp_} {K : Option Value → Hp_ → Prop}
theorem aw_sld {i : Int32} (n : Nat) (hn : i.toNatClampNeg = n) (hin : vp_in i L) (hd : decode code pc = .ok (.iaload, 1)) (k : AW (ML L xs) kc ks (pc + 1) lv (.int (xs n) :: st) h K) : AW (ML L xs) kc ks pc lv (.int i :: .ref 1100 :: st) h K := by
  intro l p e s m args below meth c dC dI cy A ad0 adV ad dom0 dom H locs ls hf hX hT hE hW hS hl ho hs
  subst hn
  exact va_sld hf.1 hf.2.1 hX.1 hX.2.1 hX.2.2.1 hS hin hd (k l p e s m args below meth c dC dI cy A ad0 adV ad dom0 dom H locs ls hf hX hT hE hW hS hl ho (ok_c ok_i (ok_t (ok_t hs))))
theorem aw_slen (hd : decode code pc = .ok (.arraylength, 1)) (k : AW (ML L xs) kc ks (pc + 1) lv (.int (Int32.ofNat L) :: st) h K) : AW (ML L xs) kc ks pc lv (.ref 1100 :: st) h K := by
  intro l p e s m args below meth c dC dI cy A ad0 adV ad dom0 dom H locs ls hf hX hT hE hW hS hl ho hs
  exact va_slen hf.1 hf.2.1 hX.1 hX.2.1 hX.2.2.1 hS hd (k l p e s m args below meth c dC dI cy A ad0 adV ad dom0 dom H locs ls hf hX hT hE hW hS hl ho (ok_c ok_i (ok_t hs)))
abbrev lv5 (i : Nat) : List (Nat × Value) := [(0, .ref 1100), (1, .ref 0), (2, .ref 1), (3, .ref 2), (4, .int (Int32.ofNat i))]
theorem aw_arg {i j : Nat} {n : Int} {v : Int32} (d0 : decode code pc = .ok (.aload_n 0, 1)) (d1 : decode code (pc + 1) = .ok (.iload 4, 2)) (d2 : decode code (pc + 3) = .ok (.iconst n, 1)) (d3 : decode code (pc + 4) = .ok (.iadd, 1)) (d4 : decode code (pc + 5) = .ok (.iaload, 1)) (hv : Int32.ofInt n = v) (hj : Int32.ofNat i + v = Int32.ofNat (i + j)) (hL : i + j < L) (lL : L ≤ 3072) (k : AW (ML L xs) kc ks (pc + 6) (lv5 i) (.int (xs (i + j)) :: st) h K) : AW (ML L xs) kc ks pc (lv5 i) st h K := by
  refine aw_aload_n (i := 0) rfl d0 0 rfl ?_
  refine aw_iload d1 4 rfl ?_
  refine aw_iconst (v := v) d2 hv ?_
  refine aw_iadd d3 ?_
  refine aw_vi (v2 := Int32.ofNat (i + j)) hj ?_
  exact aw_sld (i + j) (on_k (by omega)) (on_in hL (by omega)) d4 k
theorem aw_arg2 {i j : Nat} {n : Int} {v r : Int32} (d0 : decode code pc = .ok (.aload_n 0, 1)) (d1 : decode code (pc + 1) = .ok (.iload 4, 2)) (d2 : decode code (pc + 3) = .ok (.iconst n, 1)) (d3 : decode code (pc + 4) = .ok (.iadd, 1)) (d4 : decode code (pc + 5) = .ok (.iaload, 1)) (hv : Int32.ofInt n = v) (hj : Int32.ofNat i + v = Int32.ofNat (i + j)) (hL : i + j < L) (lL : L ≤ 3072) (k : AW (ML L xs) kc ks (pc + 6) [(0, .ref 1100), (1, .ref 0), (2, .ref 1), (3, .ref 2), (4, .int (Int32.ofNat i)), (5, .int r)] (.int (xs (i + j)) :: st) h K) : AW (ML L xs) kc ks pc [(0, .ref 1100), (1, .ref 0), (2, .ref 1), (3, .ref 2), (4, .int (Int32.ofNat i)), (5, .int r)] st h K := by
  refine aw_aload_n (i := 0) rfl d0 0 rfl ?_
  refine aw_iload d1 4 rfl ?_
  refine aw_iconst (v := v) d2 hv ?_
  refine aw_iadd d3 ?_
  refine aw_vi (v2 := Int32.ofNat (i + j)) hj ?_
  exact aw_sld (i + j) (on_k (by omega)) (on_in hL (by omega)) d4 k
/-- a call whose answer is thrown away -/
theorem aw_Kp {M' : Mc_} {n idx ci N a : Nat} {c : Ctr} {T : u_T} (vs : List Value) (hC : Hc M' c) (ma : am h (vs.reverse ++ [.ref a]) c.1) (I : Iv h) (hp : hm h c.2.1) (hd : decode code pc = .ok (.invokevirtual idx, 3)) (hm : cV_ M' n) (hkc : kc_ ci (mY M').cls T N) (hs : h_sh h a = some (ci + 10, N)) (hlk : Cond.methodLink x.cls idx (mY M') ∈ lw_g) (hn : vs.length = n) (hz : ((mR M').frames + 1 ≤ 2048 ∧ 8 + (mN M' + 11) + (mR M').locals ≤ 84000) ∧ (mR M').cells = 0 ∧ (mR M').slots = 0) (hk : kc ≤ 494584 ∧ ks ≤ 7612352) (hr : ∃ g, c.2.2.1 = some (.inl g)) (hq : decode code (pc + 3) = .ok (.pop, 1))
    (k : ∀ h', Iv h' → Fr c.2.2.2.2 h h' → AW (ML L xs) kc ks (pc + 4) lv [] h' K) : AW (ML L xs) kc ks pc lv (vs.reverse ++ [.ref a]) h K := by
  refine aw_Vk (M := ML L xs) (M' := M') vs hC ma I hp hd hm hkc hs hlk hn (by decide) ⟨hz.1, hz.2.1, hz.2.2, xsL⟩ hk (fun v h' kv => ?_)
  obtain ⟨⟨r, s, gh⟩, eg⟩ := hr
  have q := kv.2.2.2
  rw [eg] at q
  obtain ⟨x2, ev, y2, ey, _⟩ := q
  subst ev
  subst ey
  exact aw_pop hq rfl (k h' kv.1 kv.2.1)
theorem aw_Kv {M' : Mc_} {n idx ci N a : Nat} {c : Ctr} {T : u_T} (vs : List Value) (hC : Hc M' c) (ma : am h (vs.reverse ++ [.ref a]) c.1) (I : Iv h) (hp : hm h c.2.1) (hd : decode code pc = .ok (.invokevirtual idx, 3)) (hm : cV_ M' n) (hkc : kc_ ci (mY M').cls T N) (hs : h_sh h a = some (ci + 10, N)) (hlk : Cond.methodLink x.cls idx (mY M') ∈ lw_g) (hn : vs.length = n) (hz : ((mR M').frames + 1 ≤ 2048 ∧ 8 + (mN M' + 11) + (mR M').locals ≤ 84000) ∧ (mR M').cells = 0 ∧ (mR M').slots = 0) (hk : kc ≤ 494584 ∧ ks ≤ 7612352) (hr : c.2.2.1 = none)
    (k : ∀ h', Iv h' → Fr c.2.2.2.2 h h' → AW (ML L xs) kc ks (pc + 3) lv [] h' K) : AW (ML L xs) kc ks pc lv (vs.reverse ++ [.ref a]) h K := by
  refine aw_Vk (M := ML L xs) (M' := M') vs hC ma I hp hd hm hkc hs hlk hn (by decide) ⟨hz.1, hz.2.1, hz.2.2, xsL⟩ hk (fun v h' kv => ?_)
  have q := kv.2.2.2
  rw [hr] at q
  have ev : v = none := q
  subst ev
  exact k h' kv.1 kv.2.1
end SCR
abbrev k1_ : Option Value → Hp_ → Prop := fun v _ => v = some (.int 1)
theorem oa_1 {n : Nat} (h : n < 100000) : Int32.ofNat n + 1 = Int32.ofNat (n + 1) := on_s (by omega)
theorem oa_2 {n : Nat} (h : n < 100000) : Int32.ofNat n + 2 = Int32.ofNat (n + 2) := on_2 h
theorem oa_3 {n : Nat} (h : n < 100000) : Int32.ofNat n + 3 = Int32.ofNat (n + 3) := on_3 h
theorem oa_4 {n : Nat} (h : n < 100000) : Int32.ofNat n + 4 = Int32.ofNat (n + 4) := by
  have t : (4 : Int32).toInt = 4 := rfl
  have a := on_j (n := n) (by omega)
  exact Int32.toInt_inj.mp (by rw [tx_add (by rw [t]; omega) (by rw [t]; omega), t, on_j (n := n + 4) (by omega)]; omega)
theorem oa_5 {n : Nat} (h : n < 100000) : Int32.ofNat n + 5 = Int32.ofNat (n + 5) := by
  have t : (5 : Int32).toInt = 5 := rfl
  have a := on_j (n := n) (by omega)
  exact Int32.toInt_inj.mp (by rw [tx_add (by rw [t]; omega) (by rw [t]; omega), t, on_j (n := n + 5) (by omega)]; omega)
theorem oa_6 {n : Nat} (h : n < 100000) : Int32.ofNat n + Int32.ofInt 6 = Int32.ofNat (n + 6) := by
  have t : (Int32.ofInt 6).toInt = 6 := by decide
  have a := on_j (n := n) (by omega)
  exact Int32.toInt_inj.mp (by rw [tx_add (by rw [t]; omega) (by rw [t]; omega), t, on_j (n := n + 6) (by omega)]; omega)
/-! the room: what the history's rows have cost so far -/
def ph (N : Nat) : Nat := if N = 20000 then 60000 else 2 * N
theorem ph_le {N : Nat} (h : N ≤ 20000) : ph N ≤ 60000 := by
  unfold ph
  split <;> omega
def Rm (t N kc ks : Nat) : Prop := kc ≤ 202 + t ∧ ks ≤ 318709 + 17 * t + ph N ∧ N ≤ 20000
theorem Rm.up {t N kc ks : Nat} (R : Rm t N kc ks) : Rm (t + 1) N kc ks := ⟨by have := R.1; omega, by have := R.2.1; omega, R.2.2⟩
theorem Rm.con {t N kc ks : Nat} (R : Rm t N kc ks) : Rm (t + 1) N (kc + 1) (ks + 17) := ⟨by have := R.1; omega, by have := R.2.1; omega, R.2.2⟩
theorem Rm.abt {t N kc ks : Nat} (R : Rm t N kc ks) : Rm (t + 1) N (kc + 1) (ks + 6) := ⟨by have := R.1; omega, by have := R.2.1; omega, R.2.2⟩
theorem hcost_le {mc ms N N' : Nat} (h : hcost mc ms N N') (l : N' ≤ 20000) : mc ≤ 1 ∧ ms ≤ 20000 := by
  rcases h with ⟨a, b, c⟩ | ⟨a, b, c, d⟩
  · omega
  · omega
theorem Rm.tick {t N N' kc ks mc ms : Nat} (R : Rm t N kc ks) (h : hcost mc ms N N') (l : N' ≤ 20000) : Rm (t + 1) N' (kc + mc) (ks + ms) := by
  obtain ⟨r1, r2, r3⟩ := R
  rcases h with ⟨a, b, c⟩ | ⟨a, b, c, d⟩
  · subst c
    exact ⟨by omega, by omega, l⟩
  · refine ⟨by omega, ?_, l⟩
    have p : ph N = 2 * N := by
      unfold ph
      rw [if_neg (by omega)]
    rw [p] at r2
    unfold ph
    split
    · omega
    · omega
theorem Rm.ok {t N kc ks : Nat} (R : Rm t N kc ks) (h : t ≤ 600) : kc + 20 ≤ 494584 ∧ ks + 20020 ≤ 7612352 := by
  have p := ph_le R.2.2
  have r1 := R.1
  have r2 := R.2.1
  exact ⟨by omega, by omega⟩
theorem wLa_g : wLa ∈ lw_g := lw_c7 223 (by decide +kernel) (by decide +kernel)
theorem aw_La {L : Nat} {xs : Nat → Int32} {kc ks pc : Nat} {lv : List (Nat × Value)} {h : Hp_} {K : Option Value → Hp_ → Prop} (I : Iv h) (s2 : h_sh h 2 = some (3, 1)) (x1 x2 : Int32) (hd : decode code pc = .ok (.invokestatic 75, 3)) (hk : kc + 1 ≤ 494584 ∧ ks + 6 ≤ 7612352) (k : ∀ r h', Iv h' → Fr [2999] h h' → AW (ML L xs) (kc + 1) (ks + 6) (pc + 3) lv [.int r] h' K) : AW (ML L xs) kc ks pc lv [.ref 2, .int x2, .int x1, .ref 0] h K := by
  intro l p e s m args below meth c dC dI cy A ad0 adV ad dom0 dom H locs ls hf hX hT hE hW hS hl ho hs
  have htg := hf.2.2.2.2.2.2.2.1
  refine aw_back (K' := kLa h) (rest := []) (a := ([Value.ref 0, .int x1, .int x2, .ref 2].map (h_cv ad)).toArray) (mc := 1) (ms := 6) xsL hf hX hT hE hW hS hl ho (fun v hv => by cases hv) ?_ (fun v h' kk => ?_)
  · have hws : ∀ w ∈ wLa :: lw_g, ∀ (a' : Array Value) (U : State), s.WarmedH U.vm → w.before a' U = true := fun w hw a' U hWm => by
      have hw' : w ∈ lw_g := (List.mem_cons.mp hw).elim (fun e => e ▸ wLa_g) id
      exact word_at hWm (good_of_word (List.mem_filter.mp hw').2) (htg w hw')
    have hlen : ∀ sig, parseMethodDescriptor yLa.desc = some sig → 4 = sig.parameters.length := fun sig h => by
      have h2 : (parseMethodDescriptor "(LCountyWatch;II[J)I").map (fun d => d.parameters.length) = some 4 := by decide +kernel
      rw [h] at h2
      exact (Option.some.inj h2).symm
    exact vx_runSW (As := [Value.ref 0, .int x1, .int x2, .ref 2].map (h_cv ad)) ⟨hf.1, hf.2.1, hf.2.2.1, hf.2.2.2.2.2.1, htg⟩ (xl_met l dC dI cy ad adV dom H.size I s2 hW.1 x1 x2) ⟨⟨rfl, rfl, show 20 + 1 ≤ 2048 from by decide, show 8 + (5 + 11) + 2000 ≤ 84000 from by decide +kernel, hws, List.mem_cons_self⟩, htg _ wLa_g, htg _ tw_0, ⟨by decide, by decide⟩, hlen, htg _ tw_1661, htg _ tw_1662⟩ ⟨cz_blind, fun U hU hWm => ⟨rfl, cp_pre hf hT hW hS hU hWm, hX.2.2.2.go hS hU hWm (cp_sub hf.2.2.2.2.2.2.2.2.2 hW hS)⟩⟩ rfl rfl hl.1 rfl (lv_room (Nat.le_of_ble_eq_true rfl)) hd hk
  · obtain ⟨⟨r, er⟩, I', F'⟩ := kk
    subst er
    exact k r h' I' F'
theorem Li.cm {N : Nat} {h h1 h2 : Hp_} {x1 x2 x3 r1 r2 : Int32} (L : Li N h) (k1 : Cy x1 x2 x3 h r1 h1) (k2 : Iv h2 ∧ J2 h2 ∧ Sn h1 h2 ∧ ocm (h_i h1 1 7) x1 x2 x3 r2 (h_i h2 1 7) ∧ Cw (okm (h_i h1 1 7) x1 x2 x3) (h_i h1 1 7) x1 h1 h2) : Li N h2 ∧ r1 = r2 := L.con3 k1 k2
