/-! the law, on every script -/
def lX (L : Nat) (xs : Nat → Int32) : (Nat → Nat) → (Nat → Prop) → State → Prop := fun ad A s => va_X (ad 1100) L xs s s.heap ∧ ad 1100 < s.heap.size ∧ ¬ A (ad 1100) ∧ Zx A s
abbrev ML (L : Nat) (xs : Nat → Int32) : Mc_ := (lX L xs, x, code, 7, ret, room_1)
theorem xsL {L : Nat} {xs : Nat → Int32} : xs_ (ML L xs) := fun ad ad' A s he hX => by
  have e := he 1100 (by decide)
  show va_X (ad' 1100) L xs s s.heap ∧ ad' 1100 < s.heap.size ∧ ¬ A (ad' 1100) ∧ Zx A s
  rw [e]
  exact hX
section SCR
variable {L : Nat} {xs : Nat → Int32} {kc ks pc : Nat} {lv : List (Nat × Value)} {st : List Value} {h : Hp_} {K : Option Value → Hp_ → Prop}
theorem aw_sld {i : Int32} (n : Nat) (hn : i.toNatClampNeg = n) (hin : vp_in i L) (hd : decode code pc = .ok (.iaload, 1)) (k : AW (ML L xs) kc ks (pc + 1) lv (.int (xs n) :: st) h K) : AW (ML L xs) kc ks pc lv (.int i :: .ref 1100 :: st) h K := by
  intro l p e s m args below meth c dC dI cy A ad0 adV ad dom0 dom H locs ls hf hX hT hE hW hS hl ho hs
  subst hn
  exact va_sld hf.1 hf.2.1 hX.1 hX.2.1 hX.2.2.1 hS hin hd (k l p e s m args below meth c dC dI cy A ad0 adV ad dom0 dom H locs ls hf hX hT hE hW hS hl ho (ok_c ok_i (ok_t (ok_t hs))))
theorem aw_slen (hd : decode code pc = .ok (.arraylength, 1)) (k : AW (ML L xs) kc ks (pc + 1) lv (.int (Int32.ofNat L) :: st) h K) : AW (ML L xs) kc ks pc lv (.ref 1100 :: st) h K := by
  intro l p e s m args below meth c dC dI cy A ad0 adV ad dom0 dom H locs ls hf hX hT hE hW hS hl ho hs
  exact va_slen hf.1 hf.2.1 hX.1 hX.2.1 hX.2.2.1 hS hd (k l p e s m args below meth c dC dI cy A ad0 adV ad dom0 dom H locs ls hf hX hT hE hW hS hl ho (ok_c ok_i (ok_t hs)))
abbrev lv5 (i : Nat) : List (Nat × Value) := [(0, .ref 1100), (1, .ref 0), (2, .ref 1), (3, .ref 2), (4, .int (Int32.ofNat i))]
theorem aw_arg {i j : Nat} {n : Int} {v : Int32} (d0 : decode code pc = .ok (.aload_n 0, 1)) (d1 : decode code (pc + 1) = .ok (.iload 4, 2)) (d2 : decode code (pc + 3) = .ok (.iconst n, 1)) (d3 : decode code (pc + 4) = .ok (.iadd, 1)) (d4 : decode code (pc + 5) = .ok (.iaload, 1)) (hv : Int32.ofInt n = v) (hj : Int32.ofNat i + v = Int32.ofNat (i + j)) (hL : i + j < L) (lL : L ≤ 3072) (k : AW (ML L xs) kc ks (pc + 6) (lv5 i) (.int (xs (i + j)) :: st) h K) : AW (ML L xs) kc ks pc (lv5 i) st h K := by
  refine aw_aload_n (i := 0) rfl d0 0 rfl ?_
  refine aw_iload d1 4 rfl ?_
  refine aw_iconst (v := v) d2 hv ?_
  refine aw_iadd d3 ?_
  refine aw_vi (v2 := Int32.ofNat (i + j)) hj ?_
  exact aw_sld (i + j) (on_k (by omega)) (on_in hL (by omega)) d4 k
theorem aw_arg2 {i j : Nat} {n : Int} {v r : Int32} (d0 : decode code pc = .ok (.aload_n 0, 1)) (d1 : decode code (pc + 1) = .ok (.iload 4, 2)) (d2 : decode code (pc + 3) = .ok (.iconst n, 1)) (d3 : decode code (pc + 4) = .ok (.iadd, 1)) (d4 : decode code (pc + 5) = .ok (.iaload, 1)) (hv : Int32.ofInt n = v) (hj : Int32.ofNat i + v = Int32.ofNat (i + j)) (hL : i + j < L) (lL : L ≤ 3072) (k : AW (ML L xs) kc ks (pc + 6) [(0, .ref 1100), (1, .ref 0), (2, .ref 1), (3, .ref 2), (4, .int (Int32.ofNat i)), (5, .int r)] (.int (xs (i + j)) :: st) h K) : AW (ML L xs) kc ks pc [(0, .ref 1100), (1, .ref 0), (2, .ref 1), (3, .ref 2), (4, .int (Int32.ofNat i)), (5, .int r)] st h K := by
  refine aw_aload_n (i := 0) rfl d0 0 rfl ?_
  refine aw_iload d1 4 rfl ?_
  refine aw_iconst (v := v) d2 hv ?_
  refine aw_iadd d3 ?_
  refine aw_vi (v2 := Int32.ofNat (i + j)) hj ?_
  exact aw_sld (i + j) (on_k (by omega)) (on_in hL (by omega)) d4 k
/-- a call whose answer is thrown away -/
theorem aw_Kp {M' : Mc_} {n idx ci N a : Nat} {c : Ctr} {T : u_T} (vs : List Value) (hC : Hc M' c) (ma : am h (vs.reverse ++ [.ref a]) c.1) (I : Iv h) (hp : hm h c.2.1) (hd : decode code pc = .ok (.invokevirtual idx, 3)) (hm : cV_ M' n) (hkc : kc_ ci (mY M').cls T N) (hs : h_sh h a = some (ci + 10, N)) (hlk : Cond.methodLink x.cls idx (mY M') ∈ lw_g) (hn : vs.length = n) (hz : ((mR M').frames + 1 ≤ 2048 ∧ 8 + (mN M' + 11) + (mR M').locals ≤ 84000) ∧ (mR M').cells = 0 ∧ (mR M').slots = 0) (hk : kc ≤ 494584 ∧ ks ≤ 7612352) (hr : ∃ g, c.2.2.1 = some (.inl g)) (hq : decode code (pc + 3) = .ok (.pop, 1))
    (k : ∀ h', Iv h' → Fr c.2.2.2.2 h h' → AW (ML L xs) kc ks (pc + 4) lv [] h' K) : AW (ML L xs) kc ks pc lv (vs.reverse ++ [.ref a]) h K := by
  refine aw_Vk (M := ML L xs) (M' := M') vs hC ma I hp hd hm hkc hs hlk hn (by decide) ⟨hz.1, hz.2.1, hz.2.2, xsL⟩ hk (fun v h' kv => ?_)
  obtain ⟨⟨r, s, gh⟩, eg⟩ := hr
  have q := kv.2.2.2
  rw [eg] at q
  obtain ⟨x2, ev, y2, ey, _⟩ := q
  subst ev
  subst ey
  exact aw_pop hq rfl (k h' kv.1 kv.2.1)
theorem aw_Kv {M' : Mc_} {n idx ci N a : Nat} {c : Ctr} {T : u_T} (vs : List Value) (hC : Hc M' c) (ma : am h (vs.reverse ++ [.ref a]) c.1) (I : Iv h) (hp : hm h c.2.1) (hd : decode code pc = .ok (.invokevirtual idx, 3)) (hm : cV_ M' n) (hkc : kc_ ci (mY M').cls T N) (hs : h_sh h a = some (ci + 10, N)) (hlk : Cond.methodLink x.cls idx (mY M') ∈ lw_g) (hn : vs.length = n) (hz : ((mR M').frames + 1 ≤ 2048 ∧ 8 + (mN M' + 11) + (mR M').locals ≤ 84000) ∧ (mR M').cells = 0 ∧ (mR M').slots = 0) (hk : kc ≤ 494584 ∧ ks ≤ 7612352) (hr : c.2.2.1 = none)
    (k : ∀ h', Iv h' → Fr c.2.2.2.2 h h' → AW (ML L xs) kc ks (pc + 3) lv [] h' K) : AW (ML L xs) kc ks pc lv (vs.reverse ++ [.ref a]) h K := by
  refine aw_Vk (M := ML L xs) (M' := M') vs hC ma I hp hd hm hkc hs hlk hn (by decide) ⟨hz.1, hz.2.1, hz.2.2, xsL⟩ hk (fun v h' kv => ?_)
  have q := kv.2.2.2
  rw [hr] at q
  have ev : v = none := q
  subst ev
  exact k h' kv.1 kv.2.1
end SCR
abbrev k1_ : Option Value → Hp_ → Prop := fun v _ => v = some (.int 1)
theorem oa_1 {n : Nat} (h : n < 100000) : Int32.ofNat n + 1 = Int32.ofNat (n + 1) := on_s (by omega)
theorem oa_2 {n : Nat} (h : n < 100000) : Int32.ofNat n + 2 = Int32.ofNat (n + 2) := on_2 h
theorem oa_3 {n : Nat} (h : n < 100000) : Int32.ofNat n + 3 = Int32.ofNat (n + 3) := on_3 h
theorem oa_4 {n : Nat} (h : n < 100000) : Int32.ofNat n + 4 = Int32.ofNat (n + 4) := by
  have t : (4 : Int32).toInt = 4 := rfl
  have a := on_j (n := n) (by omega)
  exact Int32.toInt_inj.mp (by rw [tx_add (by rw [t]; omega) (by rw [t]; omega), t, on_j (n := n + 4) (by omega)]; omega)
theorem oa_5 {n : Nat} (h : n < 100000) : Int32.ofNat n + 5 = Int32.ofNat (n + 5) := by
  have t : (5 : Int32).toInt = 5 := rfl
  have a := on_j (n := n) (by omega)
  exact Int32.toInt_inj.mp (by rw [tx_add (by rw [t]; omega) (by rw [t]; omega), t, on_j (n := n + 5) (by omega)]; omega)
theorem oa_6 {n : Nat} (h : n < 100000) : Int32.ofNat n + Int32.ofInt 6 = Int32.ofNat (n + 6) := by
  have t : (Int32.ofInt 6).toInt = 6 := by decide
  have a := on_j (n := n) (by omega)
  exact Int32.toInt_inj.mp (by rw [tx_add (by rw [t]; omega) (by rw [t]; omega), t, on_j (n := n + 6) (by omega)]; omega)
/-! the room: what the history's rows have cost so far -/
def ph (N : Nat) : Nat := if N = 20000 then 60000 else 2 * N
theorem ph_le {N : Nat} (h : N ≤ 20000) : ph N ≤ 60000 := by
  unfold ph
  split <;> omega
def Rm (t N kc ks : Nat) : Prop := kc ≤ 202 + t ∧ ks ≤ 318709 + 17 * t + ph N ∧ N ≤ 20000
theorem Rm.up {t N kc ks : Nat} (R : Rm t N kc ks) : Rm (t + 1) N kc ks := ⟨by have := R.1; omega, by have := R.2.1; omega, R.2.2⟩
theorem Rm.con {t N kc ks : Nat} (R : Rm t N kc ks) : Rm (t + 1) N (kc + 1) (ks + 17) := ⟨by have := R.1; omega, by have := R.2.1; omega, R.2.2⟩
theorem Rm.abt {t N kc ks : Nat} (R : Rm t N kc ks) : Rm (t + 1) N (kc + 1) (ks + 6) := ⟨by have := R.1; omega, by have := R.2.1; omega, R.2.2⟩
theorem hcost_le {mc ms N N' : Nat} (h : hcost mc ms N N') (l : N' ≤ 20000) : mc ≤ 1 ∧ ms ≤ 20000 := by
  rcases h with ⟨a, b, c⟩ | ⟨a, b, c, d⟩
  · omega
  · omega
theorem Rm.tick {t N N' kc ks mc ms : Nat} (R : Rm t N kc ks) (h : hcost mc ms N N') (l : N' ≤ 20000) : Rm (t + 1) N' (kc + mc) (ks + ms) := by
  obtain ⟨r1, r2, r3⟩ := R
  rcases h with ⟨a, b, c⟩ | ⟨a, b, c, d⟩
  · subst c
    exact ⟨by omega, by omega, l⟩
  · refine ⟨by omega, ?_, l⟩
    have p : ph N = 2 * N := by
      unfold ph
      rw [if_neg (by omega)]
    rw [p] at r2
    unfold ph
    split
    · omega
    · omega
theorem Rm.ok {t N kc ks : Nat} (R : Rm t N kc ks) (h : t ≤ 600) : kc + 20 ≤ 494584 ∧ ks + 20020 ≤ 7612352 := by
  have p := ph_le R.2.2
  have r1 := R.1
  have r2 := R.2.1
  exact ⟨by omega, by omega⟩
theorem wLa_g : wLa ∈ lw_g := lw_c7 223 (by decide +kernel) (by decide +kernel)
theorem aw_La {L : Nat} {xs : Nat → Int32} {kc ks pc : Nat} {lv : List (Nat × Value)} {h : Hp_} {K : Option Value → Hp_ → Prop} (I : Iv h) (s2 : h_sh h 2 = some (3, 1)) (x1 x2 : Int32) (hd : decode code pc = .ok (.invokestatic 75, 3)) (hk : kc + 1 ≤ 494584 ∧ ks + 6 ≤ 7612352) (k : ∀ r h', Iv h' → Fr [2999] h h' → AW (ML L xs) (kc + 1) (ks + 6) (pc + 3) lv [.int r] h' K) : AW (ML L xs) kc ks pc lv [.ref 2, .int x2, .int x1, .ref 0] h K := by
  intro l p e s m args below meth c dC dI cy A ad0 adV ad dom0 dom H locs ls hf hX hT hE hW hS hl ho hs
  have htg := hf.2.2.2.2.2.2.2.1
  refine aw_back (K' := kLa h) (rest := []) (a := ([Value.ref 0, .int x1, .int x2, .ref 2].map (h_cv ad)).toArray) (mc := 1) (ms := 6) xsL hf hX hT hE hW hS hl ho (fun v hv => by cases hv) ?_ (fun v h' kk => ?_)
  · have hws : ∀ w ∈ wLa :: lw_g, ∀ (a' : Array Value) (U : State), s.WarmedH U.vm → w.before a' U = true := fun w hw a' U hWm => by
      have hw' : w ∈ lw_g := (List.mem_cons.mp hw).elim (fun e => e ▸ wLa_g) id
      exact word_at hWm (good_of_word (List.mem_filter.mp hw').2) (htg w hw')
    have hlen : ∀ sig, parseMethodDescriptor yLa.desc = some sig → 4 = sig.parameters.length := fun sig h => by
      have h2 : (parseMethodDescriptor "(LCountyWatch;II[J)I").map (fun d => d.parameters.length) = some 4 := by decide +kernel
      rw [h] at h2
      exact (Option.some.inj h2).symm
    exact vx_runSW (As := [Value.ref 0, .int x1, .int x2, .ref 2].map (h_cv ad)) ⟨hf.1, hf.2.1, hf.2.2.1, hf.2.2.2.2.2.1, htg⟩ (xl_met l dC dI cy ad adV dom H.size I s2 hW.1 x1 x2) ⟨⟨rfl, rfl, show 20 + 1 ≤ 2048 from by decide, show 8 + (5 + 11) + 2000 ≤ 84000 from by decide +kernel, hws, List.mem_cons_self⟩, htg _ wLa_g, htg _ tw_0, ⟨by decide, by decide⟩, hlen, htg _ tw_1661, htg _ tw_1662⟩ ⟨cz_blind, fun U hU hWm => ⟨rfl, cp_pre hf hT hW hS hU hWm, hX.2.2.2.go hS hU hWm (cp_sub hf.2.2.2.2.2.2.2.2.2 hW hS)⟩⟩ rfl rfl hl.1 rfl (lv_room (Nat.le_of_ble_eq_true rfl)) hd hk
  · obtain ⟨⟨r, er⟩, I', F'⟩ := kk
    subst er
    exact k r h' I' F'
def oca (ok : Prop) (m r m' : Int32) : Prop := (ok ∧ r = m ∧ m' = m + 1) ∨ (¬ ok ∧ r = -1 ∧ m' = m)
theorem oca_eq {p q : Prop} {m r1 r2 m1 m2 : Int32} (e : p ↔ q) (a : oca p m r1 m1) (b : oca q m r2 m2) : r1 = r2 ∧ m1 = m2 := by
  rcases a with ⟨a, a1, a2⟩ | ⟨a, a1, a2⟩ <;> rcases b with ⟨b, b1, b2⟩ | ⟨b, b1, b2⟩
  · exact ⟨a1.trans b1.symm, a2.trans b2.symm⟩
  · exact absurd (e.mp a) b
  · exact absurd (e.mpr b) a
  · exact ⟨a1.trans b1.symm, a2.trans b2.symm⟩
theorem nz_lt {m n : Int32} (b : m.toInt ≤ n.toInt) : m < n ↔ ¬ m = n := ⟨fun l e => by rw [e] at l; exact absurd (q_lt.mp l) (Int.lt_irrefl _), fun ne => q_lt.mpr (by
  rcases Int.lt_or_le m.toInt n.toInt with u | u
  · exact u
  · exact absurd (Int32.toInt_inj.mp (Int.le_antisymm b u)) ne)⟩
theorem p15 {x : Int32} : (0 ≤ x ∧ x < 16) ↔ (0 ≤ x ∧ x ≤ 15) := by
  have t15 : (15 : Int32).toInt = 15 := rfl
  have t16 : (16 : Int32).toInt = 16 := rfl
  rw [q_lt, q_le (y := 15), t15, t16]
  exact ⟨fun z => ⟨z.1, by omega⟩, fun z => ⟨z.1, by omega⟩⟩

theorem f_le {h : Hp_} {c f : Nat} {n : Int} (I : Iv h) (e : tf c f = (0, n)) : 0 ≤ (h_i h c f).toInt ∧ (h_i h c f).toInt ≤ n := by
  have rg := I.2.1 c f
  rw [e] at rg
  exact ⟨rg.1, rg.2⟩
theorem i256 {i j : Nat} (hi : i < 16) (hj : j < 16) : ((Int32.ofNat i * 16) + Int32.ofNat j).toNatClampNeg = 16 * i + j ∧ vp_in ((Int32.ofNat i * 16) + Int32.ofNat j) 256 := by
  have t16 : (16 : Int32).toInt = 16 := rfl
  have ei := on_j (n := i) (by omega)
  have ej := on_j (n := j) (by omega)
  have a : (Int32.ofNat i * 16).toInt = (i : Int) * 16 := by rw [tx_mul (by rw [t16]; omega) (by rw [t16]; omega), t16, ei]
  have b : (Int32.ofNat i * 16 + Int32.ofNat j).toInt = (i : Int) * 16 + (j : Int) := by rw [tx_add (by omega) (by omega), a, ej]
  have n := n_nat (x := Int32.ofNat i * 16 + Int32.ofNat j) (by omega)
  exact ⟨by omega, dp_in (lo := 0) (hi := 255) ⟨by show (0 : Int) ≤ _; omega, by show _ ≤ (255 : Int); omega⟩ (by decide) (by decide)⟩
theorem mn_i (x y : Int32) : (if x < y then x else y).toInt = min x.toInt y.toInt := by
  by_cases c : x < y
  · rw [if_pos c]
    have := q_lt.mp c
    omega
  · rw [if_neg c]
    have := q_nlt c
    omega
/-- the table while a path is laid -/
def Lv (E : Nat → Nat × Nat × Int) (n a b : Nat) (m : Int) (D : Nat → Nat → Int) (P : Nat → Nat → Prop) (h : Hp_) : Prop := ∀ u v, u < 16 → v < 16 → ((0 ≤ dX h u v ∧ dX h u v ≤ 1000000) ∧ (dX h u v < 1000000 → ∃ k, wkp (exE E n (a, b, m)) (n + 1) u k v (dX h u v))) ∧ dX h u v ≤ D u v ∧ (P u v → dX h u v ≤ D u a + m + D b v ∧ dX h u v ≤ D u b + m + D a v)
theorem Lv.cg {E : Nat → Nat × Nat × Int} {n a b : Nat} {m : Int} {D : Nat → Nat → Int} {P Q : Nat → Nat → Prop} {h : Hp_} (l : Lv E n a b m D P h) (pq : ∀ u v, u < 16 → v < 16 → Q u v → P u v) : Lv E n a b m D Q h := fun u v hu hv => ⟨(l u v hu hv).1, (l u v hu hv).2.1, fun q => (l u v hu hv).2.2 (pq u v hu hv q)⟩
theorem Lv.st {E : Nat → Nat × Nat × Int} {n a b : Nat} {m : Int} {D : Nat → Nat → Int} {P : Nat → Nat → Prop} {h : Hp_} (l : Lv E n a b m D P h) (ha : a < 16) (hb : b < 16) (hm : 1 ≤ m) {i j : Nat} (hi : i < 16) (hj : j < 16) {y : Int32} (ey : y.toInt = min (min (dX h i b + m + dX h a j) (dX h i a + m + dX h b j)) (dX h i j)) : Lv E n a b m D (fun u v => P u v ∨ (u = i ∧ v = j)) (h_im h 30 (16 * i + j) y) := fun u v hu hv => by
  have lij := l i j hi hj
  have lia := l i a hi ha
  have lib := l i b hi hb
  have laj := l a j ha hj
  have lbj := l b j hb hj
  by_cases c : u = i ∧ v = j
  · have e : dX (h_im h 30 (16 * i + j) y) u v = y.toInt := by
      unfold dX
      rw [c.1, c.2, im_at]
    rw [e, c.1, c.2]
    refine ⟨⟨⟨by omega, by omega⟩, fun yb => ?_⟩, by omega, fun _ => ⟨by omega, by omega⟩⟩
    have en : exE E n (a, b, m) n = (a, b, m) := if_pos rfl
    by_cases q1 : y.toInt = dX h i j
    · rw [q1] at yb ⊢
      exact lij.1.2 yb
    · by_cases q2 : y.toInt = dX h i a + m + dX h b j
      · obtain ⟨k1, w1⟩ := lia.1.2 (by omega)
        obtain ⟨k2, w2⟩ := lbj.1.2 (by omega)
        have w3 : wkp (exE E n (a, b, m)) (n + 1) i (k1 + 1) b (dX h i a + m) := ⟨n, by omega, Or.inl ⟨by rw [en], by rw [en]; show wkp _ _ _ _ a (dX h i a + m - m); rw [Int.add_sub_cancel]; exact w1⟩⟩
        rw [q2]
        exact ⟨_, wkp_cc w3 k2 _ _ w2⟩
      · have q3 : y.toInt = dX h i b + m + dX h a j := by omega
        obtain ⟨k1, w1⟩ := lib.1.2 (by omega)
        obtain ⟨k2, w2⟩ := laj.1.2 (by omega)
        have w3 : wkp (exE E n (a, b, m)) (n + 1) i (k1 + 1) a (dX h i b + m) := ⟨n, by omega, Or.inr ⟨by rw [en], by rw [en]; show wkp _ _ _ _ b (dX h i b + m - m); rw [Int.add_sub_cancel]; exact w1⟩⟩
        rw [q3]
        exact ⟨_, wkp_cc w3 k2 _ _ w2⟩
  · have e : dX (h_im h 30 (16 * i + j) y) u v = dX h u v := by
      unfold dX
      rw [h_i_im, if_neg (fun z => c (by have := z.2; omega))]
    rw [e]
    exact ⟨(l u v hu hv).1, (l u v hu hv).2.1, fun q => (l u v hu hv).2.2 (q.elim id (fun q => absurd q c))⟩
theorem ly_in (d : Nat) (h0 : Hp_) {E : Nat → Nat × Nat × Int} {n a b : Nat} {m : Int} {D : Nat → Nat → Int} (ha : a < 16) (hb : b < 16) (hm : 1 ≤ m ∧ m ≤ 60) (x3 : Int32) (e3 : x3.toInt = m) {i : Nat} (hi : i < 16) (K : Int32 → Hp_ → Prop) (O : ∀ h, Iv h → Fr [30999] h0 h → Lv E n a b m D (fun u _ => u < i + 1) h → AW (m_X9_lay (d + 1) 0 0) 0 0 14 [(0, .ref 10), (1, .int (Int32.ofNat a)), (2, .int (Int32.ofNat b)), (3, .int x3), (4, .int (Int32.ofNat i + 1))] [] h (kI K)) :
    ∀ (r j : Nat) (h : Hp_), j + r = 16 → Iv h → Fr [30999] h0 h → Lv E n a b m D (fun u v => u < i ∨ (u = i ∧ v < j)) h → AW (m_X9_lay (d + 1) 0 0) 0 0 24 [(0, .ref 10), (1, .int (Int32.ofNat a)), (2, .int (Int32.ofNat b)), (3, .int x3), (4, .int (Int32.ofNat i)), (5, .int (Int32.ofNat j))] [] h (kI K) := by
  have t16 : (16 : Int32).toInt = 16 := rfl
  intro r
  induction r with
  | zero =>
    intro j h ej I F l
    exact t_X9_lay_24 d h I.1 _ _ x3 _ _ K ⟨fun _ => O h I F (l.cg (fun u v hu hv q => by omega)), fun z => absurd (q_le.mpr (by rw [t16, on_j (by omega)]; omega)) z⟩
  | succ r ih =>
    intro j h ej I F l
    have hj : j < 16 := by omega
    have k1 := i256 hi ha
    have k2 := i256 hb hj
    have k3 := i256 hi hb
    have k4 := i256 ha hj
    have k5 := i256 hi hj
    have lij := (l i j hi hj).1.1
    have lia := (l i a hi ha).1.1
    have lib := (l i b hi hb).1.1
    have laj := (l a j ha hj).1.1
    have lbj := (l b j hb hj).1.1
    unfold dX at lij lia lib laj lbj
    refine t_X9_lay_24 d h I.1 _ _ x3 _ _ K ⟨fun z => by have := q_le.mp z; rw [t16, on_j (by omega)] at this; omega, fun _ => ⟨k1.2, k2.2, k3.2, k4.2, k5.2, k5.2, ?_⟩⟩
    rw [k1.1, k2.1, k3.1, k4.1, k5.1, on_s (by omega)]
    have s1 : (h_i h 30 (16 * i + b) + x3 + h_i h 30 (16 * a + j)).toInt = dX h i b + m + dX h a j := by
      unfold dX
      rw [tx_add (by rw [tx_add (by omega) (by omega)]; omega) (by rw [tx_add (by omega) (by omega)]; omega), tx_add (by omega) (by omega), e3]
    have s2 : (h_i h 30 (16 * i + a) + x3 + h_i h 30 (16 * b + j)).toInt = dX h i a + m + dX h b j := by
      unfold dX
      rw [tx_add (by rw [tx_add (by omega) (by omega)]; omega) (by rw [tx_add (by omega) (by omega)]; omega), tx_add (by omega) (by omega), e3]
    exact ih (j + 1) _ (by omega) (tr_ 30 (by decide +kernel) I _ _ (by decide) (by decide)) (F.im (inw_row (by decide +kernel) _)) ((l.st ha hb hm.1 hi hj (by rw [mn_i, mn_i, s1, s2]; rfl)).cg (fun u v hu hv q => by omega))
theorem ly_out (d : Nat) (h0 : Hp_) {E : Nat → Nat × Nat × Int} {n a b : Nat} {m : Int} {D : Nat → Nat → Int} (ha : a < 16) (hb : b < 16) (hm : 1 ≤ m ∧ m ≤ 60) (x3 : Int32) (e3 : x3.toInt = m) (K : Int32 → Hp_ → Prop) (O : ∀ h, Iv h → Fr [30999] h0 h → Lv E n a b m D (fun _ _ => True) h → K ((h_i h 10 1 + 1) - 1) (h_im h 10 1 (h_i h 10 1 + 1))) :
    ∀ (r i : Nat) (h : Hp_), i + r = 16 → Iv h → Fr [30999] h0 h → Lv E n a b m D (fun u _ => u < i) h → AW (m_X9_lay (d + 1) 0 0) 0 0 14 [(0, .ref 10), (1, .int (Int32.ofNat a)), (2, .int (Int32.ofNat b)), (3, .int x3), (4, .int (Int32.ofNat i))] [] h (kI K) := by
  have t16 : (16 : Int32).toInt = 16 := rfl
  intro r
  induction r with
  | zero =>
    intro i h ei I F l
    exact t_X9_lay_14 d h I.1 _ _ x3 _ K ⟨fun _ => O h I F (l.cg (fun u v hu hv q => by omega)), fun z => absurd (q_le.mpr (by rw [t16, on_j (by omega)]; omega)) z⟩
  | succ r ih =>
    intro i h ei I F l
    refine t_X9_lay_14 d h I.1 _ _ x3 _ K ⟨fun z => by have := q_le.mp z; rw [t16, on_j (by omega)] at this; omega, fun _ => ?_⟩
    refine ly_in d h0 ha hb hm x3 e3 (i := i) (by omega) K (fun h' I' F' l' => ?_) 16 0 h (by omega) I F (l.cg (fun u v hu hv q => by omega))
    rw [on_s (by omega)]
    exact ih (i + 1) h' (by omega) I' F' l'
def okx (m x1 x2 x3 : Int32) : Prop := (0 ≤ x1 ∧ x1 < 16) ∧ (0 ≤ x2 ∧ x2 < 16) ∧ ¬ x1 = x2 ∧ (1 ≤ x3 ∧ x3 ≤ 60) ∧ m < 40
def okn (m x1 x2 x3 : Int32) : Prop := (0 ≤ x1 ∧ x1 ≤ 15) ∧ (0 ≤ x2 ∧ x2 ≤ 15) ∧ ¬ x1 = x2 ∧ (1 ≤ x3 ∧ x3 ≤ 60) ∧ ¬ m = 40
theorem on_of {x : Int32} (b : 0 ≤ x.toInt ∧ x.toInt ≤ 1000000) : Int32.ofNat x.toNatClampNeg = x := by
  have n := n_nat (x := x) b.1
  exact Int32.toInt_inj.mp (by rw [on_j (by omega)]; exact n)
theorem ev_ {h : Hp_} (I : Iv h) (x : ∀ i, i < eN h → 1 ≤ (h_i h 202 i).toInt) : Ev (eE h) (eN h) := fun i hi => by
  have r0 := I.2.1 200 i
  have r1 := I.2.1 201 i
  have r2 := I.2.1 202 i
  rw [tfa_tf (show tfa 200 = some (0, 15) by decide +kernel)] at r0
  rw [tfa_tf (show tfa 201 = some (0, 15) by decide +kernel)] at r1
  rw [tfa_tf (show tfa 202 = some (0, 60) by decide +kernel)] at r2
  have a0 : 0 ≤ (h_i h 200 i).toInt := r0.1
  have a1 : (h_i h 200 i).toInt ≤ 15 := r0.2
  have b0 : 0 ≤ (h_i h 201 i).toInt := r1.1
  have b1 : (h_i h 201 i).toInt ≤ 15 := r1.2
  have n0 := n_nat (x := h_i h 200 i) a0
  have n1 := n_nat (x := h_i h 201 i) b0
  exact ⟨⟨by show (h_i h 200 i).toNatClampNeg < 16; omega, by show (h_i h 201 i).toNatClampNeg < 16; omega⟩, x i hi, r2.2⟩
theorem c_ptX (d : Nat) {h : Hp_} (I : Iv h) (x : Ex h) (x1 x2 x3 : Int32) : Ci (m_X11_path (d + 2) 0 0) [.ref 0, .int x1, .int x2, .int x3] h (fun r h' => Iv h' ∧ Fr [10001, 30999] h h' ∧ oca (okx (h_i h 10 1) x1 x2 x3) (h_i h 10 1) r (h_i h' 10 1) ∧ (okx (h_i h 10 1) x1 x2 x3 → Exd (exE (eE h) (eN h) (x1.toNatClampNeg, x2.toNatClampNeg, x3.toInt)) (eN h + 1) 1000000 (dX h')) ∧ (¬ okx (h_i h 10 1) x1 x2 x3 → h' = h)) := by
  have t1 : (1 : Int32).toInt = 1 := rfl
  have t16 : (16 : Int32).toInt = 16 := rfl
  have t0 : (0 : Int32).toInt = 0 := rfl
  have t60 : (60 : Int32).toInt = 60 := rfl
  have tc : (40 : Int32).toInt = 40 := rfl
  have rg := I.2.1 10 1
  rw [show tf 10 1 = (0, 40) by decide +kernel] at rg
  have r0 : 0 ≤ (h_i h 10 1).toInt := rg.1
  have no : ¬ okx (h_i h 10 1) x1 x2 x3 → Iv h ∧ Fr [10001, 30999] h h ∧ oca (okx (h_i h 10 1) x1 x2 x3) (h_i h 10 1) (-1) (h_i h 10 1) ∧ (okx (h_i h 10 1) x1 x2 x3 → Exd (exE (eE h) (eN h) (x1.toNatClampNeg, x2.toNatClampNeg, x3.toInt)) (eN h + 1) 1000000 (dX h)) ∧ (¬ okx (h_i h 10 1) x1 x2 x3 → h = h) := fun n => ⟨I, Fr.rf _ _, Or.inr ⟨n, rfl, rfl⟩, fun o => absurd o n, fun _ => rfl⟩
  refine t_X11_path d h x1 x2 x3 _ (Ci.mono (s_X11_isPlace _ h x1) (fun r h1 q => ?_))
  obtain ⟨er, eh⟩ := q
  subst er eh
  refine ⟨I.1, fun z => no (fun o => bI_0.mp z o.1), fun z => Ci.mono (s_X11_isPlace _ _ x2) (fun r h2 q => ?_)⟩
  obtain ⟨er, eh⟩ := q
  subst er eh
  refine ⟨I.1, fun z2 => no (fun o => bI_0.mp z2 o.2.1), fun z2 => ⟨fun e => no (fun o => o.2.2.1 e), fun ne => ⟨fun a3 => ?_, fun n => no (fun o => n o.2.2.2.1)⟩⟩⟩
  have b1 : 0 ≤ x1 ∧ x1 < 16 := Decidable.byContradiction (fun n => z (bI_0.mpr n))
  have b2 : 0 ≤ x2 ∧ x2 < 16 := Decidable.byContradiction (fun n => z2 (bI_0.mpr n))
  have c1 := q_le.mp b1.1
  have c1' := q_lt.mp b1.2
  have c2 := q_le.mp b2.1
  have c2' := q_lt.mp b2.2
  have c3 := q_le.mp a3.1
  have c3' := q_le.mp a3.2
  rw [t0] at c1 c2
  rw [t16] at c1' c2'
  rw [t1] at c3
  rw [t60] at c3'
  have n1 := n_nat (x := x1) c1
  have n2 := n_nat (x := x2) c2
  refine t_X9_lay d h2 I.1 x1 x2 x3 _ ⟨fun l => ?_, fun n => ⟨I.1, no (fun o => n o.2.2.2.2)⟩⟩
  have l0 := q_lt.mp l
  have ex : (h_i h2 10 1 + 1).toInt = (h_i h2 10 1).toInt + 1 := tx_add (by rw [t1]; omega) (by rw [t1]; omega)
  have ev := ev_ I x.1
  have L0 : Lv (eE h2) (eN h2) x1.toNatClampNeg x2.toNatClampNeg x3.toInt (dX h2) (fun u _ => u < 0) h2 := fun u v hu hv => by
    have q := x.2 u hu v hv
    exact ⟨⟨q.1, fun c => by
      obtain ⟨k, w⟩ := q.2.2 c
      exact ⟨k, wkp_mo (Nat.le_succ _) (fun i hi => if_neg (by omega)) k v _ w⟩⟩, Int.le_refl _, fun c => absurd c (by omega)⟩
  have go := ly_out d h2 (E := eE h2) (n := eN h2) (D := dX h2) (a := x1.toNatClampNeg) (b := x2.toNatClampNeg) (m := x3.toInt) (by omega) (by omega) ⟨c3, c3'⟩ x3 rfl (fun r h' => Wf h' ∧ (Iv h' ∧ Fr [10001, 30999] h2 h' ∧ oca (okx (h_i h2 10 1) x1 x2 x3) (h_i h2 10 1) r (h_i h' 10 1) ∧ (okx (h_i h2 10 1) x1 x2 x3 → Exd (exE (eE h2) (eN h2) (x1.toNatClampNeg, x2.toNatClampNeg, x3.toInt)) (eN h2 + 1) 1000000 (dX h')) ∧ (¬ okx (h_i h2 10 1) x1 x2 x3 → h' = h2))) (fun h9 I9 F9 V9 => ?_) 16 0 h2 (by omega) I (Fr.rf _ _) L0
  · rw [on_of ⟨c1, by omega⟩, on_of ⟨c2, by omega⟩] at go
    exact go
  · have e9 : h_i h9 10 1 = h_i h2 10 1 := (F9.2 10 1 (by decide +kernel)).1
    have I5 : Iv (h_im h9 10 1 (h_i h9 10 1 + 1)) := I9.im (by rw [show tf 10 1 = (0, 40) by decide +kernel, e9]; exact ⟨by show (0 : Int) ≤ _; omega, by show _ ≤ (40 : Int); omega⟩) (by decide)
    refine ⟨I5.1, I5, (F9.more (b := [10001, 30999]) (by decide +kernel)).im (by decide +kernel), Or.inl ⟨⟨b1, b2, ne, a3, l⟩, by rw [e9]; exact tx_back _, by rw [im_at, e9]⟩, fun _ => ?_, fun n => absurd ⟨b1, b2, ne, a3, l⟩ n⟩
    have dd : dX (h_im h9 10 1 (h_i h9 10 1 + 1)) = dX h9 := by
      unfold dX
      rw [show h_i (h_im h9 10 1 (h_i h9 10 1 + 1)) 30 = h_i h9 30 from funext (fun k => im_ne (by decide))]
    rw [dd]
    exact x.2.add ev (by omega) (by omega) c3 (fun u v hu hv => ⟨(V9 u v hu hv).1, (V9 u v hu hv).2.1, ((V9 u v hu hv).2.2 trivial).1, ((V9 u v hu hv).2.2 trivial).2⟩)
theorem c_ptM (d : Nat) {h : Hp_} (I : Iv h) (x1 x2 x3 : Int32) : Ci (m_X12_path (d + 2) 0 0) [.ref 1, .int x1, .int x2, .int x3] h (fun r h' => Iv h' ∧ Fr [1006, 200999, 201999, 202999] h h' ∧ oca (okn (h_i h 1 6) x1 x2 x3) (h_i h 1 6) r (h_i h' 1 6) ∧ (okn (h_i h 1 6) x1 x2 x3 → eE h' = exE (eE h) (eN h) (x1.toNatClampNeg, x2.toNatClampNeg, x3.toInt) ∧ eN h' = eN h + 1) ∧ (¬ okn (h_i h 1 6) x1 x2 x3 → h' = h)) := by
  have t1 : (1 : Int32).toInt = 1 := rfl
  have tc : (40 : Int32).toInt = 40 := rfl
  have rg := I.2.1 1 6
  rw [show tf 1 6 = (0, 40) by decide +kernel] at rg
  have r0 : 0 ≤ (h_i h 1 6).toInt := rg.1
  have r1 : (h_i h 1 6).toInt ≤ 40 := rg.2
  have no : ¬ okn (h_i h 1 6) x1 x2 x3 → Iv h ∧ Fr [1006, 200999, 201999, 202999] h h ∧ oca (okn (h_i h 1 6) x1 x2 x3) (h_i h 1 6) (-1) (h_i h 1 6) ∧ (okn (h_i h 1 6) x1 x2 x3 → eE h = exE (eE h) (eN h) (x1.toNatClampNeg, x2.toNatClampNeg, x3.toInt) ∧ eN h = eN h + 1) ∧ (¬ okn (h_i h 1 6) x1 x2 x3 → h = h) := fun n => ⟨I, Fr.rf _ _, Or.inr ⟨n, rfl, rfl⟩, fun o => absurd o n, fun _ => rfl⟩
  refine t_X12_path d h I.1 x1 x2 x3 _ ⟨fun n => no (fun o => n o.1), fun a1 => ⟨fun n => no (fun o => n o.2.1), fun a2 => ⟨fun e => no (fun o => o.2.2.1 e), fun nx => ⟨fun n => no (fun o => n o.2.2.2.1), fun a3 => ⟨fun ne => ?_, fun e => no (fun o => o.2.2.2.2 e)⟩⟩⟩⟩⟩
  have l := q_lt.mp ((nz_lt (by rw [tc]; exact r1)).mpr ne)
  have ex : (h_i h 1 6 + 1).toInt = (h_i h 1 6).toInt + 1 := tx_add (by rw [t1]; omega) (by rw [t1]; omega)
  have v : vp_in (h_i h 1 6) 40 := dp_in (lo := 0) (hi := 39) ⟨r0, by show _ ≤ (39 : Int); omega⟩ (by decide) (by decide)
  have p3 : rin x3.toInt (0, 60) := ⟨by have := q_le.mp a3.1; show (0 : Int) ≤ _; omega, by have := q_le.mp a3.2; exact this⟩
  refine ⟨v, v, v, ((((I.im (a := 200) (by rw [tfa_tf (show tfa 200 = some (0, 15) by decide +kernel)]; exact ⟨by have := q_le.mp a1.1; exact this, by have := q_le.mp a1.2; exact this⟩) (jw_jr (by decide) (by decide) _)).im (a := 201) (by rw [tfa_tf (show tfa 201 = some (0, 15) by decide +kernel)]; exact ⟨by have := q_le.mp a2.1; exact this, by have := q_le.mp a2.2; exact this⟩) (jw_jr (by decide) (by decide) _)).im (a := 202) (by rw [tfa_tf (show tfa 202 = some (0, 60) by decide +kernel)]; exact p3) (jw_jr (by decide) (by decide) _)).im (a := 1) (k := 6) (by rw [show tf 1 6 = (0, 40) by decide +kernel]; exact ⟨by show (0 : Int) ≤ _; omega, by show _ ≤ (40 : Int); omega⟩) (by decide)), ((((Fr.rf _ _).im (inw_row (by decide +kernel) _)).im (inw_row (by decide +kernel) _)).im (inw_row (by decide +kernel) _)).im (by decide +kernel), Or.inl ⟨⟨a1, a2, nx, a3, ne⟩, tx_back _, im_at⟩, fun _ => ⟨funext (fun i => ?_), ?_⟩, fun n => absurd ⟨a1, a2, nx, a3, ne⟩ n⟩
  · unfold eE exE eN
    by_cases c : i = (h_i h 1 6).toNatClampNeg
    · rw [if_pos c]
      refine Prod.ext ?_ (Prod.ext ?_ ?_)
      · show (h_i _ 200 i).toNatClampNeg = x1.toNatClampNeg
        rw [im_ne (by decide), im_ne (by decide), im_ne (by decide), c, im_at]
      · show (h_i _ 201 i).toNatClampNeg = x2.toNatClampNeg
        rw [im_ne (by decide), im_ne (by decide), c, im_at]
      · show (h_i _ 202 i).toInt = x3.toInt
        rw [im_ne (by decide), c, im_at]
    · rw [if_neg c]
      refine Prod.ext ?_ (Prod.ext ?_ ?_)
      · show (h_i _ 200 i).toNatClampNeg = (h_i h 200 i).toNatClampNeg
        rw [im_ne (by decide), im_ne (by decide), im_ne (by decide), h_i_im, if_neg (fun y => c y.2)]
      · show (h_i _ 201 i).toNatClampNeg = (h_i h 201 i).toNatClampNeg
        rw [im_ne (by decide), im_ne (by decide), h_i_im, if_neg (fun y => c y.2), im_ne (by decide)]
      · show (h_i _ 202 i).toInt = (h_i h 202 i).toInt
        rw [im_ne (by decide), h_i_im, if_neg (fun y => c y.2), im_ne (by decide), im_ne (by decide)]
  · have n0 := n_nat (x := h_i h 1 6) r0
    have n1 := n_nat (x := h_i h 1 6 + 1) (by omega)
    show (h_i (h_im _ 1 6 (h_i h 1 6 + 1)) 1 6).toNatClampNeg = (h_i h 1 6).toNatClampNeg + 1
    rw [im_at]
    omega
theorem ok_eq {m x1 x2 x3 : Int32} (b : m.toInt ≤ 40) : okx m x1 x2 x3 ↔ okn m x1 x2 x3 := by
  unfold okx okn
  rw [p15, p15, nz_lt (n := 40) b]
theorem Li.pt {N : Nat} {h h1 h2 : Hp_} {x1 x2 x3 r1 r2 : Int32} (L : Li N h) (k1 : Iv h1 ∧ Fr [10001, 30999] h h1 ∧ oca (okx (h_i h 10 1) x1 x2 x3) (h_i h 10 1) r1 (h_i h1 10 1) ∧ (okx (h_i h 10 1) x1 x2 x3 → Exd (exE (eE h) (eN h) (x1.toNatClampNeg, x2.toNatClampNeg, x3.toInt)) (eN h + 1) 1000000 (dX h1)) ∧ (¬ okx (h_i h 10 1) x1 x2 x3 → h1 = h)) (k2 : Iv h2 ∧ Fr [1006, 200999, 201999, 202999] h1 h2 ∧ oca (okn (h_i h1 1 6) x1 x2 x3) (h_i h1 1 6) r2 (h_i h2 1 6) ∧ (okn (h_i h1 1 6) x1 x2 x3 → eE h2 = exE (eE h1) (eN h1) (x1.toNatClampNeg, x2.toNatClampNeg, x3.toInt) ∧ eN h2 = eN h1 + 1) ∧ (¬ okn (h_i h1 1 6) x1 x2 x3 → h2 = h1)) : Li N h2 := by
  have e : h_i h 10 1 = h_i h 1 6 := L.2.2.2.2.1 ((10, 1), 6) List.mem_cons_self
  have e1 : h_i h1 1 6 = h_i h 1 6 := (k1.2.1.2 1 6 (by decide +kernel)).1
  obtain ⟨_, f1, kp, xp, np⟩ := k1
  obtain ⟨_, f2, kq, xq, nq⟩ := k2
  rw [e1] at kq xq nq
  rw [e] at kp xp np
  have rg := L.1.2.1 1 6
  rw [show tf 1 6 = (0, 40) by decide +kernel] at rg
  have oe := ok_eq (x1 := x1) (x2 := x2) (x3 := x3) rg.2
  have z := oca_eq oe kp kq
  have eE1 : eE h1 = eE h := by
    unfold eE
    rw [show h_i h1 200 = h_i h 200 from funext (fun k => fr_i f1 (by decide +kernel) k), show h_i h1 201 = h_i h 201 from funext (fun k => fr_i f1 (by decide +kernel) k), show h_i h1 202 = h_i h 202 from funext (fun k => fr_i f1 (by decide +kernel) k)]
  have eN1 : eN h1 = eN h := by
    unfold eN
    rw [e1]
  have dX2 : dX h2 = dX h1 := by
    unfold dX
    rw [show h_i h2 30 = h_i h1 30 from funext (fun k => fr_i f2 (by decide +kernel) k)]
  refine ((L.z.fr (by assumption) f1 (by decide +kernel)).fr (by assumption) f2 (by decide +kernel)).li (fun q hq => ?_) ⟨(L.2.2.2.2.2.1.fr f1 (by decide +kernel)).fr f2 (by decide +kernel), ?_⟩
  · rw [List.mem_singleton.mp hq]
    show h_i h2 10 1 = h_i h2 1 6
    rw [(f2.2 10 1 (by decide +kernel)).1]
    exact z.2
  · by_cases o : okx (h_i h 1 6) x1 x2 x3
    · have o' := oe.mp o
      have xx := xp o
      have yy := xq o'
      rw [eE1, eN1] at yy
      refine ⟨fun i hi => ?_, ?_⟩
      · have w : (eE h2 i).2.2 = (h_i h2 202 i).toInt := rfl
        rw [← w, yy.1]
        rw [yy.2] at hi
        unfold exE
        by_cases c : i = eN h
        · rw [if_pos c]
          exact q_le.mp o.2.2.2.1.1
        · rw [if_neg c]
          exact L.2.2.2.2.2.2.1 i (by omega)
      · rw [yy.1, yy.2, dX2]
        exact xx
    · rw [nq (fun y => o (oe.mpr y)), np o]
      exact L.2.2.2.2.2.2
/-- far while the reference searches -/
def Fi (u : Nat) (h0 h : Hp_) : Prop := Iv h ∧ Fr [203999] h0 h ∧ (∀ v, v < 16 → (0 ≤ (h_i h 203 v).toInt ∧ (h_i h 203 v).toInt ≤ 100000) ∧ ((h_i h 203 v).toInt < 100000 → ∃ k, wkp (eE h0) (eN h0) u k v (h_i h 203 v).toInt)) ∧ (h_i h 203 u).toInt ≤ 0
theorem Fi.e {u : Nat} {h0 h : Hp_} (f : Fi u h0 h) : eE h = eE h0 ∧ eN h = eN h0 ∧ ∀ k, h_i h 200 k = h_i h0 200 k ∧ h_i h 201 k = h_i h0 201 k ∧ h_i h 202 k = h_i h0 202 k := by
  have a : h_i h 200 = h_i h0 200 := funext (fun k => fr_i f.2.1 (by decide +kernel) k)
  have b : h_i h 201 = h_i h0 201 := funext (fun k => fr_i f.2.1 (by decide +kernel) k)
  have c : h_i h 202 = h_i h0 202 := funext (fun k => fr_i f.2.1 (by decide +kernel) k)
  refine ⟨by unfold eE; rw [a, b, c], by unfold eN; rw [(f.2.1.2 1 6 (by decide +kernel)).1], fun k => ⟨by rw [a], by rw [b], by rw [c]⟩⟩
theorem Fi.st {u : Nat} {h0 h : Hp_} (f : Fi u h0 h) {p : Nat} (hp : p < 16) {y : Int32} (l : 0 ≤ y.toInt) (c : y.toInt < (h_i h 203 p).toInt) (w : y.toInt < 100000 → ∃ k, wkp (eE h0) (eN h0) u k p y.toInt) : Fi u h0 (h_im h 203 p y) ∧ fsn (h_im h 203 p y) 16 < fsn h 16 := by
  have b := (f.2.2.1 p hp).1
  have s := (fsn_le (h := h) (p := p) (x := y) (by omega) l 16).2 hp
  refine ⟨⟨tr_ 203 (by decide +kernel) f.1 _ _ (by decide) (by decide), f.2.1.im (inw_row (by decide +kernel) _), fun v hv => ?_, ?_⟩, by omega⟩
  · by_cases q : v = p
    · rw [q, im_at]
      exact ⟨⟨l, by omega⟩, w⟩
    · rw [h_i_im, if_neg (fun z => q z.2)]
      exact f.2.2.1 v hv
  · by_cases q : u = p
    · rw [q, im_at]
      have := f.2.2.2
      rw [q] at this
      omega
    · rw [h_i_im, if_neg (fun z => q z.2)]
      exact f.2.2.2
/-- the paths before k are no shorter ways -/
def Fk (h0 h : Hp_) (j : Nat) : Prop := ∀ i, i < j → (h_i h 203 (eE h0 i).2.1).toInt ≤ (h_i h 203 (eE h0 i).1).toInt + (eE h0 i).2.2 ∧ (h_i h 203 (eE h0 i).1).toInt ≤ (h_i h 203 (eE h0 i).2.1).toInt + (eE h0 i).2.2
theorem wo_43 (d : Nat) (h0 : Hp_) (I0 : Iv h0) (x0 : ∀ i, i < eN h0 → 1 ≤ (h_i h0 202 i).toInt) (u : Nat) (x2 : Int32) (K : Int32 → Hp_ → Prop) (N : Nat) (k0 : ∀ h, Fi u h0 h → Fk h0 h (eN h0) → AW (m_X12_walkOf (d + 0) 0 0) 0 0 34 [(0, .ref 1), (2, .int x2), (3, .int 0)] [] h (kI K)) (k1 : ∀ h, Fi u h0 h → fsn h 16 < N → AW (m_X12_walkOf (d + 0) 0 0) 0 0 34 [(0, .ref 1), (2, .int x2), (3, .int 1)] [] h (kI K)) :
    ∀ (r j : Nat) (x3 : Int32) (h : Hp_), j + r = eN h0 → Fi u h0 h → ((x3 = 0 ∧ fsn h 16 ≤ N ∧ Fk h0 h j) ∨ (x3 = 1 ∧ fsn h 16 < N)) → AW (m_X12_walkOf (d + 0) 0 0) 0 0 43 [(0, .ref 1), (2, .int x2), (3, .int x3), (4, .int (Int32.ofNat j))] [] h (kI K) := by
  have ev := ev_ I0 x0
  have b6 := f_le (c := 1) (f := 6) (n := 40) I0 (by decide +kernel)
  have n6 := n_nat (x := h_i h0 1 6) b6.1
  have en : (eN h0 : Int) = (h_i h0 1 6).toInt := n6
  intro r
  induction r with
  | zero =>
    intro j x3 h ej f c
    have e6 : h_i h 1 6 = h_i h0 1 6 := (f.2.1.2 1 6 (by decide +kernel)).1
    have ejn : j = eN h0 := by omega
    refine t_X12_walkOf_43 d h f.1.1 x2 x3 _ K ⟨fun _ => ?_, fun z => absurd (q_le.mpr (by rw [e6, on_j (by omega)]; omega)) z⟩
    rcases c with ⟨c, _, c'⟩ | ⟨c, c'⟩
    · rw [c]
      exact k0 h f (ejn ▸ c')
    · rw [c]
      exact k1 h f c'
  | succ r ih =>
    intro j x3 h ej f c
    have hj : j < eN h0 := by omega
    have q := ev j hj
    have e6 : h_i h 1 6 = h_i h0 1 6 := (f.2.1.2 1 6 (by decide +kernel)).1
    have ee := f.e
    have kj : (Int32.ofNat j).toNatClampNeg = j := on_k (by omega)
    have vj : vp_in (Int32.ofNat j) 40 := on_in (by omega) (by decide)
    have r0 := I0.2.1 200 j
    have r1 := I0.2.1 201 j
    rw [tfa_tf (show tfa 200 = some (0, 15) by decide +kernel)] at r0
    rw [tfa_tf (show tfa 201 = some (0, 15) by decide +kernel)] at r1
    have va : vp_in (h_i h0 200 j) 16 := dp_in (lo := 0) (hi := 15) r0 (by decide) (by decide)
    have vb : vp_in (h_i h0 201 j) 16 := dp_in (lo := 0) (hi := 15) r1 (by decide) (by decide)
    have em : (h_i h0 202 j).toInt = (eE h0 j).2.2 := rfl
    have ea : (h_i h0 200 j).toNatClampNeg = (eE h0 j).1 := rfl
    have eb : (h_i h0 201 j).toNatClampNeg = (eE h0 j).2.1 := rfl
    have fa := f.2.2.1 _ q.1.1
    have fb := f.2.2.1 _ q.1.2
    have nx : ∀ (h' : Hp_) (y : Int32), Fi u h0 h' → ((y = 0 ∧ fsn h' 16 ≤ N ∧ Fk h0 h' (j + 1)) ∨ (y = 1 ∧ fsn h' 16 < N)) → AW (m_X12_walkOf (d + 0) 0 0) 0 0 43 [(0, .ref 1), (2, .int x2), (3, .int y), (4, .int (Int32.ofNat j + 1))] [] h' (kI K) := fun h' y f' c' => by
      rw [on_s (by omega)]
      exact ih (j + 1) y h' (by omega) f' c'
    have hN : fsn h 16 ≤ N := by rcases c with c | c <;> omega
    have wb : ∀ h', Fi u h0 h' → (h_i h' 203 (eE h0 j).1).toInt + (eE h0 j).2.2 < 100000 → ∃ k, wkp (eE h0) (eN h0) u k (eE h0 j).2.1 ((h_i h' 203 (eE h0 j).1).toInt + (eE h0 j).2.2) := fun h' f' l => by
      obtain ⟨k, w⟩ := (f'.2.2.1 _ q.1.1).2 (by omega)
      exact ⟨k + 1, j, hj, Or.inl ⟨rfl, by rw [Int.add_sub_cancel]; exact w⟩⟩
    have wa : ∀ h', Fi u h0 h' → (h_i h' 203 (eE h0 j).2.1).toInt + (eE h0 j).2.2 < 100000 → ∃ k, wkp (eE h0) (eN h0) u k (eE h0 j).1 ((h_i h' 203 (eE h0 j).2.1).toInt + (eE h0 j).2.2) := fun h' f' l => by
      obtain ⟨k, w⟩ := (f'.2.2.1 _ q.1.2).2 (by omega)
      exact ⟨k + 1, j, hj, Or.inr ⟨rfl, by rw [Int.add_sub_cancel]; exact w⟩⟩
    have sa : (h_i h 203 (eE h0 j).1 + h_i h0 202 j).toInt = (h_i h 203 (eE h0 j).1).toInt + (eE h0 j).2.2 := by
      rw [tx_add (by omega) (by omega), em]
    have sb : (h_i h 203 (eE h0 j).2.1 + h_i h0 202 j).toInt = (h_i h 203 (eE h0 j).2.1).toInt + (eE h0 j).2.2 := by
      rw [tx_add (by omega) (by omega), em]
    have T := t_X12_walkOf_43 d h f.1.1 x2 x3 (Int32.ofNat j) K
    rw [kj, (ee.2.2 j).1, (ee.2.2 j).2.1, (ee.2.2 j).2.2, ea, eb, e6] at T
    refine T ⟨fun z => by have := q_le.mp z; rw [on_j (by omega)] at this; omega, fun _ => ⟨vj, vj, va, vj, vb, fun e1 => ⟨vb, vj, va, fun e2 => nx h x3 f ?_, fun e2 => ⟨vb, vj, va, ?_⟩⟩, fun e1 => ⟨va, vj, vb, vb, vj, va, ?_⟩⟩⟩
    · have e1 := q_le.mp e1
      have e2 := q_le.mp e2
      rw [sa] at e1
      rw [sb] at e2
      rcases c with ⟨c, c1, c2⟩ | c
      · refine Or.inl ⟨c, c1, fun i hi => ?_⟩
        by_cases y : i = j
        · rw [y]
          exact ⟨e1, e2⟩
        · exact c2 i (by omega)
      · exact Or.inr c
    · have e2 := q_nle e2
      rw [sb] at e2
      have s := f.st q.1.1 (y := h_i h 203 (eE h0 j).2.1 + h_i h0 202 j) (by rw [sb]; omega) (by rw [sb]; exact e2) (by rw [sb]; exact wa h f)
      exact nx _ 1 s.1 (Or.inr ⟨rfl, by omega⟩)
    · have e1 := q_nle e1
      rw [sa] at e1
      have s := f.st q.1.2 (y := h_i h 203 (eE h0 j).1 + h_i h0 202 j) (by rw [sa]; omega) (by rw [sa]; exact e1) (by rw [sa]; exact wb h f)
      have at1 : (h_i (h_im h 203 (eE h0 j).2.1 (h_i h 203 (eE h0 j).1 + h_i h0 202 j)) 203 (eE h0 j).2.1) = h_i h 203 (eE h0 j).1 + h_i h0 202 j := im_at
      have s2 : (h_i h 203 (eE h0 j).1 + h_i h0 202 j + h_i h0 202 j).toInt = (h_i h 203 (eE h0 j).1).toInt + (eE h0 j).2.2 + (eE h0 j).2.2 := by
        rw [tx_add (by rw [sa]; omega) (by rw [sa]; omega), sa, em]
      refine ⟨fun _ => nx _ 1 s.1 (Or.inr ⟨rfl, by omega⟩), fun e2 => ⟨vb, vj, va, ?_⟩⟩
      have e2 := q_nle e2
      rw [s2] at e2
      have w2 := wa _ s.1
      rw [at1, sa] at w2
      have t := s.1.st q.1.1 (y := h_i h 203 (eE h0 j).1 + h_i h0 202 j + h_i h0 202 j) (by rw [s2]; omega) (by rw [s2]; exact e2) (by rw [s2]; exact w2)
      exact nx _ 1 t.1 (Or.inr ⟨rfl, by omega⟩)
theorem wo_34 (d : Nat) (h0 : Hp_) (I0 : Iv h0) (x0 : ∀ i, i < eN h0 → 1 ≤ (h_i h0 202 i).toInt) (u : Nat) (x2 : Int32) (K : Int32 → Hp_ → Prop) (k0 : ∀ h, Fi u h0 h → Fk h0 h (eN h0) → AW (m_X12_walkOf (d + 0) 0 0) 0 0 34 [(0, .ref 1), (2, .int x2), (3, .int 0)] [] h (kI K)) :
    ∀ (N : Nat) (h : Hp_), Fi u h0 h → fsn h 16 < N → AW (m_X12_walkOf (d + 0) 0 0) 0 0 34 [(0, .ref 1), (2, .int x2), (3, .int 1)] [] h (kI K)
  | 0, _, _, l => absurd l (by omega)
  | N + 1, h, f, l => t_X12_walkOf_34 d h f.1.1 x2 1 K ⟨fun z => absurd z (by decide), fun _ => wo_43 d h0 I0 x0 u x2 K (fsn h 16) k0 (fun h' f' l' => wo_34 d h0 I0 x0 u x2 K k0 N h' f' (by omega)) (eN h0) 0 0 h (by omega) f (Or.inl ⟨rfl, Nat.le_refl _, fun i hi => absurd hi (by omega)⟩)⟩
/-- what the reference's search answers -/
theorem c_woM (d : Nat) {h : Hp_} (I : Iv h) (x0 : ∀ i, i < eN h → 1 ≤ (h_i h 202 i).toInt) (x1 x2 : Int32) (p1 : 0 ≤ x1.toInt ∧ x1.toInt < 16) (p2 : 0 ≤ x2.toInt ∧ x2.toInt < 16) : Ci (m_X12_walkOf (d + 0) 0 0) [.ref 1, .int x1, .int x2] h (fun r h' => Iv h' ∧ Fr [203999] h h' ∧ ∃ e : Nat → Int, Exr (eE h) (eN h) 100000 x1.toNatClampNeg e ∧ ((e x2.toNatClampNeg < 100000 ∧ r.toInt = e x2.toNatClampNeg) ∨ (¬ e x2.toNatClampNeg < 100000 ∧ r = -1))) := by
  have t16 : (16 : Int32).toInt = 16 := rfl
  have t1 : (1 : Int32).toInt = 1 := rfl
  have t0 : (0 : Int32).toInt = 0 := rfl
  have tm : (100000 : Int32).toInt = 100000 := rfl
  have n1 := n_nat (x := x1) p1.1
  have n2 := n_nat (x := x2) p2.1
  have v2 : vp_in x2 16 := vin_ti p2.1 (by omega)
  have fin : ∀ h', Fi x1.toNatClampNeg h h' → Fk h h' (eN h) → AW (m_X12_walkOf (d + 0) 0 0) 0 0 34 [(0, .ref 1), (2, .int x2), (3, .int 0)] [] h' (kI (fun r h' => Iv h' ∧ Fr [203999] h h' ∧ ∃ e : Nat → Int, Exr (eE h) (eN h) 100000 x1.toNatClampNeg e ∧ ((e x2.toNatClampNeg < 100000 ∧ r.toInt = e x2.toNatClampNeg) ∨ (¬ e x2.toNatClampNeg < 100000 ∧ r = -1)))) := fun h' f g => by
    have X : Exr (eE h) (eN h) 100000 x1.toNatClampNeg (fun v => (h_i h' 203 v).toInt) := fun v hv => ⟨(f.2.2.1 v hv).1, fe_le (d := fun v => (h_i h' 203 v).toInt) g f.2.2.2 |> fun q k t w => q k v t w, (f.2.2.1 v hv).2⟩
    exact t_X12_walkOf_34 d h' f.1.1 x2 0 _ ⟨fun _ => ⟨v2, fun c => ⟨v2, f.1, f.2.1, _, X, Or.inl ⟨by have := q_lt.mp c; rw [tm] at this; exact this, rfl⟩⟩, fun c => ⟨f.1, f.2.1, _, X, Or.inr ⟨fun y => c (q_lt.mpr (by rw [tm]; exact y)), rfl⟩⟩⟩, fun z => absurd rfl z⟩
  have lp : ∀ (r j : Nat) (h' : Hp_), j + r = 16 → Iv h' → Fr [203999] h h' → (∀ v, v < j → h_i h' 203 v = if v = x1.toNatClampNeg then 0 else 100000) → AW (m_X12_walkOf (d + 0) 0 0) 0 0 2 [(0, .ref 1), (1, .int x1), (2, .int x2), (3, .int (Int32.ofNat j))] [] h' (kI (fun r h' => Iv h' ∧ Fr [203999] h h' ∧ ∃ e : Nat → Int, Exr (eE h) (eN h) 100000 x1.toNatClampNeg e ∧ ((e x2.toNatClampNeg < 100000 ∧ r.toInt = e x2.toNatClampNeg) ∨ (¬ e x2.toNatClampNeg < 100000 ∧ r = -1)))) := by
    intro r
    induction r with
    | zero =>
      intro j h' ej I' F' P
      refine t_X12_walkOf_2 d h' I'.1 x1 x2 _ _ ⟨fun _ => ?_, fun z => absurd (q_le.mpr (by rw [t16, on_j (by omega)]; omega)) z⟩
      refine wo_34 d h I x0 x1.toNatClampNeg x2 _ fin (fsn h' 16 + 1) h' ⟨I', F', fun v hv => ?_, ?_⟩ (by omega)
      · rw [P v (by omega)]
        by_cases c : v = x1.toNatClampNeg
        · rw [if_pos c, t0]
          exact ⟨⟨by decide, by decide⟩, fun _ => ⟨0, c, rfl⟩⟩
        · rw [if_neg c, tm]
          exact ⟨⟨by decide, by decide⟩, fun y => absurd y (by decide)⟩
      · rw [P _ (by omega), if_pos rfl, t0]
        exact Int.le_refl _
    | succ r ih =>
      intro j h' ej I' F' P
      have kj : (Int32.ofNat j).toNatClampNeg = j := on_k (by omega)
      have vj : vp_in (Int32.ofNat j) 16 := on_in (by omega) (by decide)
      have go : ∀ y, y = (if j = x1.toNatClampNeg then (0 : Int32) else 100000) → AW (m_X12_walkOf (d + 0) 0 0) 0 0 2 [(0, .ref 1), (1, .int x1), (2, .int x2), (3, .int (Int32.ofNat j + 1))] [] (h_im h' 203 (Int32.ofNat j).toNatClampNeg y) (kI (fun r h' => Iv h' ∧ Fr [203999] h h' ∧ ∃ e : Nat → Int, Exr (eE h) (eN h) 100000 x1.toNatClampNeg e ∧ ((e x2.toNatClampNeg < 100000 ∧ r.toInt = e x2.toNatClampNeg) ∨ (¬ e x2.toNatClampNeg < 100000 ∧ r = -1)))) := fun y ey => by
        rw [kj, on_s (by omega)]
        refine ih (j + 1) _ (by omega) (tr_ 203 (by decide +kernel) I' _ _ (by decide) (by decide)) (F'.im (inw_row (by decide +kernel) _)) (fun v hv => ?_)
        by_cases c : v = j
        · rw [c, im_at]
          exact ey
        · rw [h_i_im, if_neg (fun z => c z.2)]
          exact P v (by omega)
      refine t_X12_walkOf_2 d h' I'.1 x1 x2 _ _ ⟨fun z => by have := q_le.mp z; rw [t16, on_j (by omega)] at this; omega, fun _ => ⟨fun n => ⟨vj, go 100000 ?_⟩, fun e => ⟨vj, go 0 ?_⟩⟩⟩
      · rw [if_neg (fun c => n (Int32.toInt_inj.mp (by rw [on_j (by omega)]; omega)))]
      · rw [if_pos (by rw [← e, kj])]
  exact t_X12_walkOf d h x1 x2 _ (lp 16 0 h (by omega) I (Fr.rf _ _) (fun v hv => absurd hv (by omega)))
theorem c_cmM (d : Nat) {h : Hp_} (I : Iv h) (x0 : ∀ i, i < eN h → 1 ≤ (h_i h 202 i).toInt) (x1 x2 : Int32) : Ci (m_X12_walk (d + 2) 0 0) [.ref 1, .int x1, .int x2] h (fun r h' => Iv h' ∧ Fr [203999] h h' ∧ (((0 ≤ x1 ∧ x1 ≤ 15) ∧ (0 ≤ x2 ∧ x2 ≤ 15)) → ∃ e : Nat → Int, Exr (eE h) (eN h) 100000 x1.toNatClampNeg e ∧ ((e x2.toNatClampNeg < 100000 ∧ r.toInt = e x2.toNatClampNeg) ∨ (¬ e x2.toNatClampNeg < 100000 ∧ r = -1))) ∧ (¬ ((0 ≤ x1 ∧ x1 ≤ 15) ∧ (0 ≤ x2 ∧ x2 ≤ 15)) → r = -1)) := by
  have t15 : (15 : Int32).toInt = 15 := rfl
  have t0 : (0 : Int32).toInt = 0 := rfl
  refine t_X12_walk d h I.1 x1 x2 _ ⟨fun n => ⟨I, Fr.rf _ _, fun c => absurd c.1 n, fun _ => rfl⟩, fun a1 => ⟨fun n => ⟨I, Fr.rf _ _, fun c => absurd c.2 n, fun _ => rfl⟩, fun a2 => ?_⟩⟩
  have c1 := q_le.mp a1.1
  have c1' := q_le.mp a1.2
  have c2 := q_le.mp a2.1
  have c2' := q_le.mp a2.2
  exact Ci.mono (c_woM d I x0 x1 x2 (by omega) (by omega)) (fun r h' q => ⟨q.1.1, q.1, q.2.1, fun _ => q.2.2, fun c => absurd ⟨a1, a2⟩ c⟩)
theorem c_cmX (d : Nat) {h : Hp_} (I : Iv h) (x1 x2 : Int32) : Ci (m_X11_walk (d + 2) 0 0) [.ref 0, .int x1, .int x2] h (fun r h' => Iv h' ∧ h' = h ∧ (((0 ≤ x1 ∧ x1 < 16) ∧ (0 ≤ x2 ∧ x2 < 16)) → (dX h x1.toNatClampNeg x2.toNatClampNeg < 1000000 ∧ r.toInt = dX h x1.toNatClampNeg x2.toNatClampNeg) ∨ (¬ dX h x1.toNatClampNeg x2.toNatClampNeg < 1000000 ∧ r = -1)) ∧ (¬ ((0 ≤ x1 ∧ x1 < 16) ∧ (0 ≤ x2 ∧ x2 < 16)) → r = -1)) := by
  have t16 : (16 : Int32).toInt = 16 := rfl
  have t0 : (0 : Int32).toInt = 0 := rfl
  have tm : (1000000 : Int32).toInt = 1000000 := rfl
  refine t_X11_walk d h x1 x2 _ (Ci.mono (s_X11_isPlace _ h x1) (fun r h1 q => ?_))
  obtain ⟨er, eh⟩ := q
  subst er eh
  refine ⟨I.1, fun z => ⟨I, rfl, fun c => absurd c.1 (bI_0.mp z), fun _ => rfl⟩, fun z => Ci.mono (s_X11_isPlace _ _ x2) (fun r h2 q => ?_)⟩
  obtain ⟨er, eh⟩ := q
  subst er eh
  refine ⟨I.1, fun z2 => ⟨I, rfl, fun c => absurd c.2 (bI_0.mp z2), fun _ => rfl⟩, fun z2 => ?_⟩
  have b1 : 0 ≤ x1 ∧ x1 < 16 := Decidable.byContradiction (fun n => z (bI_0.mpr n))
  have b2 : 0 ≤ x2 ∧ x2 < 16 := Decidable.byContradiction (fun n => z2 (bI_0.mpr n))
  have c1 := q_le.mp b1.1
  have c1' := q_lt.mp b1.2
  have c2 := q_le.mp b2.1
  have c2' := q_lt.mp b2.2
  rw [t0] at c1 c2
  rw [t16] at c1' c2'
  have n1 := n_nat (x := x1) c1
  have n2 := n_nat (x := x2) c2
  have k := i256 (i := x1.toNatClampNeg) (j := x2.toNatClampNeg) (by omega) (by omega)
  rw [on_of ⟨c1, by omega⟩, on_of ⟨c2, by omega⟩] at k
  refine t_X9_minutes d h2 x1 x2 _ (Ci.mono (s_X11_isPlace _ h2 x1) (fun r h3 q => ?_))
  obtain ⟨er, eh⟩ := q
  subst er eh
  refine ⟨I.1, fun z => absurd b1 (bI_0.mp z), fun _ => Ci.mono (s_X11_isPlace _ _ x2) (fun r h4 q => ?_)⟩
  obtain ⟨er, eh⟩ := q
  subst er eh
  refine ⟨I.1, fun _ => ⟨k.2, ?_⟩, fun z => absurd b2 (bI_0.mp z)⟩
  rw [k.1]
  exact ⟨fun c => ⟨I.1, I, rfl, fun _ => Or.inl ⟨by have := q_lt.mp c; rw [tm] at this; exact this, rfl⟩, fun c => absurd ⟨b1, b2⟩ c⟩, fun c => ⟨I.1, I, rfl, fun _ => Or.inr ⟨fun y => c (q_lt.mpr (by rw [tm]; exact y)), rfl⟩, fun c => absurd ⟨b1, b2⟩ c⟩⟩
theorem Li.x0 {N : Nat} {h h1 : Hp_} (L : Li N h) (e : h1 = h) : ∀ i, i < eN h1 → 1 ≤ (h_i h1 202 i).toInt := by
  rw [e]
  exact L.2.2.2.2.2.2.1
theorem Li.cm {N : Nat} {h h1 h2 : Hp_} {x1 x2 r1 r2 : Int32} (L : Li N h) (k1 : Iv h1 ∧ h1 = h ∧ (((0 ≤ x1 ∧ x1 < 16) ∧ (0 ≤ x2 ∧ x2 < 16)) → (dX h x1.toNatClampNeg x2.toNatClampNeg < 1000000 ∧ r1.toInt = dX h x1.toNatClampNeg x2.toNatClampNeg) ∨ (¬ dX h x1.toNatClampNeg x2.toNatClampNeg < 1000000 ∧ r1 = -1)) ∧ (¬ ((0 ≤ x1 ∧ x1 < 16) ∧ (0 ≤ x2 ∧ x2 < 16)) → r1 = -1)) (k2 : Iv h2 ∧ Fr [203999] h1 h2 ∧ (((0 ≤ x1 ∧ x1 ≤ 15) ∧ (0 ≤ x2 ∧ x2 ≤ 15)) → ∃ e : Nat → Int, Exr (eE h1) (eN h1) 100000 x1.toNatClampNeg e ∧ ((e x2.toNatClampNeg < 100000 ∧ r2.toInt = e x2.toNatClampNeg) ∨ (¬ e x2.toNatClampNeg < 100000 ∧ r2 = -1))) ∧ (¬ ((0 ≤ x1 ∧ x1 ≤ 15) ∧ (0 ≤ x2 ∧ x2 ≤ 15)) → r2 = -1)) : Li N h2 ∧ r1 = r2 := by
  obtain ⟨_, eh, a1, b1⟩ := k1
  subst eh
  refine ⟨L.fr k2.1 k2.2.1 (by decide +kernel), ?_⟩
  have k2c := k2.2.2
  rw [← p15, ← p15] at k2c
  by_cases c : (0 ≤ x1 ∧ x1 < 16) ∧ (0 ≤ x2 ∧ x2 < 16)
  · obtain ⟨e, X, y⟩ := k2c.1 c
    have t16 : (16 : Int32).toInt = 16 := rfl
    have t0 : (0 : Int32).toInt = 0 := rfl
    have c1 := q_le.mp c.1.1
    have c1' := q_lt.mp c.1.2
    have c2 := q_le.mp c.2.1
    have c2' := q_lt.mp c.2.2
    rw [t0] at c1 c2
    rw [t16] at c1' c2'
    have n1 := n_nat (x := x1) c1
    have n2 := n_nat (x := x2) c2
    have z := (L.2.2.2.2.2.2.2 x1.toNatClampNeg (by omega)).eq X (ev_ L.1 L.2.2.2.2.2.2.1) (by decide) (by decide) (v := x2.toNatClampNeg) (by omega)
    rcases z with ⟨z1, z2, z3⟩ | ⟨z1, z2⟩
    · rcases a1 c with ⟨_, w⟩ | ⟨w, _⟩
      · rcases y with ⟨_, y⟩ | ⟨y, _⟩
        · exact Int32.toInt_inj.mp (by rw [w, y, z3])
        · exact absurd z2 y
      · exact absurd z1 w
    · rcases a1 c with ⟨w, _⟩ | ⟨_, w⟩
      · exact absurd w z1
      · rcases y with ⟨y, _⟩ | ⟨_, y⟩
        · exact absurd y z2
        · rw [w, y]
  · rw [b1 c, k2c.2 c]
