/-! the law, on every script -/
def lX (L : Nat) (xs : Nat → Int32) : (Nat → Nat) → (Nat → Prop) → State → Prop := fun ad A s => va_X (ad 1100) L xs s s.heap ∧ ad 1100 < s.heap.size ∧ ¬ A (ad 1100) ∧ Zx A s
abbrev ML (L : Nat) (xs : Nat → Int32) : Mc_ := (lX L xs, x, code, 7, ret, room_1)
theorem xsL {L : Nat} {xs : Nat → Int32} : xs_ (ML L xs) := fun ad ad' A s he hX => by
  have e := he 1100 (by decide)
  show va_X (ad' 1100) L xs s s.heap ∧ ad' 1100 < s.heap.size ∧ ¬ A (ad' 1100) ∧ Zx A s
  rw [e]
  exact hX
section SCR
variable {L : Nat} {xs : Nat → Int32} {kc ks pc : Nat} {lv : List (Nat × Value)} {st : List Value} {h : Hp_} {K : Option Value → Hp_ → Prop}
theorem aw_sld {i : Int32} (n : Nat) (hn : i.toNatClampNeg = n) (hin : vp_in i L) (hd : decode code pc = .ok (.iaload, 1)) (k : AW (ML L xs) kc ks (pc + 1) lv (.int (xs n) :: st) h K) : AW (ML L xs) kc ks pc lv (.int i :: .ref 1100 :: st) h K := by
  intro l p e s m args below meth c dC dI cy A ad0 adV ad dom0 dom H locs ls hf hX hT hE hW hS hl ho hs
  subst hn
  exact va_sld hf.1 hf.2.1 hX.1 hX.2.1 hX.2.2.1 hS hin hd (k l p e s m args below meth c dC dI cy A ad0 adV ad dom0 dom H locs ls hf hX hT hE hW hS hl ho (ok_c ok_i (ok_t (ok_t hs))))
theorem aw_slen (hd : decode code pc = .ok (.arraylength, 1)) (k : AW (ML L xs) kc ks (pc + 1) lv (.int (Int32.ofNat L) :: st) h K) : AW (ML L xs) kc ks pc lv (.ref 1100 :: st) h K := by
  intro l p e s m args below meth c dC dI cy A ad0 adV ad dom0 dom H locs ls hf hX hT hE hW hS hl ho hs
  exact va_slen hf.1 hf.2.1 hX.1 hX.2.1 hX.2.2.1 hS hd (k l p e s m args below meth c dC dI cy A ad0 adV ad dom0 dom H locs ls hf hX hT hE hW hS hl ho (ok_c ok_i (ok_t hs)))
abbrev lv5 (i : Nat) : List (Nat × Value) := [(0, .ref 1100), (1, .ref 0), (2, .ref 1), (3, .ref 2), (4, .int (Int32.ofNat i))]
theorem aw_arg {i j : Nat} {n : Int} {v : Int32} (d0 : decode code pc = .ok (.aload_n 0, 1)) (d1 : decode code (pc + 1) = .ok (.iload 4, 2)) (d2 : decode code (pc + 3) = .ok (.iconst n, 1)) (d3 : decode code (pc + 4) = .ok (.iadd, 1)) (d4 : decode code (pc + 5) = .ok (.iaload, 1)) (hv : Int32.ofInt n = v) (hj : Int32.ofNat i + v = Int32.ofNat (i + j)) (hL : i + j < L) (lL : L ≤ 3072) (k : AW (ML L xs) kc ks (pc + 6) (lv5 i) (.int (xs (i + j)) :: st) h K) : AW (ML L xs) kc ks pc (lv5 i) st h K := by
  refine aw_aload_n (i := 0) rfl d0 0 rfl ?_
  refine aw_iload d1 4 rfl ?_
  refine aw_iconst (v := v) d2 hv ?_
  refine aw_iadd d3 ?_
  refine aw_vi (v2 := Int32.ofNat (i + j)) hj ?_
  exact aw_sld (i + j) (on_k (by omega)) (on_in hL (by omega)) d4 k
theorem aw_arg2 {i j : Nat} {n : Int} {v r : Int32} (d0 : decode code pc = .ok (.aload_n 0, 1)) (d1 : decode code (pc + 1) = .ok (.iload 4, 2)) (d2 : decode code (pc + 3) = .ok (.iconst n, 1)) (d3 : decode code (pc + 4) = .ok (.iadd, 1)) (d4 : decode code (pc + 5) = .ok (.iaload, 1)) (hv : Int32.ofInt n = v) (hj : Int32.ofNat i + v = Int32.ofNat (i + j)) (hL : i + j < L) (lL : L ≤ 3072) (k : AW (ML L xs) kc ks (pc + 6) [(0, .ref 1100), (1, .ref 0), (2, .ref 1), (3, .ref 2), (4, .int (Int32.ofNat i)), (5, .int r)] (.int (xs (i + j)) :: st) h K) : AW (ML L xs) kc ks pc [(0, .ref 1100), (1, .ref 0), (2, .ref 1), (3, .ref 2), (4, .int (Int32.ofNat i)), (5, .int r)] st h K := by
  refine aw_aload_n (i := 0) rfl d0 0 rfl ?_
  refine aw_iload d1 4 rfl ?_
  refine aw_iconst (v := v) d2 hv ?_
  refine aw_iadd d3 ?_
  refine aw_vi (v2 := Int32.ofNat (i + j)) hj ?_
  exact aw_sld (i + j) (on_k (by omega)) (on_in hL (by omega)) d4 k
/-- a call whose answer is thrown away -/
theorem aw_Kp {M' : Mc_} {n idx ci N a : Nat} {c : Ctr} {T : u_T} (vs : List Value) (hC : Hc M' c) (ma : am h (vs.reverse ++ [.ref a]) c.1) (I : Iv h) (hp : hm h c.2.1) (hd : decode code pc = .ok (.invokevirtual idx, 3)) (hm : cV_ M' n) (hkc : kc_ ci (mY M').cls T N) (hs : h_sh h a = some (ci + 10, N)) (hlk : Cond.methodLink x.cls idx (mY M') ∈ lw_g) (hn : vs.length = n) (hz : ((mR M').frames + 1 ≤ 2048 ∧ 8 + (mN M' + 11) + (mR M').locals ≤ 84000) ∧ (mR M').cells = 0 ∧ (mR M').slots = 0) (hk : kc ≤ 494584 ∧ ks ≤ 7612352) (hr : ∃ g, c.2.2.1 = some (.inl g)) (hq : decode code (pc + 3) = .ok (.pop, 1))
    (k : ∀ h', Iv h' → Fr c.2.2.2.2 h h' → AW (ML L xs) kc ks (pc + 4) lv [] h' K) : AW (ML L xs) kc ks pc lv (vs.reverse ++ [.ref a]) h K := by
  refine aw_Vk (M := ML L xs) (M' := M') vs hC ma I hp hd hm hkc hs hlk hn (by decide) ⟨hz.1, hz.2.1, hz.2.2, xsL⟩ hk (fun v h' kv => ?_)
  obtain ⟨⟨r, s, gh⟩, eg⟩ := hr
  have q := kv.2.2.2
  rw [eg] at q
  obtain ⟨x2, ev, y2, ey, _⟩ := q
  subst ev
  subst ey
  exact aw_pop hq rfl (k h' kv.1 kv.2.1)
theorem aw_Kv {M' : Mc_} {n idx ci N a : Nat} {c : Ctr} {T : u_T} (vs : List Value) (hC : Hc M' c) (ma : am h (vs.reverse ++ [.ref a]) c.1) (I : Iv h) (hp : hm h c.2.1) (hd : decode code pc = .ok (.invokevirtual idx, 3)) (hm : cV_ M' n) (hkc : kc_ ci (mY M').cls T N) (hs : h_sh h a = some (ci + 10, N)) (hlk : Cond.methodLink x.cls idx (mY M') ∈ lw_g) (hn : vs.length = n) (hz : ((mR M').frames + 1 ≤ 2048 ∧ 8 + (mN M' + 11) + (mR M').locals ≤ 84000) ∧ (mR M').cells = 0 ∧ (mR M').slots = 0) (hk : kc ≤ 494584 ∧ ks ≤ 7612352) (hr : c.2.2.1 = none)
    (k : ∀ h', Iv h' → Fr c.2.2.2.2 h h' → AW (ML L xs) kc ks (pc + 3) lv [] h' K) : AW (ML L xs) kc ks pc lv (vs.reverse ++ [.ref a]) h K := by
  refine aw_Vk (M := ML L xs) (M' := M') vs hC ma I hp hd hm hkc hs hlk hn (by decide) ⟨hz.1, hz.2.1, hz.2.2, xsL⟩ hk (fun v h' kv => ?_)
  have q := kv.2.2.2
  rw [hr] at q
  have ev : v = none := q
  subst ev
  exact k h' kv.1 kv.2.1
end SCR
abbrev k1_ : Option Value → Hp_ → Prop := fun v _ => v = some (.int 1)
theorem oa_1 {n : Nat} (h : n < 100000) : Int32.ofNat n + 1 = Int32.ofNat (n + 1) := on_s (by omega)
theorem oa_2 {n : Nat} (h : n < 100000) : Int32.ofNat n + 2 = Int32.ofNat (n + 2) := on_2 h
theorem oa_3 {n : Nat} (h : n < 100000) : Int32.ofNat n + 3 = Int32.ofNat (n + 3) := on_3 h
theorem oa_4 {n : Nat} (h : n < 100000) : Int32.ofNat n + 4 = Int32.ofNat (n + 4) := by
  have t : (4 : Int32).toInt = 4 := rfl
  have a := on_j (n := n) (by omega)
  exact Int32.toInt_inj.mp (by rw [tx_add (by rw [t]; omega) (by rw [t]; omega), t, on_j (n := n + 4) (by omega)]; omega)
theorem oa_5 {n : Nat} (h : n < 100000) : Int32.ofNat n + 5 = Int32.ofNat (n + 5) := by
  have t : (5 : Int32).toInt = 5 := rfl
  have a := on_j (n := n) (by omega)
  exact Int32.toInt_inj.mp (by rw [tx_add (by rw [t]; omega) (by rw [t]; omega), t, on_j (n := n + 5) (by omega)]; omega)
theorem oa_6 {n : Nat} (h : n < 100000) : Int32.ofNat n + Int32.ofInt 6 = Int32.ofNat (n + 6) := by
  have t : (Int32.ofInt 6).toInt = 6 := by decide
  have a := on_j (n := n) (by omega)
  exact Int32.toInt_inj.mp (by rw [tx_add (by rw [t]; omega) (by rw [t]; omega), t, on_j (n := n + 6) (by omega)]; omega)
/-! the room: what the history's rows have cost so far -/
def ph (N : Nat) : Nat := if N = 20000 then 60000 else 2 * N
theorem ph_le {N : Nat} (h : N ≤ 20000) : ph N ≤ 60000 := by
  unfold ph
  split <;> omega
def Rm (t N kc ks : Nat) : Prop := kc ≤ 202 + t ∧ ks ≤ 318709 + 17 * t + ph N ∧ N ≤ 20000
theorem Rm.up {t N kc ks : Nat} (R : Rm t N kc ks) : Rm (t + 1) N kc ks := ⟨by have := R.1; omega, by have := R.2.1; omega, R.2.2⟩
theorem Rm.con {t N kc ks : Nat} (R : Rm t N kc ks) : Rm (t + 1) N (kc + 1) (ks + 17) := ⟨by have := R.1; omega, by have := R.2.1; omega, R.2.2⟩
theorem Rm.abt {t N kc ks : Nat} (R : Rm t N kc ks) : Rm (t + 1) N (kc + 1) (ks + 6) := ⟨by have := R.1; omega, by have := R.2.1; omega, R.2.2⟩
theorem hcost_le {mc ms N N' : Nat} (h : hcost mc ms N N') (l : N' ≤ 20000) : mc ≤ 1 ∧ ms ≤ 20000 := by
  rcases h with ⟨a, b, c⟩ | ⟨a, b, c, d⟩
  · omega
  · omega
theorem Rm.tick {t N N' kc ks mc ms : Nat} (R : Rm t N kc ks) (h : hcost mc ms N N') (l : N' ≤ 20000) : Rm (t + 1) N' (kc + mc) (ks + ms) := by
  obtain ⟨r1, r2, r3⟩ := R
  rcases h with ⟨a, b, c⟩ | ⟨a, b, c, d⟩
  · subst c
    exact ⟨by omega, by omega, l⟩
  · refine ⟨by omega, ?_, l⟩
    have p : ph N = 2 * N := by
      unfold ph
      rw [if_neg (by omega)]
    rw [p] at r2
    unfold ph
    split
    · omega
    · omega
theorem Rm.ok {t N kc ks : Nat} (R : Rm t N kc ks) (h : t ≤ 600) : kc + 20 ≤ 494584 ∧ ks + 20020 ≤ 7612352 := by
  have p := ph_le R.2.2
  have r1 := R.1
  have r2 := R.2.1
  exact ⟨by omega, by omega⟩
theorem wLa_g : wLa ∈ lw_g := lw_c7 223 (by decide +kernel) (by decide +kernel)
theorem aw_La {L : Nat} {xs : Nat → Int32} {kc ks pc : Nat} {lv : List (Nat × Value)} {h : Hp_} {K : Option Value → Hp_ → Prop} (I : Iv h) (s2 : h_sh h 2 = some (3, 1)) (x1 x2 : Int32) (hd : decode code pc = .ok (.invokestatic 75, 3)) (hk : kc + 1 ≤ 494584 ∧ ks + 6 ≤ 7612352) (k : ∀ r h', Iv h' → Fr [2999] h h' → AW (ML L xs) (kc + 1) (ks + 6) (pc + 3) lv [.int r] h' K) : AW (ML L xs) kc ks pc lv [.ref 2, .int x2, .int x1, .ref 0] h K := by
  intro l p e s m args below meth c dC dI cy A ad0 adV ad dom0 dom H locs ls hf hX hT hE hW hS hl ho hs
  have htg := hf.2.2.2.2.2.2.2.1
  refine aw_back (K' := kLa h) (rest := []) (a := ([Value.ref 0, .int x1, .int x2, .ref 2].map (h_cv ad)).toArray) (mc := 1) (ms := 6) xsL hf hX hT hE hW hS hl ho (fun v hv => by cases hv) ?_ (fun v h' kk => ?_)
  · have hws : ∀ w ∈ wLa :: lw_g, ∀ (a' : Array Value) (U : State), s.WarmedH U.vm → w.before a' U = true := fun w hw a' U hWm => by
      have hw' : w ∈ lw_g := (List.mem_cons.mp hw).elim (fun e => e ▸ wLa_g) id
      exact word_at hWm (good_of_word (List.mem_filter.mp hw').2) (htg w hw')
    have hlen : ∀ sig, parseMethodDescriptor yLa.desc = some sig → 4 = sig.parameters.length := fun sig h => by
      have h2 : (parseMethodDescriptor "(LCountyWatch;II[J)I").map (fun d => d.parameters.length) = some 4 := by decide +kernel
      rw [h] at h2
      exact (Option.some.inj h2).symm
    exact vx_runSW (As := [Value.ref 0, .int x1, .int x2, .ref 2].map (h_cv ad)) ⟨hf.1, hf.2.1, hf.2.2.1, hf.2.2.2.2.2.1, htg⟩ (xl_met l dC dI cy ad adV dom H.size I s2 hW.1 x1 x2) ⟨⟨rfl, rfl, show 20 + 1 ≤ 2048 from by decide, show 8 + (5 + 11) + 2000 ≤ 84000 from by decide +kernel, hws, List.mem_cons_self⟩, htg _ wLa_g, htg _ tw_0, ⟨by decide, by decide⟩, hlen, htg _ tw_1661, htg _ tw_1662⟩ ⟨cz_blind, fun U hU hWm => ⟨rfl, cp_pre hf hT hW hS hU hWm, hX.2.2.2.go hS hU hWm (cp_sub hf.2.2.2.2.2.2.2.2.2 hW hS)⟩⟩ rfl rfl hl.1 rfl (lv_room (Nat.le_of_ble_eq_true rfl)) hd hk
  · obtain ⟨⟨r, er⟩, I', F'⟩ := kk
    subst er
    exact k r h' I' F'
/-! goods: how many marks are like, and the greatest sum -/
def lkv : Nat → Int32 → Int32 → Int32 → Int32
  | 0, _, _, n => n
  | r + 1, a, b, n => lkv r (a / 10) (b / 10) (if a - a / 10 * 10 = b - b / 10 * 10 then n + 1 else n)
def sbt (s : Int32) (f : Nat) : Int32 := s ||| ((1 : Int32) <<< (Int32.ofNat f &&& 31))
/-- the best of b and what the goods found from f on give -/
def fv (g : Nat → Int32) (e : Int32) (nx : Int32 → Int32) (s : Int32) : Nat → Nat → Int32 → Int32
  | 0, _, b => b
  | n + 1, f, b => fv g e nx s n (f + 1) (if ((s >>> (Int32.ofNat f &&& 31)) &&& 1) = 0 ∧ ¬ g f < e then (if b < g f + nx (sbt s f) then g f + nx (sbt s f) else b) else b)
def bv (G : Nat → Nat → Int32) (e : Int32) (F : Nat) : Nat → Nat → Int32 → Int32
  | 0, _, _ => 0
  | r + 1, l, s => fv (G l) e (bv G e F r (l + 1)) s F 0 (bv G e F r (l + 1) s)
/-- equal on what is looked at -/
theorem fv_eq {g g' : Nat → Int32} {e : Int32} {nx nx' : Int32 → Int32} {s : Int32} {F : Nat} (hg : ∀ f, f < F → g f = g' f) (hn : ∀ f, f < F → nx (sbt s f) = nx' (sbt s f)) : ∀ (n f : Nat) (b : Int32), f + n ≤ F → fv g e nx s n f b = fv g' e nx' s n f b
  | 0, _, _, _ => rfl
  | n + 1, f, b, l => by
    unfold fv
    rw [hg f (by omega), hn f (by omega)]
    exact fv_eq hg hn n (f + 1) _ (by omega)
theorem bv_eq {G G' : Nat → Nat → Int32} {e : Int32} {F M : Nat} (hG : ∀ l f, l < M → f < F → G l f = G' l f) : ∀ (r l : Nat) (s : Int32), l + r ≤ M → bv G e F r l s = bv G' e F r l s
  | 0, _, _, _ => rfl
  | r + 1, l, s, h => by
    unfold bv
    rw [bv_eq hG r (l + 1) s (by omega)]
    exact fv_eq (F := F) (fun f hf => hG l f (by omega) hf) (fun f _ => bv_eq hG r (l + 1) _ (by omega)) F 0 _ (by omega)
theorem sb_all : (List.range 256).all (fun s => (List.range 8).all (fun f => sbt (Int32.ofNat s) f == Int32.ofNat (s ||| 2 ^ f))) = true := by decide +kernel
theorem sb_in {s : Int32} {F f : Nat} (h0 : 0 ≤ s.toInt) (hs : s.toInt < ((2 ^ F : Nat) : Int)) (hF : F ≤ 8) (hf : f < F) : 0 ≤ (sbt s f).toInt ∧ (sbt s f).toInt < ((2 ^ F : Nat) : Int) := by
  have p8 : 2 ^ F ≤ 2 ^ 8 := Nat.pow_le_pow_right (by omega) hF
  have p8e : 2 ^ 8 = 256 := by decide
  have n := n_nat h0
  have es : s = Int32.ofNat s.toNatClampNeg := Int32.toInt_inj.mp (by rw [on_j (by omega)]; omega)
  have a := List.all_eq_true.mp sb_all s.toNatClampNeg (List.mem_range.mpr (by omega))
  have b := eq_of_beq (List.all_eq_true.mp a f (List.mem_range.mpr (by omega)))
  rw [← es] at b
  have o : s.toNatClampNeg ||| 2 ^ f < 2 ^ F := Nat.or_lt_two_pow (by omega) (Nat.pow_lt_pow_right (by omega) hf)
  rw [b, on_j (by omega)]
  omega
theorem c_alike (d : Nat) (h : Hp_) (x0 x1 : Int32) : Ci (m_X3_alike (d + 0) 0 0) [.int x0, .int x1] h (fun r h' => r = lkv 5 x0 x1 0 ∧ h' = h) := by
  have t1 : (1 : Int32).toInt = 1 := rfl
  have t5 : (5 : Int32).toInt = 5 := rfl
  have lp : ∀ (r : Nat) (x2 x3 x4 x5 : Int32), x5.toInt + r = 5 → 0 ≤ x5.toInt → AW (m_X3_alike (d + 0) 0 0) 0 0 10 [(2, .int x2), (3, .int x3), (4, .int x4), (5, .int x5)] [] h (kI (fun v h' => v = lkv r x3 x4 x2 ∧ h' = h)) := by
    intro r
    induction r with
    | zero =>
      intro x2 x3 x4 x5 e p
      exact t_X3_alike_10 d h x2 x3 x4 x5 _ ⟨fun _ => ⟨rfl, rfl⟩, fun z => absurd (q_le.mpr (by omega)) z⟩
    | succ r ih =>
      intro x2 x3 x4 x5 e p
      have e1 : (x5 + 1).toInt = x5.toInt + 1 := tx_add (by rw [t1]; omega) (by rw [t1]; omega)
      refine t_X3_alike_10 d h x2 x3 x4 x5 _ ⟨fun z => by have := q_le.mp z; omega, fun _ => ⟨fun n => ?_, fun y => ?_⟩⟩
      · have k := ih x2 (x3 / 10) (x4 / 10) (x5 + 1) (by omega) (by omega)
        unfold lkv
        rw [if_neg n]
        exact k
      · have k := ih (x2 + 1) (x3 / 10) (x4 / 10) (x5 + 1) (by omega) (by omega)
        unfold lkv
        rw [if_pos y]
        exact k
  exact t_X3_alike d h x0 x1 _ (lp 5 0 x0 x1 0 (by decide) (by decide))
theorem c_likeM (d : Nat) {h : Hp_} (w : Wf h) (x1 x2 : Int32) (v1 : vp_in x1 8) (v2 : vp_in x2 8) : Ci (m_X12_like (d + 0) 0 0) [.ref 1, .int x1, .int x2] h (fun r h' => r = lkv 5 (h_i h 278 x1.toNatClampNeg) (h_i h 279 x2.toNatClampNeg) 0 ∧ h' = h) := by
  have t1 : (1 : Int32).toInt = 1 := rfl
  have t5 : (5 : Int32).toInt = 5 := rfl
  have lp : ∀ (r : Nat) (x3 x4 x5 x6 : Int32), x6.toInt + r = 5 → 0 ≤ x6.toInt → AW (m_X12_like (d + 0) 0 0) 0 0 21 [(3, .int x3), (4, .int x4), (5, .int x5), (6, .int x6)] [] h (kI (fun v h' => v = lkv r x3 x4 x5 ∧ h' = h)) := by
    intro r
    induction r with
    | zero =>
      intro x3 x4 x5 x6 e p
      exact t_X12_like_21 d h x3 x4 x5 x6 _ ⟨fun _ => ⟨rfl, rfl⟩, fun z => absurd (q_le.mpr (by omega)) z⟩
    | succ r ih =>
      intro x3 x4 x5 x6 e p
      have e1 : (x6 + 1).toInt = x6.toInt + 1 := tx_add (by rw [t1]; omega) (by rw [t1]; omega)
      refine t_X12_like_21 d h x3 x4 x5 x6 _ ⟨fun z => by have := q_le.mp z; omega, fun _ => ⟨fun n => ?_, fun y => ?_⟩⟩
      · have k := ih (x3 / 10) (x4 / 10) x5 (x6 + 1) (by omega) (by omega)
        unfold lkv
        rw [if_neg n, Int32.add_zero]
        exact k
      · have k := ih (x3 / 10) (x4 / 10) (x5 + 1) (x6 + 1) (by omega) (by omega)
        unfold lkv
        rw [if_pos y]
        exact k
  exact t_X12_like d h w x1 x2 _ ⟨v1, v2, lp 5 _ _ 0 0 (by decide) (by decide)⟩
/-- the gains of the class -/
def Gn (e : Int32) (L F : Nat) (h : Hp_) : Prop := ∀ i f, i < L → f < F → h_i h 87 (8 * i + f) = if lkv 5 (h_i h 85 i) (h_i h 86 f) 0 < e then 0 else lkv 5 (h_i h 85 i) (h_i h 86 f) 0
theorem i64 {x1 x2 : Int32} {i f : Nat} (e1 : x1.toInt = (i : Int)) (e2 : x2.toInt = (f : Int)) (h1 : i < 8) (h2 : f < 8) : ((x1 * 8) + x2).toNatClampNeg = 8 * i + f ∧ vp_in ((x1 * 8) + x2) 64 := by
  have t8 : (8 : Int32).toInt = 8 := rfl
  have a : (x1 * 8).toInt = x1.toInt * 8 := by rw [tx_mul (by rw [t8]; omega) (by rw [t8]; omega), t8]
  have b : (x1 * 8 + x2).toInt = x1.toInt * 8 + x2.toInt := by rw [tx_add (by omega) (by omega), a]
  have n := n_nat (x := x1 * 8 + x2) (by omega)
  exact ⟨by omega, dp_in (lo := 0) (hi := 63) ⟨by show (0 : Int) ≤ _; omega, by show _ ≤ (63 : Int); omega⟩ (by decide) (by decide)⟩
theorem fg_in (d : Nat) (h0 : Hp_) (L F : Nat) (hL : L ≤ 8) (hF : F ≤ 8) (i : Nat) (hi : i < L) (x1 : Int32) (e1 : x1.toInt = (i : Int)) (K : Hp_ → Prop)
    (O : ∀ h, Iv h → Fr [87999] h0 h → (∀ j f, j < i + 1 → f < F → h_i h 87 (8 * j + f) = if lkv 5 (h_i h0 85 j) (h_i h0 86 f) 0 < h_i h0 19 4 then 0 else lkv 5 (h_i h0 85 j) (h_i h0 86 f) 0) → AW (m_X3_fillGains (d + 1) 0 0) 0 0 2 [(0, .ref 19), (1, .int (x1 + 1))] [] h (kV K)) (eF : (h_i h0 19 3).toInt = (F : Int)) :
    ∀ (n f : Nat) (x2 : Int32) (h : Hp_), x2.toInt = (f : Int) → f + n = F → Iv h → Fr [87999] h0 h → (∀ j g, (j < i ∧ g < F) ∨ (j = i ∧ g < f) → h_i h 87 (8 * j + g) = if lkv 5 (h_i h0 85 j) (h_i h0 86 g) 0 < h_i h0 19 4 then 0 else lkv 5 (h_i h0 85 j) (h_i h0 86 g) 0) → AW (m_X3_fillGains (d + 1) 0 0) 0 0 12 [(0, .ref 19), (1, .int x1), (2, .int x2)] [] h (kV K) := by
  have t1 : (1 : Int32).toInt = 1 := rfl
  intro n
  induction n with
  | zero =>
    intro f x2 h e2 en I Fh P
    have e3 : h_i h 19 3 = h_i h0 19 3 := (Fh.2 19 3 (by decide +kernel)).1
    refine t_X3_fillGains_12 d h I.1 x1 x2 K ⟨fun _ => O h I Fh (fun j g hj hg => P j g ?_), fun z => absurd (q_le.mpr (by rw [e3]; omega)) z⟩
    rcases Nat.lt_or_ge j i with u | u
    · exact Or.inl ⟨u, hg⟩
    · exact Or.inr ⟨by omega, by omega⟩
  | succ n ih =>
    intro f x2 h e2 en I Fh P
    have e3 : h_i h 19 3 = h_i h0 19 3 := (Fh.2 19 3 (by decide +kernel)).1
    have e4 : h_i h 19 4 = h_i h0 19 4 := (Fh.2 19 4 (by decide +kernel)).1
    have a5 : ∀ k, h_i h 85 k = h_i h0 85 k := fun k => fr_i Fh (by decide +kernel) k
    have a6 : ∀ k, h_i h 86 k = h_i h0 86 k := fun k => fr_i Fh (by decide +kernel) k
    have e5 : (x2 + 1).toInt = ((f + 1 : Nat) : Int) := by rw [tx_add (by rw [t1]; omega) (by rw [t1]; omega), t1]; omega
    have n1 := n_nat (x := x1) (by omega)
    have n2 := n_nat (x := x2) (by omega)
    have m1 : x1.toNatClampNeg = i := by omega
    have m2 : x2.toNatClampNeg = f := by omega
    have j := i64 e1 e2 (by omega) (by omega)
    have v1 : vp_in x1 8 := dp_in (lo := 0) (hi := 7) ⟨by show (0 : Int) ≤ _; omega, by show _ ≤ (7 : Int); omega⟩ (by decide) (by decide)
    have v2 : vp_in x2 8 := dp_in (lo := 0) (hi := 7) ⟨by show (0 : Int) ≤ _; omega, by show _ ≤ (7 : Int); omega⟩ (by decide) (by decide)
    refine t_X3_fillGains_12 d h I.1 x1 x2 K ⟨fun z => by have := q_le.mp z; rw [e3] at this; omega, fun _ => ⟨v1, v2, Ci.mono (c_alike d h _ _) (fun r h5 q => ?_)⟩⟩
    obtain ⟨er, eh⟩ := q
    subst eh
    rw [m1, m2, a5, a6] at er
    have st : ∀ v, v = (if lkv 5 (h_i h0 85 i) (h_i h0 86 f) 0 < h_i h0 19 4 then 0 else lkv 5 (h_i h0 85 i) (h_i h0 86 f) 0) → AW (m_X3_fillGains (d + 1) 0 0) 0 0 12 [(0, .ref 19), (1, .int x1), (2, .int (x2 + 1))] [] (h_im h5 87 ((x1 * 8) + x2).toNatClampNeg v) (kV K) := by
      intro v ev
      refine ih (f + 1) (x2 + 1) _ e5 (by omega) (tr_ 87 (by decide +kernel) I _ _ (by decide) (by decide)) (Fh.im (inw_row (by decide +kernel) _)) (fun jj g hg => ?_)
      rw [j.1, h_i_im]
      by_cases c : 87 = 87 ∧ 8 * jj + g = 8 * i + f
      · rw [if_pos c]
        have u : jj = i ∧ g = f := by omega
        rw [u.1, u.2]
        exact ev
      · rw [if_neg c]
        refine P jj g ?_
        rcases hg with u | u
        · exact Or.inl u
        · exact Or.inr ⟨u.1, by
            rcases Nat.lt_or_ge g f with w | w
            · exact w
            · exact absurd ⟨rfl, by omega⟩ c⟩
    refine ⟨I.1, fun z => ⟨j.2, st 0 ?_⟩, fun z => ⟨j.2, st r ?_⟩⟩
    · rw [er, e4] at z
      rw [if_pos z]
    · rw [er, e4] at z
      rw [if_neg z]
      exact er
theorem c_fillGains (d : Nat) {h : Hp_} (I : Iv h) {L F : Nat} (hL : L ≤ 8) (hF : F ≤ 8) (eL : (h_i h 19 2).toInt = (L : Int)) (eF : (h_i h 19 3).toInt = (F : Int)) : Cv (m_X3_fillGains (d + 1) 0 0) [.ref 19] h (fun h' => Iv h' ∧ Fr [87999] h h' ∧ Gn (h_i h 19 4) L F h') := by
  have t1 : (1 : Int32).toInt = 1 := rfl
  have fin : ∀ h', Fr [87999] h h' → (∀ j f, j < L → f < F → h_i h' 87 (8 * j + f) = if lkv 5 (h_i h 85 j) (h_i h 86 f) 0 < h_i h 19 4 then 0 else lkv 5 (h_i h 85 j) (h_i h 86 f) 0) → Gn (h_i h 19 4) L F h' := fun h' f P i g hi hg => by
    rw [fr_i f (a := 85) (by decide +kernel) i, fr_i f (a := 86) (by decide +kernel) g]
    exact P i g hi hg
  have lp : ∀ (n i : Nat) (x1 : Int32) (h' : Hp_), x1.toInt = (i : Int) → i + n = L → Iv h' → Fr [87999] h h' → (∀ j f, j < i → f < F → h_i h' 87 (8 * j + f) = if lkv 5 (h_i h 85 j) (h_i h 86 f) 0 < h_i h 19 4 then 0 else lkv 5 (h_i h 85 j) (h_i h 86 f) 0) → AW (m_X3_fillGains (d + 1) 0 0) 0 0 2 [(0, .ref 19), (1, .int x1)] [] h' (kV (fun h' => Iv h' ∧ Fr [87999] h h' ∧ Gn (h_i h 19 4) L F h')) := by
    intro n
    induction n with
    | zero =>
      intro i x1 h' e1 en I' Fh P
      have e3 : h_i h' 19 2 = h_i h 19 2 := (Fh.2 19 2 (by decide +kernel)).1
      exact t_X3_fillGains_2 d h' I'.1 x1 _ ⟨fun _ => ⟨I', Fh, fin h' Fh (fun j f hj hf => P j f (by omega) hf)⟩, fun z => absurd (q_le.mpr (by rw [e3]; omega)) z⟩
    | succ n ih =>
      intro i x1 h' e1 en I' Fh P
      have e3 : h_i h' 19 2 = h_i h 19 2 := (Fh.2 19 2 (by decide +kernel)).1
      have e5 : (x1 + 1).toInt = ((i + 1 : Nat) : Int) := by rw [tx_add (by rw [t1]; omega) (by rw [t1]; omega), t1]; omega
      refine t_X3_fillGains_2 d h' I'.1 x1 _ ⟨fun z => by have := q_le.mp z; rw [e3] at this; omega, fun _ => ?_⟩
      refine fg_in d h L F hL hF i (by omega) x1 e1 _ (fun h9 I9 F9 P9 => ih (i + 1) (x1 + 1) h9 e5 (by omega) I9 F9 P9) eF F 0 0 h' rfl (by omega) I' Fh (fun j g hg => ?_)
      rcases hg with u | u
      · exact P j g u.1 u.2
      · exact absurd u.2 (by omega)
  exact t_X3_fillGains d h _ (lp L 0 0 h rfl (by omega) I (Fr.rf _ _) (fun j f hj _ => absurd hj (by omega)))
theorem f_le {h : Hp_} {c f : Nat} {n : Int} (I : Iv h) (e : tf c f = (0, n)) : 0 ≤ (h_i h c f).toInt ∧ (h_i h c f).toInt ≤ n := by
  have rg := I.2.1 c f
  rw [e] at rg
  exact ⟨rg.1, rg.2⟩
def gG (h : Hp_) : Nat → Nat → Int32 := fun l f => lkv 5 (h_i h 85 l) (h_i h 86 f) 0
theorem i2304 {x2 x3 : Int32} {i : Nat} (e : x2.toInt = (i : Int)) (hi : i ≤ 8) (h0 : 0 ≤ x3.toInt) (h1 : x3.toInt < 256) : ((x2 * 256) + x3).toNatClampNeg = 256 * i + x3.toNatClampNeg ∧ vp_in ((x2 * 256) + x3) 2304 ∧ ((256 * x2) + x3).toNatClampNeg = 256 * i + x3.toNatClampNeg ∧ vp_in ((256 * x2) + x3) 2304 := by
  have t : (256 : Int32).toInt = 256 := rfl
  have a : (x2 * 256).toInt = x2.toInt * 256 := by rw [tx_mul (by rw [t]; omega) (by rw [t]; omega), t]
  have a' : (256 * x2).toInt = 256 * x2.toInt := by rw [tx_mul (by rw [t]; omega) (by rw [t]; omega), t]
  have b : (x2 * 256 + x3).toInt = x2.toInt * 256 + x3.toInt := by rw [tx_add (by omega) (by omega), a]
  have b' : (256 * x2 + x3).toInt = 256 * x2.toInt + x3.toInt := by rw [tx_add (by omega) (by omega), a']
  have n := n_nat (x := x2 * 256 + x3) (by omega)
  have n' := n_nat (x := 256 * x2 + x3) (by omega)
  have m := n_nat (x := x3) h0
  exact ⟨by omega, dp_in (lo := 0) (hi := 2303) ⟨by show (0 : Int) ≤ _; omega, by show _ ≤ (2303 : Int); omega⟩ (by decide) (by decide), by omega, dp_in (lo := 0) (hi := 2303) ⟨by show (0 : Int) ≤ _; omega, by show _ ≤ (2303 : Int); omega⟩ (by decide) (by decide)⟩
theorem p2_8 {F : Nat} (h : F ≤ 8) : 2 ^ F ≤ 256 ∧ 1 ≤ 2 ^ F := by
  have a : 2 ^ F ≤ 2 ^ 8 := Nat.pow_le_pow_right (by omega) h
  have b : 2 ^ 8 = 256 := by decide
  have c : 0 < 2 ^ F := Nat.pos_of_ne_zero (by simp)
  omega
theorem fb_f (d : Nat) {h : Hp_} (I : Iv h) {G : Nat → Nat → Int32} {e : Int32} {F i : Nat} (hF : F ≤ 8) (hi : i < 8) (he : 1 ≤ e.toInt) (nx : Int32 → Int32) (x1 x2 x3 : Int32) (e2 : x2.toInt = (i : Int)) (p0 : 0 ≤ x3.toInt) (p1 : x3.toInt < ((2 ^ F : Nat) : Int)) (eF : (h_i h 19 3).toInt = (F : Int)) (Gh : ∀ f, f < F → h_i h 87 (8 * i + f) = if G i f < e then 0 else G i f) (T : ∀ s : Int32, 0 ≤ s.toInt → s.toInt < ((2 ^ F : Nat) : Int) → h_i h 88 (256 * (i + 1) + s.toNatClampNeg) = nx s) (K : Hp_ → Prop) :
    ∀ (n f : Nat) (x4 : Int32), f + n = F → AW (m_X3_fillBest (d + 1) 0 0) 0 0 28 [(0, .ref 19), (1, .int x1), (2, .int x2), (3, .int (x3 + 1))] [] (h_im h 88 ((x2 * 256) + x3).toNatClampNeg (fv (G i) e nx x3 n f x4)) (kV K) → AW (m_X3_fillBest (d + 1) 0 0) 0 0 52 [(0, .ref 19), (1, .int x1), (2, .int x2), (3, .int x3), (4, .int x4), (5, .int (Int32.ofNat f))] [] h (kV K) := by
  have t1 : (1 : Int32).toInt = 1 := rfl
  have t0 : (0 : Int32).toInt = 0 := rfl
  have p8 := p2_8 hF
  have jj := i2304 e2 (by omega) p0 (by omega)
  intro n
  induction n with
  | zero =>
    intro f x4 en O
    exact t_X3_fillBest_52 d h I.1 x1 x2 x3 x4 (Int32.ofNat f) K ⟨fun _ => ⟨jj.2.1, O⟩, fun z => absurd (q_le.mpr (by rw [eF, on_j (by omega)]; omega)) z⟩
  | succ n ih =>
    intro f x4 en O
    have ef : (Int32.ofNat f).toInt = (f : Int) := on_j (by omega)
    have j := i64 e2 ef hi (by omega)
    have gh := Gh f (by omega)
    unfold fv at O
    have no : ¬ (((x3 >>> (Int32.ofNat f &&& 31)) &&& 1) = 0 ∧ ¬ G i f < e) → AW (m_X3_fillBest (d + 1) 0 0) 0 0 52 [(0, .ref 19), (1, .int x1), (2, .int x2), (3, .int x3), (4, .int x4), (5, .int (Int32.ofNat f + 1))] [] h (kV K) := fun nn => by
      rw [if_neg nn] at O
      rw [on_s (by omega)]
      exact ih (f + 1) x4 (by omega) O
    refine t_X3_fillBest_52 d h I.1 x1 x2 x3 x4 (Int32.ofNat f) K ⟨fun z => by have := q_le.mp z; rw [eF, ef] at this; omega, fun _ => ?_⟩
    refine t_X3_canJoin d h I.1 x2 (Int32.ofNat f) x3 _ ⟨fun nb => ⟨I.1, fun _ => no (fun w => nb w.1), fun w => absurd rfl w⟩, fun fb => ⟨j.2, fun g0 => ⟨I.1, fun _ => no (fun w => ?_), fun w => absurd rfl w⟩, fun g1 => ⟨I.1, fun w => absurd w (by decide), fun _ => ?_⟩⟩⟩
    · rw [j.1, gh, if_neg w.2] at g0
      have u := q_nlt w.2
      have v := q_le.mp g0
      omega
    · have ng : ¬ G i f < e := fun w => by
        rw [j.1, gh, if_pos w] at g1
        exact g1 (q_le.mpr (by omega))
      have sb := sb_in p0 p1 hF (f := f) (by omega)
      have e21 : (x2 + 1).toInt = ((i + 1 : Nat) : Int) := by rw [tx_add (by rw [t1]; omega) (by rw [t1]; omega), t1]; omega
      have k2 := i2304 (x2 := x2 + 1) (x3 := sbt x3 f) e21 (by omega) sb.1 (by omega)
      have er : h_i h 87 ((x2 * 8) + Int32.ofNat f).toNatClampNeg + h_i h 88 (((x2 + 1) * 256) + (x3 ||| ((1 : Int32) <<< (Int32.ofNat f &&& 31)))).toNatClampNeg = G i f + nx (sbt x3 f) := by
        rw [j.1, gh, if_neg ng]
        have k3 := k2.1
        unfold sbt at k3
        rw [k3]
        have k4 := T (sbt x3 f) sb.1 sb.2
        unfold sbt at k4 ⊢
        rw [k4]
      refine t_X3_sumWith d h I.1 x2 (Int32.ofNat f) x3 _ ⟨j.2, k2.2.1, I.1, ?_⟩
      rw [er, on_s (by omega)]
      rw [if_pos ⟨fb, ng⟩] at O
      exact ih (f + 1) _ (by omega) O
def Tb (G : Nat → Nat → Int32) (e : Int32) (F L : Nat) (c : Nat) (h : Hp_) (i : Nat) : Prop := ∀ (j : Nat) (s : Int32), i ≤ j → j ≤ L → 0 ≤ s.toInt → s.toInt < ((2 ^ F : Nat) : Int) → h_i h c (256 * j + s.toNatClampNeg) = bv G e F (L - j) j s
theorem fb_s (d : Nat) (h0 : Hp_) {G : Nat → Nat → Int32} {e : Int32} {F L i : Nat} (hF : F ≤ 8) (hL : L ≤ 8) (hi : i < L) (he : 1 ≤ e.toInt) (x1 x2 : Int32) (e1 : x1.toInt = ((2 ^ F : Nat) : Int)) (e2 : x2.toInt = (i : Int)) (eF : (h_i h0 19 3).toInt = (F : Int)) (Gh : ∀ i f, i < L → f < F → h_i h0 87 (8 * i + f) = if G i f < e then 0 else G i f) (K : Hp_ → Prop) (O : ∀ h, Iv h → Fr [88999] h0 h → Tb G e F L 88 h i → AW (m_X3_fillBest (d + 1) 0 0) 0 0 22 [(0, .ref 19), (1, .int x1), (2, .int (x2 + (-1)))] [] h (kV K)) :
    ∀ (m : Nat) (x3 : Int32) (h : Hp_), 0 ≤ x3.toInt → x3.toInt + m = ((2 ^ F : Nat) : Int) → Iv h → Fr [88999] h0 h → Tb G e F L 88 h (i + 1) → (∀ s : Int32, 0 ≤ s.toInt → s.toInt < x3.toInt → h_i h 88 (256 * i + s.toNatClampNeg) = bv G e F (L - i) i s) → AW (m_X3_fillBest (d + 1) 0 0) 0 0 28 [(0, .ref 19), (1, .int x1), (2, .int x2), (3, .int x3)] [] h (kV K) := by
  have t1 : (1 : Int32).toInt = 1 := rfl
  have p8 := p2_8 hF
  intro m
  induction m with
  | zero =>
    intro x3 h p0 p1 I Fh T P
    refine t_X3_fillBest_28 d h I.1 x1 x2 x3 K ⟨fun _ => O h I Fh (fun j s hj hL' s0 s1 => ?_), fun z => absurd (q_le.mpr (by omega)) z⟩
    rcases Nat.lt_or_ge i j with u | u
    · exact T j s u hL' s0 s1
    · have ej : j = i := by omega
      rw [ej]
      exact P s s0 (by omega)
  | succ m ih =>
    intro x3 h p0 p1 I Fh T P
    have e3 : (x3 + 1).toInt = x3.toInt + 1 := tx_add (by rw [t1]; omega) (by rw [t1]; omega)
    have e21 : (x2 + 1).toInt = ((i + 1 : Nat) : Int) := by rw [tx_add (by rw [t1]; omega) (by rw [t1]; omega), t1]; omega
    have k1 := i2304 (x2 := x2 + 1) (x3 := x3) e21 (by omega) p0 (by omega)
    have k0 := i2304 (x2 := x2) (x3 := x3) e2 (by omega) p0 (by omega)
    have hb : h_i h 88 (((x2 + 1) * 256) + x3).toNatClampNeg = bv G e F (L - (i + 1)) (i + 1) x3 := by
      rw [k1.1]
      exact T (i + 1) x3 (Nat.le_refl _) (by omega) p0 (by omega)
    have eb : bv G e F (L - i) i x3 = fv (G i) e (bv G e F (L - (i + 1)) (i + 1)) x3 F 0 (bv G e F (L - (i + 1)) (i + 1) x3) := by
      rw [show L - i = (L - (i + 1)) + 1 by omega]
      rfl
    refine t_X3_fillBest_28 d h I.1 x1 x2 x3 K ⟨fun z => by have := q_le.mp z; omega, fun _ => ⟨k1.2.1, ?_⟩⟩
    rw [hb]
    refine fb_f d I (G := G) (e := e) (F := F) (i := i) hF (by omega) he (bv G e F (L - (i + 1)) (i + 1)) x1 x2 x3 e2 p0 (by omega) (by rw [(Fh.2 19 3 (by decide +kernel)).1]; exact eF) (fun f hf => by rw [fr_i Fh (a := 87) (by decide +kernel)]; exact Gh i f hi hf) (fun s s0 s1 => T (i + 1) s (Nat.le_refl _) (by omega) s0 s1) K F 0 _ (by omega) ?_
    rw [← eb, k0.1]
    have n3 := n_nat (x := x3) p0
    refine ih (x3 + 1) _ (by omega) (by omega) (tr_ 88 (by decide +kernel) I _ _ (by decide) (by decide)) (Fh.im (inw_row (by decide +kernel) _)) (fun j s hj hL' s0 s1 => ?_) (fun s s0 s1 => ?_)
    · have ns := n_nat (x := s) s0
      rw [h_i_im, if_neg (fun c => by have := c.2; omega)]
      exact T j s hj hL' s0 s1
    · have ns := n_nat (x := s) s0
      rw [h_i_im]
      by_cases c : s.toInt = x3.toInt
      · have es : s = x3 := Int32.toInt_inj.mp c
        rw [if_pos ⟨rfl, by rw [es]⟩, es]
      · rw [if_neg (fun c' => by have := c'.2; omega)]
        exact P s s0 (by omega)
theorem sh_all : (List.range 9).all (fun F => ((1 : Int32) <<< (Int32.ofNat F &&& 31)).toInt == ((2 ^ F : Nat) : Int)) = true := by decide +kernel
theorem fb_i (d : Nat) (h0 hA : Hp_) {G : Nat → Nat → Int32} {e : Int32} {F L : Nat} (hF : F ≤ 8) (hL : L ≤ 8) (he : 1 ≤ e.toInt) (y1 : Int32) (ex1 : y1.toInt = ((2 ^ F : Nat) : Int)) (eF : (h_i h0 19 3).toInt = (F : Int)) (Gh : ∀ i f, i < L → f < F → h_i h0 87 (8 * i + f) = if G i f < e then 0 else G i f) (FA : Fr [88999] hA h0) :
    ∀ (r : Nat) (x2 : Int32) (h' : Hp_), x2.toInt = (r : Int) - 1 → r ≤ L → Iv h' → Fr [88999] h0 h' → Tb G e F L 88 h' r → AW (m_X3_fillBest (d + 1) 0 0) 0 0 22 [(0, .ref 19), (1, .int y1), (2, .int x2)] [] h' (kV (fun h' => Iv h' ∧ Fr [88999] hA h' ∧ Tb G e F L 88 h' 0))
  | 0, x2, h', ee, _, I', Fh, T => t_X3_fillBest_22 d h' _ x2 _ ⟨fun _ => ⟨I', FA.tr Fh, T⟩, fun z => absurd (q_lt.mpr (show x2.toInt < 0 by rw [ee]; decide)) z⟩
  | r + 1, x2, h', ee, rl, I', Fh, T => by
    have er : x2.toInt = (r : Int) := by rw [ee]; exact (show ((r : Int) + 1) - 1 = (r : Int) from Int.add_sub_cancel _ _)
    have tm : (-1 : Int32).toInt = -1 := rfl
    have lr : (r : Int) ≤ 8 := Int.ofNat_le.mpr (Nat.le_trans (Nat.le_of_succ_le rl) hL)
    have nr : (0 : Int) ≤ (r : Int) := Int.natCast_nonneg r
    have e4 : (x2 + (-1)).toInt = (r : Int) - 1 := by
      rw [tx_add (by rw [tm, er]; exact Int.le_trans (by decide) (Int.add_le_add_right nr (-1))) (by rw [tm, er]; exact Int.lt_of_le_of_lt (Int.add_le_add_right lr (-1)) (by decide)), tm, er]
      rfl
    refine t_X3_fillBest_22 d h' _ x2 _ ⟨fun z => absurd (q_lt.mp z) (by rw [er]; exact Int.not_lt.mpr nr), fun _ => ?_⟩
    exact fb_s d h0 (G := G) (e := e) (F := F) (L := L) (i := r) hF hL rl he y1 x2 ex1 er eF Gh _ (fun h9 I9 F9 T9 => fb_i d h0 hA hF hL he y1 ex1 eF Gh FA r (x2 + (-1)) h9 e4 (Nat.le_of_succ_le rl) I9 F9 T9) (2 ^ F) 0 h' (by decide) (Int.zero_add _) I' Fh T (fun s s0 s1 => absurd s1 (Int.not_lt.mpr s0))
theorem c_fillBest (d : Nat) {h : Hp_} (I : Iv h) {L F : Nat} (hL : L ≤ 8) (hF : F ≤ 8) (he : 1 ≤ (h_i h 19 4).toInt) (eL : (h_i h 19 2).toInt = (L : Int)) (eF : (h_i h 19 3).toInt = (F : Int)) (Gh : Gn (h_i h 19 4) L F h) : Cv (m_X3_fillBest (d + 1) 0 0) [.ref 19] h (fun h' => Iv h' ∧ Fr [88999] h h' ∧ Tb (gG h) (h_i h 19 4) F L 88 h' 0) := by
  have t1 : (1 : Int32).toInt = 1 := rfl
  have tm : (-1 : Int32).toInt = -1 := rfl
  have p8 := p2_8 hF
  refine t_X3_fillBest d h I.1 _ (Cv.mono (s_J7_fill d h 88 2304 0 (ws_88 I.1) (by decide)) (fun h1 q => ?_))
  have I1 : Iv h1 := by rw [q]; exact I.iw (fun k => by rw [tfa_tf (show tfa 88 = some rtop by decide +kernel)]; exact rtop_in _) (by decide) (by decide)
  have F1 : Fr [88999] h h1 := by rw [q]; exact (Fr.rf _ _).iw (by decide +kernel)
  have Z1 : ∀ k, k < 2304 → h_i h1 88 k = 0 := fun k hk => by rw [q, h_i_iw, if_pos rfl]; unfold fl_; rw [if_pos hk]
  have e3 : h_i h1 19 3 = h_i h 19 3 := (F1.2 19 3 (by decide +kernel)).1
  have e2 : h_i h1 19 2 = h_i h 19 2 := (F1.2 19 2 (by decide +kernel)).1
  have e3n : h_i h1 19 3 = Int32.ofNat F := Int32.toInt_inj.mp (by rw [e3, on_j (by omega)]; exact eF)
  have ex1 : ((1 : Int32) <<< ((h_i h1 19 3) &&& 31)).toInt = ((2 ^ F : Nat) : Int) := by
    rw [e3n]
    exact eq_of_beq (List.all_eq_true.mp sh_all F (List.mem_range.mpr (by omega)))
  have e2L : (h_i h1 19 2).toInt = (L : Int) := by rw [e2]; exact eL
  generalize ((1 : Int32) <<< ((h_i h1 19 3) &&& 31)) = y1 at ex1 ⊢
  have ex2 : ((h_i h1 19 2) - 1).toInt = (L : Int) - 1 := by rw [tx_sub (by rw [t1]; omega) (by rw [t1]; omega), t1, e2L]
  refine ⟨I1.1, fb_i d h1 h hF hL he y1 ex1 (by rw [e3]; exact eF) (fun i f hi hf => by rw [fr_i F1 (a := 87) (by decide +kernel)]; exact Gh i f hi hf) F1 L _ h1 ex2 (Nat.le_refl _) I1 (Fr.rf _ _) (fun j s hj hl s0 s1 => ?_)⟩
  have ns := n_nat (x := s) s0
  rw [Z1 _ (by omega), show L - j = 0 by omega]
  rfl
/-- the greatest sum, by the class's goods -/
def bX (h : Hp_) : Int32 := bv (gG h) (h_i h 19 4) (h_i h 19 3).toNatClampNeg (h_i h 19 2).toNatClampNeg 0 0
def Gx (h : Hp_) : Prop := (1 ≤ (h_i h 19 4).toInt) ∧ (h_i h 19 5 = 0 → h_i h 88 0 = bX h)
theorem bX_fr {ws : List Nat} {h h' : Hp_} (f : Fr ws h h') (o : (off ws 85 && off ws 86 && (!inw ws 19 2 && !inw ws 19 3 && !inw ws 19 4)) = true) : bX h' = bX h := by
  simp only [Bool.and_eq_true, Bool.not_eq_true'] at o
  unfold bX gG
  rw [(f.2 19 2 o.2.1.1).1, (f.2 19 3 o.2.1.2).1, (f.2 19 4 o.2.2).1, show h_i h' 85 = h_i h 85 from funext (fun k => fr_i f o.1.1 k), show h_i h' 86 = h_i h 86 from funext (fun k => fr_i f o.1.2 k)]
theorem c_solve (d : Nat) {h : Hp_} (I : Iv h) (g : Gx h) : Cv (m_X3_solve (d + 3) 0 0) [.ref 19] h (fun h' => Iv h' ∧ Fr [19005, 87999, 88999, 89999, 90999, 91999] h h' ∧ h_i h' 19 5 = 0 ∧ h_i h' 88 0 = bX h) := by
  have b2 := f_le (c := 19) (f := 2) (n := 8) I (by decide +kernel)
  have b3 := f_le (c := 19) (f := 3) (n := 8) I (by decide +kernel)
  have n2 := n_nat (x := h_i h 19 2) b2.1
  have n3 := n_nat (x := h_i h 19 3) b3.1
  refine t_X3_solve d h I.1 _ ⟨fun z => ⟨I, Fr.rf _ _, z, g.2 z⟩, fun _ => ?_⟩
  refine Cv.mono (c_fillGains d I (L := (h_i h 19 2).toNatClampNeg) (F := (h_i h 19 3).toNatClampNeg) (by omega) (by omega) n2.symm n3.symm) (fun h2 q => ?_)
  obtain ⟨I2, F2, G2⟩ := q
  have e2 : h_i h2 19 2 = h_i h 19 2 := (F2.2 19 2 (by decide +kernel)).1
  have e3 : h_i h2 19 3 = h_i h 19 3 := (F2.2 19 3 (by decide +kernel)).1
  have e4 : h_i h2 19 4 = h_i h 19 4 := (F2.2 19 4 (by decide +kernel)).1
  refine ⟨I2.1, Cv.mono (c_fillBest d I2 (L := (h_i h 19 2).toNatClampNeg) (F := (h_i h 19 3).toNatClampNeg) (by omega) (by omega) (by rw [e4]; exact g.1) (by rw [e2]; exact n2.symm) (by rw [e3]; exact n3.symm) (by rw [e4]; exact G2)) (fun h5 q => ?_)⟩
  obtain ⟨I5, F5, T5⟩ := q
  have z5 : h_i h5 88 0 = bX h := by
    have t := T5 0 0 (Nat.le_refl _) (Nat.zero_le _) (by decide) (by have p := (p2_8 (F := (h_i h 19 3).toNatClampNeg) (by omega)).2; show (0 : Int) < _; omega)
    have u : bX h2 = bX h := bX_fr F2 (by decide +kernel)
    rw [← u]
    unfold bX
    rw [e2, e3]
    exact t
  refine ⟨I5.1, Ct.mono (hc_X3_fillChoices d [.ref 19] h5 ⟨rfl, trivial⟩ I5 (fun _ y => (nomatch y))) (fun v h8 k => ?_)⟩
  obtain ⟨I8, F8, _, e8⟩ := k
  refine ⟨e8, I8.1, Ct.mono (hc_X3_fillFirst d [.ref 19] h8 ⟨rfl, trivial⟩ I8 (fun _ y => (nomatch y))) (fun v h11 k => ?_)⟩
  obtain ⟨I11, F11, _, e11⟩ := k
  refine ⟨e11, I11.1, I11.im (by rw [show tf 19 5 = (0, 1) by decide +kernel]; exact ⟨by decide, by decide⟩) (by decide), ((((F2.more (b := [19005, 87999, 88999, 89999, 90999, 91999]) (by decide +kernel)).tr (F5.more (by decide +kernel))).tr (F8.more (by decide +kernel))).tr (F11.more (by decide +kernel))).im (by decide +kernel), im_at, ?_⟩
  rw [im_ne (by decide), fr_i F11 (a := 88) (by decide +kernel), fr_i F8 (a := 88) (by decide +kernel)]
  exact z5
/-- the greatest sum, by the reference's goods -/
def gM (h : Hp_) : Nat → Nat → Int32 := fun l f => lkv 5 (h_i h 278 l) (h_i h 279 f) 0
def bM (h : Hp_) : Int32 := bv (gM h) (h_i h 1 103) (h_i h 1 102).toNatClampNeg (h_i h 1 101).toNatClampNeg 0 0
theorem rb_f (d : Nat) {h : Hp_} (I : Iv h) {F i : Nat} (hF : F ≤ 8) (hi : i < 8) (nx : Int32 → Int32) (x3 x4 : Int32) (e3 : x3.toInt = (i : Int)) (p0 : 0 ≤ x4.toInt) (p1 : x4.toInt < 256) (eF : (h_i h 1 102).toInt = (F : Int)) (T : ∀ s : Int32, 0 ≤ s.toInt → s.toInt < 256 → h_i h 280 (256 * (i + 1) + s.toNatClampNeg) = nx s) (K : Int32 → Hp_ → Prop) :
    ∀ (n f : Nat) (x5 : Int32), f + n = F → AW (m_X12_bestFrom (d + 1) 0 0) 0 0 45 [(0, .ref 1), (1, .int (-1)), (2, .int (-1)), (3, .int x3), (4, .int (x4 + 1))] [] (h_im h 280 ((256 * x3) + x4).toNatClampNeg (fv (gM h i) (h_i h 1 103) nx x4 n f x5)) (kI K) → AW (m_X12_bestFrom (d + 1) 0 0) 0 0 89 [(0, .ref 1), (1, .int (-1)), (2, .int (-1)), (3, .int x3), (4, .int x4), (5, .int x5), (6, .int (Int32.ofNat f))] [] h (kI K) := by
  have t1 : (1 : Int32).toInt = 1 := rfl
  have tm : (-1 : Int32).toInt = -1 := rfl
  have p28 : ((2 ^ 8 : Nat) : Int) = 256 := by decide
  have jj := i2304 e3 (by omega) p0 (by omega)
  have n3 := n_nat (x := x3) (by omega)
  have m3 : x3.toNatClampNeg = i := by omega
  have v3 : vp_in x3 8 := dp_in (lo := 0) (hi := 7) ⟨by show (0 : Int) ≤ _; omega, by show _ ≤ (7 : Int); omega⟩ (by decide) (by decide)
  have ne : ¬ x3 = -1 := fun z => by rw [z, tm] at e3; omega
  intro n
  induction n with
  | zero =>
    intro f x5 en O
    exact t_X12_bestFrom_89 d h I.1 (-1) (-1) x3 x4 x5 (Int32.ofNat f) K ⟨fun _ => ⟨jj.2.2.2, O⟩, fun z => absurd (q_le.mpr (by rw [eF, on_j (by omega)]; omega)) z⟩
  | succ n ih =>
    intro f x5 en O
    have ef : (Int32.ofNat f).toInt = (f : Int) := on_j (by omega)
    have kf : (Int32.ofNat f).toNatClampNeg = f := on_k (by omega)
    have vf : vp_in (Int32.ofNat f) 8 := on_in (by omega) (by decide)
    unfold fv at O
    have no : ¬ (((x4 >>> (Int32.ofNat f &&& 31)) &&& 1) = 0 ∧ ¬ gM h i f < h_i h 1 103) → AW (m_X12_bestFrom (d + 1) 0 0) 0 0 89 [(0, .ref 1), (1, .int (-1)), (2, .int (-1)), (3, .int x3), (4, .int x4), (5, .int x5), (6, .int (Int32.ofNat f + 1))] [] h (kI K) := fun nn => by
      rw [if_neg nn] at O
      rw [on_s (by omega)]
      exact ih (f + 1) x5 (by omega) O
    have lk : Ci (m_X12_like (d + 0) 0 0) [.ref 1, .int x3, .int (Int32.ofNat f)] h (fun r h' => r = gM h i f ∧ h' = h) := Ci.mono (c_likeM d I.1 x3 (Int32.ofNat f) v3 vf) (fun r h' q => by
      rw [m3, kf] at q
      exact q)
    refine t_X12_bestFrom_89 d h I.1 (-1) (-1) x3 x4 x5 (Int32.ofNat f) K ⟨fun z => by have := q_le.mp z; rw [eF, ef] at this; omega, fun _ => ⟨fun nb => no (fun w => nb w.1), fun fb => Ci.mono lk (fun r h13 q => ?_)⟩⟩
    obtain ⟨er, eh⟩ := q
    subst er eh
    refine ⟨I.1, fun lt => no (fun w => w.2 lt), fun ng => ⟨fun _ => Ci.mono lk (fun r h18 q => ?_), fun z => absurd z ne⟩⟩
    obtain ⟨er, eh⟩ := q
    subst er eh
    have sb := sb_in (F := 8) p0 (by omega) (by decide) (f := f) (by omega)
    have e31 : (x3 + 1).toInt = ((i + 1 : Nat) : Int) := by rw [tx_add (by rw [t1]; omega) (by rw [t1]; omega), t1]; omega
    have k2 := i2304 (x2 := x3 + 1) (x3 := sbt x4 f) e31 (by omega) sb.1 (by omega)
    have er : h_i h18 280 ((256 * (x3 + 1)) + (x4 ||| ((1 : Int32) <<< (Int32.ofNat f &&& 31)))).toNatClampNeg = nx (sbt x4 f) := by
      have k3 := k2.2.2.1
      unfold sbt at k3
      rw [k3]
      have k4 := T (sbt x4 f) sb.1 (by omega)
      unfold sbt at k4 ⊢
      rw [k4]
    refine ⟨I.1, k2.2.2.2, ?_⟩
    rw [er, on_s (by omega)]
    rw [if_pos ⟨fb, ng⟩] at O
    exact ih (f + 1) _ (by omega) O
def Tm (G : Nat → Nat → Int32) (e : Int32) (F L : Nat) (h : Hp_) (i : Nat) : Prop := ∀ (j : Nat) (s : Int32), i ≤ j → j ≤ L → 0 ≤ s.toInt → s.toInt < 256 → h_i h 280 (256 * j + s.toNatClampNeg) = bv G e F (L - j) j s
theorem gM_fr {h h' : Hp_} (f : Fr [280999] h h') : gM h' = gM h := by
  unfold gM
  rw [show h_i h' 278 = h_i h 278 from funext (fun k => fr_i f (by decide +kernel) k), show h_i h' 279 = h_i h 279 from funext (fun k => fr_i f (by decide +kernel) k)]
theorem rb_s (d : Nat) (h0 : Hp_) {F L i : Nat} (hF : F ≤ 8) (hL : L ≤ 8) (hi : i < L) (x3 : Int32) (e3 : x3.toInt = (i : Int)) (eF : (h_i h0 1 102).toInt = (F : Int)) (K : Int32 → Hp_ → Prop) (O : ∀ h, Iv h → Fr [280999] h0 h → Tm (gM h0) (h_i h0 1 103) F L h i → AW (m_X12_bestFrom (d + 1) 0 0) 0 0 38 [(0, .ref 1), (1, .int (-1)), (2, .int (-1)), (3, .int (x3 + (-1)))] [] h (kI K)) :
    ∀ (m : Nat) (x4 : Int32) (h : Hp_), 0 ≤ x4.toInt → x4.toInt + m = 256 → Iv h → Fr [280999] h0 h → Tm (gM h0) (h_i h0 1 103) F L h (i + 1) → (∀ s : Int32, 0 ≤ s.toInt → s.toInt < x4.toInt → h_i h 280 (256 * i + s.toNatClampNeg) = bv (gM h0) (h_i h0 1 103) F (L - i) i s) → AW (m_X12_bestFrom (d + 1) 0 0) 0 0 45 [(0, .ref 1), (1, .int (-1)), (2, .int (-1)), (3, .int x3), (4, .int x4)] [] h (kI K) := by
  have t1 : (1 : Int32).toInt = 1 := rfl
  have tm : (-1 : Int32).toInt = -1 := rfl
  have t256 : (256 : Int32).toInt = 256 := rfl
  have ne : ¬ x3 = -1 := fun z => by rw [z, tm] at e3; omega
  intro m
  induction m with
  | zero =>
    intro x4 h p0 p1 I Fh T P
    refine t_X12_bestFrom_45 d h I.1 (-1) (-1) x3 x4 K ⟨fun _ => O h I Fh (fun j s hj hL' s0 s1 => ?_), fun z => absurd (q_le.mpr (by omega)) z⟩
    rcases Nat.lt_or_ge i j with u | u
    · exact T j s u hL' s0 s1
    · have ej : j = i := by omega
      rw [ej]
      exact P s s0 (by omega)
  | succ m ih =>
    intro x4 h p0 p1 I Fh T P
    have e4 : (x4 + 1).toInt = x4.toInt + 1 := tx_add (by rw [t1]; omega) (by rw [t1]; omega)
    have e31 : (x3 + 1).toInt = ((i + 1 : Nat) : Int) := by rw [tx_add (by rw [t1]; omega) (by rw [t1]; omega), t1]; omega
    have k1 := i2304 (x2 := x3 + 1) (x3 := x4) e31 (by omega) p0 (by omega)
    have k0 := i2304 (x2 := x3) (x3 := x4) e3 (by omega) p0 (by omega)
    have hb : h_i h 280 ((256 * (x3 + 1)) + x4).toNatClampNeg = bv (gM h0) (h_i h0 1 103) F (L - (i + 1)) (i + 1) x4 := by
      rw [k1.2.2.1]
      exact T (i + 1) x4 (Nat.le_refl _) (by omega) p0 (by omega)
    have eb : bv (gM h0) (h_i h0 1 103) F (L - i) i x4 = fv (gM h0 i) (h_i h0 1 103) (bv (gM h0) (h_i h0 1 103) F (L - (i + 1)) (i + 1)) x4 F 0 (bv (gM h0) (h_i h0 1 103) F (L - (i + 1)) (i + 1) x4) := by
      rw [show L - i = (L - (i + 1)) + 1 by omega]
      rfl
    have ge : gM h = gM h0 := gM_fr Fh
    have ee : h_i h 1 103 = h_i h0 1 103 := (Fh.2 1 103 (by decide +kernel)).1
    refine t_X12_bestFrom_45 d h I.1 (-1) (-1) x3 x4 K ⟨fun z => by have := q_le.mp z; omega, fun _ => ⟨fun _ => ⟨k1.2.2.2, ?_⟩, fun z => absurd z ne⟩⟩
    rw [hb]
    refine rb_f d I (F := F) (i := i) hF (by omega) (bv (gM h0) (h_i h0 1 103) F (L - (i + 1)) (i + 1)) x3 x4 e3 p0 (by omega) (by rw [(Fh.2 1 102 (by decide +kernel)).1]; exact eF) (fun s s0 s1 => T (i + 1) s (Nat.le_refl _) (by omega) s0 s1) K F 0 _ (by omega) ?_
    rw [ge, ee, ← eb, k0.2.2.1]
    have n4 := n_nat (x := x4) p0
    refine ih (x4 + 1) _ (by omega) (by omega) (tr_ 280 (by decide +kernel) I _ _ (by decide) (by decide)) (Fh.im (inw_row (by decide +kernel) _)) (fun j s hj hL' s0 s1 => ?_) (fun s s0 s1 => ?_)
    · have ns := n_nat (x := s) s0
      rw [h_i_im, if_neg (fun c => by have := c.2; omega)]
      exact T j s hj hL' s0 s1
    · have ns := n_nat (x := s) s0
      rw [h_i_im]
      by_cases c : s.toInt = x4.toInt
      · have es : s = x4 := Int32.toInt_inj.mp c
        rw [if_pos ⟨rfl, by rw [es]⟩, es]
      · rw [if_neg (fun c' => by have := c'.2; omega)]
        exact P s s0 (by omega)
