/-! the law, on every script -/
def lX (L : Nat) (xs : Nat → Int32) : (Nat → Nat) → (Nat → Prop) → State → Prop := fun ad A s => va_X (ad 1100) L xs s s.heap ∧ ad 1100 < s.heap.size ∧ ¬ A (ad 1100) ∧ Zx A s
abbrev ML (L : Nat) (xs : Nat → Int32) : Mc_ := (lX L xs, x, code, 7, ret, room_1)
theorem xsL {L : Nat} {xs : Nat → Int32} : xs_ (ML L xs) := fun ad ad' A s he hX => by
  have e := he 1100 (by decide)
  show va_X (ad' 1100) L xs s s.heap ∧ ad' 1100 < s.heap.size ∧ ¬ A (ad' 1100) ∧ Zx A s
  rw [e]
  exact hX
section SCR
variable {L : Nat} {xs : Nat → Int32} {kc ks pc : Nat} {lv : List (Nat × Value)} {st : List Value} {h : Hp_} {K : Option Value → Hp_ → Prop}
theorem aw_sld {i : Int32} (n : Nat) (hn : i.toNatClampNeg = n) (hin : vp_in i L) (hd : decode code pc = .ok (.iaload, 1)) (k : AW (ML L xs) kc ks (pc + 1) lv (.int (xs n) :: st) h K) : AW (ML L xs) kc ks pc lv (.int i :: .ref 1100 :: st) h K := by
  intro l p e s m args below meth c dC dI cy A ad0 adV ad dom0 dom H locs ls hf hX hT hE hW hS hl ho hs
  subst hn
  exact va_sld hf.1 hf.2.1 hX.1 hX.2.1 hX.2.2.1 hS hin hd (k l p e s m args below meth c dC dI cy A ad0 adV ad dom0 dom H locs ls hf hX hT hE hW hS hl ho (ok_c ok_i (ok_t (ok_t hs))))
theorem aw_slen (hd : decode code pc = .ok (.arraylength, 1)) (k : AW (ML L xs) kc ks (pc + 1) lv (.int (Int32.ofNat L) :: st) h K) : AW (ML L xs) kc ks pc lv (.ref 1100 :: st) h K := by
  intro l p e s m args below meth c dC dI cy A ad0 adV ad dom0 dom H locs ls hf hX hT hE hW hS hl ho hs
  exact va_slen hf.1 hf.2.1 hX.1 hX.2.1 hX.2.2.1 hS hd (k l p e s m args below meth c dC dI cy A ad0 adV ad dom0 dom H locs ls hf hX hT hE hW hS hl ho (ok_c ok_i (ok_t hs)))
abbrev lv5 (i : Nat) : List (Nat × Value) := [(0, .ref 1100), (1, .ref 0), (2, .ref 1), (3, .ref 2), (4, .int (Int32.ofNat i))]
theorem aw_arg {i j : Nat} {n : Int} {v : Int32} (d0 : decode code pc = .ok (.aload_n 0, 1)) (d1 : decode code (pc + 1) = .ok (.iload 4, 2)) (d2 : decode code (pc + 3) = .ok (.iconst n, 1)) (d3 : decode code (pc + 4) = .ok (.iadd, 1)) (d4 : decode code (pc + 5) = .ok (.iaload, 1)) (hv : Int32.ofInt n = v) (hj : Int32.ofNat i + v = Int32.ofNat (i + j)) (hL : i + j < L) (lL : L ≤ 3072) (k : AW (ML L xs) kc ks (pc + 6) (lv5 i) (.int (xs (i + j)) :: st) h K) : AW (ML L xs) kc ks pc (lv5 i) st h K := by
  refine aw_aload_n (i := 0) rfl d0 0 rfl ?_
  refine aw_iload d1 4 rfl ?_
  refine aw_iconst (v := v) d2 hv ?_
  refine aw_iadd d3 ?_
  refine aw_vi (v2 := Int32.ofNat (i + j)) hj ?_
  exact aw_sld (i + j) (on_k (by omega)) (on_in hL (by omega)) d4 k
theorem aw_arg2 {i j : Nat} {n : Int} {v r : Int32} (d0 : decode code pc = .ok (.aload_n 0, 1)) (d1 : decode code (pc + 1) = .ok (.iload 4, 2)) (d2 : decode code (pc + 3) = .ok (.iconst n, 1)) (d3 : decode code (pc + 4) = .ok (.iadd, 1)) (d4 : decode code (pc + 5) = .ok (.iaload, 1)) (hv : Int32.ofInt n = v) (hj : Int32.ofNat i + v = Int32.ofNat (i + j)) (hL : i + j < L) (lL : L ≤ 3072) (k : AW (ML L xs) kc ks (pc + 6) [(0, .ref 1100), (1, .ref 0), (2, .ref 1), (3, .ref 2), (4, .int (Int32.ofNat i)), (5, .int r)] (.int (xs (i + j)) :: st) h K) : AW (ML L xs) kc ks pc [(0, .ref 1100), (1, .ref 0), (2, .ref 1), (3, .ref 2), (4, .int (Int32.ofNat i)), (5, .int r)] st h K := by
  refine aw_aload_n (i := 0) rfl d0 0 rfl ?_
  refine aw_iload d1 4 rfl ?_
  refine aw_iconst (v := v) d2 hv ?_
  refine aw_iadd d3 ?_
  refine aw_vi (v2 := Int32.ofNat (i + j)) hj ?_
  exact aw_sld (i + j) (on_k (by omega)) (on_in hL (by omega)) d4 k
/-- a call whose answer is thrown away -/
theorem aw_Kp {M' : Mc_} {n idx ci N a : Nat} {c : Ctr} {T : u_T} (vs : List Value) (hC : Hc M' c) (ma : am h (vs.reverse ++ [.ref a]) c.1) (I : Iv h) (hp : hm h c.2.1) (hd : decode code pc = .ok (.invokevirtual idx, 3)) (hm : cV_ M' n) (hkc : kc_ ci (mY M').cls T N) (hs : h_sh h a = some (ci + 10, N)) (hlk : Cond.methodLink x.cls idx (mY M') ∈ lw_g) (hn : vs.length = n) (hz : ((mR M').frames + 1 ≤ 2048 ∧ 8 + (mN M' + 11) + (mR M').locals ≤ 84000) ∧ (mR M').cells = 0 ∧ (mR M').slots = 0) (hk : kc ≤ 494584 ∧ ks ≤ 7612352) (hr : ∃ g, c.2.2.1 = some (.inl g)) (hq : decode code (pc + 3) = .ok (.pop, 1))
    (k : ∀ h', Iv h' → Fr c.2.2.2.2 h h' → AW (ML L xs) kc ks (pc + 4) lv [] h' K) : AW (ML L xs) kc ks pc lv (vs.reverse ++ [.ref a]) h K := by
  refine aw_Vk (M := ML L xs) (M' := M') vs hC ma I hp hd hm hkc hs hlk hn (by decide) ⟨hz.1, hz.2.1, hz.2.2, xsL⟩ hk (fun v h' kv => ?_)
  obtain ⟨⟨r, s, gh⟩, eg⟩ := hr
  have q := kv.2.2.2
  rw [eg] at q
  obtain ⟨x2, ev, y2, ey, _⟩ := q
  subst ev
  subst ey
  exact aw_pop hq rfl (k h' kv.1 kv.2.1)
theorem aw_Kv {M' : Mc_} {n idx ci N a : Nat} {c : Ctr} {T : u_T} (vs : List Value) (hC : Hc M' c) (ma : am h (vs.reverse ++ [.ref a]) c.1) (I : Iv h) (hp : hm h c.2.1) (hd : decode code pc = .ok (.invokevirtual idx, 3)) (hm : cV_ M' n) (hkc : kc_ ci (mY M').cls T N) (hs : h_sh h a = some (ci + 10, N)) (hlk : Cond.methodLink x.cls idx (mY M') ∈ lw_g) (hn : vs.length = n) (hz : ((mR M').frames + 1 ≤ 2048 ∧ 8 + (mN M' + 11) + (mR M').locals ≤ 84000) ∧ (mR M').cells = 0 ∧ (mR M').slots = 0) (hk : kc ≤ 494584 ∧ ks ≤ 7612352) (hr : c.2.2.1 = none)
    (k : ∀ h', Iv h' → Fr c.2.2.2.2 h h' → AW (ML L xs) kc ks (pc + 3) lv [] h' K) : AW (ML L xs) kc ks pc lv (vs.reverse ++ [.ref a]) h K := by
  refine aw_Vk (M := ML L xs) (M' := M') vs hC ma I hp hd hm hkc hs hlk hn (by decide) ⟨hz.1, hz.2.1, hz.2.2, xsL⟩ hk (fun v h' kv => ?_)
  have q := kv.2.2.2
  rw [hr] at q
  have ev : v = none := q
  subst ev
  exact k h' kv.1 kv.2.1
end SCR
abbrev k1_ : Option Value → Hp_ → Prop := fun v _ => v = some (.int 1)
theorem oa_1 {n : Nat} (h : n < 100000) : Int32.ofNat n + 1 = Int32.ofNat (n + 1) := on_s (by omega)
theorem oa_2 {n : Nat} (h : n < 100000) : Int32.ofNat n + 2 = Int32.ofNat (n + 2) := on_2 h
theorem oa_3 {n : Nat} (h : n < 100000) : Int32.ofNat n + 3 = Int32.ofNat (n + 3) := on_3 h
theorem oa_4 {n : Nat} (h : n < 100000) : Int32.ofNat n + 4 = Int32.ofNat (n + 4) := by
  have t : (4 : Int32).toInt = 4 := rfl
  have a := on_j (n := n) (by omega)
  exact Int32.toInt_inj.mp (by rw [tx_add (by rw [t]; omega) (by rw [t]; omega), t, on_j (n := n + 4) (by omega)]; omega)
theorem oa_5 {n : Nat} (h : n < 100000) : Int32.ofNat n + 5 = Int32.ofNat (n + 5) := by
  have t : (5 : Int32).toInt = 5 := rfl
  have a := on_j (n := n) (by omega)
  exact Int32.toInt_inj.mp (by rw [tx_add (by rw [t]; omega) (by rw [t]; omega), t, on_j (n := n + 5) (by omega)]; omega)
theorem oa_6 {n : Nat} (h : n < 100000) : Int32.ofNat n + Int32.ofInt 6 = Int32.ofNat (n + 6) := by
  have t : (Int32.ofInt 6).toInt = 6 := by decide
  have a := on_j (n := n) (by omega)
  exact Int32.toInt_inj.mp (by rw [tx_add (by rw [t]; omega) (by rw [t]; omega), t, on_j (n := n + 6) (by omega)]; omega)
/-! the room: what the history's rows have cost so far -/
def ph (N : Nat) : Nat := if N = 20000 then 60000 else 2 * N
theorem ph_le {N : Nat} (h : N ≤ 20000) : ph N ≤ 60000 := by
  unfold ph
  split <;> omega
def Rm (t N kc ks : Nat) : Prop := kc ≤ 202 + t ∧ ks ≤ 318709 + 17 * t + ph N ∧ N ≤ 20000
theorem Rm.up {t N kc ks : Nat} (R : Rm t N kc ks) : Rm (t + 1) N kc ks := ⟨by have := R.1; omega, by have := R.2.1; omega, R.2.2⟩
theorem Rm.con {t N kc ks : Nat} (R : Rm t N kc ks) : Rm (t + 1) N (kc + 1) (ks + 17) := ⟨by have := R.1; omega, by have := R.2.1; omega, R.2.2⟩
theorem Rm.abt {t N kc ks : Nat} (R : Rm t N kc ks) : Rm (t + 1) N (kc + 1) (ks + 6) := ⟨by have := R.1; omega, by have := R.2.1; omega, R.2.2⟩
theorem hcost_le {mc ms N N' : Nat} (h : hcost mc ms N N') (l : N' ≤ 20000) : mc ≤ 1 ∧ ms ≤ 20000 := by
  rcases h with ⟨a, b, c⟩ | ⟨a, b, c, d⟩
  · omega
  · omega
theorem Rm.tick {t N N' kc ks mc ms : Nat} (R : Rm t N kc ks) (h : hcost mc ms N N') (l : N' ≤ 20000) : Rm (t + 1) N' (kc + mc) (ks + ms) := by
  obtain ⟨r1, r2, r3⟩ := R
  rcases h with ⟨a, b, c⟩ | ⟨a, b, c, d⟩
  · subst c
    exact ⟨by omega, by omega, l⟩
  · refine ⟨by omega, ?_, l⟩
    have p : ph N = 2 * N := by
      unfold ph
      rw [if_neg (by omega)]
    rw [p] at r2
    unfold ph
    split
    · omega
    · omega
theorem Rm.ok {t N kc ks : Nat} (R : Rm t N kc ks) (h : t ≤ 600) : kc + 20 ≤ 494584 ∧ ks + 20020 ≤ 7612352 := by
  have p := ph_le R.2.2
  have r1 := R.1
  have r2 := R.2.1
  exact ⟨by omega, by omega⟩
theorem wLa_g : wLa ∈ lw_g := lw_c7 223 (by decide +kernel) (by decide +kernel)
theorem aw_La {L : Nat} {xs : Nat → Int32} {kc ks pc : Nat} {lv : List (Nat × Value)} {h : Hp_} {K : Option Value → Hp_ → Prop} (I : Iv h) (s2 : h_sh h 2 = some (3, 1)) (x1 x2 : Int32) (hd : decode code pc = .ok (.invokestatic 75, 3)) (hk : kc + 1 ≤ 494584 ∧ ks + 6 ≤ 7612352) (k : ∀ r h', Iv h' → Fr [2999] h h' → AW (ML L xs) (kc + 1) (ks + 6) (pc + 3) lv [.int r] h' K) : AW (ML L xs) kc ks pc lv [.ref 2, .int x2, .int x1, .ref 0] h K := by
  intro l p e s m args below meth c dC dI cy A ad0 adV ad dom0 dom H locs ls hf hX hT hE hW hS hl ho hs
  have htg := hf.2.2.2.2.2.2.2.1
  refine aw_back (K' := kLa h) (rest := []) (a := ([Value.ref 0, .int x1, .int x2, .ref 2].map (h_cv ad)).toArray) (mc := 1) (ms := 6) xsL hf hX hT hE hW hS hl ho (fun v hv => by cases hv) ?_ (fun v h' kk => ?_)
  · have hws : ∀ w ∈ wLa :: lw_g, ∀ (a' : Array Value) (U : State), s.WarmedH U.vm → w.before a' U = true := fun w hw a' U hWm => by
      have hw' : w ∈ lw_g := (List.mem_cons.mp hw).elim (fun e => e ▸ wLa_g) id
      exact word_at hWm (good_of_word (List.mem_filter.mp hw').2) (htg w hw')
    have hlen : ∀ sig, parseMethodDescriptor yLa.desc = some sig → 4 = sig.parameters.length := fun sig h => by
      have h2 : (parseMethodDescriptor "(LCountyWatch;II[J)I").map (fun d => d.parameters.length) = some 4 := by decide +kernel
      rw [h] at h2
      exact (Option.some.inj h2).symm
    exact vx_runSW (As := [Value.ref 0, .int x1, .int x2, .ref 2].map (h_cv ad)) ⟨hf.1, hf.2.1, hf.2.2.1, hf.2.2.2.2.2.1, htg⟩ (xl_met l dC dI cy ad adV dom H.size I s2 hW.1 x1 x2) ⟨⟨rfl, rfl, show 20 + 1 ≤ 2048 from by decide, show 8 + (5 + 11) + 2000 ≤ 84000 from by decide +kernel, hws, List.mem_cons_self⟩, htg _ wLa_g, htg _ tw_0, ⟨by decide, by decide⟩, hlen, htg _ tw_1661, htg _ tw_1662⟩ ⟨cz_blind, fun U hU hWm => ⟨rfl, cp_pre hf hT hW hS hU hWm, hX.2.2.2.go hS hU hWm (cp_sub hf.2.2.2.2.2.2.2.2.2 hW hS)⟩⟩ rfl rfl hl.1 rfl (lv_room (Nat.le_of_ble_eq_true rfl)) hd hk
  · obtain ⟨⟨r, er⟩, I', F'⟩ := kk
    subst er
    exact k r h' I' F'
/-- the greatest sum, by the reference's goods -/
def gM (h : Hp_) : Nat → Nat → Int32 := fun l f => lkv 5 (h_i h 278 l) (h_i h 279 f) 0
def bM (h : Hp_) : Int32 := bv (gM h) (h_i h 1 103) (h_i h 1 102).toNatClampNeg (h_i h 1 101).toNatClampNeg 0 0
theorem rb_f (d : Nat) {h : Hp_} (I : Iv h) {F i : Nat} (hF : F ≤ 8) (hi : i < 8) (nx : Int32 → Int32) (x3 x4 : Int32) (e3 : x3.toInt = (i : Int)) (p0 : 0 ≤ x4.toInt) (p1 : x4.toInt < 256) (eF : (h_i h 1 102).toInt = (F : Int)) (T : ∀ s : Int32, 0 ≤ s.toInt → s.toInt < 256 → h_i h 280 (256 * (i + 1) + s.toNatClampNeg) = nx s) (K : Int32 → Hp_ → Prop) :
    ∀ (n f : Nat) (x5 : Int32), f + n = F → AW (m_X12_bestFrom (d + 1) 0 0) 0 0 45 [(0, .ref 1), (1, .int (-1)), (2, .int (-1)), (3, .int x3), (4, .int (x4 + 1))] [] (h_im h 280 ((256 * x3) + x4).toNatClampNeg (fv (gM h i) (h_i h 1 103) nx x4 n f x5)) (kI K) → AW (m_X12_bestFrom (d + 1) 0 0) 0 0 89 [(0, .ref 1), (1, .int (-1)), (2, .int (-1)), (3, .int x3), (4, .int x4), (5, .int x5), (6, .int (Int32.ofNat f))] [] h (kI K) := by
  have t1 : (1 : Int32).toInt = 1 := rfl
  have tm : (-1 : Int32).toInt = -1 := rfl
  have p28 : ((2 ^ 8 : Nat) : Int) = 256 := by decide
  have jj := i2304 e3 (by omega) p0 (by omega)
  have n3 := n_nat (x := x3) (by omega)
  have m3 : x3.toNatClampNeg = i := by omega
  have v3 : vp_in x3 8 := dp_in (lo := 0) (hi := 7) ⟨by show (0 : Int) ≤ _; omega, by show _ ≤ (7 : Int); omega⟩ (by decide) (by decide)
  have ne : ¬ x3 = -1 := fun z => by rw [z, tm] at e3; omega
  intro n
  induction n with
  | zero =>
    intro f x5 en O
    exact t_X12_bestFrom_89 d h I.1 (-1) (-1) x3 x4 x5 (Int32.ofNat f) K ⟨fun _ => ⟨jj.2.2.2, O⟩, fun z => absurd (q_le.mpr (by rw [eF, on_j (by omega)]; omega)) z⟩
  | succ n ih =>
    intro f x5 en O
    have ef : (Int32.ofNat f).toInt = (f : Int) := on_j (by omega)
    have kf : (Int32.ofNat f).toNatClampNeg = f := on_k (by omega)
    have vf : vp_in (Int32.ofNat f) 8 := on_in (by omega) (by decide)
    unfold fv at O
    have no : ¬ (((x4 >>> (Int32.ofNat f &&& 31)) &&& 1) = 0 ∧ ¬ gM h i f < h_i h 1 103) → AW (m_X12_bestFrom (d + 1) 0 0) 0 0 89 [(0, .ref 1), (1, .int (-1)), (2, .int (-1)), (3, .int x3), (4, .int x4), (5, .int x5), (6, .int (Int32.ofNat f + 1))] [] h (kI K) := fun nn => by
      rw [if_neg nn] at O
      rw [on_s (by omega)]
      exact ih (f + 1) x5 (by omega) O
    have lk : Ci (m_X12_like (d + 0) 0 0) [.ref 1, .int x3, .int (Int32.ofNat f)] h (fun r h' => r = gM h i f ∧ h' = h) := Ci.mono (c_likeM d I.1 x3 (Int32.ofNat f) v3 vf) (fun r h' q => by
      rw [m3, kf] at q
      exact q)
    refine t_X12_bestFrom_89 d h I.1 (-1) (-1) x3 x4 x5 (Int32.ofNat f) K ⟨fun z => by have := q_le.mp z; rw [eF, ef] at this; omega, fun _ => ⟨fun nb => no (fun w => nb w.1), fun fb => Ci.mono lk (fun r h13 q => ?_)⟩⟩
    obtain ⟨er, eh⟩ := q
    subst er eh
    refine ⟨I.1, fun lt => no (fun w => w.2 lt), fun ng => ⟨fun _ => Ci.mono lk (fun r h18 q => ?_), fun z => absurd z ne⟩⟩
    obtain ⟨er, eh⟩ := q
    subst er eh
    have sb := sb_in (F := 8) p0 (by omega) (by decide) (f := f) (by omega)
    have e31 : (x3 + 1).toInt = ((i + 1 : Nat) : Int) := by rw [tx_add (by rw [t1]; omega) (by rw [t1]; omega), t1]; omega
    have k2 := i2304 (x2 := x3 + 1) (x3 := sbt x4 f) e31 (by omega) sb.1 (by omega)
    have er : h_i h18 280 ((256 * (x3 + 1)) + (x4 ||| ((1 : Int32) <<< (Int32.ofNat f &&& 31)))).toNatClampNeg = nx (sbt x4 f) := by
      have k3 := k2.2.2.1
      unfold sbt at k3
      rw [k3]
      have k4 := T (sbt x4 f) sb.1 (by omega)
      unfold sbt at k4 ⊢
      rw [k4]
    refine ⟨I.1, k2.2.2.2, ?_⟩
    rw [er, on_s (by omega)]
    rw [if_pos ⟨fb, ng⟩] at O
    exact ih (f + 1) _ (by omega) O
def Tm (G : Nat → Nat → Int32) (e : Int32) (F L : Nat) (h : Hp_) (i : Nat) : Prop := ∀ (j : Nat) (s : Int32), i ≤ j → j ≤ L → 0 ≤ s.toInt → s.toInt < 256 → h_i h 280 (256 * j + s.toNatClampNeg) = bv G e F (L - j) j s
theorem gM_fr {h h' : Hp_} (f : Fr [280999] h h') : gM h' = gM h := by
  unfold gM
  rw [show h_i h' 278 = h_i h 278 from funext (fun k => fr_i f (by decide +kernel) k), show h_i h' 279 = h_i h 279 from funext (fun k => fr_i f (by decide +kernel) k)]
theorem rb_s (d : Nat) (h0 : Hp_) {F L i : Nat} (hF : F ≤ 8) (hL : L ≤ 8) (hi : i < L) (x3 : Int32) (e3 : x3.toInt = (i : Int)) (eF : (h_i h0 1 102).toInt = (F : Int)) (K : Int32 → Hp_ → Prop) (O : ∀ h, Iv h → Fr [280999] h0 h → Tm (gM h0) (h_i h0 1 103) F L h i → AW (m_X12_bestFrom (d + 1) 0 0) 0 0 38 [(0, .ref 1), (1, .int (-1)), (2, .int (-1)), (3, .int (x3 + (-1)))] [] h (kI K)) :
    ∀ (m : Nat) (x4 : Int32) (h : Hp_), 0 ≤ x4.toInt → x4.toInt + m = 256 → Iv h → Fr [280999] h0 h → Tm (gM h0) (h_i h0 1 103) F L h (i + 1) → (∀ s : Int32, 0 ≤ s.toInt → s.toInt < x4.toInt → h_i h 280 (256 * i + s.toNatClampNeg) = bv (gM h0) (h_i h0 1 103) F (L - i) i s) → AW (m_X12_bestFrom (d + 1) 0 0) 0 0 45 [(0, .ref 1), (1, .int (-1)), (2, .int (-1)), (3, .int x3), (4, .int x4)] [] h (kI K) := by
  have t1 : (1 : Int32).toInt = 1 := rfl
  have tm : (-1 : Int32).toInt = -1 := rfl
  have t256 : (256 : Int32).toInt = 256 := rfl
  have ne : ¬ x3 = -1 := fun z => by rw [z, tm] at e3; omega
  intro m
  induction m with
  | zero =>
    intro x4 h p0 p1 I Fh T P
    refine t_X12_bestFrom_45 d h I.1 (-1) (-1) x3 x4 K ⟨fun _ => O h I Fh (fun j s hj hL' s0 s1 => ?_), fun z => absurd (q_le.mpr (by omega)) z⟩
    rcases Nat.lt_or_ge i j with u | u
    · exact T j s u hL' s0 s1
    · have ej : j = i := by omega
      rw [ej]
      exact P s s0 (by omega)
  | succ m ih =>
    intro x4 h p0 p1 I Fh T P
    have e4 : (x4 + 1).toInt = x4.toInt + 1 := tx_add (by rw [t1]; omega) (by rw [t1]; omega)
    have e31 : (x3 + 1).toInt = ((i + 1 : Nat) : Int) := by rw [tx_add (by rw [t1]; omega) (by rw [t1]; omega), t1]; omega
    have k1 := i2304 (x2 := x3 + 1) (x3 := x4) e31 (by omega) p0 (by omega)
    have k0 := i2304 (x2 := x3) (x3 := x4) e3 (by omega) p0 (by omega)
    have hb : h_i h 280 ((256 * (x3 + 1)) + x4).toNatClampNeg = bv (gM h0) (h_i h0 1 103) F (L - (i + 1)) (i + 1) x4 := by
      rw [k1.2.2.1]
      exact T (i + 1) x4 (Nat.le_refl _) (by omega) p0 (by omega)
    have eb : bv (gM h0) (h_i h0 1 103) F (L - i) i x4 = fv (gM h0 i) (h_i h0 1 103) (bv (gM h0) (h_i h0 1 103) F (L - (i + 1)) (i + 1)) x4 F 0 (bv (gM h0) (h_i h0 1 103) F (L - (i + 1)) (i + 1) x4) := by
      rw [show L - i = (L - (i + 1)) + 1 by omega]
      rfl
    have ge : gM h = gM h0 := gM_fr Fh
    have ee : h_i h 1 103 = h_i h0 1 103 := (Fh.2 1 103 (by decide +kernel)).1
    refine t_X12_bestFrom_45 d h I.1 (-1) (-1) x3 x4 K ⟨fun z => by have := q_le.mp z; omega, fun _ => ⟨fun _ => ⟨k1.2.2.2, ?_⟩, fun z => absurd z ne⟩⟩
    rw [hb]
    refine rb_f d I (F := F) (i := i) hF (by omega) (bv (gM h0) (h_i h0 1 103) F (L - (i + 1)) (i + 1)) x3 x4 e3 p0 (by omega) (by rw [(Fh.2 1 102 (by decide +kernel)).1]; exact eF) (fun s s0 s1 => T (i + 1) s (Nat.le_refl _) (by omega) s0 s1) K F 0 _ (by omega) ?_
    rw [ge, ee, ← eb, k0.2.2.1]
    have n4 := n_nat (x := x4) p0
    refine ih (x4 + 1) _ (by omega) (by omega) (tr_ 280 (by decide +kernel) I _ _ (by decide) (by decide)) (Fh.im (inw_row (by decide +kernel) _)) (fun j s hj hL' s0 s1 => ?_) (fun s s0 s1 => ?_)
    · have ns := n_nat (x := s) s0
      rw [h_i_im, if_neg (fun c => by have := c.2; omega)]
      exact T j s hj hL' s0 s1
    · have ns := n_nat (x := s) s0
      rw [h_i_im]
      by_cases c : s.toInt = x4.toInt
      · have es : s = x4 := Int32.toInt_inj.mp c
        rw [if_pos ⟨rfl, by rw [es]⟩, es]
      · rw [if_neg (fun c' => by have := c'.2; omega)]
        exact P s s0 (by omega)
theorem rb_i (d : Nat) (h0 hA : Hp_) {F L : Nat} (hF : F ≤ 8) (hL : L ≤ 8) (eF : (h_i h0 1 102).toInt = (F : Int)) (FA : Fr [280999] hA h0) :
    ∀ (r : Nat) (x3 : Int32) (h' : Hp_), x3.toInt = (r : Int) - 1 → r ≤ L → Iv h' → Fr [280999] h0 h' → Tm (gM h0) (h_i h0 1 103) F L h' r → AW (m_X12_bestFrom (d + 1) 0 0) 0 0 38 [(0, .ref 1), (1, .int (-1)), (2, .int (-1)), (3, .int x3)] [] h' (kI (fun v h'' => v = bv (gM h0) (h_i h0 1 103) F L 0 0 ∧ Iv h'' ∧ Fr [280999] hA h''))
  | 0, x3, h', ee, _, I', Fh, T => t_X12_bestFrom_38 d h' I'.1 (-1) (-1) x3 _ ⟨fun _ => ⟨vin_c (by decide), T 0 0 (Nat.le_refl _) (Nat.zero_le _) (by decide) (by decide), I', FA.tr Fh⟩, fun z => absurd (q_lt.mpr (show x3.toInt < 0 by rw [ee]; decide)) z⟩
  | r + 1, x3, h', ee, rl, I', Fh, T => by
    have er : x3.toInt = (r : Int) := by rw [ee]; exact (show ((r : Int) + 1) - 1 = (r : Int) from Int.add_sub_cancel _ _)
    have tm : (-1 : Int32).toInt = -1 := rfl
    have lr : (r : Int) ≤ 8 := Int.ofNat_le.mpr (Nat.le_trans (Nat.le_of_succ_le rl) hL)
    have nr : (0 : Int) ≤ (r : Int) := Int.natCast_nonneg r
    have e4 : (x3 + (-1)).toInt = (r : Int) - 1 := by
      rw [tx_add (by rw [tm, er]; exact Int.le_trans (by decide) (Int.add_le_add_right nr (-1))) (by rw [tm, er]; exact Int.lt_of_le_of_lt (Int.add_le_add_right lr (-1)) (by decide)), tm, er]
      rfl
    refine t_X12_bestFrom_38 d h' I'.1 (-1) (-1) x3 _ ⟨fun z => absurd (q_lt.mp z) (by rw [er]; exact Int.not_lt.mpr nr), fun _ => ?_⟩
    exact rb_s d h0 (F := F) (L := L) (i := r) hF hL rl x3 er eF _ (fun h9 I9 F9 T9 => rb_i d h0 hA hF hL eF FA r (x3 + (-1)) h9 e4 (Nat.le_of_succ_le rl) I9 F9 T9) 256 0 h' (by decide) (by decide) I' Fh T (fun s s0 s1 => absurd s1 (Int.not_lt.mpr s0))
theorem c_bestM (d : Nat) {h : Hp_} (I : Iv h) : Ci (m_X12_bestFrom (d + 1) 0 0) [.ref 1, .int (-1), .int (-1)] h (fun v h'' => v = bM h ∧ Iv h'' ∧ Fr [280999] h h'') := by
  have b2 := f_le (c := 1) (f := 101) (n := 8) I (by decide +kernel)
  have b3 := f_le (c := 1) (f := 102) (n := 8) I (by decide +kernel)
  have n2 := n_nat (x := h_i h 1 101) b2.1
  have n3 := n_nat (x := h_i h 1 102) b3.1
  have t1 : (1 : Int32).toInt = 1 := rfl
  have t256 : (256 : Int32).toInt = 256 := rfl
  have ex2 : (h_i h 1 101 - 1).toInt = ((h_i h 1 101).toNatClampNeg : Int) - 1 := by rw [tx_sub (by rw [t1]; omega) (by rw [t1]; omega), t1, n2]
  have lp : ∀ (m : Nat) (x3 : Int32) (h' : Hp_), 0 ≤ x3.toInt → x3.toInt + m = 256 → Iv h' → Fr [280999] h h' → (∀ s : Int32, 0 ≤ s.toInt → s.toInt < x3.toInt → h_i h' 280 (256 * (h_i h 1 101).toNatClampNeg + s.toNatClampNeg) = 0) → AW (m_X12_bestFrom (d + 1) 0 0) 0 0 2 [(0, .ref 1), (1, .int (-1)), (2, .int (-1)), (3, .int x3)] [] h' (kI (fun v h'' => v = bM h ∧ Iv h'' ∧ Fr [280999] h h'')) := by
    intro m
    induction m with
    | zero =>
      intro x3 h' p0 p1 I' Fh P
      have e2 : h_i h' 1 101 = h_i h 1 101 := (Fh.2 1 101 (by decide +kernel)).1
      have e3 : h_i h' 1 102 = h_i h 1 102 := (Fh.2 1 102 (by decide +kernel)).1
      have e4 : h_i h' 1 103 = h_i h 1 103 := (Fh.2 1 103 (by decide +kernel)).1
      refine t_X12_bestFrom_2 d h' I'.1 (-1) (-1) x3 _ ⟨fun _ => ?_, fun z => absurd (q_le.mpr (by omega)) z⟩
      have k := rb_i d h' h (F := (h_i h 1 102).toNatClampNeg) (L := (h_i h 1 101).toNatClampNeg) (by omega) (by omega) (by rw [e3]; exact n3.symm) Fh (h_i h 1 101).toNatClampNeg (h_i h 1 101 - 1) h' ex2 (Nat.le_refl _) I' (Fr.rf _ _) (fun j s hj hl s0 s1 => by
        have ej : j = (h_i h 1 101).toNatClampNeg := by omega
        rw [ej, P s s0 (by omega), Nat.sub_self]
        rfl)
      rw [e2]
      rw [gM_fr Fh, e4] at k
      exact k
    | succ m ih =>
      intro x3 h' p0 p1 I' Fh P
      have e2 : h_i h' 1 101 = h_i h 1 101 := (Fh.2 1 101 (by decide +kernel)).1
      have e5 : (x3 + 1).toInt = x3.toInt + 1 := tx_add (by rw [t1]; omega) (by rw [t1]; omega)
      have k0 := i2304 (x2 := h_i h 1 101) (x3 := x3) n2.symm (by omega) p0 (by omega)
      refine t_X12_bestFrom_2 d h' I'.1 (-1) (-1) x3 _ ⟨fun z => by have := q_le.mp z; omega, fun _ => ?_⟩
      rw [e2]
      refine ⟨k0.2.2.2, ?_⟩
      rw [k0.2.2.1]
      have nx := n_nat (x := x3) p0
      refine ih (x3 + 1) _ (by omega) (by omega) (tr_ 280 (by decide +kernel) I' _ _ (by decide) (by decide)) (Fh.im (inw_row (by decide +kernel) _)) (fun s s0 s1 => ?_)
      have ns := n_nat (x := s) s0
      rw [h_i_im]
      by_cases c : 280 = 280 ∧ 256 * (h_i h 1 101).toNatClampNeg + s.toNatClampNeg = 256 * (h_i h 1 101).toNatClampNeg + x3.toNatClampNeg
      · rw [if_pos c]
      · rw [if_neg c]
        exact P s s0 (by
          rcases Int.lt_or_le s.toInt x3.toInt with u | u
          · exact u
          · exact absurd ⟨rfl, by omega⟩ c)
  exact t_X12_bestFrom d h (-1) (-1) _ (lp 256 0 h (by decide) (by decide) I (Fr.rf _ _) (fun s s0 s1 => absurd s1 (Int.not_lt.mpr s0)))
/-! goods: the reference with one good bound -/
theorem gN_fr {h h' : Hp_} (f : Fr [280999] h h') : gN h' = gN h := by
  unfold gN
  rw [show h_i h' 278 = h_i h 278 from funext (fun k => fr_i f (by decide +kernel) k), show h_i h' 279 = h_i h 279 from funext (fun k => fr_i f (by decide +kernel) k)]
theorem e_lt {e : Int32} (he : 1 ≤ e.toInt) : e - 1 < e := by
  have t1 : (1 : Int32).toInt = 1 := rfl
  have l : e.toInt < 2147483648 := Int32.toInt_lt e
  exact q_lt.mpr (by rw [tx_sub (by rw [t1]; omega) (by rw [t1]; omega), t1]; omega)
theorem rc_f (d : Nat) {h : Hp_} (I : Iv h) {F i bd : Nat} (hF : F ≤ 8) (hi : i < 8) (he : 1 ≤ (h_i h 1 103).toInt) (nx : Int32 → Int32) (x1 x2 x3 x4 : Int32) (e1 : x1.toInt = (bd : Int)) (e3 : x3.toInt = (i : Int)) (p0 : 0 ≤ x4.toInt) (p1 : x4.toInt < 256) (eF : (h_i h 1 102).toInt = (F : Int)) (T : ∀ s : Int32, 0 ≤ s.toInt → s.toInt < 256 → h_i h 280 (256 * (i + 1) + s.toNatClampNeg) = nx s) (K : Int32 → Hp_ → Prop) :
    ∀ (n f : Nat) (x5 : Int32), f + n = F → AW (m_X12_bestFrom (d + 1) 0 0) 0 0 45 [(0, .ref 1), (1, .int x1), (2, .int x2), (3, .int x3), (4, .int (x4 + 1))] [] (h_im h 280 ((256 * x3) + x4).toNatClampNeg (fv (gqx (gN h) (h_i h 1 103) bd x2 i) (h_i h 1 103) nx x4 n f x5)) (kI K) → AW (m_X12_bestFrom (d + 1) 0 0) 0 0 89 [(0, .ref 1), (1, .int x1), (2, .int x2), (3, .int x3), (4, .int x4), (5, .int x5), (6, .int (Int32.ofNat f))] [] h (kI K) := by
  have t1 : (1 : Int32).toInt = 1 := rfl
  have p28 : ((2 ^ 8 : Nat) : Int) = 256 := by decide
  have jj := i2304 e3 (by omega) p0 (by omega)
  have n3 := n_nat (x := x3) (by omega)
  have m3 : x3.toNatClampNeg = i := by omega
  have v3 : vp_in x3 8 := dp_in (lo := 0) (hi := 7) ⟨by show (0 : Int) ≤ _; omega, by show _ ≤ (7 : Int); omega⟩ (by decide) (by decide)
  intro n
  induction n with
  | zero =>
    intro f x5 en O
    exact t_X12_bestFrom_89 d h I.1 x1 x2 x3 x4 x5 (Int32.ofNat f) K ⟨fun _ => ⟨jj.2.2.2, O⟩, fun z => absurd (q_le.mpr (by rw [eF, on_j (by omega)]; omega)) z⟩
  | succ n ih =>
    intro f x5 en O
    have ef : (Int32.ofNat f).toInt = (f : Int) := on_j (by omega)
    have kf : (Int32.ofNat f).toNatClampNeg = f := on_k (by omega)
    have vf : vp_in (Int32.ofNat f) 8 := on_in (by omega) (by decide)
    unfold fv at O
    have no : ¬ (((x4 >>> (Int32.ofNat f &&& 31)) &&& 1) = 0 ∧ ¬ gqx (gN h) (h_i h 1 103) bd x2 i f < h_i h 1 103) → AW (m_X12_bestFrom (d + 1) 0 0) 0 0 89 [(0, .ref 1), (1, .int x1), (2, .int x2), (3, .int x3), (4, .int x4), (5, .int x5), (6, .int (Int32.ofNat f + 1))] [] h (kI K) := fun nn => by
      rw [if_neg nn] at O
      rw [on_s (by omega)]
      exact ih (f + 1) x5 (by omega) O
    have lk : Ci (m_X12_like (d + 0) 0 0) [.ref 1, .int x3, .int (Int32.ofNat f)] h (fun r h' => r = gN h i f ∧ h' = h) := Ci.mono (c_likeM d I.1 x3 (Int32.ofNat f) v3 vf) (fun r h' q => by
      rw [m3, kf] at q
      unfold gN
      rw [if_pos ⟨hi, by omega⟩]
      exact q)
    have yes : gqx (gN h) (h_i h 1 103) bd x2 i f = gN h i f → ((x4 >>> (Int32.ofNat f &&& 31)) &&& 1) = 0 → ¬ gN h i f < h_i h 1 103 → Ci (m_X12_like (d + 0) 0 0) [.ref 1, .int x3, .int (Int32.ofNat f)] h (fun r h18 => Wf h18 ∧ (vp_in ((256 * (x3 + 1)) + (x4 ||| ((1 : Int32) <<< (Int32.ofNat f &&& 31)))) 2304 ∧ (AW (m_X12_bestFrom (d + 1) 0 0) 0 0 89 [(0, .ref 1), (1, .int x1), (2, .int x2), (3, .int x3), (4, .int x4), (5, .int (if x5 < (r + (h_i h18 280 (((256 * (x3 + 1)) + (x4 ||| ((1 : Int32) <<< (Int32.ofNat f &&& 31)))) : Int32).toNatClampNeg)) then (r + (h_i h18 280 (((256 * (x3 + 1)) + (x4 ||| ((1 : Int32) <<< (Int32.ofNat f &&& 31)))) : Int32).toNatClampNeg)) else x5)), (6, .int (Int32.ofNat f + 1))] [] h18 (kI K)))) := fun gx fb ng => Ci.mono lk (fun r h18 q => by
      obtain ⟨er, eh⟩ := q
      subst er eh
      have sb := sb_in (F := 8) p0 (by omega) (by decide) (f := f) (by omega)
      have e31 : (x3 + 1).toInt = ((i + 1 : Nat) : Int) := by rw [tx_add (by rw [t1]; omega) (by rw [t1]; omega), t1]; omega
      have k2 := i2304 (x2 := x3 + 1) (x3 := sbt x4 f) e31 (by omega) sb.1 (by omega)
      have er : h_i h18 280 ((256 * (x3 + 1)) + (x4 ||| ((1 : Int32) <<< (Int32.ofNat f &&& 31)))).toNatClampNeg = nx (sbt x4 f) := by
        have k3 := k2.2.2.1
        unfold sbt at k3
        rw [k3]
        have k4 := T (sbt x4 f) sb.1 (by omega)
        unfold sbt at k4 ⊢
        rw [k4]
      refine ⟨I.1, k2.2.2.2, ?_⟩
      rw [er, on_s (by omega)]
      rw [if_pos ⟨fb, by rw [gx]; exact ng⟩, gx] at O
      exact ih (f + 1) _ (by omega) O)
    refine t_X12_bestFrom_89 d h I.1 x1 x2 x3 x4 x5 (Int32.ofNat f) K ⟨fun z => by have := q_le.mp z; rw [eF, ef] at this; omega, fun _ => ⟨fun nb => no (fun w => nb w.1), fun fb => Ci.mono lk (fun r h13 q => ?_)⟩⟩
    obtain ⟨er, eh⟩ := q
    subst er eh
    refine ⟨I.1, fun lt => no (fun w => ?_), fun ng => ⟨fun ne => yes (if_neg (fun c => ne (Int32.toInt_inj.mp (by rw [e1, e3, c.1])))) fb ng, fun ee => ⟨fun n26 => no (fun w => ?_), fun e26 => yes (if_neg (fun c => c.2 e26)) fb ng⟩⟩⟩
    · by_cases q : i = bd ∧ ¬ x2 = Int32.ofNat f
      · have g : gqx (gN h13) (h_i h13 1 103) bd x2 i f = h_i h13 1 103 - 1 := if_pos q
        rw [g] at w
        exact w.2 (e_lt he)
      · have g : gqx (gN h13) (h_i h13 1 103) bd x2 i f = gN h13 i f := if_neg q
        rw [g] at w
        exact w.2 lt
    · have eb : i = bd := by
        rw [ee] at e3
        omega
      have g : gqx (gN h13) (h_i h13 1 103) bd x2 i f = h_i h13 1 103 - 1 := if_pos ⟨eb, n26⟩
      rw [g] at w
      exact w.2 (e_lt he)
def Tc (G : Nat → Nat → Int32) (e : Int32) (F L bd : Nat) (t : Int32) (h : Hp_) (i : Nat) : Prop := ∀ (j : Nat) (s : Int32), i ≤ j → j ≤ L → 0 ≤ s.toInt → s.toInt < 256 → h_i h 280 (256 * j + s.toNatClampNeg) = cvx G e F bd t (L - j) j s
theorem rc_s (d : Nat) (h0 : Hp_) {F L i bd : Nat} (hF : F ≤ 8) (hL : L ≤ 8) (hi : i < L) (he : 1 ≤ (h_i h0 1 103).toInt) (x1 x2 x3 : Int32) (e1 : x1.toInt = (bd : Int)) (e3 : x3.toInt = (i : Int)) (eF : (h_i h0 1 102).toInt = (F : Int)) (K : Int32 → Hp_ → Prop) (O : ∀ h, Iv h → Fr [280999] h0 h → Tc (gN h0) (h_i h0 1 103) F L bd x2 h i → AW (m_X12_bestFrom (d + 1) 0 0) 0 0 38 [(0, .ref 1), (1, .int x1), (2, .int x2), (3, .int (x3 + (-1)))] [] h (kI K)) :
    ∀ (m : Nat) (x4 : Int32) (h : Hp_), 0 ≤ x4.toInt → x4.toInt + m = 256 → Iv h → Fr [280999] h0 h → Tc (gN h0) (h_i h0 1 103) F L bd x2 h (i + 1) → (∀ s : Int32, 0 ≤ s.toInt → s.toInt < x4.toInt → h_i h 280 (256 * i + s.toNatClampNeg) = cvx (gN h0) (h_i h0 1 103) F bd x2 (L - i) i s) → AW (m_X12_bestFrom (d + 1) 0 0) 0 0 45 [(0, .ref 1), (1, .int x1), (2, .int x2), (3, .int x3), (4, .int x4)] [] h (kI K) := by
  have t1 : (1 : Int32).toInt = 1 := rfl
  have t256 : (256 : Int32).toInt = 256 := rfl
  intro m
  induction m with
  | zero =>
    intro x4 h p0 p1 I Fh T P
    refine t_X12_bestFrom_45 d h I.1 x1 x2 x3 x4 K ⟨fun _ => O h I Fh (fun j s hj hL' s0 s1 => ?_), fun z => absurd (q_le.mpr (by omega)) z⟩
    rcases Nat.lt_or_ge i j with u | u
    · exact T j s u hL' s0 s1
    · have ej : j = i := by omega
      rw [ej]
      exact P s s0 (by omega)
  | succ m ih =>
    intro x4 h p0 p1 I Fh T P
    have e4 : (x4 + 1).toInt = x4.toInt + 1 := tx_add (by rw [t1]; omega) (by rw [t1]; omega)
    have e31 : (x3 + 1).toInt = ((i + 1 : Nat) : Int) := by rw [tx_add (by rw [t1]; omega) (by rw [t1]; omega), t1]; omega
    have k1 := i2304 (x2 := x3 + 1) (x3 := x4) e31 (by omega) p0 (by omega)
    have k0 := i2304 (x2 := x3) (x3 := x4) e3 (by omega) p0 (by omega)
    have hb : h_i h 280 ((256 * (x3 + 1)) + x4).toNatClampNeg = cvx (gN h0) (h_i h0 1 103) F bd x2 (L - (i + 1)) (i + 1) x4 := by
      rw [k1.2.2.1]
      exact T (i + 1) x4 (Nat.le_refl _) (by omega) p0 (by omega)
    have eb : cvx (gN h0) (h_i h0 1 103) F bd x2 (L - i) i x4 = fv (gqx (gN h0) (h_i h0 1 103) bd x2 i) (h_i h0 1 103) (cvx (gN h0) (h_i h0 1 103) F bd x2 (L - (i + 1)) (i + 1)) x4 F 0 (if i = bd ∧ ¬ x2 = -1 then -1000 else cvx (gN h0) (h_i h0 1 103) F bd x2 (L - (i + 1)) (i + 1) x4) := by
      rw [show L - i = (L - (i + 1)) + 1 by omega]
      rfl
    have ge : gN h = gN h0 := gN_fr Fh
    have ee : h_i h 1 103 = h_i h0 1 103 := (Fh.2 1 103 (by decide +kernel)).1
    have go : ∀ b, b = (if i = bd ∧ ¬ x2 = -1 then -1000 else cvx (gN h0) (h_i h0 1 103) F bd x2 (L - (i + 1)) (i + 1) x4) → AW (m_X12_bestFrom (d + 1) 0 0) 0 0 89 [(0, .ref 1), (1, .int x1), (2, .int x2), (3, .int x3), (4, .int x4), (5, .int b), (6, .int 0)] [] h (kI K) := fun b hb => by
      refine rc_f d I (F := F) (i := i) (bd := bd) hF (by omega) (by rw [ee]; exact he) (cvx (gN h0) (h_i h0 1 103) F bd x2 (L - (i + 1)) (i + 1)) x1 x2 x3 x4 e1 e3 p0 (by omega) (by rw [(Fh.2 1 102 (by decide +kernel)).1]; exact eF) (fun s s0 s1 => T (i + 1) s (Nat.le_refl _) (by omega) s0 s1) K F 0 _ (by omega) ?_
      rw [ge, ee, hb, ← eb, k0.2.2.1]
      have n4 := n_nat (x := x4) p0
      refine ih (x4 + 1) _ (by omega) (by omega) (tr_ 280 (by decide +kernel) I _ _ (by decide) (by decide)) (Fh.im (inw_row (by decide +kernel) _)) (fun j s hj hL' s0 s1 => ?_) (fun s s0 s1 => ?_)
      · have ns := n_nat (x := s) s0
        rw [h_i_im, if_neg (fun c => by have := c.2; omega)]
        exact T j s hj hL' s0 s1
      · have ns := n_nat (x := s) s0
        rw [h_i_im]
        by_cases c : s.toInt = x4.toInt
        · have es : s = x4 := Int32.toInt_inj.mp c
          rw [if_pos ⟨rfl, by rw [es]⟩, es]
        · rw [if_neg (fun c' => by have := c'.2; omega)]
          exact P s s0 (by omega)
    refine t_X12_bestFrom_45 d h I.1 x1 x2 x3 x4 K ⟨fun z => by have := q_le.mp z; omega, fun _ => ⟨fun ne => ⟨k1.2.2.2, go _ ?_⟩, fun eq => ⟨fun n2 => go _ ?_, fun y2 => ⟨k1.2.2.2, go _ ?_⟩⟩⟩⟩
    · rw [hb, if_neg (fun c => ne (Int32.toInt_inj.mp (by rw [e1, e3, c.1])))]
    · rw [if_pos ⟨by rw [eq] at e3; omega, n2⟩]
    · rw [hb, if_neg (fun c => c.2 y2)]
theorem rc_i (d : Nat) (h0 hA : Hp_) {F L bd : Nat} (hF : F ≤ 8) (hL : L ≤ 8) (he : 1 ≤ (h_i h0 1 103).toInt) (x1 x2 : Int32) (e1 : x1.toInt = (bd : Int)) (eF : (h_i h0 1 102).toInt = (F : Int)) (FA : Fr [280999] hA h0) :
    ∀ (r : Nat) (x3 : Int32) (h' : Hp_), x3.toInt = (r : Int) - 1 → r ≤ L → Iv h' → Fr [280999] h0 h' → Tc (gN h0) (h_i h0 1 103) F L bd x2 h' r → AW (m_X12_bestFrom (d + 1) 0 0) 0 0 38 [(0, .ref 1), (1, .int x1), (2, .int x2), (3, .int x3)] [] h' (kI (fun v h'' => v = cvx (gN h0) (h_i h0 1 103) F bd x2 L 0 0 ∧ Iv h'' ∧ Fr [280999] hA h''))
  | 0, x3, h', ee, _, I', Fh, T => t_X12_bestFrom_38 d h' I'.1 x1 x2 x3 _ ⟨fun _ => ⟨vin_c (by decide), T 0 0 (Nat.le_refl _) (Nat.zero_le _) (by decide) (by decide), I', FA.tr Fh⟩, fun z => absurd (q_lt.mpr (show x3.toInt < 0 by rw [ee]; decide)) z⟩
  | r + 1, x3, h', ee, rl, I', Fh, T => by
    have er : x3.toInt = (r : Int) := by rw [ee]; exact (show ((r : Int) + 1) - 1 = (r : Int) from Int.add_sub_cancel _ _)
    have tm : (-1 : Int32).toInt = -1 := rfl
    have lr : (r : Int) ≤ 8 := Int.ofNat_le.mpr (Nat.le_trans (Nat.le_of_succ_le rl) hL)
    have nr : (0 : Int) ≤ (r : Int) := Int.natCast_nonneg r
    have e4 : (x3 + (-1)).toInt = (r : Int) - 1 := by
      rw [tx_add (by rw [tm, er]; exact Int.le_trans (by decide) (Int.add_le_add_right nr (-1))) (by rw [tm, er]; exact Int.lt_of_le_of_lt (Int.add_le_add_right lr (-1)) (by decide)), tm, er]
      rfl
    refine t_X12_bestFrom_38 d h' I'.1 x1 x2 x3 _ ⟨fun z => absurd (q_lt.mp z) (by rw [er]; exact Int.not_lt.mpr nr), fun _ => ?_⟩
    exact rc_s d h0 (F := F) (L := L) (i := r) hF hL rl he x1 x2 x3 e1 er eF _ (fun h9 I9 F9 T9 => rc_i d h0 hA hF hL he x1 x2 e1 eF FA r (x3 + (-1)) h9 e4 (Nat.le_of_succ_le rl) I9 F9 T9) 256 0 h' (by decide) (by decide) I' Fh T (fun s s0 s1 => absurd s1 (Int.not_lt.mpr s0))
theorem c_bestC (d : Nat) {h : Hp_} (I : Iv h) (x1 x2 : Int32) {bd : Nat} (e1 : x1.toInt = (bd : Int)) (he : 1 ≤ (h_i h 1 103).toInt) : Ci (m_X12_bestFrom (d + 1) 0 0) [.ref 1, .int x1, .int x2] h (fun v h'' => v = cl_ (gN h) (h_i h 1 103) (h_i h 1 102).toNatClampNeg (h_i h 1 101).toNatClampNeg bd x2 0 0 ∧ Iv h'' ∧ Fr [280999] h h'') := by
  have b2 := f_le (c := 1) (f := 101) (n := 8) I (by decide +kernel)
  have b3 := f_le (c := 1) (f := 102) (n := 8) I (by decide +kernel)
  have n2 := n_nat (x := h_i h 1 101) b2.1
  have n3 := n_nat (x := h_i h 1 102) b3.1
  have t1 : (1 : Int32).toInt = 1 := rfl
  have t256 : (256 : Int32).toInt = 256 := rfl
  have ex2 : (h_i h 1 101 - 1).toInt = ((h_i h 1 101).toNatClampNeg : Int) - 1 := by rw [tx_sub (by rw [t1]; omega) (by rw [t1]; omega), t1, n2]
  have lp : ∀ (m : Nat) (x3 : Int32) (h' : Hp_), 0 ≤ x3.toInt → x3.toInt + m = 256 → Iv h' → Fr [280999] h h' → (∀ s : Int32, 0 ≤ s.toInt → s.toInt < x3.toInt → h_i h' 280 (256 * (h_i h 1 101).toNatClampNeg + s.toNatClampNeg) = 0) → AW (m_X12_bestFrom (d + 1) 0 0) 0 0 2 [(0, .ref 1), (1, .int x1), (2, .int x2), (3, .int x3)] [] h' (kI (fun v h'' => v = cl_ (gN h) (h_i h 1 103) (h_i h 1 102).toNatClampNeg (h_i h 1 101).toNatClampNeg bd x2 0 0 ∧ Iv h'' ∧ Fr [280999] h h'')) := by
    intro m
    induction m with
    | zero =>
      intro x3 h' p0 p1 I' Fh P
      have e2 : h_i h' 1 101 = h_i h 1 101 := (Fh.2 1 101 (by decide +kernel)).1
      have e3 : h_i h' 1 102 = h_i h 1 102 := (Fh.2 1 102 (by decide +kernel)).1
      have e4 : h_i h' 1 103 = h_i h 1 103 := (Fh.2 1 103 (by decide +kernel)).1
      refine t_X12_bestFrom_2 d h' I'.1 x1 x2 x3 _ ⟨fun _ => ?_, fun z => absurd (q_le.mpr (by omega)) z⟩
      have k := rc_i d h' h (F := (h_i h 1 102).toNatClampNeg) (L := (h_i h 1 101).toNatClampNeg) (bd := bd) (by omega) (by omega) (by rw [e4]; exact he) x1 x2 e1 (by rw [e3]; exact n3.symm) Fh (h_i h 1 101).toNatClampNeg (h_i h 1 101 - 1) h' ex2 (Nat.le_refl _) I' (Fr.rf _ _) (fun j s hj hl s0 s1 => by
        have ej : j = (h_i h 1 101).toNatClampNeg := by omega
        rw [ej, P s s0 (by omega), Nat.sub_self]
        rfl)
      rw [e2]
      rw [gN_fr Fh, e4] at k
      exact k
    | succ m ih =>
      intro x3 h' p0 p1 I' Fh P
      have e2 : h_i h' 1 101 = h_i h 1 101 := (Fh.2 1 101 (by decide +kernel)).1
      have e5 : (x3 + 1).toInt = x3.toInt + 1 := tx_add (by rw [t1]; omega) (by rw [t1]; omega)
      have k0 := i2304 (x2 := h_i h 1 101) (x3 := x3) n2.symm (by omega) p0 (by omega)
      refine t_X12_bestFrom_2 d h' I'.1 x1 x2 x3 _ ⟨fun z => by have := q_le.mp z; omega, fun _ => ?_⟩
      rw [e2]
      refine ⟨k0.2.2.2, ?_⟩
      rw [k0.2.2.1]
      have nx := n_nat (x := x3) p0
      refine ih (x3 + 1) _ (by omega) (by omega) (tr_ 280 (by decide +kernel) I' _ _ (by decide) (by decide)) (Fh.im (inw_row (by decide +kernel) _)) (fun s s0 s1 => ?_)
      have ns := n_nat (x := s) s0
      rw [h_i_im]
      by_cases c : 280 = 280 ∧ 256 * (h_i h 1 101).toNatClampNeg + s.toNatClampNeg = 256 * (h_i h 1 101).toNatClampNeg + x3.toNatClampNeg
      · rw [if_pos c]
      · rw [if_neg c]
        exact P s s0 (by
          rcases Int.lt_or_le s.toInt x3.toInt with u | u
          · exact u
          · exact absurd ⟨rfl, by omega⟩ c)
  exact t_X12_bestFrom d h x1 x2 _ (lp 256 0 h (by decide) (by decide) I (Fr.rf _ _) (fun s s0 s1 => absurd s1 (Int.not_lt.mpr s0)))
/-- the sums by the reference's goods: free, and with good l joined to t -/
def bN (h : Hp_) : Int32 := bl_ (gN h) (h_i h 1 103) (h_i h 1 102).toNatClampNeg (h_i h 1 101).toNatClampNeg 0 0
def cN (h : Hp_) (l : Nat) (t : Int32) : Int32 := cl_ (gN h) (h_i h 1 103) (h_i h 1 102).toNatClampNeg (h_i h 1 101).toNatClampNeg l t 0 0
theorem bN_fr {h h' : Hp_} (f : Fr [280999] h h') : bN h' = bN h := by
  unfold bN
  rw [gN_fr f, (f.2 1 101 (by decide +kernel)).1, (f.2 1 102 (by decide +kernel)).1, (f.2 1 103 (by decide +kernel)).1]
theorem cN_fr {h h' : Hp_} (f : Fr [280999] h h') (l : Nat) (t : Int32) : cN h' l t = cN h l t := by
  unfold cN
  rw [gN_fr f, (f.2 1 101 (by decide +kernel)).1, (f.2 1 102 (by decide +kernel)).1, (f.2 1 103 (by decide +kernel)).1]
theorem bM_N {h : Hp_} (I : Iv h) : bM h = bN h := by
  have b2 := f_le (c := 1) (f := 101) (n := 8) I (by decide +kernel)
  have b3 := f_le (c := 1) (f := 102) (n := 8) I (by decide +kernel)
  have n2 := n_nat (x := h_i h 1 101) b2.1
  have n3 := n_nat (x := h_i h 1 102) b3.1
  unfold bM bN bl_
  rw [Nat.sub_zero]
  refine bv_eq (M := 8) (fun l f hl hf => ?_) _ _ _ (by omega)
  unfold gM gN
  rw [if_pos ⟨hl, by omega⟩]
theorem c_jnM (d : Nat) {h : Hp_} (I : Iv h) : Ci (m_X12_joining (d + 2) 0 0) [.ref 1] h (fun r h' => Iv h' ∧ Fr [280999] h h' ∧ r = bN h) :=
  t_X12_joining d h I.1 _ (Ci.mono (c_bestM d I) (fun r h' q => ⟨q.2.1.1, q.2.1, q.2.2, q.1.trans (bM_N I)⟩))
/-- the rivals of good l, by the reference -/
def rvp (h : Hp_) (l b : Nat) : Prop := b < (h_i h 1 102).toNatClampNeg ∧ ¬ gN h l b < h_i h 1 103 ∧ cN h l (Int32.ofNat b) = bN h
theorem c_rvO (d : Nat) {h : Hp_} (I : Iv h) (he : 1 ≤ (h_i h 1 103).toInt) (x1 : Int32) {l : Nat} (e1 : x1.toInt = (l : Int)) (hl : l < 8) : Ci (m_X12_rivalsOf (d + 3) 0 0) [.ref 1, .int x1] h (fun r h' => Iv h' ∧ Fr [280999] h h' ∧ Mks r (rvp h l)) := by
  have b3 := f_le (c := 1) (f := 102) (n := 8) I (by decide +kernel)
  have n3 := n_nat (x := h_i h 1 102) b3.1
  have n1 := n_nat (x := x1) (by omega)
  have m1 : x1.toNatClampNeg = l := by omega
  have v1 : vp_in x1 8 := dp_in (lo := 0) (hi := 7) ⟨by show (0 : Int) ≤ _; omega, by show _ ≤ (7 : Int); omega⟩ (by decide) (by decide)
  refine t_X12_rivalsOf d h I.1 x1 _ (Ci.mono (c_jnM d I) (fun r3 h1 q => ?_))
  obtain ⟨I1, F1, er⟩ := q
  subst er
  have lp : ∀ (n f : Nat) (x3 : Int32) (h' : Hp_), f + n = (h_i h 1 102).toNatClampNeg → Iv h' → Fr [280999] h h' → Mks x3 (fun b => b < f ∧ rvp h l b) → AW (m_X12_rivalsOf (d + 3) 0 0) 0 0 10 [(0, .ref 1), (1, .int x1), (2, .int (bN h)), (3, .int x3), (4, .int (Int32.ofNat f))] [] h' (kI (fun r h' => Iv h' ∧ Fr [280999] h h' ∧ Mks r (rvp h l))) := by
    intro n
    induction n with
    | zero =>
      intro f x3 h' en I' Fh M
      have e2 : h_i h' 1 102 = h_i h 1 102 := (Fh.2 1 102 (by decide +kernel)).1
      exact t_X12_rivalsOf_10 d h' I'.1 x1 (bN h) x3 (Int32.ofNat f) _ ⟨fun _ => ⟨I', Fh, M.cg (fun b _ => ⟨fun y => y.2, fun y => ⟨by have := y.1; omega, y⟩⟩)⟩, fun z => absurd (q_le.mpr (by rw [e2, on_j (by omega)]; omega)) z⟩
    | succ n ih =>
      intro f x3 h' en I' Fh M
      have e2 : h_i h' 1 102 = h_i h 1 102 := (Fh.2 1 102 (by decide +kernel)).1
      have e3 : h_i h' 1 103 = h_i h 1 103 := (Fh.2 1 103 (by decide +kernel)).1
      have kf : (Int32.ofNat f).toNatClampNeg = f := on_k (by omega)
      have vf : vp_in (Int32.ofNat f) 8 := on_in (by omega) (by decide)
      have gg := gN_fr Fh
      have lk : Ci (m_X12_like (d + 0) 0 0) [.ref 1, .int x1, .int (Int32.ofNat f)] h' (fun r h5 => r = gN h l f ∧ h5 = h') := Ci.mono (c_likeM d I'.1 x1 (Int32.ofNat f) v1 vf) (fun r h5 q => by
        rw [m1, kf] at q
        rw [← gg]
        unfold gN
        rw [if_pos ⟨hl, by omega⟩]
        exact q)
      have no : ∀ h5, Iv h5 → Fr [280999] h h5 → ¬ rvp h l f → AW (m_X12_rivalsOf (d + 3) 0 0) 0 0 10 [(0, .ref 1), (1, .int x1), (2, .int (bN h)), (3, .int (x3 ||| 0)), (4, .int (Int32.ofNat f + 1))] [] h5 (kI (fun r h' => Iv h' ∧ Fr [280999] h h' ∧ Mks r (rvp h l))) := fun h5 I5 F5 nn => by
        rw [on_s (by omega), Int32.or_zero]
        refine ih (f + 1) x3 h5 (by omega) I5 F5 (M.cg (fun b _ => ⟨fun y => ⟨by omega, y.2⟩, fun y => ⟨?_, y.2⟩⟩))
        by_cases q : b = f
        · exact absurd (q ▸ y.2) nn
        · have := y.1
          omega
      refine t_X12_rivalsOf_10 d h' I'.1 x1 (bN h) x3 (Int32.ofNat f) _ ⟨fun z => by have := q_le.mp z; rw [e2, on_j (by omega)] at this; omega, fun _ => Ci.mono lk (fun r7 h5 q => ?_)⟩
      obtain ⟨er, eh⟩ := q
      subst er eh
      refine ⟨I'.1, fun lt => no h5 I' Fh (fun w => by rw [e3] at lt; exact w.2.1 lt), fun ng => Ci.mono (c_bestC d I' x1 (Int32.ofNat f) e1 (by rw [e3]; exact he)) (fun r11 h9 q => ?_)⟩
      obtain ⟨er, I9, F9⟩ := q
      have ec : r11 = cN h l (Int32.ofNat f) := er.trans (cN_fr Fh l _)
      refine ⟨I9.1, fun ne => no h9 I9 (Fh.tr F9) (fun w => ne (ec.trans w.2.2)), fun eq => ?_⟩
      rw [on_s (by omega)]
      have ry : rvp h l f := ⟨by omega, by rw [e3] at ng; exact ng, ec.symm.trans eq⟩
      refine ih (f + 1) _ h9 (by omega) I9 (Fh.tr F9) ((M.or (b0 := f) (by omega)).cg (fun b _ => ⟨fun y => y.elim (fun y => ⟨by omega, y.2⟩) (fun y => ⟨by omega, by rw [y]; exact ry⟩), fun y => ?_⟩))
      by_cases q : b = f
      · exact Or.inr q
      · exact Or.inl ⟨by have := y.1; omega, y.2⟩
  exact ⟨I1.1, lp (h_i h 1 102).toNatClampNeg 0 0 h1 (by omega) I1 F1 (Mks.z.cg (fun b _ => ⟨False.elim, fun y => absurd y.1 (by omega)⟩))⟩
theorem c_sol (d : Nat) {h : Hp_} (I : Iv h) (g : Gx h) : Cv (m_X3_solve (d + 3) 0 0) [.ref 19] h (fun h' => Iv h' ∧ Fr [19005, 87999, 88999, 89999, 90999, 91999] h h' ∧ Gx h' ∧ ∀ l, l < (h_i h 19 2).toNatClampNeg → Mks (h_i h' 90 l) (chX h l)) := Cv.mono (c_solve d I g) (fun h' q => by
  have e2 : h_i h' 19 2 = h_i h 19 2 := (q.2.1.2 19 2 (by decide +kernel)).1
  exact ⟨q.1, q.2.1, ⟨by rw [(q.2.1.2 19 4 (by decide +kernel)).1]; exact g.1, fun _ l hl => by rw [chX_fr q.2.1 (by decide +kernel) l]; exact q.2.2.2 l (by rw [e2] at hl; exact hl)⟩, q.2.2.2⟩)
theorem c_jnX (d : Nat) {h : Hp_} (I : Iv h) (g : Gx h) : Ci (m_X11_joining (d + 5) 0 0) [.ref 0] h (fun _ h' => Iv h' ∧ Fr [19005, 87999, 88999, 89999, 90999, 91999] h h' ∧ Gx h') :=
  t_X11_joining d h I.1 _ (t_X3_bestSum d h I.1 _ (Cv.mono (c_sol d I g) (fun h' q => ⟨q.1.1, vin_c (by decide), q.1.1, q.1, q.2.1, q.2.2.1⟩)))
theorem c_has (d : Nat) {h : Hp_} (w : Wf h) (x1 : Int32) : Ci (m_X3_hasLost (d + 0) 0 0) [.ref 19, .int x1] h (fun r h' => h' = h ∧ (¬ r = 0 → 0 ≤ x1.toInt ∧ x1.toInt < (h_i h 19 2).toInt)) :=
  t_X3_hasLost d h w x1 _ ⟨fun _ => ⟨rfl, fun n => absurd rfl n⟩, fun a => ⟨fun _ => ⟨rfl, fun n => absurd rfl n⟩, fun b => ⟨rfl, fun _ => ⟨q_nlt a, q_nle b⟩⟩⟩⟩
theorem v8x {h : Hp_} (I : Iv h) {x1 : Int32} (b : 0 ≤ x1.toInt ∧ x1.toInt < (h_i h 19 2).toInt) : vp_in x1 8 := by
  have b2 := f_le (c := 19) (f := 2) (n := 8) I (by decide +kernel)
  exact dp_in (lo := 0) (hi := 7) ⟨b.1, by show _ ≤ (7 : Int); omega⟩ (by decide) (by decide)
theorem c_jdX (d : Nat) {h : Hp_} (I : Iv h) (g : Gx h) (x1 : Int32) : Ci (m_X11_joined (d + 5) 0 0) [.ref 0, .int x1] h (fun _ h' => Iv h' ∧ Fr [19005, 87999, 88999, 89999, 90999, 91999] h h' ∧ Gx h') := by
  refine t_X11_joined d h I.1 x1 _ (Ci.mono (c_has d I.1 x1) (fun r h1 q => ?_))
  obtain ⟨e, _⟩ := q
  subst e
  refine ⟨I.1, fun _ => ⟨I, Fr.rf _ _, g⟩, fun _ => t_X3_firstOf d h1 I.1 x1 _ (Cv.mono (c_sol d I g) (fun h2 s => ⟨s.1.1, Ci.mono (c_has d s.1.1 x1) (fun r6 h4 q => ?_)⟩))⟩
  obtain ⟨e, b⟩ := q
  subst e
  exact ⟨s.1.1, fun _ => ⟨s.1.1, s.1, s.2.1, s.2.2.1⟩, fun n => ⟨v8x s.1 (b n), s.1.1, s.1, s.2.1, s.2.2.1⟩⟩
theorem c_cmX (d : Nat) {h : Hp_} (I : Iv h) (g : Gx h) (x1 : Int32) : Ci (m_X11_rivals (d + 5) 0 0) [.ref 0, .int x1] h (fun r h' => Iv h' ∧ Fr [19005, 87999, 88999, 89999, 90999, 91999] h h' ∧ Gx h' ∧ ((0 ≤ x1.toInt ∧ x1.toInt < (h_i h 19 2).toInt) → ∃ x, Mks x (chX h x1.toNatClampNeg) ∧ r = x &&& (-257)) ∧ (¬ (0 ≤ x1.toInt ∧ x1.toInt < (h_i h 19 2).toInt) → r = -1)) := by
  have t0 : (0 : Int32).toInt = 0 := rfl
  have b2 := f_le (c := 19) (f := 2) (n := 8) I (by decide +kernel)
  have n2 := n_nat (x := h_i h 19 2) b2.1
  have hs : ∀ h2 : Hp_, Wf h2 → h_i h2 19 2 = h_i h 19 2 → Ci (m_X3_hasLost (d + 0) 0 0) [.ref 19, .int x1] h2 (fun r h' => h' = h2 ∧ (¬ r = 0 → 0 ≤ x1.toInt ∧ x1.toInt < (h_i h 19 2).toInt) ∧ (r = 0 → ¬ (0 ≤ x1.toInt ∧ x1.toInt < (h_i h 19 2).toInt))) := fun h2 w e => t_X3_hasLost d h2 w x1 _ ⟨fun a => ⟨rfl, fun n => absurd rfl n, fun _ c => by have := q_lt.mp a; rw [t0] at this; omega⟩, fun a => ⟨fun b => ⟨rfl, fun n => absurd rfl n, fun _ c => by have := q_le.mp b; rw [e] at this; omega⟩, fun b => ⟨rfl, fun _ => ⟨q_nlt a, by have := q_nle b; rw [e] at this; exact this⟩, fun z => absurd z (by decide)⟩⟩⟩
  refine t_X11_rivals d h I.1 x1 _ (Ci.mono (hs h I.1 rfl) (fun r h1 q => ?_))
  obtain ⟨e, a, b⟩ := q
  subst e
  refine ⟨I.1, fun z => ⟨I, Fr.rf _ _, g, fun c => absurd c (b z), fun _ => rfl⟩, fun n => t_X3_foundFor d h1 I.1 x1 _ (Cv.mono (c_sol d I g) (fun h2 s => ⟨s.1.1, Ci.mono (hs h2 s.1.1 (s.2.1.2 19 2 (by decide +kernel)).1) (fun r6 h4 q => ?_)⟩))⟩
  obtain ⟨e, a', b'⟩ := q
  subst e
  have nx := n_nat (x := x1) (a n).1
  have e2 : h_i h4 19 2 = h_i h1 19 2 := (s.2.1.2 19 2 (by decide +kernel)).1
  exact ⟨s.1.1, fun z => absurd (a n) (b' z), fun n' => ⟨v8x s.1 (by rw [e2]; exact a n), s.1.1, s.1, s.2.1, s.2.2.1, fun c => ⟨_, s.2.2.2 _ (by omega), rfl⟩, fun c => absurd (a n) c⟩⟩
theorem c_srX (d : Nat) {h : Hp_} (I : Iv h) (g : Gx h) (x1 : Int32) : Ci (m_X11_sure (d + 5) 0 0) [.ref 0, .int x1] h (fun _ h' => Iv h' ∧ Fr [19005, 87999, 88999, 89999, 90999, 91999] h h' ∧ Gx h') := by
  refine t_X11_sure d h I.1 x1 _ (Ci.mono (c_has d I.1 x1) (fun r h1 q => ?_))
  obtain ⟨e, _⟩ := q
  subst e
  refine ⟨I.1, fun _ => t_X3_isSure d h1 I.1 x1 _ (Cv.mono (c_sol d I g) (fun h2 s => ⟨s.1.1, Ci.mono (c_has d s.1.1 x1) (fun r6 h4 q => ?_)⟩)), fun _ => ⟨I, Fr.rf _ _, g⟩⟩
  obtain ⟨e, b⟩ := q
  subst e
  have K : Iv h4 ∧ Fr [19005, 87999, 88999, 89999, 90999, 91999] h1 h4 ∧ Gx h4 := ⟨s.1, s.2.1, s.2.2.1⟩
  refine ⟨s.1.1, fun _ => ⟨s.1.1, fun _ => K, fun n => absurd rfl n⟩, fun n => ⟨v8x s.1 (b n), Ci.mono (c_bitCount d h4 _) (fun r11 h9 q => ?_)⟩⟩
  obtain ⟨_, e⟩ := q
  subst e
  exact ⟨s.1.1, fun _ => ⟨s.1.1, fun _ => K, fun n => absurd rfl n⟩, fun _ => ⟨s.1.1, fun z => absurd z (by decide), fun _ => K⟩⟩
theorem c_cmM (d : Nat) {h : Hp_} (I : Iv h) (he : 1 ≤ (h_i h 1 103).toInt) (x1 : Int32) : Ci (m_X12_rivals (d + 4) 0 0) [.ref 1, .int x1] h (fun r h' => Iv h' ∧ Fr [280999] h h' ∧ ((0 ≤ x1.toInt ∧ x1.toInt < (h_i h 1 101).toInt) → Mks r (rvp h x1.toNatClampNeg)) ∧ (¬ (0 ≤ x1.toInt ∧ x1.toInt < (h_i h 1 101).toInt) → r = -1)) := by
  have b2 := f_le (c := 1) (f := 101) (n := 8) I (by decide +kernel)
  have t1 : (1 : Int32).toInt = 1 := rfl
  have t0 : (0 : Int32).toInt = 0 := rfl
  have es : (h_i h 1 101 - 1).toInt = (h_i h 1 101).toInt - 1 := by rw [tx_sub (by rw [t1]; omega) (by rw [t1]; omega), t1]
  refine t_X12_rivals d h I.1 x1 _ ⟨fun n => ⟨I, Fr.rf _ _, fun a => absurd ⟨q_le.mpr (by rw [t0]; exact a.1), q_le.mpr (by rw [es]; omega)⟩ n, fun _ => rfl⟩, fun a => ?_⟩
  have a1 := q_le.mp a.1
  have a2 := q_le.mp a.2
  rw [t0] at a1
  rw [es] at a2
  have nx := n_nat (x := x1) a1
  exact Ci.mono (c_rvO d I he x1 nx.symm (by omega)) (fun r h' q => ⟨q.1.1, q.1, q.2.1, fun _ => q.2.2, fun c => absurd ⟨a1, by omega⟩ c⟩)
theorem Li.jd {N : Nat} {h h1 : Hp_} (L : Li N h) (k : Iv h1 ∧ Fr [19005, 87999, 88999, 89999, 90999, 91999] h h1 ∧ Gx h1) : Li N h1 := (L.z.fr k.1 k.2.1 (by decide +kernel)).li (L.2.2.2.2.1.fr k.2.1 (by decide +kernel)) ⟨L.2.2.2.2.2.1.fr k.2.1 (by decide +kernel), Ex.rows L.2.2.2.2.2.2.1 k.2.1 (by decide +kernel), k.2.2⟩
theorem Li.he {N : Nat} {h h1 : Hp_} (L : Li N h) (f : Fr [19005, 87999, 88999, 89999, 90999, 91999] h h1) : 1 ≤ (h_i h1 1 103).toInt := by
  have a4 : h_i h 19 4 = h_i h 1 103 := L.2.2.2.2.1 ((19, 4), 103) (by decide +kernel)
  rw [(f.2 1 103 (by decide +kernel)).1, ← a4]
  exact L.2.2.2.2.2.2.2.1
/-- class and reference mean the same by a good's choices -/
theorem Li.ch {N : Nat} {h1 : Hp_} (L1 : Li N h1) (l : Nat) (hl : l < (h_i h1 1 101).toNatClampNeg) : (∀ b, b < 8 → (chX h1 l b ↔ rvp h1 l b)) ∧ (chX h1 l 8 ↔ cN h1 l (-1) = bN h1) := by
  have a2 : h_i h1 19 2 = h_i h1 1 101 := L1.2.2.2.2.1 ((19, 2), 101) (by decide +kernel)
  have a3 : h_i h1 19 3 = h_i h1 1 102 := L1.2.2.2.2.1 ((19, 3), 102) (by decide +kernel)
  have a4 : h_i h1 19 4 = h_i h1 1 103 := L1.2.2.2.2.1 ((19, 4), 103) (by decide +kernel)
  have b2 := f_le (c := 1) (f := 101) (n := 8) L1.1 (by decide +kernel)
  have b3 := f_le (c := 1) (f := 102) (n := 8) L1.1 (by decide +kernel)
  have n2 := n_nat (x := h_i h1 1 101) b2.1
  have n3 := n_nat (x := h_i h1 1 102) b3.1
  have he : 1 ≤ (h_i h1 1 103).toInt := by
    rw [← a4]
    exact L1.2.2.2.2.2.2.2.1
  have gg : gH h1 = gN h1 := funext (fun l => funext (fun f => by
    unfold gH gN
    by_cases c : l < 8 ∧ f < 8
    · rw [if_pos c, if_pos c, (L1.2.2.2.2.2.2.1 l c.1).1, (L1.2.2.2.2.2.2.1 f c.2).2]
    · rw [if_neg c, if_neg c]))
  unfold chX rvp cN bN
  rw [gg, a2, a3, a4]
  refine ⟨fun b h8 => ?_, ?_⟩
  · constructor
    · rintro ⟨s, r, p⟩
      rcases p with ⟨q, _⟩ | ⟨hb, o⟩
      · exact absurd q (by omega)
      · exact ⟨hb, o.1.2, (cl_eq (gN_in h1) (by omega) hl (bs_f (gN_in h1) he (by omega) (by omega) hl hb)).mpr ⟨s, r, o⟩⟩
    · rintro ⟨hb, _, q⟩
      obtain ⟨s, r, o⟩ := (cl_eq (gN_in h1) (by omega) hl (bs_f (gN_in h1) he (by omega) (by omega) hl hb)).mp q
      exact ⟨s, r, Or.inr ⟨hb, o⟩⟩
  · rw [cl_eq (gN_in h1) (by omega) hl (bs_n (gN_in h1) he (by omega) (by omega) hl)]
    constructor
    · rintro ⟨s, r, p⟩
      rcases p with ⟨_, o⟩ | ⟨hb, _⟩
      · exact ⟨s, r, o⟩
      · exact absurd hb (by omega)
    · rintro ⟨s, r, o⟩
      exact ⟨s, r, Or.inl ⟨rfl, o⟩⟩
theorem Li.cm {N : Nat} {h h1 h2 : Hp_} {x1 r1 r2 : Int32} (L : Li N h) (k1 : Iv h1 ∧ Fr [19005, 87999, 88999, 89999, 90999, 91999] h h1 ∧ Gx h1 ∧ ((0 ≤ x1.toInt ∧ x1.toInt < (h_i h 19 2).toInt) → ∃ x, Mks x (chX h x1.toNatClampNeg) ∧ r1 = x &&& (-257)) ∧ (¬ (0 ≤ x1.toInt ∧ x1.toInt < (h_i h 19 2).toInt) → r1 = -1)) (k2 : Iv h2 ∧ Fr [280999] h1 h2 ∧ ((0 ≤ x1.toInt ∧ x1.toInt < (h_i h1 1 101).toInt) → Mks r2 (rvp h1 x1.toNatClampNeg)) ∧ (¬ (0 ≤ x1.toInt ∧ x1.toInt < (h_i h1 1 101).toInt) → r2 = -1)) : Li N h2 ∧ r1 = r2 := by
  have L1 := L.jd ⟨k1.1, k1.2.1, k1.2.2.1⟩
  refine ⟨L1.fr k2.1 k2.2.1 (by decide +kernel), ?_⟩
  have u : chX h1 x1.toNatClampNeg = chX h x1.toNatClampNeg := chX_fr k1.2.1 (by decide +kernel) _
  have e2 : h_i h1 19 2 = h_i h 19 2 := (k1.2.1.2 19 2 (by decide +kernel)).1
  have a2 : h_i h1 19 2 = h_i h1 1 101 := L1.2.2.2.2.1 ((19, 2), 101) (by decide +kernel)
  have b2 := f_le (c := 1) (f := 101) (n := 8) L1.1 (by decide +kernel)
  have b3 := f_le (c := 1) (f := 102) (n := 8) L1.1 (by decide +kernel)
  have n2 := n_nat (x := h_i h1 1 101) b2.1
  have n3 := n_nat (x := h_i h1 1 102) b3.1
  have em : h_i h 19 2 = h_i h1 1 101 := e2.symm.trans a2
  have k1c := k1.2.2.2
  rw [em] at k1c
  by_cases c : 0 ≤ x1.toInt ∧ x1.toInt < (h_i h1 1 101).toInt
  · obtain ⟨x, m, ex⟩ := k1c.1 c
    have nx := n_nat (x := x1) c.1
    have q := L1.ch x1.toNatClampNeg (by omega)
    rw [← u] at m
    rw [ex]
    refine m.low.inj (k2.2.2.1 c) (fun b h9 => ?_)
    by_cases e8 : b = 8
    · rw [e8]
      exact ⟨fun y => absurd rfl y.1, fun y => absurd y.1 (by omega)⟩
    · exact ⟨fun y => (q.1 b (by omega)).mp y.2, fun y => ⟨e8, (q.1 b (by omega)).mpr y⟩⟩
  · rw [k1c.2 c, k2.2.2.2 c]
def oca (ok : Prop) (m r m' : Int32) : Prop := (ok ∧ r = m ∧ m' = m + 1) ∨ (¬ ok ∧ r = -1 ∧ m' = m)
theorem oca_eq {p q : Prop} {m r1 r2 m1 m2 : Int32} (e : p ↔ q) (a : oca p m r1 m1) (b : oca q m r2 m2) : r1 = r2 ∧ m1 = m2 := by
  rcases a with ⟨a, a1, a2⟩ | ⟨a, a1, a2⟩ <;> rcases b with ⟨b, b1, b2⟩ | ⟨b, b1, b2⟩
  · exact ⟨a1.trans b1.symm, a2.trans b2.symm⟩
  · exact absurd (e.mp a) b
  · exact absurd (e.mpr b) a
  · exact ⟨a1.trans b1.symm, a2.trans b2.symm⟩
theorem nz_lt {m n : Int32} (b : m.toInt ≤ n.toInt) : m < n ↔ ¬ m = n := ⟨fun l e => by rw [e] at l; exact absurd (q_lt.mp l) (Int.lt_irrefl _), fun ne => q_lt.mpr (by
  rcases Int.lt_or_le m.toInt n.toInt with u | u
  · exact u
  · exact absurd (Int32.toInt_inj.mp (Int.le_antisymm b u)) ne)⟩
theorem p15 {x : Int32} : (0 ≤ x ∧ x < 16) ↔ (0 ≤ x ∧ x ≤ 15) := by
  have t15 : (15 : Int32).toInt = 15 := rfl
  have t16 : (16 : Int32).toInt = 16 := rfl
  rw [q_lt, q_le (y := 15), t15, t16]
  exact ⟨fun z => ⟨z.1, by omega⟩, fun z => ⟨z.1, by omega⟩⟩

def okx (m x2 : Int32) : Prop := (0 ≤ x2 ∧ x2 ≤ 99999) ∧ m < 8
def okn (m x2 : Int32) : Prop := (0 ≤ x2 ∧ x2 ≤ 99999) ∧ ¬ m = 8
def ocg (ok : Int32 → Int32 → Prop) (a b x1 x2 r a' b' : Int32) : Prop := (x1 = 0 → oca (ok b x2) b r b' ∧ a' = a) ∧ (¬ x1 = 0 → oca (ok a x2) a r a' ∧ b' = b)
def RgX (x1 x2 : Int32) (h h' : Hp_) : Prop := (x1 = 0 ∧ okx (h_i h 19 3) x2 ∧ (∀ k, h_i h' 86 k = if k = (h_i h 19 3).toNatClampNeg then x2 else h_i h 86 k) ∧ (∀ k, h_i h' 85 k = h_i h 85 k) ∧ h_i h' 19 5 = 1) ∨ (¬ x1 = 0 ∧ okx (h_i h 19 2) x2 ∧ (∀ k, h_i h' 85 k = if k = (h_i h 19 2).toNatClampNeg then x2 else h_i h 85 k) ∧ (∀ k, h_i h' 86 k = h_i h 86 k) ∧ h_i h' 19 5 = 1) ∨ ((x1 = 0 → ¬ okx (h_i h 19 3) x2) ∧ (¬ x1 = 0 → ¬ okx (h_i h 19 2) x2) ∧ h' = h)
def RgM (x1 x2 : Int32) (h h' : Hp_) : Prop := (x1 = 0 ∧ okn (h_i h 1 102) x2 ∧ (∀ k, h_i h' 279 k = if k = (h_i h 1 102).toNatClampNeg then x2 else h_i h 279 k) ∧ (∀ k, h_i h' 278 k = h_i h 278 k)) ∨ (¬ x1 = 0 ∧ okn (h_i h 1 101) x2 ∧ (∀ k, h_i h' 278 k = if k = (h_i h 1 101).toNatClampNeg then x2 else h_i h 278 k) ∧ (∀ k, h_i h' 279 k = h_i h 279 k)) ∨ ((x1 = 0 → ¬ okn (h_i h 1 102) x2) ∧ (¬ x1 = 0 → ¬ okn (h_i h 1 101) x2) ∧ h' = h)
theorem v8 {x : Int32} (b : 0 ≤ x.toInt ∧ x.toInt ≤ 8) (l : x < 8) : vp_in x 8 ∧ rin (x + 1).toInt (0, 8) := by
  have t1 : (1 : Int32).toInt = 1 := rfl
  have t8 : (8 : Int32).toInt = 8 := rfl
  have l := q_lt.mp l
  have e : (x + 1).toInt = x.toInt + 1 := tx_add (by rw [t1]; omega) (by rw [t1]; omega)
  exact ⟨dp_in (lo := 0) (hi := 7) ⟨b.1, by show _ ≤ (7 : Int); omega⟩ (by decide) (by decide), ⟨by show (0 : Int) ≤ _; omega, by show _ ≤ (8 : Int); omega⟩⟩
theorem c_gdX (d : Nat) {h : Hp_} (I : Iv h) (x1 x2 : Int32) : Ci (m_X11_good (d + 1) 0 0) [.ref 0, .int x1, .int x2] h (fun r h' => Iv h' ∧ Fr [19002, 19003, 19005, 85999, 86999] h h' ∧ ocg okx (h_i h 19 2) (h_i h 19 3) x1 x2 r (h_i h' 19 2) (h_i h' 19 3) ∧ RgX x1 x2 h h') := by
  have b2 := f_le (c := 19) (f := 2) (n := 8) I (by decide +kernel)
  have b3 := f_le (c := 19) (f := 3) (n := 8) I (by decide +kernel)
  have I1 : Iv (h_im h 19 5 1) := I.im (by rw [show tf 19 5 = (0, 1) by decide +kernel]; exact ⟨by decide, by decide⟩) (by decide)
  have F1 : Fr [19002, 19003, 19005, 85999, 86999] h (h_im h 19 5 1) := (Fr.rf _ _).im (by decide +kernel)
  have no : (x1 = 0 → ¬ okx (h_i h 19 3) x2) → (¬ x1 = 0 → ¬ okx (h_i h 19 2) x2) → Iv h ∧ Fr [19002, 19003, 19005, 85999, 86999] h h ∧ ocg okx (h_i h 19 2) (h_i h 19 3) x1 x2 (-1) (h_i h 19 2) (h_i h 19 3) ∧ RgX x1 x2 h h := fun p q => ⟨I, Fr.rf _ _, ⟨fun z => ⟨Or.inr ⟨p z, rfl, rfl⟩, rfl⟩, fun z => ⟨Or.inr ⟨q z, rfl, rfl⟩, rfl⟩⟩, Or.inr (Or.inr ⟨p, q, rfl⟩)⟩
  refine t_X11_good d h I.1 x1 x2 _ ⟨fun n => no (fun _ o => n o.1) (fun _ o => n o.1), fun a2 => t_X3_add d h I.1 x1 x2 _ ⟨fun z => ⟨fun l => ⟨fun _ => ?_, fun n => absurd z n⟩, fun n => ⟨I.1, no (fun _ o => n o.2) (fun y => absurd z y)⟩⟩, fun z => ⟨fun l => ⟨fun y => absurd y z, fun _ => ?_⟩, fun n => ⟨I.1, no (fun y => absurd y z) (fun _ o => n o.2)⟩⟩⟩⟩
  · have v := v8 b3 l
    have I5 := (tr_ 86 (by decide +kernel) I1 (h_i h 19 3).toNatClampNeg x2 (by decide) (by decide)).im (a := 19) (k := 3) (x := h_i h 19 3 + 1) (by rw [show tf 19 3 = (0, 8) by decide +kernel]; exact v.2) (by decide)
    exact ⟨v.1, I5.1, I5, (F1.im (inw_row (by decide +kernel) _)).im (by decide +kernel), ⟨fun _ => ⟨Or.inl ⟨⟨a2, l⟩, rfl, im_at⟩, by rw [h_i_im, if_neg (fun y => absurd y.2 (by decide)), im_ne (by decide), h_i_im, if_neg (fun y => absurd y.2 (by decide))]⟩, fun n => absurd z n⟩, Or.inl ⟨z, ⟨a2, l⟩, (fun k => by rw [im_ne (by decide), h_i_im, im_ne (by decide)]; simp), (fun k => by rw [im_ne (by decide), im_ne (by decide), im_ne (by decide)]), by rw [h_i_im, if_neg (fun y => absurd y.2 (by decide)), im_ne (by decide), im_at]⟩⟩
  · have v := v8 b2 l
    have I5 := (tr_ 85 (by decide +kernel) I1 (h_i h 19 2).toNatClampNeg x2 (by decide) (by decide)).im (a := 19) (k := 2) (x := h_i h 19 2 + 1) (by rw [show tf 19 2 = (0, 8) by decide +kernel]; exact v.2) (by decide)
    exact ⟨v.1, I5.1, I5, (F1.im (inw_row (by decide +kernel) _)).im (by decide +kernel), ⟨fun y => absurd y z, fun _ => ⟨Or.inl ⟨⟨a2, l⟩, rfl, im_at⟩, by rw [h_i_im, if_neg (fun y => absurd y.2 (by decide)), im_ne (by decide), h_i_im, if_neg (fun y => absurd y.2 (by decide))]⟩⟩, Or.inr (Or.inl ⟨z, ⟨a2, l⟩, (fun k => by rw [im_ne (by decide), h_i_im, im_ne (by decide)]; simp), (fun k => by rw [im_ne (by decide), im_ne (by decide), im_ne (by decide)]), by rw [h_i_im, if_neg (fun y => absurd y.2 (by decide)), im_ne (by decide), im_at]⟩)⟩
theorem c_gdM (d : Nat) {h : Hp_} (I : Iv h) (x1 x2 : Int32) : Ci (m_X12_good (d + 1) 0 0) [.ref 1, .int x1, .int x2] h (fun r h' => Iv h' ∧ Fr [1101, 1102, 278999, 279999] h h' ∧ ocg okn (h_i h 1 101) (h_i h 1 102) x1 x2 r (h_i h' 1 101) (h_i h' 1 102) ∧ RgM x1 x2 h h') := by
  have b2 := f_le (c := 1) (f := 101) (n := 8) I (by decide +kernel)
  have b3 := f_le (c := 1) (f := 102) (n := 8) I (by decide +kernel)
  have t8 : (8 : Int32).toInt = 8 := rfl
  have no : (x1 = 0 → ¬ okn (h_i h 1 102) x2) → (¬ x1 = 0 → ¬ okn (h_i h 1 101) x2) → Iv h ∧ Fr [1101, 1102, 278999, 279999] h h ∧ ocg okn (h_i h 1 101) (h_i h 1 102) x1 x2 (-1) (h_i h 1 101) (h_i h 1 102) ∧ RgM x1 x2 h h := fun p q => ⟨I, Fr.rf _ _, ⟨fun z => ⟨Or.inr ⟨p z, rfl, rfl⟩, rfl⟩, fun z => ⟨Or.inr ⟨q z, rfl, rfl⟩, rfl⟩⟩, Or.inr (Or.inr ⟨p, q, rfl⟩)⟩
  refine t_X12_good d h I.1 x1 x2 _ ⟨fun n => no (fun _ o => n o.1) (fun _ o => n o.1), fun a2 => ⟨fun z => ⟨fun ne => ⟨fun _ => ?_, fun n => absurd z n⟩, fun e => no (fun _ o => o.2 e) (fun y => absurd z y)⟩, fun z => ⟨fun ne => ⟨fun y => absurd y z, fun _ => ?_⟩, fun e => no (fun y => absurd y z) (fun _ o => o.2 e)⟩⟩⟩
  · have v := v8 b3 ((nz_lt (by rw [t8]; exact b3.2)).mpr ne)
    exact ⟨v.1, (tr_ 279 (by decide +kernel) I _ x2 (by decide) (by decide)).im (a := 1) (k := 102) (by rw [show tf 1 102 = (0, 8) by decide +kernel]; exact v.2) (by decide), ((Fr.rf _ _).im (inw_row (by decide +kernel) _)).im (by decide +kernel), ⟨fun _ => ⟨Or.inl ⟨⟨a2, ne⟩, tx_back _, im_at⟩, by rw [h_i_im, if_neg (fun y => absurd y.2 (by decide)), im_ne (by decide)]⟩, fun n => absurd z n⟩, Or.inl ⟨z, ⟨a2, ne⟩, (fun k => by rw [im_ne (by decide), h_i_im]; simp), (fun k => by rw [im_ne (by decide), im_ne (by decide)])⟩⟩
  · have v := v8 b2 ((nz_lt (by rw [t8]; exact b2.2)).mpr ne)
    exact ⟨v.1, (tr_ 278 (by decide +kernel) I _ x2 (by decide) (by decide)).im (a := 1) (k := 101) (by rw [show tf 1 101 = (0, 8) by decide +kernel]; exact v.2) (by decide), ((Fr.rf _ _).im (inw_row (by decide +kernel) _)).im (by decide +kernel), ⟨fun y => absurd y z, fun _ => ⟨Or.inl ⟨⟨a2, ne⟩, tx_back _, im_at⟩, by rw [h_i_im, if_neg (fun y => absurd y.2 (by decide)), im_ne (by decide)]⟩⟩, Or.inr (Or.inl ⟨z, ⟨a2, ne⟩, (fun k => by rw [im_ne (by decide), h_i_im]; simp), (fun k => by rw [im_ne (by decide), im_ne (by decide)])⟩)⟩
theorem ok_eq {m x2 : Int32} (b : m.toInt ≤ 8) : okx m x2 ↔ okn m x2 := by
  unfold okx okn
  rw [nz_lt (n := 8) b]
theorem Li.gd {N : Nat} {h h1 h2 : Hp_} {x1 x2 r1 r2 : Int32} (L : Li N h) (k1 : Iv h1 ∧ Fr [19002, 19003, 19005, 85999, 86999] h h1 ∧ ocg okx (h_i h 19 2) (h_i h 19 3) x1 x2 r1 (h_i h1 19 2) (h_i h1 19 3) ∧ RgX x1 x2 h h1) (k2 : Iv h2 ∧ Fr [1101, 1102, 278999, 279999] h1 h2 ∧ ocg okn (h_i h1 1 101) (h_i h1 1 102) x1 x2 r2 (h_i h2 1 101) (h_i h2 1 102) ∧ RgM x1 x2 h1 h2) : Li N h2 := by
  have ea : h_i h 19 2 = h_i h 1 101 := L.2.2.2.2.1 ((19, 2), 101) (by decide +kernel)
  have eb : h_i h 19 3 = h_i h 1 102 := L.2.2.2.2.1 ((19, 3), 102) (by decide +kernel)
  have ec : h_i h 19 4 = h_i h 1 103 := L.2.2.2.2.1 ((19, 4), 103) (by decide +kernel)
  have b2 := f_le (c := 1) (f := 101) (n := 8) L.1 (by decide +kernel)
  have b3 := f_le (c := 1) (f := 102) (n := 8) L.1 (by decide +kernel)
  have f1 := k1.2.1
  have f2 := k2.2.1
  have m1 : h_i h1 1 101 = h_i h 1 101 := (f1.2 1 101 (by decide +kernel)).1
  have m2 : h_i h1 1 102 = h_i h 1 102 := (f1.2 1 102 (by decide +kernel)).1
  have kq := k2.2.2.1
  have kp := k1.2.2.1
  rw [m1, m2] at kq
  rw [ea, eb] at kp
  have z : h_i h1 19 2 = h_i h2 1 101 ∧ h_i h1 19 3 = h_i h2 1 102 := by
    by_cases e : x1 = 0
    · have p := kp.1 e
      have q := kq.1 e
      exact ⟨p.2.trans q.2.symm, (oca_eq (ok_eq b3.2) p.1 q.1).2⟩
    · have p := kp.2 e
      have q := kq.2 e
      exact ⟨(oca_eq (ok_eq b2.2) p.1 q.1).2, p.2.trans q.2.symm⟩
  have o4 : h_i h2 19 4 = h_i h 19 4 := ((f2.2 19 4 (by decide +kernel)).1).trans (f1.2 19 4 (by decide +kernel)).1
  have o5 : h_i h2 19 5 = h_i h1 19 5 := (f2.2 19 5 (by decide +kernel)).1
  have e5 : ∀ k, h_i h2 85 k = h_i h1 85 k := fun k => fr_i f2 (by decide +kernel) k
  have e6 : ∀ k, h_i h2 86 k = h_i h1 86 k := fun k => fr_i f2 (by decide +kernel) k
  have e7 : ∀ k, h_i h1 278 k = h_i h 278 k := fun k => fr_i f1 (by decide +kernel) k
  have e8 : ∀ k, h_i h1 279 k = h_i h 279 k := fun k => fr_i f1 (by decide +kernel) k
  have ok2 := ok_eq (m := h_i h 1 101) (x2 := x2) b2.2
  have ok3 := ok_eq (m := h_i h 1 102) (x2 := x2) b3.2
  have E : (∀ k : Nat, k < 8 → h_i h2 85 k = h_i h2 278 k ∧ h_i h2 86 k = h_i h2 279 k) ∧ Gx h2 := by
    have rx := k1.2.2.2
    have rm := k2.2.2.2
    unfold RgX at rx
    unfold RgM at rm
    rw [m1, m2] at rm
    rw [ea, eb] at rx
    have st : h_i h1 19 5 = 1 → Gx h2 := fun s => ⟨by rw [o4]; exact L.2.2.2.2.2.2.2.1, fun t => by rw [o5, s] at t; exact absurd t (by decide)⟩
    rcases rx with ⟨a, b, c, d, s⟩ | ⟨a, b, c, d, s⟩ | ⟨a, b, c⟩
    · rcases rm with ⟨a', b', c', d'⟩ | ⟨a', b', c', d'⟩ | ⟨a', b', c'⟩
      · exact ⟨fun k hk => by rw [e5, e6, c', d', c, d, e7, e8, (L.2.2.2.2.2.2.1 k hk).1, (L.2.2.2.2.2.2.1 k hk).2]; exact ⟨rfl, rfl⟩, st s⟩
      · exact absurd a a'
      · exact absurd (ok3.mp b) (a' a)
    · rcases rm with ⟨a', b', c', d'⟩ | ⟨a', b', c', d'⟩ | ⟨a', b', c'⟩
      · exact absurd a' a
      · exact ⟨fun k hk => by rw [e5, e6, c', d', c, d, e7, e8, (L.2.2.2.2.2.2.1 k hk).1, (L.2.2.2.2.2.2.1 k hk).2]; exact ⟨rfl, rfl⟩, st s⟩
      · exact absurd (ok2.mp b) (b' a)
    · rcases rm with ⟨a', b', c', d'⟩ | ⟨a', b', c', d'⟩ | ⟨a', b', c'⟩
      · exact absurd (ok3.mpr b') (a a')
      · exact absurd (ok2.mpr b') (b a')
      · rw [c', c]
        exact L.2.2.2.2.2.2
  refine ((L.z.fr k1.1 f1 (by decide +kernel)).fr k2.1 f2 (by decide +kernel)).li (fun q hq => ?_) ⟨(L.2.2.2.2.2.1.fr f1 (by decide +kernel)).fr f2 (by decide +kernel), E⟩
  rcases List.mem_cons.mp hq with y | y
  · rw [y]
    show h_i h2 19 2 = h_i h2 1 101
    rw [(f2.2 19 2 (by decide +kernel)).1]
    exact z.1
  · rcases List.mem_cons.mp y with y | y
    · rw [y]
      show h_i h2 19 3 = h_i h2 1 102
      rw [(f2.2 19 3 (by decide +kernel)).1]
      exact z.2
    · rw [List.mem_singleton.mp y]
      show h_i h2 19 4 = h_i h2 1 103
      rw [o4, (f2.2 1 103 (by decide +kernel)).1, (f1.2 1 103 (by decide +kernel)).1]
      exact ec
theorem c_lsX (d : Nat) {h : Hp_} (I : Iv h) (x1 : Int32) : Ci (m_X11_least (d + 1) 0 0) [.ref 0, .int x1] h (fun _ h' => Iv h' ∧ Fr [19004, 19005] h h' ∧ (((1 ≤ x1 ∧ x1 ≤ 5) ∧ h_i h' 19 4 = x1 ∧ h_i h' 19 5 = 1) ∨ (¬ (1 ≤ x1 ∧ x1 ≤ 5) ∧ h' = h))) := by
  refine t_X11_least d h I.1 x1 _ ⟨fun z => ⟨I, Fr.rf _ _, Or.inr ⟨z, rfl⟩⟩, fun z => ?_⟩
  refine t_X3_setLeast d h I.1 x1 _ ?_
  have I2 : Iv (h_im (h_im h 19 4 x1) 19 5 1) := (I.im (by rw [show tf 19 4 = rtop by decide +kernel]; exact rtop_in _) (by decide)).im (by rw [show tf 19 5 = (0, 1) by decide +kernel]; exact ⟨by decide, by decide⟩) (by decide)
  exact ⟨I2.1, fun y => absurd y (by decide), fun _ => ⟨I2, ((Fr.rf _ _).im (by decide +kernel)).im (by decide +kernel), Or.inl ⟨z, by rw [h_i_im, if_neg (fun y => absurd y.2 (by decide)), im_at], im_at⟩⟩⟩
theorem c_lsM (d : Nat) {h : Hp_} (I : Iv h) (x1 : Int32) : Ci (m_X12_least (d + 1) 0 0) [.ref 1, .int x1] h (fun _ h' => Iv h' ∧ Fr [1103] h h' ∧ (((1 ≤ x1 ∧ x1 ≤ 5) ∧ h_i h' 1 103 = x1) ∨ (¬ (1 ≤ x1 ∧ x1 ≤ 5) ∧ h' = h))) :=
  t_X12_least d h I.1 x1 _ ⟨fun z => ⟨I.im (by rw [show tf 1 103 = rtop by decide +kernel]; exact rtop_in _) (by decide), (Fr.rf _ _).im (by decide +kernel), Or.inl ⟨z, im_at⟩⟩, fun z => ⟨I, Fr.rf _ _, Or.inr ⟨z, rfl⟩⟩⟩
theorem Li.ls {N : Nat} {h h1 h2 : Hp_} {x1 : Int32} (L : Li N h) (k1 : Iv h1 ∧ Fr [19004, 19005] h h1 ∧ (((1 ≤ x1 ∧ x1 ≤ 5) ∧ h_i h1 19 4 = x1 ∧ h_i h1 19 5 = 1) ∨ (¬ (1 ≤ x1 ∧ x1 ≤ 5) ∧ h1 = h))) (k2 : Iv h2 ∧ Fr [1103] h1 h2 ∧ (((1 ≤ x1 ∧ x1 ≤ 5) ∧ h_i h2 1 103 = x1) ∨ (¬ (1 ≤ x1 ∧ x1 ≤ 5) ∧ h2 = h1))) : Li N h2 := by
  have f1 := k1.2.1
  have f2 := k2.2.1
  rcases k1.2.2 with ⟨a, b, c⟩ | ⟨a, b⟩ <;> rcases k2.2.2 with ⟨a', b'⟩ | ⟨a', b'⟩
  · have o4 : h_i h2 19 4 = x1 := ((f2.2 19 4 (by decide +kernel)).1).trans b
    have o5 : h_i h2 19 5 = 1 := ((f2.2 19 5 (by decide +kernel)).1).trans c
    refine ((L.z.fr k1.1 f1 (by decide +kernel)).fr k2.1 f2 (by decide +kernel)).li (fun q hq => ?_) ⟨(L.2.2.2.2.2.1.fr f1 (by decide +kernel)).fr f2 (by decide +kernel), Ex.rows (Ex.rows L.2.2.2.2.2.2.1 f1 (by decide +kernel)) f2 (by decide +kernel), by rw [o4]; exact q_le.mp a.1, fun t => by rw [o5] at t; exact absurd t (by decide)⟩
    by_cases y : q = ((19, 4), 103)
    · rw [y]
      show h_i h2 19 4 = h_i h2 1 103
      rw [o4, b']
    · exact ((Rlf.fr (rl := rl.filter (fun q => !decide (q = ((19, 4), 103)))) (fun q hq => L.2.2.2.2.1 q (List.mem_filter.mp hq).1) f1 (by decide +kernel)).fr f2 (by decide +kernel)) q (List.mem_filter.mpr ⟨hq, by rw [decide_eq_false y]; rfl⟩)
  · exact absurd a a'
  · exact absurd a' a
  · rw [b', b]
    exact L
