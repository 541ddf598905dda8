section
/-! the law, on every script -/
def lX (L : Nat) (xs : Nat → Int32) : (Nat → Nat) → (Nat → Prop) → State → Prop := fun ad A s => va_X (ad 1100) L xs s s.heap ∧ ad 1100 < s.heap.size ∧ ¬ A (ad 1100) ∧ Zx A s
abbrev ML (L : Nat) (xs : Nat → Int32) : Mc_ := (lX L xs, x, code, 7, ret, room_1)
theorem xsL {L : Nat} {xs : Nat → Int32} : xs_ (ML L xs) := fun ad ad' A s he hX => by
  have e := he 1100 (by decide)
  show va_X (ad' 1100) L xs s s.heap ∧ ad' 1100 < s.heap.size ∧ ¬ A (ad' 1100) ∧ Zx A s
  rw [e]
  exact hX
section SCR
variable {L : Nat} {xs : Nat → Int32} {kc ks pc : Nat} {lv : List (Nat × Value)} {st : List Value} {h : Hp_} {K : Option Value → Hp_ → Prop}
theorem aw_sld {i : Int32} (n : Nat) (hn : i.toNatClampNeg = n) (hin : vp_in i L) (hd : decode code pc = .ok (.iaload, 1)) (k : AW (ML L xs) kc ks (pc + 1) lv (.int (xs n) :: st) h K) : AW (ML L xs) kc ks pc lv (.int i :: .ref 1100 :: st) h K := by
  intro l p e s m args below meth c dC dI cy A ad0 adV ad dom0 dom H locs ls hf hX hT hE hW hS hl ho hs
  subst hn
  exact va_sld hf.1 hf.2.1 hX.1 hX.2.1 hX.2.2.1 hS hin hd (k l p e s m args below meth c dC dI cy A ad0 adV ad dom0 dom H locs ls hf hX hT hE hW hS hl ho (ok_c ok_i (ok_t (ok_t hs))))
theorem aw_slen (hd : decode code pc = .ok (.arraylength, 1)) (k : AW (ML L xs) kc ks (pc + 1) lv (.int (Int32.ofNat L) :: st) h K) : AW (ML L xs) kc ks pc lv (.ref 1100 :: st) h K := by
  intro l p e s m args below meth c dC dI cy A ad0 adV ad dom0 dom H locs ls hf hX hT hE hW hS hl ho hs
  exact va_slen hf.1 hf.2.1 hX.1 hX.2.1 hX.2.2.1 hS hd (k l p e s m args below meth c dC dI cy A ad0 adV ad dom0 dom H locs ls hf hX hT hE hW hS hl ho (ok_c ok_i (ok_t hs)))
abbrev lv5 (i : Nat) : List (Nat × Value) := [(0, .ref 1100), (1, .ref 0), (2, .ref 1), (3, .ref 2), (4, .int (Int32.ofNat i))]
theorem aw_arg {i j : Nat} {n : Int} {v : Int32} (d0 : decode code pc = .ok (.aload_n 0, 1)) (d1 : decode code (pc + 1) = .ok (.iload 4, 2)) (d2 : decode code (pc + 3) = .ok (.iconst n, 1)) (d3 : decode code (pc + 4) = .ok (.iadd, 1)) (d4 : decode code (pc + 5) = .ok (.iaload, 1)) (hv : Int32.ofInt n = v) (hj : Int32.ofNat i + v = Int32.ofNat (i + j)) (hL : i + j < L) (lL : L ≤ 3072) (k : AW (ML L xs) kc ks (pc + 6) (lv5 i) (.int (xs (i + j)) :: st) h K) : AW (ML L xs) kc ks pc (lv5 i) st h K := by
  refine aw_aload_n (i := 0) rfl d0 0 rfl ?_
  refine aw_iload d1 4 rfl ?_
  refine aw_iconst (v := v) d2 hv ?_
  refine aw_iadd d3 ?_
  refine aw_vi (v2 := Int32.ofNat (i + j)) hj ?_
  exact aw_sld (i + j) (on_k (by omega)) (on_in hL (by omega)) d4 k
theorem aw_arg2 {i j : Nat} {n : Int} {v r : Int32} (d0 : decode code pc = .ok (.aload_n 0, 1)) (d1 : decode code (pc + 1) = .ok (.iload 4, 2)) (d2 : decode code (pc + 3) = .ok (.iconst n, 1)) (d3 : decode code (pc + 4) = .ok (.iadd, 1)) (d4 : decode code (pc + 5) = .ok (.iaload, 1)) (hv : Int32.ofInt n = v) (hj : Int32.ofNat i + v = Int32.ofNat (i + j)) (hL : i + j < L) (lL : L ≤ 3072) (k : AW (ML L xs) kc ks (pc + 6) [(0, .ref 1100), (1, .ref 0), (2, .ref 1), (3, .ref 2), (4, .int (Int32.ofNat i)), (5, .int r)] (.int (xs (i + j)) :: st) h K) : AW (ML L xs) kc ks pc [(0, .ref 1100), (1, .ref 0), (2, .ref 1), (3, .ref 2), (4, .int (Int32.ofNat i)), (5, .int r)] st h K := by
  refine aw_aload_n (i := 0) rfl d0 0 rfl ?_
  refine aw_iload d1 4 rfl ?_
  refine aw_iconst (v := v) d2 hv ?_
  refine aw_iadd d3 ?_
  refine aw_vi (v2 := Int32.ofNat (i + j)) hj ?_
  exact aw_sld (i + j) (on_k (by omega)) (on_in hL (by omega)) d4 k
/-- a call whose answer is thrown away -/
theorem aw_Kp {M' : Mc_} {n idx ci N a : Nat} {c : Ctr} {T : u_T} (vs : List Value) (hC : Hc M' c) (ma : am h (vs.reverse ++ [.ref a]) c.1) (I : Iv h) (hp : hm h c.2.1) (hd : decode code pc = .ok (.invokevirtual idx, 3)) (hm : cV_ M' n) (hkc : kc_ ci (mY M').cls T N) (hs : h_sh h a = some (ci + 10, N)) (hlk : Cond.methodLink x.cls idx (mY M') ∈ lw_g) (hn : vs.length = n) (hz : ((mR M').frames + 1 ≤ 2048 ∧ 8 + (mN M' + 11) + (mR M').locals ≤ 84000) ∧ (mR M').cells = 0 ∧ (mR M').slots = 0) (hk : kc ≤ 494584 ∧ ks ≤ 7612352) (hr : ∃ g, c.2.2.1 = some (.inl g)) (hq : decode code (pc + 3) = .ok (.pop, 1))
    (k : ∀ h', Iv h' → Fr c.2.2.2.2 h h' → AW (ML L xs) kc ks (pc + 4) lv [] h' K) : AW (ML L xs) kc ks pc lv (vs.reverse ++ [.ref a]) h K := by
  refine aw_Vk (M := ML L xs) (M' := M') vs hC ma I hp hd hm hkc hs hlk hn (by decide) ⟨hz.1, hz.2.1, hz.2.2, xsL⟩ hk (fun v h' kv => ?_)
  obtain ⟨⟨r, s, gh⟩, eg⟩ := hr
  have q := kv.2.2.2
  rw [eg] at q
  obtain ⟨x2, ev, y2, ey, _⟩ := q
  subst ev
  subst ey
  exact aw_pop hq rfl (k h' kv.1 kv.2.1)
theorem aw_Kv {M' : Mc_} {n idx ci N a : Nat} {c : Ctr} {T : u_T} (vs : List Value) (hC : Hc M' c) (ma : am h (vs.reverse ++ [.ref a]) c.1) (I : Iv h) (hp : hm h c.2.1) (hd : decode code pc = .ok (.invokevirtual idx, 3)) (hm : cV_ M' n) (hkc : kc_ ci (mY M').cls T N) (hs : h_sh h a = some (ci + 10, N)) (hlk : Cond.methodLink x.cls idx (mY M') ∈ lw_g) (hn : vs.length = n) (hz : ((mR M').frames + 1 ≤ 2048 ∧ 8 + (mN M' + 11) + (mR M').locals ≤ 84000) ∧ (mR M').cells = 0 ∧ (mR M').slots = 0) (hk : kc ≤ 494584 ∧ ks ≤ 7612352) (hr : c.2.2.1 = none)
    (k : ∀ h', Iv h' → Fr c.2.2.2.2 h h' → AW (ML L xs) kc ks (pc + 3) lv [] h' K) : AW (ML L xs) kc ks pc lv (vs.reverse ++ [.ref a]) h K := by
  refine aw_Vk (M := ML L xs) (M' := M') vs hC ma I hp hd hm hkc hs hlk hn (by decide) ⟨hz.1, hz.2.1, hz.2.2, xsL⟩ hk (fun v h' kv => ?_)
  have q := kv.2.2.2
  rw [hr] at q
  have ev : v = none := q
  subst ev
  exact k h' kv.1 kv.2.1
end SCR
abbrev k1_ : Option Value → Hp_ → Prop := fun v _ => v = some (.int 1)
theorem oa_1 {n : Nat} (h : n < 100000) : Int32.ofNat n + 1 = Int32.ofNat (n + 1) := on_s (by omega)
theorem oa_2 {n : Nat} (h : n < 100000) : Int32.ofNat n + 2 = Int32.ofNat (n + 2) := on_2 h
theorem oa_3 {n : Nat} (h : n < 100000) : Int32.ofNat n + 3 = Int32.ofNat (n + 3) := on_3 h
theorem oa_4 {n : Nat} (h : n < 100000) : Int32.ofNat n + 4 = Int32.ofNat (n + 4) := by
  have t : (4 : Int32).toInt = 4 := rfl
  have a := on_j (n := n) (by omega)
  exact Int32.toInt_inj.mp (by rw [tx_add (by rw [t]; omega) (by rw [t]; omega), t, on_j (n := n + 4) (by omega)]; omega)
theorem oa_5 {n : Nat} (h : n < 100000) : Int32.ofNat n + 5 = Int32.ofNat (n + 5) := by
  have t : (5 : Int32).toInt = 5 := rfl
  have a := on_j (n := n) (by omega)
  exact Int32.toInt_inj.mp (by rw [tx_add (by rw [t]; omega) (by rw [t]; omega), t, on_j (n := n + 5) (by omega)]; omega)
theorem oa_6 {n : Nat} (h : n < 100000) : Int32.ofNat n + Int32.ofInt 6 = Int32.ofNat (n + 6) := by
  have t : (Int32.ofInt 6).toInt = 6 := by decide
  have a := on_j (n := n) (by omega)
  exact Int32.toInt_inj.mp (by rw [tx_add (by rw [t]; omega) (by rw [t]; omega), t, on_j (n := n + 6) (by omega)]; omega)
/-! the room: what the history's rows have cost so far -/
def ph (N : Nat) : Nat := if N = 20000 then 60000 else 2 * N
theorem ph_le {N : Nat} (h : N ≤ 20000) : ph N ≤ 60000 := by
  unfold ph
  split <;> omega
def Rm (t N kc ks : Nat) : Prop := kc ≤ 202 + t ∧ ks ≤ 318709 + 17 * t + ph N ∧ N ≤ 20000
theorem Rm.up {t N kc ks : Nat} (R : Rm t N kc ks) : Rm (t + 1) N kc ks := ⟨by have := R.1; omega, by have := R.2.1; omega, R.2.2⟩
theorem Rm.con {t N kc ks : Nat} (R : Rm t N kc ks) : Rm (t + 1) N (kc + 1) (ks + 17) := ⟨by have := R.1; omega, by have := R.2.1; omega, R.2.2⟩
theorem Rm.abt {t N kc ks : Nat} (R : Rm t N kc ks) : Rm (t + 1) N (kc + 1) (ks + 6) := ⟨by have := R.1; omega, by have := R.2.1; omega, R.2.2⟩
theorem hcost_le {mc ms N N' : Nat} (h : hcost mc ms N N') (l : N' ≤ 20000) : mc ≤ 1 ∧ ms ≤ 20000 := by
  rcases h with ⟨a, b, c⟩ | ⟨a, b, c, d⟩
  · omega
  · omega
theorem Rm.tick {t N N' kc ks mc ms : Nat} (R : Rm t N kc ks) (h : hcost mc ms N N') (l : N' ≤ 20000) : Rm (t + 1) N' (kc + mc) (ks + ms) := by
  obtain ⟨r1, r2, r3⟩ := R
  rcases h with ⟨a, b, c⟩ | ⟨a, b, c, d⟩
  · subst c
    exact ⟨by omega, by omega, l⟩
  · refine ⟨by omega, ?_, l⟩
    have p : ph N = 2 * N := by
      unfold ph
      rw [if_neg (by omega)]
    rw [p] at r2
    unfold ph
    split
    · omega
    · omega
theorem Rm.ok {t N kc ks : Nat} (R : Rm t N kc ks) (h : t ≤ 600) : kc + 20 ≤ 494584 ∧ ks + 20020 ≤ 7612352 := by
  have p := ph_le R.2.2
  have r1 := R.1
  have r2 := R.2.1
  exact ⟨by omega, by omega⟩
theorem wLa_g : wLa ∈ lw_g := lw_c7 223 (by decide +kernel) (by decide +kernel)
theorem aw_Lb {L : Nat} {xs : Nat → Int32} {kc ks pc : Nat} {lv : List (Nat × Value)} {h : Hp_} {K : Option Value → Hp_ → Prop} (I : Iv h) (mw : Mrw h) (s2 : h_sh h 2 = some (3, 1)) (x1 x2 : Int32) (hd : decode code pc = .ok (.invokestatic 75, 3)) (hk : kc + 1 ≤ 494584 ∧ ks + 6 ≤ 7612352) (k : ∀ r h', Iv h' → Fr [2999] h h' → ((r = 0 ∧ okAb h x1 x2 ∧ h_l h' 2 0 = (abV (h_i h (401 + x1.toNatClampNeg)) x2).toInt64) ∨ (r = 1 ∧ ¬ okAb h x1 x2)) → AW (ML L xs) (kc + 1) (ks + 6) (pc + 3) lv [.int r] h' K) : AW (ML L xs) kc ks pc lv [.ref 2, .int x2, .int x1, .ref 0] h K := by
  intro l p e s m args below meth c dC dI cy A ad0 adV ad dom0 dom H locs ls hf hX hT hE hW hS hl ho hs
  have htg := hf.2.2.2.2.2.2.2.1
  refine aw_back (K' := kLb h x1 x2) (rest := []) (a := ([Value.ref 0, .int x1, .int x2, .ref 2].map (h_cv ad)).toArray) (mc := 1) (ms := 6) xsL hf hX hT hE hW hS hl ho (fun v hv => by cases hv) ?_ (fun v h' kk => ?_)
  · have hws : ∀ w ∈ wLa :: lw_g, ∀ (a' : Array Value) (U : State), s.WarmedH U.vm → w.before a' U = true := fun w hw a' U hWm => by
      have hw' : w ∈ lw_g := (List.mem_cons.mp hw).elim (fun e => e ▸ wLa_g) id
      exact word_at hWm (good_of_word (List.mem_filter.mp hw').2) (htg w hw')
    have hlen : ∀ sig, parseMethodDescriptor yLa.desc = some sig → 4 = sig.parameters.length := fun sig h => by
      have h2 : (parseMethodDescriptor "(LCountyWatch;II[J)I").map (fun d => d.parameters.length) = some 4 := by decide +kernel
      rw [h] at h2
      exact (Option.some.inj h2).symm
    exact vx_runSW (As := [Value.ref 0, .int x1, .int x2, .ref 2].map (h_cv ad)) ⟨hf.1, hf.2.1, hf.2.2.1, hf.2.2.2.2.2.1, htg⟩ (xl_met2 l dC dI cy ad adV dom H.size I mw s2 hW.1 x1 x2) ⟨⟨rfl, rfl, show 20 + 1 ≤ 2048 from by decide, show 8 + (5 + 11) + 2000 ≤ 84000 from by decide +kernel, hws, List.mem_cons_self⟩, htg _ wLa_g, htg _ tw_0, ⟨by decide, by decide⟩, hlen, htg _ tw_1661, htg _ tw_1662⟩ ⟨cz_blind, fun U hU hWm => ⟨rfl, cp_pre hf hT hW hS hU hWm, hX.2.2.2.go hS hU hWm (cp_sub hf.2.2.2.2.2.2.2.2.2 hW hS)⟩⟩ rfl rfl hl.1 rfl (lv_room (Nat.le_of_ble_eq_true rfl)) hd hk
  · obtain ⟨⟨r, er, c9⟩, I', F'⟩ := kk
    subst er
    exact k r h' I' F' c9
/-! what else is kept: points met and missed, years -/
def Qe (h : Hp_) : Prop := ExN h
def exoE (ws : List Nat) : Bool := exoY ws
theorem qe_F : Qe HF := exN_F
theorem Qe.fr {ws : List Nat} {h h' : Hp_} (e : Qe h) (f : Fr ws h h') (o : exoE ws = true) : Qe h' := ExN.fr e f o
theorem fDw_2 {n : Int32} {w : Int32 → Int32 → Int32} {x2 x3 : Int32} {M : Nat → Int32} : (fDw n w x2 x3 M).1 2 = M 2 := by
  unfold fDw
  show (if (fDp 3 M).1 6 = -1 then _ else _ : Nat → Int32) 2 = M 2
  split
  · refine ((Rk.dr (m := 0)).1 2 (by decide)).trans ?_
    show (fDp 3 M).1 2 = M 2
    exact fDp_k (by decide) (by decide) (by decide)
  · show (fDp 3 M).1 2 = M 2
    exact fDp_k (by decide) (by decide) (by decide)
theorem Qe.dw {h h1 h2 : Hp_} {x1 x2 x3 r1 r2 : Int32} (e : Qe h) (I : Iv h) (x : ExM h) (f : Fr wMx h h1) (k1 : DxX x1 x2 x3 h r1 h1) (_ : DwP PU (fun _ _ b => b) x1 x2 x3 (h_i h (401 + x1.toNatClampNeg)) () h1 r2 h2) (f2 : Fr mwR h1 h2) : Qe h2 := by
  by_cases c : isM h x1 ∧ okDw h (h_i h (401 + x1.toNatClampNeg)) x2 x3
  · have hj := (x.rk I c.1).1
    exact ExN.ev e x hj f f2 (k1.1 c).2 dp_ev (dp_le (cz := 3) (x.2.2.1 _ hj).1 (rwX_in I).1) dw_c.1 dw_c.2 fDw_2
  · have z := (k1.2 c).2
    subst z
    exact ExN.fr e f2 (by decide +kernel)
theorem Qe.il {h h1 h2 : Hp_} {x1 x2 r1 r2 : Int32} (e : Qe h) (I : Iv h) (x : ExM h) (f : Fr wMx h h1) (b2 : x2 = 0 ∨ x2 = 1) (k1 : IxX x1 x2 h r1 h1) (_ : IxM x1 x2 (h_i h (401 + x1.toNatClampNeg)) h1 r2 h2) (f2 : Fr mwR h1 h2) : Qe h2 := by
  rcases il_cs (P := isM h x1) (Q := h_i h (401 + x1.toNatClampNeg) 4 = 4) b2 with c | c | c
  · have hj := (x.rk I c.1).1
    exact ExN.ev e x hj f f2 (k1.1 c).2 dp_ev (dp_le (cz := 4) (x.2.2.1 _ hj).1 (rwX_in I).1) (dp_c (cz := 4)).1 (dp_c (cz := 4)).2 (fDp_k (by decide) (by decide) (by decide))
  · have hj := (x.rk I c.1).1
    exact ExN.ev e x hj f f2 (k1.2.1 c).2 (fun e he => (by cases he)) (Or.inl rfl) (i_0 _).symm (i_0 _).symm rfl
  · have z := (k1.2.2 c).2
    subst z
    exact ExN.fr e f2 (by decide +kernel)
theorem Qe.bg {h h1 h2 : Hp_} {x1 x2 r1 r2 : Int32} (e : Qe h) (I : Iv h) (x : ExM h) (f : Fr wBx h h1) (k1 : BgX x1 x2 h r1 h1) (k2 : BgM x1 x2 h h1 r2 h2) (f2 : Fr mwB h1 h2) : Qe h2 := ExN.bg e I x f k1 k2 f2
theorem Qe.tk {h h1 h2 : Hp_} {x1 r1 r2 : Int32} {N' : Nat} (e : Qe h) (I : Iv h) (x : ExM h) (R : ExR h) (S : ExS h) (k1 : Tkx PU lU tU nU (h_i h 0 7).toNatClampNeg N' (sX h) x1 h r1 h1) (k2 : Tkm PU lU tU nU (h_i h 0 7).toNatClampNeg (h_i h 16 7).toNatClampNeg (sX h) x1 h1 r2 h2) : Qe h2 := ExN.tk e I x R S k1 k2
theorem Qe.cn {h h1 h2 : Hp_} {x1 x2 x3 r1 r2 : Int32} (e : Qe h) (I : Iv h) (x : ExM h) (k1 : Cy x1 x2 x3 h r1 h1 ∧ CyA x1 x2 x3 h h1) (k2 : ocm (h_i h1 1 7) x1 x2 x3 r2 (h_i h2 1 7) ∧ CwA x1 x2 x3 h1 h2) (_ : Sn h1 h2) : Qe h2 := ExN.cn e I x k1 k2
/-! what is kept besides the tape and the beats: roads, steps, men -/
def Qx (h : Hp_) : Prop := ExR h ∧ ExS h ∧ ExM h ∧ Qe h
def qxo (ws : List Nat) : Bool := exoR ws && exoS ws && exoM ws && exoE ws
theorem qx_F : Qx HF := ⟨exR_F, exS_F, exM_F, qe_F⟩
theorem Qx.fr {ws : List Nat} {h h' : Hp_} (e : Qx h) (f : Fr ws h h') (o : qxo ws = true) : Qx h' := by
  unfold qxo at o
  simp only [Bool.and_eq_true] at o
  exact ⟨e.1.fr f o.1.1.1, e.2.1.fr f o.1.1.2, e.2.2.1.fr f o.1.2, e.2.2.2.fr f o.2⟩
def Li (N : Nat) (h : Hp_) : Prop := Iv h ∧ J2 h ∧ h_sh h 2 = some (3, 1) ∧ (∃ c, h_r h 0 15 = some c ∧ h_sh h c = some (3, N)) ∧ (Rlf rlT h ∧ MefT h) ∧ Qx h
theorem Li.t {N : Nat} {h : Hp_} (L : Li N h) : LiT N h := ⟨L.1, L.2.1, L.2.2.1, L.2.2.2.1, L.2.2.2.2.1.1, L.2.2.2.2.1.2⟩
theorem Li.q {N : Nat} {h : Hp_} (L : Li N h) : Qx h := L.2.2.2.2.2
theorem LiT.mk {N : Nat} {h : Hp_} (T : LiT N h) (q : Qx h) : Li N h := ⟨T.1, T.2.1, T.2.2.1, T.2.2.2.1, ⟨T.2.2.2.2.1, T.2.2.2.2.2⟩, q⟩
theorem Li.z {N : Nat} {h : Hp_} (L : Li N h) : Li0 N h := ⟨L.1, L.2.1, L.2.2.1, L.2.2.2.1⟩
theorem li_F : Li 0 HF := liT_F.mk qx_F
theorem Li.fr {N : Nat} {ws : List Nat} {h h' : Hp_} (L : Li N h) (I : Iv h') (f : Fr ws h h') (o : (((jso ws && !inw ws 0 15) && rlT.all (fun q => !inw ws q.1.1 q.1.2 && !inw ws 1 q.2) && (!inw ws 0 7 && off ws 15 && exoTB ws)) && qxo ws) = true) : Li N h' := by
  rw [Bool.and_eq_true] at o
  exact (L.t.fr I f o.1).mk (L.q.fr f o.2)
theorem Li.fd {N : Nat} {h h1 h2 : Hp_} {r1 r2 : Int32} {L0 : List Int32} (L : Li N h) (k1 : Iv h1 ∧ Fr [11001, 31999] h h1 ∧ Fdx L0 h r1 h1) (k2 : Iv h2 ∧ Fr [1032, 225999] h1 h2 ∧ Fdm L0 h1 r2 h2) : Li N h2 ∧ r1 = r2 := by
  have z := L.t.fd k1 k2
  exact ⟨z.1.mk ((L.q.fr k1.2.1 (by decide +kernel)).fr k2.2.1 (by decide +kernel)), z.2⟩
theorem Li.en {N : Nat} {h h1 h2 : Hp_} {x1 r1 r2 : Int32} (L : Li N h) (k1 : Iv h1 ∧ Fr [11001] h h1 ∧ (((0 ≤ x1 ∧ x1 ≤ h_i h 11 1) ∧ r1 = 1 ∧ h1 = h_im h 11 1 x1) ∨ (¬ (0 ≤ x1 ∧ x1 ≤ h_i h 11 1) ∧ r1 = 0 ∧ h1 = h))) (k2 : Iv h2 ∧ Fr [1032] h1 h2 ∧ (((0 ≤ x1 ∧ x1 ≤ h_i h1 1 32) ∧ r2 = 1 ∧ h2 = h_im h1 1 32 x1) ∨ (¬ (0 ≤ x1 ∧ x1 ≤ h_i h1 1 32) ∧ r2 = 0 ∧ h2 = h1))) : Li N h2 ∧ r1 = r2 := by
  have z := L.t.en k1 k2
  exact ⟨z.1.mk ((L.q.fr k1.2.1 (by decide +kernel)).fr k2.2.1 (by decide +kernel)), z.2⟩
theorem Li.act {N : Nat} {h h1 h2 : Hp_} {x1 r1 r2 : Int32} (L : Li N h) (k1 : Iv h1 ∧ Fr wrx_13 h h1 ∧ Rlx_13 x1 h r1 h1) (k2 : (Iv h2 ∧ Fr wzt h1 h2) ∧ Rlm (h_i h 31) (xn h) 0 x1 h1 r2 h2) : Li N h2 ∧ r1 = r2 := by
  have z := L.t.act k1 k2
  exact ⟨z.1.mk ((L.q.fr k1.2.1 (by decide +kernel)).fr k2.1.2 (by decide +kernel)), z.2⟩
theorem Li.pay {N : Nat} {h h1 h2 : Hp_} {x1 r1 r2 : Int32} (L : Li N h) (k1 : Iv h1 ∧ Fr wrx_14 h h1 ∧ Rlx_14 x1 h r1 h1) (k2 : (Iv h2 ∧ Fr wzt h1 h2) ∧ Rlm (h_i h 31) (xn h) 1 x1 h1 r2 h2) : Li N h2 ∧ r1 = r2 := by
  have z := L.t.pay k1 k2
  exact ⟨z.1.mk ((L.q.fr k1.2.1 (by decide +kernel)).fr k2.1.2 (by decide +kernel)), z.2⟩
theorem Li.pt {N : Nat} {h h1 h2 : Hp_} {x1 x2 x3 r1 r2 : Int32} (L : Li N h) (k1 : Iv h1 ∧ PtX x1 x2 x3 h r1 h1) (k2 : Iv h2 ∧ PtM x1 x2 x3 h1 r2 h2) : Li N h2 ∧ r1 = r2 := by
  have z := ExR.pt L.1 L.q.1 k1.2 k2.2
  exact ⟨((L.t.fr k1.1 k1.2.1 (by decide +kernel)).fr k2.1 k2.2.1 (by decide +kernel)).mk ⟨z.1, (L.q.2.1.fr k1.2.1 (by decide +kernel)).fr k2.2.1 (by decide +kernel), L.q.2.2.1.pt L.1 k2.1 L.q.1 k1.2 k2.2, (L.q.2.2.2.fr k1.2.1 (by decide +kernel)).fr k2.2.1 (by decide +kernel)⟩, z.2⟩
theorem Li.bt {N : Nat} {h h1 h2 : Hp_} {r1 r2 : Int32} (L : Li N h) (k1 : Iv h1 ∧ Fr wbx h h1 ∧ Btx h r1 h1) (k2 : (Iv h2 ∧ J2 h2) ∧ Btm (h_i h 31) (xn h) h1 r2 h2) : Li N h2 ∧ r1 = r2 := by
  have z := L.t.bt k1 k2
  exact ⟨z.1.mk ⟨(L.q.1.fr k1.2.1 (by decide +kernel)).fr k2.2.1 (by decide +kernel), L.q.2.1.bt L.t k1 k2, L.q.2.2.1.bt L.t k1 k2, (L.q.2.2.2.fr k1.2.1 (by decide +kernel)).fr k2.2.1 (by decide +kernel)⟩, z.2⟩
theorem ExM.j2 {h : Hp_} (I : Iv h) (x : ExM h) (e : h_i h 12 3 = h_i h 1 42) : J2 h := j2_of (s := sX h) I (by rw [← x.1.1]; exact x.m I) x.1.2.2.2 (rwX_in I).1 (by rw [← e]; exact x.2.2.1) x.2.2.2.1
theorem Li.md {N : Nat} {h h1 h2 : Hp_} (L : Li N h) (I1 : Iv h1) (f : Fr wMx h h1) (z : Iv h2 ∧ Fr mwR h1 h2 ∧ ExM h2) (e9 : Qe h2) : Li N h2 := by
  have T1 : LiT N h1 := L.t.fr I1 f (by decide +kernel)
  have e : h_i h2 12 3 = h_i h2 1 42 := by
    rw [(z.2.1.2 12 3 (by decide +kernel)).1, (f.2 12 3 (by decide +kernel)).1, (z.2.1.2 1 42 (by decide +kernel)).1, (f.2 1 42 (by decide +kernel)).1]
    exact L.t.r2
  exact (T1.sr z.1 (z.2.2.j2 z.1 e) (z.2.1.more (by decide +kernel))).mk ⟨(L.q.1.fr f (by decide +kernel)).fr z.2.1 (by decide +kernel), (L.q.2.1.fr f (by decide +kernel)).fr z.2.1 (by decide +kernel), z.2.2, e9⟩
theorem Li.me {N : Nat} {h h1 h2 : Hp_} (L : Li N h) (I1 : Iv h1) (f : Fr wBx h h1) (z : Iv h2 ∧ Fr mwB h1 h2 ∧ ExM h2) (e9 : Qe h2) : Li N h2 := by
  have T1 : LiT N h1 := L.t.fr I1 f (by decide +kernel)
  have e : h_i h2 12 3 = h_i h2 1 42 := by
    rw [(z.2.1.2 12 3 (by decide +kernel)).1, (f.2 12 3 (by decide +kernel)).1, (z.2.1.2 1 42 (by decide +kernel)).1, (f.2 1 42 (by decide +kernel)).1]
    exact L.t.r2
  exact (T1.sr z.1 (z.2.2.j2 z.1 e) (z.2.1.more (by decide +kernel))).mk ⟨(L.q.1.fr f (by decide +kernel)).fr z.2.1 (by decide +kernel), (L.q.2.1.fr f (by decide +kernel)).fr z.2.1 (by decide +kernel), z.2.2, e9⟩
theorem c_dwL {N : Nat} (d : Nat) {h : Hp_} (I : Iv h) (L : Li N h) (x1 x2 x3 : Int32) : Ci (m_X11_draw (d + 5) 0 0) [.ref 0, .int x1, .int x2, .int x3] h (fun r h' => Iv h' ∧ Fr wMx h h' ∧ DxX x1 x2 x3 h r h') := c_dwX d I L.q.2.2.1 x1 x2 x3
theorem c_dwN {N : Nat} (d : Nat) {h h1 : Hp_} (I1 : Iv h1) (L : Li N h) (f : Fr wMx h h1) (x1 x2 x3 : Int32) : Ci (m_X12_draw (d + 5) 0 0) [.ref 1, .int x1, .int x2, .int x3] h1 (DwP PU (fun _ _ b => b) x1 x2 x3 (h_i h (401 + x1.toNatClampNeg)) () h1) := c_dwM d I1 L.1 L.q.2.2.1 L.q.1 f x1 x2 x3
theorem Li.dw {N : Nat} {h h1 h2 : Hp_} {x1 x2 x3 r1 r2 : Int32} (L : Li N h) (k1 : Iv h1 ∧ Fr wMx h h1 ∧ DxX x1 x2 x3 h r1 h1) (k2 : DwP PU (fun _ _ b => b) x1 x2 x3 (h_i h (401 + x1.toNatClampNeg)) () h1 r2 h2) : Li N h2 ∧ r1 = r2 := by
  have z := ExM.dw L.1 L.q.2.2.1 L.q.1 k1.2.1 k1.2.2 k2
  exact ⟨L.md k1.1 k1.2.1 ⟨z.1, z.2.1, z.2.2.1⟩ (L.q.2.2.2.dw L.1 L.q.2.2.1 k1.2.1 k1.2.2 k2 z.2.1), z.2.2.2⟩
theorem c_ilL {N : Nat} (d : Nat) {h : Hp_} (I : Iv h) (L : Li N h) (x1 x2 : Int32) (b2 : x2 = 0 ∨ x2 = 1 := by decide) : Ci (m_X11_ill (d + 3) 0 0) [.ref 0, .int x1, .int x2] h (fun r h' => Iv h' ∧ Fr wMx h h' ∧ (x2 = 0 ∨ x2 = 1) ∧ IxX x1 x2 h r h') := Ci.mono (c_ilX d I L.q.2.2.1 x1 x2 b2) (fun _ _ k => ⟨k.1, k.2.1, b2, k.2.2⟩)
theorem c_ilN {N : Nat} (d : Nat) {h h1 : Hp_} (I1 : Iv h1) (L : Li N h) (f : Fr wMx h h1) (x1 x2 : Int32) (b2 : x2 = 0 ∨ x2 = 1 := by decide) : Ci (m_X12_ill (d + 2) 0 0) [.ref 1, .int x1, .int x2] h1 (IxM x1 x2 (h_i h (401 + x1.toNatClampNeg)) h1) := c_ilM d I1 L.1 L.q.2.2.1 f x1 x2 b2
theorem Li.il {N : Nat} {h h1 h2 : Hp_} {x1 x2 r1 r2 : Int32} (L : Li N h) (k1 : Iv h1 ∧ Fr wMx h h1 ∧ (x2 = 0 ∨ x2 = 1) ∧ IxX x1 x2 h r1 h1) (k2 : IxM x1 x2 (h_i h (401 + x1.toNatClampNeg)) h1 r2 h2) : Li N h2 ∧ r1 = r2 := by
  have z := ExM.il L.1 L.q.2.2.1 L.q.1 k1.2.1 k1.2.2.1 k1.1 k1.2.2.2 k2
  exact ⟨L.md k1.1 k1.2.1 ⟨z.1, z.2.1, z.2.2.1⟩ (L.q.2.2.2.il L.1 L.q.2.2.1 k1.2.1 k1.2.2.1 k1.2.2.2 k2 z.2.1), z.2.2.2⟩
theorem c_bgL {N : Nat} (d : Nat) {h : Hp_} (I : Iv h) (L : Li N h) (x1 x2 : Int32) : Ci (m_X11_begin (d + 6) 0 0) [.ref 0, .int x1, .int x2] h (fun r h' => Iv h' ∧ Fr wBx h h' ∧ BgX x1 x2 h r h') := c_bgX d I L.q.2.2.1 L.q.2.1 L.t.2.2.2.2.2.2.2 x1 x2
theorem c_bgN {N : Nat} (d : Nat) {h h1 : Hp_} (I1 : Iv h1) (L : Li N h) (f : Fr wBx h h1) (x1 x2 : Int32) : Ci (m_X12_begin (d + 4) 0 0) [.ref 1, .int x1, .int x2] h1 (BgM x1 x2 h h1) := c_bgM d I1 L.1 L.q.2.2.1 L.q.1 L.q.2.1 L.t.r2 f x1 x2
theorem Li.bg {N : Nat} {h h1 h2 : Hp_} {x1 x2 r1 r2 : Int32} (L : Li N h) (k1 : Iv h1 ∧ Fr wBx h h1 ∧ BgX x1 x2 h r1 h1) (k2 : BgM x1 x2 h h1 r2 h2) : Li N h2 ∧ r1 = r2 := by
  have z := ExM.bg L.1 L.q.2.2.1 L.q.1 L.q.2.1 k1.1 k1.2.1 k1.2.2 k2
  exact ⟨L.me k1.1 k1.2.1 ⟨z.1, z.2.1, z.2.2.1⟩ (L.q.2.2.2.bg L.1 L.q.2.2.1 k1.2.1 k1.2.2 k2 z.2.1), z.2.2.2⟩
theorem c_tkL {N : Nat} (d : Nat) {h : Hp_} (I : Iv h) (L : Li N h) (x1 : Int32) {c n : Nat} (hc : h_r h 0 15 = some c) (hs : h_sh h c = some (3, n)) (hN : n ≤ 20000) : ∃ mc ms N', N' ≤ 20000 ∧ hcost mc ms n N' ∧ Ci (m_X11_tick (d + 8) mc ms) [.ref 0, .int x1] h (Tkx PU lU tU nU (h_i h 0 7).toNatClampNeg N' (sX h) x1 h) := c_tkU d I L.q.2.2.1 L.q.1 L.q.2.1 (fun k hk => (L.t.2.2.2.2.2.2.2 k hk).1) x1 hc hs hN
theorem c_tmL {N : Nat} (d : Nat) {h h1 : Hp_} (I1 : Iv h1) (J1 : J2 h1) (L : Li N h) (f : Mf wsX h h1) (x1 : Int32) : Ci (m_X12_tick (d + 10) 0 0) [.ref 1, .int x1] h1 (Tkm PU lU tU nU (h_i h 0 7).toNatClampNeg (h_i h 16 7).toNatClampNeg (sX h) x1 h1) := c_tmU d I1 J1 L.1 L.q.2.2.1 L.q.1 L.q.2.1 L.t.r2 f x1
theorem Li.tk {N N' : Nat} {h h1 h2 : Hp_} {x1 r1 r2 : Int32} (L : Li N h) (k1 : Tkx PU lU tU nU (h_i h 0 7).toNatClampNeg N' (sX h) x1 h r1 h1) (k2 : Tkm PU lU tU nU (h_i h 0 7).toNatClampNeg (h_i h 16 7).toNatClampNeg (sX h) x1 h1 r2 h2) : Li N' h2 := (L.t.tick2 k1.1 k2.1).mk ⟨(L.q.1.mf k1.1.2.1 (by decide +kernel)).fr k2.1.2.2.1 (by decide +kernel), (L.q.2.1.mf k1.1.2.1 (by decide +kernel)).fr k2.1.2.2.1 (by decide +kernel), ExM.tk L.1 L.q.2.2.1 L.q.1 L.q.2.1 k1 k2, L.q.2.2.2.tk L.1 L.q.2.2.1 L.q.1 L.q.2.1 k1 k2⟩
theorem Li.cn {N : Nat} {h h1 h2 : Hp_} {x1 x2 x3 r1 r2 : Int32} (L : Li N h) (k1 : Cy x1 x2 x3 h r1 h1 ∧ CyA x1 x2 x3 h h1) (k2 : Iv h2 ∧ J2 h2 ∧ Sn h1 h2 ∧ ocm (h_i h1 1 7) x1 x2 x3 r2 (h_i h2 1 7) ∧ Cw (okm (h_i h1 1 7) x1 x2 x3) (h_i h1 1 7) x1 h1 h2 ∧ CwA x1 x2 x3 h1 h2) : Li N h2 := (L.t.con2 k1.1 ⟨k2.1, k2.2.1, k2.2.2.1, k2.2.2.2.1, k2.2.2.2.2.1⟩).mk ⟨(L.q.1.mf k1.1.1.2.1 (by decide +kernel)).fr k2.2.2.1 (by decide +kernel), (L.q.2.1.mf k1.1.1.2.1 (by decide +kernel)).fr k2.2.2.1 (by decide +kernel), (ExM.cn L.1 L.q.2.2.1 L.q.1 k1 ⟨k2.2.2.2.1, k2.2.2.2.2.2⟩).1, L.q.2.2.2.cn L.1 L.q.2.2.1 k1 ⟨k2.2.2.2.1, k2.2.2.2.2.2⟩ k2.2.2.1⟩
/-! ABOUT -/
theorem lgc_rf (x : Int64) : lg_cmp x x = 0 := by
  unfold lg_cmp
  rw [if_neg (show ¬ x > x from Int64.lt_irrefl), if_pos rfl]
theorem ab_cm {h h1 h2 : Hp_} {x1 x2 r1 r2 : Int32} (I : Iv h) (x : ExM h) (F1 : Fr [2999] h h1) (F2 : Fr [1001] h1 h2) (k1 : (r1 = 0 ∧ okAb h x1 x2 ∧ h_l h1 2 0 = (abV (h_i h (401 + x1.toNatClampNeg)) x2).toInt64) ∨ (r1 = 1 ∧ ¬ okAb h x1 x2)) (k2 : (okAb h1 x1 x2 → h_i h2 1 1 = 0 ∧ r2 = abV (h_i h1 (401 + x1.toNatClampNeg)) x2) ∧ (¬ okAb h1 x1 x2 → h_i h2 1 1 = 1 ∧ r2 = 0)) : h_i h2 1 1 = r1 ∧ (r1 = 0 → lg_cmp (h_l h2 2 (0 : Int32).toNatClampNeg) r2.toInt64 = 0) := by
  have n7 : h_i h1 0 7 = h_i h 0 7 := (F1.2 0 7 (by decide +kernel)).1
  have q : okAb h1 x1 x2 ↔ okAb h x1 x2 := by
    unfold okAb isM
    rw [n7]
  rcases k1 with ⟨e, ok, v⟩ | ⟨e, no⟩
  · have z := k2.1 (q.mpr ok)
    have hj := (x.rk I ok.1).1
    have m12 := x.1.2.2.2
    have cM : h_i h1 (401 + x1.toNatClampNeg) = h_i h (401 + x1.toNatClampNeg) := funext (fun k => (F1.2 _ k (by
      rw [inw_ce (b := 401) ((cn_man (by omega)).trans (by decide))]
      exact off_inw (by decide +kernel) k)).1)
    rw [cM] at z
    have l2 : h_l h2 2 0 = h_l h1 2 0 := (F2.2 2 0 (by decide +kernel)).2.1
    refine ⟨by rw [z.1, e], fun _ => ?_⟩
    show lg_cmp (h_l h2 2 0) r2.toInt64 = 0
    rw [l2, v, z.2, lgc_rf]
  · have z := k2.2 (fun y => no (q.mp y))
    exact ⟨by rw [z.1, e], fun y => absurd (e.symm.trans y) (by decide)⟩
end
section
theorem lc_0 {L t N kc ks : Nat} {xs : Nat → Int32} {h : Hp_} (hL : 6 * t + 6 ≤ L) (lL : L ≤ 3072) (L0 : Li N h) (R : Rm t N kc ks) (O : ∀ N kc ks h, Li N h → Rm (t + 1) N kc ks → AW (ML L xs) kc ks 2434 (lv5 (6 * t)) [] h k1_) : AW (ML L xs) kc ks 284 (lv5 (6 * t)) [] h k1_ := by
  have hk := R.ok (by omega)
  refine aw_aload_n (i := 1) rfl d_L_284 1 rfl ?_
  refine aw_arg (j := 1) d_L_285 d_L_286 d_L_288 d_L_289 d_L_290 ic_1 (oa_1 (by omega)) (by omega) lL ?_
  refine aw_arg (j := 2) d_L_291 d_L_292 d_L_294 d_L_295 d_L_296 ic_2 (oa_2 (by omega)) (by omega) lL ?_
  refine aw_arg (j := 3) d_L_297 d_L_298 d_L_300 d_L_301 d_L_302 ic_3 (oa_3 (by omega)) (by omega) lL ?_
  refine aw_Vi 0 [.int (xs (6 * t + 1)), .int (xs (6 * t + 2)), .int (xs (6 * t + 3))] [] d_L_303 (cV_X11_path (0 + 2) 0 0) kc_11 (ws_0 L0.1.1) tw_536 rfl ⟨⟨show 0 + 2 + 1 ≤ 2048 from by decide, show 8 + (4 + 11) + 100 * (0 + 2) ≤ 84000 from by decide⟩, show kc + 0 ≤ 494584 by omega, show ks + 0 ≤ 7612352 by omega⟩ (Nat.le_of_ble_eq_true rfl) xsL (c_ptX 0 L0.1 L0.q.1.2 _ _ _) (fun r1 h1 k1 => ?_)
  refine aw_pop d_L_306 rfl ?_
  refine aw_aload_n (i := 2) rfl d_L_307 2 rfl ?_
  refine aw_arg (j := 1) d_L_308 d_L_309 d_L_311 d_L_312 d_L_313 ic_1 (oa_1 (by omega)) (by omega) lL ?_
  refine aw_arg (j := 2) d_L_314 d_L_315 d_L_317 d_L_318 d_L_319 ic_2 (oa_2 (by omega)) (by omega) lL ?_
  refine aw_arg (j := 3) d_L_320 d_L_321 d_L_323 d_L_324 d_L_325 ic_3 (oa_3 (by omega)) (by omega) lL ?_
  refine aw_Vi 1 [.int (xs (6 * t + 1)), .int (xs (6 * t + 2)), .int (xs (6 * t + 3))] [] d_L_326 (cV_X12_path (0 + 2) 0 0) kc_12 (ws_1 k1.1.1) tw_2140 rfl ⟨⟨show 0 + 2 + 1 ≤ 2048 from by decide, show 8 + (4 + 11) + 100 * (0 + 2) ≤ 84000 from by decide⟩, show kc + 0 ≤ 494584 by omega, show ks + 0 ≤ 7612352 by omega⟩ (Nat.le_of_ble_eq_true rfl) xsL (c_ptM 0 k1.1 _ _ _) (fun r2 h2 k2 => ?_)
  refine aw_pop d_L_329 rfl ?_
  have L2 := (L0.pt k1 k2).1
  refine aw_goto (tgt := 2434) d_L_330 rfl ?_
  exact O _ _ _ _ L2 R.up
theorem lc_1 {L t N kc ks : Nat} {xs : Nat → Int32} {h : Hp_} (hL : 6 * t + 6 ≤ L) (lL : L ≤ 3072) (L0 : Li N h) (R : Rm t N kc ks) (O : ∀ N kc ks h, Li N h → Rm (t + 1) N kc ks → AW (ML L xs) kc ks 2434 (lv5 (6 * t)) [] h k1_) : AW (ML L xs) kc ks 333 (lv5 (6 * t)) [] h k1_ := by
  have hk := R.ok (by omega)
  refine aw_aload_n (i := 1) rfl d_L_333 1 rfl ?_
  refine aw_arg (j := 1) d_L_334 d_L_335 d_L_337 d_L_338 d_L_339 ic_1 (oa_1 (by omega)) (by omega) lL ?_
  refine aw_arg (j := 2) d_L_340 d_L_341 d_L_343 d_L_344 d_L_345 ic_2 (oa_2 (by omega)) (by omega) lL ?_
  refine aw_Kp (M' := m_X11_walk (0 + 2) 0 0) (a := 0) [.int (xs (6 * t + 1)), .int (xs (6 * t + 2))] (hc_X11_walk 0) ⟨⟨_, rfl, rtop_in _, fun _ y => (nomatch y)⟩, ⟨_, rfl, rtop_in _, fun _ y => (nomatch y)⟩, rfl, trivial⟩ L0.1 (fun _ y => (nomatch y)) d_L_346 (cV_X11_walk (0 + 2) 0 0) kc_11 (ws_0 L0.1.1) tw_553 rfl ⟨⟨show 0 + 2 + 1 ≤ 2048 from by decide, show 8 + (3 + 11) + 100 * (0 + 2) ≤ 84000 from by decide⟩, rfl, rfl⟩ ⟨show kc ≤ 494584 by omega, show ks ≤ 7612352 by omega⟩ ⟨_, rfl⟩ d_L_349 (fun h1 I1 F1 => ?_)
  have L1 := L0.fr I1 F1 (by decide +kernel)
  refine aw_aload_n (i := 2) rfl d_L_350 2 rfl ?_
  refine aw_arg (j := 1) d_L_351 d_L_352 d_L_354 d_L_355 d_L_356 ic_1 (oa_1 (by omega)) (by omega) lL ?_
  refine aw_arg (j := 2) d_L_357 d_L_358 d_L_360 d_L_361 d_L_362 ic_2 (oa_2 (by omega)) (by omega) lL ?_
  refine aw_Kp (M' := m_X12_walk (0 + 2) 0 0) (a := 1) [.int (xs (6 * t + 1)), .int (xs (6 * t + 2))] (hc_X12_walk 0) ⟨⟨_, rfl, rtop_in _, fun _ y => (nomatch y)⟩, ⟨_, rfl, rtop_in _, fun _ y => (nomatch y)⟩, rfl, trivial⟩ L1.1 (fun _ y => (nomatch y)) d_L_363 (cV_X12_walk (0 + 2) 0 0) kc_12 (ws_1 L1.1.1) tw_2150 rfl ⟨⟨show 0 + 2 + 1 ≤ 2048 from by decide, show 8 + (3 + 11) + 100 * (0 + 2) ≤ 84000 from by decide⟩, rfl, rfl⟩ ⟨show kc ≤ 494584 by omega, show ks ≤ 7612352 by omega⟩ ⟨_, rfl⟩ d_L_366 (fun h2 I2 F2 => ?_)
  have L2 := L1.fr I2 F2 (by decide +kernel)
  refine aw_goto (tgt := 2434) d_L_367 rfl ?_
  exact O _ _ _ _ L2 R.up
theorem lc_2 {L t N kc ks : Nat} {xs : Nat → Int32} {h : Hp_} (hL : 6 * t + 6 ≤ L) (lL : L ≤ 3072) (L0 : Li N h) (R : Rm t N kc ks) (O : ∀ N kc ks h, Li N h → Rm (t + 1) N kc ks → AW (ML L xs) kc ks 2434 (lv5 (6 * t)) [] h k1_) : AW (ML L xs) kc ks 370 (lv5 (6 * t)) [] h k1_ := by
  have hk := R.ok (by omega)
  refine aw_aload_n (i := 1) rfl d_L_370 1 rfl ?_
  refine aw_arg (j := 1) d_L_371 d_L_372 d_L_374 d_L_375 d_L_376 ic_1 (oa_1 (by omega)) (by omega) lL ?_
  refine aw_arg (j := 2) d_L_377 d_L_378 d_L_380 d_L_381 d_L_382 ic_2 (oa_2 (by omega)) (by omega) lL ?_
  refine aw_arg (j := 3) d_L_383 d_L_384 d_L_386 d_L_387 d_L_388 ic_3 (oa_3 (by omega)) (by omega) lL ?_
  refine aw_Vi 0 [.int (xs (6 * t + 1)), .int (xs (6 * t + 2)), .int (xs (6 * t + 3))] [] d_L_389 (cV_X11_constable (0 + 2) 1 17) kc_11 (ws_0 L0.1.1) tw_562 rfl ⟨⟨show 0 + 2 + 1 ≤ 2048 from by decide, show 8 + (6 + 11) + 100 * (0 + 2) ≤ 84000 from by decide⟩, show kc + 1 ≤ 494584 by omega, show ks + 17 ≤ 7612352 by omega⟩ (Nat.le_of_ble_eq_true rfl) xsL (c_con2 0 L0.1 _ _ _) (fun r1 h1 k1 => ?_)
  refine aw_pop d_L_392 rfl ?_
  have Z1 := L0.z.con k1.1.1
  refine aw_aload_n (i := 2) rfl d_L_393 2 rfl ?_
  refine aw_arg (j := 1) d_L_394 d_L_395 d_L_397 d_L_398 d_L_399 ic_1 (oa_1 (by omega)) (by omega) lL ?_
  refine aw_arg (j := 2) d_L_400 d_L_401 d_L_403 d_L_404 d_L_405 ic_2 (oa_2 (by omega)) (by omega) lL ?_
  refine aw_arg (j := 3) d_L_406 d_L_407 d_L_409 d_L_410 d_L_411 ic_3 (oa_3 (by omega)) (by omega) lL ?_
  refine aw_Vi 1 [.int (xs (6 * t + 1)), .int (xs (6 * t + 2)), .int (xs (6 * t + 3))] [] d_L_412 (cV_X12_constable (0 + 2) 0 0) kc_12 (ws_1 Z1.1.1) tw_2159 rfl ⟨⟨show 0 + 2 + 1 ≤ 2048 from by decide, show 8 + (4 + 11) + 100 * (0 + 2) ≤ 84000 from by decide⟩, show (kc + 1) + 0 ≤ 494584 by omega, show (ks + 17) + 0 ≤ 7612352 by omega⟩ (Nat.le_of_ble_eq_true rfl) xsL (m_con2 0 Z1.1 Z1.2.1 _ _ _) (fun r2 h2 k2 => ?_)
  refine aw_pop d_L_415 rfl ?_
  have L2 := L0.cn k1 k2
  refine aw_goto (tgt := 2434) d_L_416 rfl ?_
  exact O _ _ _ _ L2 R.con
theorem lc_3 {L t N kc ks : Nat} {xs : Nat → Int32} {h : Hp_} (hL : 6 * t + 6 ≤ L) (lL : L ≤ 3072) (L0 : Li N h) (R : Rm t N kc ks) (O : ∀ N kc ks h, Li N h → Rm (t + 1) N kc ks → AW (ML L xs) kc ks 2434 (lv5 (6 * t)) [] h k1_) : AW (ML L xs) kc ks 419 (lv5 (6 * t)) [] h k1_ := by
  have hk := R.ok (by omega)
  refine aw_aload_n (i := 1) rfl d_L_419 1 rfl ?_
  refine aw_arg (j := 1) d_L_420 d_L_421 d_L_423 d_L_424 d_L_425 ic_1 (oa_1 (by omega)) (by omega) lL ?_
  refine aw_arg (j := 2) d_L_426 d_L_427 d_L_429 d_L_430 d_L_431 ic_2 (oa_2 (by omega)) (by omega) lL ?_
  refine aw_arg (j := 3) d_L_432 d_L_433 d_L_435 d_L_436 d_L_437 ic_3 (oa_3 (by omega)) (by omega) lL ?_
  refine aw_arg (j := 4) d_L_438 d_L_439 d_L_441 d_L_442 d_L_443 ic_4 (oa_4 (by omega)) (by omega) lL ?_
  refine aw_arg (j := 5) d_L_444 d_L_445 d_L_447 d_L_448 d_L_449 ic_5 (oa_5 (by omega)) (by omega) lL ?_
  refine aw_Vi 0 [.int (xs (6 * t + 1)), .int (xs (6 * t + 2)), .int (xs (6 * t + 3)), .int (xs (6 * t + 4)), .int (xs (6 * t + 5))] [] d_L_450 (cV_X11_feed (0 + 2) 0 0) kc_11 (ws_0 L0.1.1) tw_641 rfl ⟨⟨show 0 + 2 + 1 ≤ 2048 from by decide, show 8 + (6 + 11) + 100 * (0 + 2) ≤ 84000 from by decide⟩, show kc + 0 ≤ 494584 by omega, show ks + 0 ≤ 7612352 by omega⟩ (Nat.le_of_ble_eq_true rfl) xsL (c_fdX 0 L0.1 _ _ _ _ _) (fun r1 h1 k1 => ?_)
  refine aw_pop d_L_453 rfl ?_
  refine aw_aload_n (i := 2) rfl d_L_454 2 rfl ?_
  refine aw_arg (j := 1) d_L_455 d_L_456 d_L_458 d_L_459 d_L_460 ic_1 (oa_1 (by omega)) (by omega) lL ?_
  refine aw_arg (j := 2) d_L_461 d_L_462 d_L_464 d_L_465 d_L_466 ic_2 (oa_2 (by omega)) (by omega) lL ?_
  refine aw_arg (j := 3) d_L_467 d_L_468 d_L_470 d_L_471 d_L_472 ic_3 (oa_3 (by omega)) (by omega) lL ?_
  refine aw_arg (j := 4) d_L_473 d_L_474 d_L_476 d_L_477 d_L_478 ic_4 (oa_4 (by omega)) (by omega) lL ?_
  refine aw_arg (j := 5) d_L_479 d_L_480 d_L_482 d_L_483 d_L_484 ic_5 (oa_5 (by omega)) (by omega) lL ?_
  refine aw_Vi 1 [.int (xs (6 * t + 1)), .int (xs (6 * t + 2)), .int (xs (6 * t + 3)), .int (xs (6 * t + 4)), .int (xs (6 * t + 5))] [] d_L_485 (cV_X12_feed (0 + 1) 0 0) kc_12 (ws_1 k1.1.1) tw_2183 rfl ⟨⟨show 0 + 1 + 1 ≤ 2048 from by decide, show 8 + (9 + 11) + 100 * (0 + 1) ≤ 84000 from by decide⟩, show kc + 0 ≤ 494584 by omega, show ks + 0 ≤ 7612352 by omega⟩ (Nat.le_of_ble_eq_true rfl) xsL (c_fdM 0 k1.1 _ _ _ _ _) (fun r2 h2 k2 => ?_)
  refine aw_pop d_L_488 rfl ?_
  have L2 := (L0.fd k1 k2).1
  refine aw_goto (tgt := 2434) d_L_489 rfl ?_
  exact O _ _ _ _ L2 R.up
theorem lc_4 {L t N kc ks : Nat} {xs : Nat → Int32} {h : Hp_} (hL : 6 * t + 6 ≤ L) (lL : L ≤ 3072) (L0 : Li N h) (R : Rm t N kc ks) (O : ∀ N kc ks h, Li N h → Rm (t + 1) N kc ks → AW (ML L xs) kc ks 2434 (lv5 (6 * t)) [] h k1_) : AW (ML L xs) kc ks 492 (lv5 (6 * t)) [] h k1_ := by
  have hk := R.ok (by omega)
  refine aw_aload_n (i := 1) rfl d_L_492 1 rfl ?_
  refine aw_arg (j := 1) d_L_493 d_L_494 d_L_496 d_L_497 d_L_498 ic_1 (oa_1 (by omega)) (by omega) lL ?_
  refine aw_Vi 0 [.int (xs (6 * t + 1))] [] d_L_499 (cV_X11_end (0 + 2) 0 0) kc_11 (ws_0 L0.1.1) tw_656 rfl ⟨⟨show 0 + 2 + 1 ≤ 2048 from by decide, show 8 + (2 + 11) + 100 * (0 + 2) ≤ 84000 from by decide⟩, show kc + 0 ≤ 494584 by omega, show ks + 0 ≤ 7612352 by omega⟩ (Nat.le_of_ble_eq_true rfl) xsL (c_enX 0 L0.1 _) (fun r1 h1 k1 => ?_)
  refine aw_pop d_L_502 rfl ?_
  refine aw_aload_n (i := 2) rfl d_L_503 2 rfl ?_
  refine aw_arg (j := 1) d_L_504 d_L_505 d_L_507 d_L_508 d_L_509 ic_1 (oa_1 (by omega)) (by omega) lL ?_
  refine aw_Vi 1 [.int (xs (6 * t + 1))] [] d_L_510 (cV_X12_end (0 + 0) 0 0) kc_12 (ws_1 k1.1.1) tw_2190 rfl ⟨⟨show 0 + 0 + 1 ≤ 2048 from by decide, show 8 + (2 + 11) + 100 * (0 + 0) ≤ 84000 from by decide⟩, show kc + 0 ≤ 494584 by omega, show ks + 0 ≤ 7612352 by omega⟩ (Nat.le_of_ble_eq_true rfl) xsL (c_enM 0 k1.1 _) (fun r2 h2 k2 => ?_)
  refine aw_pop d_L_513 rfl ?_
  have L2 := (L0.en k1 k2).1
  refine aw_goto (tgt := 2434) d_L_514 rfl ?_
  exact O _ _ _ _ L2 R.up
theorem lc_5 {L t N kc ks : Nat} {xs : Nat → Int32} {h : Hp_} (hL : 6 * t + 6 ≤ L) (lL : L ≤ 3072) (L0 : Li N h) (R : Rm t N kc ks) (O : ∀ N kc ks h, Li N h → Rm (t + 1) N kc ks → AW (ML L xs) kc ks 2434 (lv5 (6 * t)) [] h k1_) : AW (ML L xs) kc ks 517 (lv5 (6 * t)) [] h k1_ := by
  have hk := R.ok (by omega)
  refine aw_aload_n (i := 1) rfl d_L_517 1 rfl ?_
  refine aw_arg (j := 1) d_L_518 d_L_519 d_L_521 d_L_522 d_L_523 ic_1 (oa_1 (by omega)) (by omega) lL ?_
  refine aw_Kp (M' := m_X11_fault (0 + 38) 0 0) (a := 0) [.int (xs (6 * t + 1))] (hc_X11_fault 0) ⟨⟨_, rfl, rtop_in _, fun _ y => (nomatch y)⟩, rfl, trivial⟩ L0.1 (fun _ y => (nomatch y)) d_L_524 (cV_X11_fault (0 + 38) 0 0) kc_11 (ws_0 L0.1.1) tw_665 rfl ⟨⟨show 0 + 38 + 1 ≤ 2048 from by decide, show 8 + (2 + 11) + 100 * (0 + 38) ≤ 84000 from by decide⟩, rfl, rfl⟩ ⟨show kc ≤ 494584 by omega, show ks ≤ 7612352 by omega⟩ ⟨_, rfl⟩ d_L_527 (fun h1 I1 F1 => ?_)
  have L1 := L0.fr I1 F1 (by decide +kernel)
  refine aw_aload_n (i := 2) rfl d_L_528 2 rfl ?_
  refine aw_arg (j := 1) d_L_529 d_L_530 d_L_532 d_L_533 d_L_534 ic_1 (oa_1 (by omega)) (by omega) lL ?_
  refine aw_Vi 1 [.int (xs (6 * t + 1))] [] d_L_535 (cV_X12_fault (0 + 80 + 59) 0 0) kc_12 (ws_1 L1.1.1) tw_2295 rfl ⟨⟨show 0 + 80 + 59 + 1 ≤ 2048 from by decide, show 8 + (2 + 11) + 100 * (0 + 80 + 59) ≤ 84000 from by decide⟩, show kc + 0 ≤ 494584 by omega, show ks + 0 ≤ 7612352 by omega⟩ (Nat.le_of_ble_eq_true rfl) xsL (c_fault 0 L1.1 _) (fun r2 h2 k2 => ?_)
  refine aw_pop d_L_538 rfl ?_
  have L2 := L1.fr k2.1 k2.2.1 (by decide +kernel)
  refine aw_goto (tgt := 2434) d_L_539 rfl ?_
  exact O _ _ _ _ L2 R.up
theorem lc_6 {L t N kc ks : Nat} {xs : Nat → Int32} {h : Hp_} (hL : 6 * t + 6 ≤ L) (lL : L ≤ 3072) (L0 : Li N h) (R : Rm t N kc ks) (O : ∀ N kc ks h, Li N h → Rm (t + 1) N kc ks → AW (ML L xs) kc ks 2434 (lv5 (6 * t)) [] h k1_) : AW (ML L xs) kc ks 542 (lv5 (6 * t)) [] h k1_ := by
  have hk := R.ok (by omega)
  refine aw_aload_n (i := 1) rfl d_L_542 1 rfl ?_
  refine aw_Vi 0 [] [] d_L_543 (cV_X11_beat (0 + 105) 0 0) kc_11 (ws_0 L0.1.1) tw_872 rfl ⟨⟨show 0 + 105 + 1 ≤ 2048 from by decide, show 8 + (2 + 11) + 100 * (0 + 105) ≤ 84000 from by decide⟩, show kc + 0 ≤ 494584 by omega, show ks + 0 ≤ 7612352 by omega⟩ (Nat.le_of_ble_eq_true rfl) xsL (c_btX 0 L0.1) (fun r1 h1 k1 => ?_)
  refine aw_pop d_L_546 rfl ?_
  refine aw_aload_n (i := 2) rfl d_L_547 2 rfl ?_
  refine aw_Vi 1 [] [] d_L_548 (cV_X12_beat (0 + 80 + 60) 0 0) kc_12 (ws_1 k1.1.1) tw_2194 rfl ⟨⟨show 0 + 80 + 60 + 1 ≤ 2048 from by decide, show 8 + (1 + 11) + 100 * (0 + 80 + 60) ≤ 84000 from by decide⟩, show kc + 0 ≤ 494584 by omega, show ks + 0 ≤ 7612352 by omega⟩ (Nat.le_of_ble_eq_true rfl) xsL (c_btM 0 k1.1 (L0.t.q k1.2.1 (by decide +kernel))) (fun r2 h2 k2 => ?_)
  refine aw_pop d_L_551 rfl ?_
  have L2 := (L0.bt k1 k2).1
  refine aw_goto (tgt := 2434) d_L_552 rfl ?_
  exact O _ _ _ _ L2 R.up
theorem lc_7 {L t N kc ks : Nat} {xs : Nat → Int32} {h : Hp_} (hL : 6 * t + 6 ≤ L) (lL : L ≤ 3072) (L0 : Li N h) (R : Rm t N kc ks) (O : ∀ N kc ks h, Li N h → Rm (t + 1) N kc ks → AW (ML L xs) kc ks 2434 (lv5 (6 * t)) [] h k1_) : AW (ML L xs) kc ks 555 (lv5 (6 * t)) [] h k1_ := by
  have hk := R.ok (by omega)
  refine aw_aload_n (i := 1) rfl d_L_555 1 rfl ?_
  refine aw_arg (j := 1) d_L_556 d_L_557 d_L_559 d_L_560 d_L_561 ic_1 (oa_1 (by omega)) (by omega) lL ?_
  refine aw_arg (j := 2) d_L_562 d_L_563 d_L_565 d_L_566 d_L_567 ic_2 (oa_2 (by omega)) (by omega) lL ?_
  refine aw_Kp (M' := m_X11_beaten (0 + 2) 0 0) (a := 0) [.int (xs (6 * t + 1)), .int (xs (6 * t + 2))] (hc_X11_beaten 0) ⟨⟨_, rfl, rtop_in _, fun _ y => (nomatch y)⟩, ⟨_, rfl, rtop_in _, fun _ y => (nomatch y)⟩, rfl, trivial⟩ L0.1 (fun _ y => (nomatch y)) d_L_568 (cV_X11_beaten (0 + 2) 0 0) kc_11 (ws_0 L0.1.1) tw_883 rfl ⟨⟨show 0 + 2 + 1 ≤ 2048 from by decide, show 8 + (3 + 11) + 100 * (0 + 2) ≤ 84000 from by decide⟩, rfl, rfl⟩ ⟨show kc ≤ 494584 by omega, show ks ≤ 7612352 by omega⟩ ⟨_, rfl⟩ d_L_571 (fun h1 I1 F1 => ?_)
  have L1 := L0.fr I1 F1 (by decide +kernel)
  refine aw_aload_n (i := 2) rfl d_L_572 2 rfl ?_
  refine aw_arg (j := 1) d_L_573 d_L_574 d_L_576 d_L_577 d_L_578 ic_1 (oa_1 (by omega)) (by omega) lL ?_
  refine aw_arg (j := 2) d_L_579 d_L_580 d_L_582 d_L_583 d_L_584 ic_2 (oa_2 (by omega)) (by omega) lL ?_
  refine aw_Kp (M' := m_X12_beaten (0 + 1) 0 0) (a := 1) [.int (xs (6 * t + 1)), .int (xs (6 * t + 2))] (hc_X12_beaten 0) ⟨⟨_, rfl, rtop_in _, fun _ y => (nomatch y)⟩, ⟨_, rfl, rtop_in _, fun _ y => (nomatch y)⟩, rfl, trivial⟩ L1.1 (fun _ y => (nomatch y)) d_L_585 (cV_X12_beaten (0 + 1) 0 0) kc_12 (ws_1 L1.1.1) tw_2287 rfl ⟨⟨show 0 + 1 + 1 ≤ 2048 from by decide, show 8 + (3 + 11) + 100 * (0 + 1) ≤ 84000 from by decide⟩, rfl, rfl⟩ ⟨show kc ≤ 494584 by omega, show ks ≤ 7612352 by omega⟩ ⟨_, rfl⟩ d_L_588 (fun h2 I2 F2 => ?_)
  have L2 := L1.fr I2 F2 (by decide +kernel)
  refine aw_goto (tgt := 2434) d_L_589 rfl ?_
  exact O _ _ _ _ L2 R.up
theorem lc_8 {L t N kc ks : Nat} {xs : Nat → Int32} {h : Hp_} (hL : 6 * t + 6 ≤ L) (lL : L ≤ 3072) (L0 : Li N h) (R : Rm t N kc ks) (O : ∀ N kc ks h, Li N h → Rm (t + 1) N kc ks → AW (ML L xs) kc ks 2434 (lv5 (6 * t)) [] h k1_) : AW (ML L xs) kc ks 592 (lv5 (6 * t)) [] h k1_ := by
  have hk := R.ok (by omega)
  refine aw_aload_n (i := 1) rfl d_L_592 1 rfl ?_
  refine aw_arg (j := 1) d_L_593 d_L_594 d_L_596 d_L_597 d_L_598 ic_1 (oa_1 (by omega)) (by omega) lL ?_
  refine aw_arg (j := 2) d_L_599 d_L_600 d_L_602 d_L_603 d_L_604 ic_2 (oa_2 (by omega)) (by omega) lL ?_
  refine aw_Vi 0 [.int (xs (6 * t + 1)), .int (xs (6 * t + 2))] [] d_L_605 (cV_X11_begin (0 + 6) 0 0) kc_11 (ws_0 L0.1.1) tw_900 rfl ⟨⟨show 0 + 6 + 1 ≤ 2048 from by decide, show 8 + (4 + 11) + 100 * (0 + 6) ≤ 84000 from by decide⟩, show kc + 0 ≤ 494584 by omega, show ks + 0 ≤ 7612352 by omega⟩ (Nat.le_of_ble_eq_true rfl) xsL (c_bgL 0 L0.1 L0 _ _) (fun r1 h1 k1 => ?_)
  refine aw_pop d_L_608 rfl ?_
  refine aw_aload_n (i := 2) rfl d_L_609 2 rfl ?_
  refine aw_arg (j := 1) d_L_610 d_L_611 d_L_613 d_L_614 d_L_615 ic_1 (oa_1 (by omega)) (by omega) lL ?_
  refine aw_arg (j := 2) d_L_616 d_L_617 d_L_619 d_L_620 d_L_621 ic_2 (oa_2 (by omega)) (by omega) lL ?_
  refine aw_Vi 1 [.int (xs (6 * t + 1)), .int (xs (6 * t + 2))] [] d_L_622 (cV_X12_begin (0 + 4) 0 0) kc_12 (ws_1 k1.1.1) tw_2336 rfl ⟨⟨show 0 + 4 + 1 ≤ 2048 from by decide, show 8 + (4 + 11) + 100 * (0 + 4) ≤ 84000 from by decide⟩, show kc + 0 ≤ 494584 by omega, show ks + 0 ≤ 7612352 by omega⟩ (Nat.le_of_ble_eq_true rfl) xsL (c_bgN 0 k1.1 L0 k1.2.1 _ _) (fun r2 h2 k2 => ?_)
  refine aw_pop d_L_625 rfl ?_
  have L2 := (L0.bg k1 k2).1
  refine aw_goto (tgt := 2434) d_L_626 rfl ?_
  exact O _ _ _ _ L2 R.up
theorem lc_9 {L t N kc ks : Nat} {xs : Nat → Int32} {h : Hp_} (hL : 6 * t + 6 ≤ L) (lL : L ≤ 3072) (L0 : Li N h) (R : Rm t N kc ks) (O : ∀ N kc ks h, Li N h → Rm (t + 1) N kc ks → AW (ML L xs) kc ks 2434 (lv5 (6 * t)) [] h k1_) : AW (ML L xs) kc ks 629 (lv5 (6 * t)) [] h k1_ := by
  have hk := R.ok (by omega)
  refine aw_aload_n (i := 1) rfl d_L_629 1 rfl ?_
  refine aw_arg (j := 1) d_L_630 d_L_631 d_L_633 d_L_634 d_L_635 ic_1 (oa_1 (by omega)) (by omega) lL ?_
  refine aw_arg (j := 2) d_L_636 d_L_637 d_L_639 d_L_640 d_L_641 ic_2 (oa_2 (by omega)) (by omega) lL ?_
  refine aw_arg (j := 3) d_L_642 d_L_643 d_L_645 d_L_646 d_L_647 ic_3 (oa_3 (by omega)) (by omega) lL ?_
  refine aw_Vi 0 [.int (xs (6 * t + 1)), .int (xs (6 * t + 2)), .int (xs (6 * t + 3))] [] d_L_648 (cV_X11_draw (0 + 5) 0 0) kc_11 (ws_0 L0.1.1) tw_971 rfl ⟨⟨show 0 + 5 + 1 ≤ 2048 from by decide, show 8 + (5 + 11) + 100 * (0 + 5) ≤ 84000 from by decide⟩, show kc + 0 ≤ 494584 by omega, show ks + 0 ≤ 7612352 by omega⟩ (Nat.le_of_ble_eq_true rfl) xsL (c_dwL 0 L0.1 L0 _ _ _) (fun r1 h1 k1 => ?_)
  refine aw_pop d_L_651 rfl ?_
  refine aw_aload_n (i := 2) rfl d_L_652 2 rfl ?_
  refine aw_arg (j := 1) d_L_653 d_L_654 d_L_656 d_L_657 d_L_658 ic_1 (oa_1 (by omega)) (by omega) lL ?_
  refine aw_arg (j := 2) d_L_659 d_L_660 d_L_662 d_L_663 d_L_664 ic_2 (oa_2 (by omega)) (by omega) lL ?_
  refine aw_arg (j := 3) d_L_665 d_L_666 d_L_668 d_L_669 d_L_670 ic_3 (oa_3 (by omega)) (by omega) lL ?_
  refine aw_Vi 1 [.int (xs (6 * t + 1)), .int (xs (6 * t + 2)), .int (xs (6 * t + 3))] [] d_L_671 (cV_X12_draw (0 + 5) 0 0) kc_12 (ws_1 k1.1.1) tw_2364 rfl ⟨⟨show 0 + 5 + 1 ≤ 2048 from by decide, show 8 + (4 + 11) + 100 * (0 + 5) ≤ 84000 from by decide⟩, show kc + 0 ≤ 494584 by omega, show ks + 0 ≤ 7612352 by omega⟩ (Nat.le_of_ble_eq_true rfl) xsL (c_dwN 0 k1.1 L0 k1.2.1 _ _ _) (fun r2 h2 k2 => ?_)
  refine aw_pop d_L_674 rfl ?_
  have L2 := (L0.dw k1 k2).1
  refine aw_goto (tgt := 2434) d_L_675 rfl ?_
  exact O _ _ _ _ L2 R.up
theorem lc_10 {L t N kc ks : Nat} {xs : Nat → Int32} {h : Hp_} (hL : 6 * t + 6 ≤ L) (lL : L ≤ 3072) (L0 : Li N h) (R : Rm t N kc ks) (O : ∀ N kc ks h, Li N h → Rm (t + 1) N kc ks → AW (ML L xs) kc ks 2434 (lv5 (6 * t)) [] h k1_) : AW (ML L xs) kc ks 678 (lv5 (6 * t)) [] h k1_ := by
  have hk := R.ok (by omega)
  refine aw_aload_n (i := 1) rfl d_L_678 1 rfl ?_
  refine aw_arg (j := 1) d_L_679 d_L_680 d_L_682 d_L_683 d_L_684 ic_1 (oa_1 (by omega)) (by omega) lL ?_
  refine aw_arg (j := 2) d_L_685 d_L_686 d_L_688 d_L_689 d_L_690 ic_2 (oa_2 (by omega)) (by omega) lL ?_
  refine aw_if_eq (tgt := 698) d_L_691 rfl (fun y691 => ?_) (fun y691 => ?_)
  · refine aw_iconst (v := 0) d_L_698 ic_0 ?_
    refine aw_Vi 0 [.int (xs (6 * t + 1)), .int 0] [] d_L_699 (cV_X11_ill (0 + 3) 0 0) kc_11 (ws_0 L0.1.1) tw_987 rfl ⟨⟨show 0 + 3 + 1 ≤ 2048 from by decide, show 8 + (4 + 11) + 100 * (0 + 3) ≤ 84000 from by decide⟩, show kc + 0 ≤ 494584 by omega, show ks + 0 ≤ 7612352 by omega⟩ (Nat.le_of_ble_eq_true rfl) xsL (c_ilL 0 L0.1 L0 _ _) (fun r1 h1 k1 => ?_)
    refine aw_pop d_L_702 rfl ?_
    refine aw_aload_n (i := 2) rfl d_L_703 2 rfl ?_
    refine aw_arg (j := 1) d_L_704 d_L_705 d_L_707 d_L_708 d_L_709 ic_1 (oa_1 (by omega)) (by omega) lL ?_
    refine aw_arg (j := 2) d_L_710 d_L_711 d_L_713 d_L_714 d_L_715 ic_2 (oa_2 (by omega)) (by omega) lL ?_
    refine aw_if_eq (tgt := 723) d_L_716 rfl (fun _ => ?_) (fun z => absurd y691 z)
    refine aw_iconst (v := 0) d_L_723 ic_0 ?_
    refine aw_Vi 1 [.int (xs (6 * t + 1)), .int 0] [] d_L_724 (cV_X12_ill (0 + 2) 0 0) kc_12 (ws_1 k1.1.1) tw_2380 rfl ⟨⟨show 0 + 2 + 1 ≤ 2048 from by decide, show 8 + (3 + 11) + 100 * (0 + 2) ≤ 84000 from by decide⟩, show kc + 0 ≤ 494584 by omega, show ks + 0 ≤ 7612352 by omega⟩ (Nat.le_of_ble_eq_true rfl) xsL (c_ilN 0 k1.1 L0 k1.2.1 _ _) (fun r2 h2 k2 => ?_)
    refine aw_pop d_L_727 rfl ?_
    have L2 := (L0.il k1 k2).1
    refine aw_goto (tgt := 2434) d_L_728 rfl ?_
    exact O _ _ _ _ L2 R.up
  · refine aw_iconst (v := 1) d_L_694 ic_1 ?_
    refine aw_goto (tgt := 699) d_L_695 rfl ?_
    refine aw_Vi 0 [.int (xs (6 * t + 1)), .int 1] [] d_L_699 (cV_X11_ill (0 + 3) 0 0) kc_11 (ws_0 L0.1.1) tw_987 rfl ⟨⟨show 0 + 3 + 1 ≤ 2048 from by decide, show 8 + (4 + 11) + 100 * (0 + 3) ≤ 84000 from by decide⟩, show kc + 0 ≤ 494584 by omega, show ks + 0 ≤ 7612352 by omega⟩ (Nat.le_of_ble_eq_true rfl) xsL (c_ilL 0 L0.1 L0 _ _) (fun r1 h1 k1 => ?_)
    refine aw_pop d_L_702 rfl ?_
    refine aw_aload_n (i := 2) rfl d_L_703 2 rfl ?_
    refine aw_arg (j := 1) d_L_704 d_L_705 d_L_707 d_L_708 d_L_709 ic_1 (oa_1 (by omega)) (by omega) lL ?_
    refine aw_arg (j := 2) d_L_710 d_L_711 d_L_713 d_L_714 d_L_715 ic_2 (oa_2 (by omega)) (by omega) lL ?_
    refine aw_if_eq (tgt := 723) d_L_716 rfl (fun z => absurd z y691) (fun _ => ?_)
    refine aw_iconst (v := 1) d_L_719 ic_1 ?_
    refine aw_goto (tgt := 724) d_L_720 rfl ?_
    refine aw_Vi 1 [.int (xs (6 * t + 1)), .int 1] [] d_L_724 (cV_X12_ill (0 + 2) 0 0) kc_12 (ws_1 k1.1.1) tw_2380 rfl ⟨⟨show 0 + 2 + 1 ≤ 2048 from by decide, show 8 + (3 + 11) + 100 * (0 + 2) ≤ 84000 from by decide⟩, show kc + 0 ≤ 494584 by omega, show ks + 0 ≤ 7612352 by omega⟩ (Nat.le_of_ble_eq_true rfl) xsL (c_ilN 0 k1.1 L0 k1.2.1 _ _) (fun r2 h2 k2 => ?_)
    refine aw_pop d_L_727 rfl ?_
    have L2 := (L0.il k1 k2).1
    refine aw_goto (tgt := 2434) d_L_728 rfl ?_
    exact O _ _ _ _ L2 R.up
theorem lc_11 {L t N kc ks : Nat} {xs : Nat → Int32} {h : Hp_} (hL : 6 * t + 6 ≤ L) (lL : L ≤ 3072) (L0 : Li N h) (R : Rm t N kc ks) (O : ∀ N kc ks h, Li N h → Rm (t + 1) N kc ks → AW (ML L xs) kc ks 2434 (lv5 (6 * t)) [] h k1_) : AW (ML L xs) kc ks 731 (lv5 (6 * t)) [] h k1_ := by
  have hk := R.ok (by omega)
  refine aw_aload_n (i := 1) rfl d_L_731 1 rfl ?_
  refine aw_arg (j := 1) d_L_732 d_L_733 d_L_735 d_L_736 d_L_737 ic_1 (oa_1 (by omega)) (by omega) lL ?_
  obtain ⟨c0, r0, s0⟩ := L0.2.2.2.1
  obtain ⟨mc, ms, N2, lN, hq, C⟩ := c_tkL 0 L0.1 L0 (xs (6 * t + 1)) r0 s0 R.2.2
  have hq2 : mc ≤ 1 ∧ ms ≤ 20000 := hcost_le hq lN
  refine aw_Vi 0 [.int (xs (6 * t + 1))] [] d_L_738 (cV_X11_tick (0 + 8) mc ms) kc_11 (ws_0 L0.1.1) tw_991 rfl ⟨⟨show 0 + 8 + 1 ≤ 2048 from by decide, show 8 + (5 + 11) + 100 * (0 + 8) ≤ 84000 from by decide⟩, show kc + mc ≤ 494584 by omega, show ks + ms ≤ 7612352 by omega⟩ (Nat.le_of_ble_eq_true rfl) xsL C (fun r1 h1 k1 => ?_)
  refine aw_pop d_L_741 rfl ?_
  have Z1 : Li0 N2 h1 := L0.z.tick k1.1
  refine aw_aload_n (i := 2) rfl d_L_742 2 rfl ?_
  refine aw_arg (j := 1) d_L_743 d_L_744 d_L_746 d_L_747 d_L_748 ic_1 (oa_1 (by omega)) (by omega) lL ?_
  refine aw_Vi 1 [.int (xs (6 * t + 1))] [] d_L_749 (cV_X12_tick (0 + 10) 0 0) kc_12 (ws_1 Z1.1.1) tw_2384 rfl ⟨⟨show 0 + 10 + 1 ≤ 2048 from by decide, show 8 + (4 + 11) + 100 * (0 + 10) ≤ 84000 from by decide⟩, show (kc + mc) + 0 ≤ 494584 by omega, show (ks + ms) + 0 ≤ 7612352 by omega⟩ (Nat.le_of_ble_eq_true rfl) xsL (c_tmL 0 Z1.1 Z1.2.1 L0 k1.1.2.1 _) (fun r2 h2 k2 => ?_)
  refine aw_pop d_L_752 rfl ?_
  have L2 := L0.tk k1 k2
  refine aw_goto (tgt := 2434) d_L_753 rfl ?_
  exact O _ _ _ _ L2 (R.tick hq lN)
theorem lc_12 {L t N kc ks : Nat} {xs : Nat → Int32} {h : Hp_} (hL : 6 * t + 6 ≤ L) (lL : L ≤ 3072) (L0 : Li N h) (R : Rm t N kc ks) (O : ∀ N kc ks h, Li N h → Rm (t + 1) N kc ks → AW (ML L xs) kc ks 2434 (lv5 (6 * t)) [] h k1_) : AW (ML L xs) kc ks 756 (lv5 (6 * t)) [] h k1_ := by
  have hk := R.ok (by omega)
  refine aw_aload_n (i := 1) rfl d_L_756 1 rfl ?_
  refine aw_arg (j := 1) d_L_757 d_L_758 d_L_760 d_L_761 d_L_762 ic_1 (oa_1 (by omega)) (by omega) lL ?_
  refine aw_arg (j := 2) d_L_763 d_L_764 d_L_766 d_L_767 d_L_768 ic_2 (oa_2 (by omega)) (by omega) lL ?_
  refine aw_aload_n (i := 3) rfl d_L_769 3 rfl ?_
  refine aw_Lb L0.1 L0.q.2.2.1.2.1 L0.2.2.1 (xs (6 * t + 1)) (xs (6 * t + 2)) d_L_770 ⟨show kc + 1 ≤ 494584 by omega, show ks + 6 ≤ 7612352 by omega⟩ (fun r1 h1 I1 F1 k1 => ?_)
  have L1 := L0.fr I1 F1 (by decide +kernel)
  refine aw_istore [(0, .ref 1100), (1, .ref 0), (2, .ref 1), (3, .ref 2), (4, .int (Int32.ofNat (6 * t))), (5, .int r1)] d_L_773 (Nat.le_of_ble_eq_true rfl) rfl rfl ?_
  refine aw_aload_n (i := 2) rfl d_L_775 2 rfl ?_
  refine aw_arg2 (j := 1) d_L_776 d_L_777 d_L_779 d_L_780 d_L_781 ic_1 (oa_1 (by omega)) (by omega) lL ?_
  refine aw_arg2 (j := 2) d_L_782 d_L_783 d_L_785 d_L_786 d_L_787 ic_2 (oa_2 (by omega)) (by omega) lL ?_
  refine aw_Vi 1 [.int (xs (6 * t + 1)), .int (xs (6 * t + 2))] [] d_L_788 (cV_X12_about (0 + 2) 0 0) kc_12 (ws_1 L1.1.1) tw_2454 rfl ⟨⟨show 0 + 2 + 1 ≤ 2048 from by decide, show 8 + (3 + 11) + 100 * (0 + 2) ≤ 84000 from by decide⟩, show (kc + 1) + 0 ≤ 494584 by omega, show (ks + 6) + 0 ≤ 7612352 by omega⟩ (Nat.le_of_ble_eq_true rfl) xsL (c_abM 0 L1.1 L1.q.2.2.1 L1.q.2.2.2 _ _) (fun r2 h2 k2 => ?_)
  have L2 := L1.fr k2.1 k2.2.1 (by decide +kernel)
  have AB := ab_cm L0.1 L0.q.2.2.1 F1 k2.2.1 k1 k2.2.2
  refine aw_istore [(0, .ref 1100), (1, .ref 0), (2, .ref 1), (3, .ref 2), (4, .int (Int32.ofNat (6 * t))), (5, .int r1), (6, .int r2)] d_L_791 (Nat.le_of_ble_eq_true rfl) rfl rfl ?_
  refine aw_aload_n (i := 2) rfl d_L_793 2 rfl ?_
  refine aw_Vi 1 [] [] d_L_794 (cV_X12_thrown (0 + 0) 0 0) kc_12 (ws_1 L2.1.1) tw_2136 rfl ⟨⟨show 0 + 0 + 1 ≤ 2048 from by decide, show 8 + (1 + 11) + 100 * (0 + 0) ≤ 84000 from by decide⟩, show (kc + 1) + 0 ≤ 494584 by omega, show (ks + 6) + 0 ≤ 7612352 by omega⟩ (Nat.le_of_ble_eq_true rfl) xsL (t_X12_thrown 0 _ L2.1.1 (fun r h' => r = h_i h2 1 1 ∧ h' = h2) ⟨rfl, rfl⟩) (fun r3 h3 k3 => ?_)
  rw [k3.1, k3.2]
  refine aw_iload d_L_797 5 rfl ?_
  refine aw_icmp_eq (tgt := 804) d_L_799 rfl (fun _ => ?_) (fun z => absurd AB.1 z)
  refine aw_iload d_L_804 5 rfl ?_
  refine aw_if_ne (tgt := 821) d_L_806 rfl (fun _ => ?_) (fun z5 => ?_)
  · refine aw_goto (tgt := 2434) d_L_821 rfl ?_
    refine aw_lvp [0, 1, 2, 3, 4] (lv5 (6 * t)) rfl ?_
    exact O _ _ _ _ L2 R.abt
  · refine aw_aload_n (i := 3) rfl d_L_809 3 rfl ?_
    refine aw_iconst (v := 0) d_L_810 ic_0 ?_
    refine aw_lald (n := 1) L2.2.2.1 (vin_c (by decide)) d_L_811 ?_
    refine aw_iload d_L_812 6 rfl ?_
    refine aw_i2l d_L_814 ?_
    refine aw_lcmp d_L_815 ?_
    refine aw_if_eq (tgt := 821) d_L_816 rfl (fun _ => ?_) (fun z => absurd (AB.2 z5) z)
    refine aw_goto (tgt := 2434) d_L_821 rfl ?_
    refine aw_lvp [0, 1, 2, 3, 4] (lv5 (6 * t)) rfl ?_
    exact O _ _ _ _ L2 R.abt
theorem lc_13 {L t N kc ks : Nat} {xs : Nat → Int32} {h : Hp_} (hL : 6 * t + 6 ≤ L) (lL : L ≤ 3072) (L0 : Li N h) (R : Rm t N kc ks) (O : ∀ N kc ks h, Li N h → Rm (t + 1) N kc ks → AW (ML L xs) kc ks 2434 (lv5 (6 * t)) [] h k1_) : AW (ML L xs) kc ks 824 (lv5 (6 * t)) [] h k1_ := by
  have hk := R.ok (by omega)
  refine aw_aload_n (i := 1) rfl d_L_824 1 rfl ?_
  refine aw_arg (j := 1) d_L_825 d_L_826 d_L_828 d_L_829 d_L_830 ic_1 (oa_1 (by omega)) (by omega) lL ?_
  refine aw_arg (j := 2) d_L_831 d_L_832 d_L_834 d_L_835 d_L_836 ic_2 (oa_2 (by omega)) (by omega) lL ?_
  refine aw_Kp (M' := m_X11_was (0 + 3) 0 0) (a := 0) [.int (xs (6 * t + 1)), .int (xs (6 * t + 2))] (hc_X11_was 0) ⟨⟨_, rfl, rtop_in _, fun _ y => (nomatch y)⟩, ⟨_, rfl, rtop_in _, fun _ y => (nomatch y)⟩, rfl, trivial⟩ L0.1 (fun _ y => (nomatch y)) d_L_837 (cV_X11_was (0 + 3) 0 0) kc_11 (ws_0 L0.1.1) tw_1094 rfl ⟨⟨show 0 + 3 + 1 ≤ 2048 from by decide, show 8 + (4 + 11) + 100 * (0 + 3) ≤ 84000 from by decide⟩, rfl, rfl⟩ ⟨show kc ≤ 494584 by omega, show ks ≤ 7612352 by omega⟩ ⟨_, rfl⟩ d_L_840 (fun h1 I1 F1 => ?_)
  have L1 := L0.fr I1 F1 (by decide +kernel)
  refine aw_aload_n (i := 2) rfl d_L_841 2 rfl ?_
  refine aw_arg (j := 1) d_L_842 d_L_843 d_L_845 d_L_846 d_L_847 ic_1 (oa_1 (by omega)) (by omega) lL ?_
  refine aw_arg (j := 2) d_L_848 d_L_849 d_L_851 d_L_852 d_L_853 ic_2 (oa_2 (by omega)) (by omega) lL ?_
  refine aw_Kp (M' := m_X12_was (0 + 2) 0 0) (a := 1) [.int (xs (6 * t + 1)), .int (xs (6 * t + 2))] (hc_X12_was 0) ⟨⟨_, rfl, rtop_in _, fun _ y => (nomatch y)⟩, ⟨_, rfl, rtop_in _, fun _ y => (nomatch y)⟩, rfl, trivial⟩ L1.1 (fun _ y => (nomatch y)) d_L_854 (cV_X12_was (0 + 2) 0 0) kc_12 (ws_1 L1.1.1) tw_2462 rfl ⟨⟨show 0 + 2 + 1 ≤ 2048 from by decide, show 8 + (3 + 11) + 100 * (0 + 2) ≤ 84000 from by decide⟩, rfl, rfl⟩ ⟨show kc ≤ 494584 by omega, show ks ≤ 7612352 by omega⟩ ⟨_, rfl⟩ d_L_857 (fun h2 I2 F2 => ?_)
  have L2 := L1.fr I2 F2 (by decide +kernel)
  refine aw_goto (tgt := 2434) d_L_858 rfl ?_
  exact O _ _ _ _ L2 R.up
theorem lc_14 {L t N kc ks : Nat} {xs : Nat → Int32} {h : Hp_} (hL : 6 * t + 6 ≤ L) (lL : L ≤ 3072) (L0 : Li N h) (R : Rm t N kc ks) (O : ∀ N kc ks h, Li N h → Rm (t + 1) N kc ks → AW (ML L xs) kc ks 2434 (lv5 (6 * t)) [] h k1_) : AW (ML L xs) kc ks 861 (lv5 (6 * t)) [] h k1_ := by
  have hk := R.ok (by omega)
  refine aw_aload_n (i := 1) rfl d_L_861 1 rfl ?_
  refine aw_arg (j := 1) d_L_862 d_L_863 d_L_865 d_L_866 d_L_867 ic_1 (oa_1 (by omega)) (by omega) lL ?_
  refine aw_arg (j := 2) d_L_868 d_L_869 d_L_871 d_L_872 d_L_873 ic_2 (oa_2 (by omega)) (by omega) lL ?_
  refine aw_arg (j := 3) d_L_874 d_L_875 d_L_877 d_L_878 d_L_879 ic_3 (oa_3 (by omega)) (by omega) lL ?_
  refine aw_Kp (M' := m_X11_point (0 + 3) 0 0) (a := 0) [.int (xs (6 * t + 1)), .int (xs (6 * t + 2)), .int (xs (6 * t + 3))] (hc_X11_point 0) ⟨⟨_, rfl, rtop_in _, fun _ y => (nomatch y)⟩, ⟨_, rfl, rtop_in _, fun _ y => (nomatch y)⟩, ⟨_, rfl, rtop_in _, fun _ y => (nomatch y)⟩, rfl, trivial⟩ L0.1 (fun _ y => (nomatch y)) d_L_880 (cV_X11_point (0 + 3) 0 0) kc_11 (ws_0 L0.1.1) tw_1110 rfl ⟨⟨show 0 + 3 + 1 ≤ 2048 from by decide, show 8 + (4 + 11) + 100 * (0 + 3) ≤ 84000 from by decide⟩, rfl, rfl⟩ ⟨show kc ≤ 494584 by omega, show ks ≤ 7612352 by omega⟩ ⟨_, rfl⟩ d_L_883 (fun h1 I1 F1 => ?_)
  have L1 := L0.fr I1 F1 (by decide +kernel)
  refine aw_aload_n (i := 2) rfl d_L_884 2 rfl ?_
  refine aw_arg (j := 1) d_L_885 d_L_886 d_L_888 d_L_889 d_L_890 ic_1 (oa_1 (by omega)) (by omega) lL ?_
  refine aw_arg (j := 2) d_L_891 d_L_892 d_L_894 d_L_895 d_L_896 ic_2 (oa_2 (by omega)) (by omega) lL ?_
  refine aw_arg (j := 3) d_L_897 d_L_898 d_L_900 d_L_901 d_L_902 ic_3 (oa_3 (by omega)) (by omega) lL ?_
  refine aw_Kp (M' := m_X12_point (0 + 2) 0 0) (a := 1) [.int (xs (6 * t + 1)), .int (xs (6 * t + 2)), .int (xs (6 * t + 3))] (hc_X12_point 0) ⟨⟨_, rfl, rtop_in _, fun _ y => (nomatch y)⟩, ⟨_, rfl, rtop_in _, fun _ y => (nomatch y)⟩, ⟨_, rfl, rtop_in _, fun _ y => (nomatch y)⟩, rfl, trivial⟩ L1.1 (fun _ y => (nomatch y)) d_L_903 (cV_X12_point (0 + 2) 0 0) kc_12 (ws_1 L1.1.1) tw_2316 rfl ⟨⟨show 0 + 2 + 1 ≤ 2048 from by decide, show 8 + (4 + 11) + 100 * (0 + 2) ≤ 84000 from by decide⟩, rfl, rfl⟩ ⟨show kc ≤ 494584 by omega, show ks ≤ 7612352 by omega⟩ ⟨_, rfl⟩ d_L_906 (fun h2 I2 F2 => ?_)
  have L2 := L1.fr I2 F2 (by decide +kernel)
  refine aw_goto (tgt := 2434) d_L_907 rfl ?_
  exact O _ _ _ _ L2 R.up
theorem lc_15 {L t N kc ks : Nat} {xs : Nat → Int32} {h : Hp_} (hL : 6 * t + 6 ≤ L) (lL : L ≤ 3072) (L0 : Li N h) (R : Rm t N kc ks) (O : ∀ N kc ks h, Li N h → Rm (t + 1) N kc ks → AW (ML L xs) kc ks 2434 (lv5 (6 * t)) [] h k1_) : AW (ML L xs) kc ks 910 (lv5 (6 * t)) [] h k1_ := by
  have hk := R.ok (by omega)
  refine aw_aload_n (i := 1) rfl d_L_910 1 rfl ?_
  refine aw_arg (j := 1) d_L_911 d_L_912 d_L_914 d_L_915 d_L_916 ic_1 (oa_1 (by omega)) (by omega) lL ?_
  refine aw_arg (j := 2) d_L_917 d_L_918 d_L_920 d_L_921 d_L_922 ic_2 (oa_2 (by omega)) (by omega) lL ?_
  refine aw_Kp (M' := m_X11_cause (0 + 2) 0 0) (a := 0) [.int (xs (6 * t + 1)), .int (xs (6 * t + 2))] (hc_X11_cause 0) ⟨⟨_, rfl, rtop_in _, fun _ y => (nomatch y)⟩, ⟨_, rfl, rtop_in _, fun _ y => (nomatch y)⟩, rfl, trivial⟩ L0.1 (fun _ y => (nomatch y)) d_L_923 (cV_X11_cause (0 + 2) 0 0) kc_11 (ws_0 L0.1.1) tw_1131 rfl ⟨⟨show 0 + 2 + 1 ≤ 2048 from by decide, show 8 + (3 + 11) + 100 * (0 + 2) ≤ 84000 from by decide⟩, rfl, rfl⟩ ⟨show kc ≤ 494584 by omega, show ks ≤ 7612352 by omega⟩ ⟨_, rfl⟩ d_L_926 (fun h1 I1 F1 => ?_)
  have L1 := L0.fr I1 F1 (by decide +kernel)
  refine aw_aload_n (i := 2) rfl d_L_927 2 rfl ?_
  refine aw_arg (j := 1) d_L_928 d_L_929 d_L_931 d_L_932 d_L_933 ic_1 (oa_1 (by omega)) (by omega) lL ?_
  refine aw_arg (j := 2) d_L_934 d_L_935 d_L_937 d_L_938 d_L_939 ic_2 (oa_2 (by omega)) (by omega) lL ?_
  refine aw_Kp (M' := m_X12_cause (0 + 1) 0 0) (a := 1) [.int (xs (6 * t + 1)), .int (xs (6 * t + 2))] (hc_X12_cause 0) ⟨⟨_, rfl, rtop_in _, fun _ y => (nomatch y)⟩, ⟨_, rfl, rtop_in _, fun _ y => (nomatch y)⟩, rfl, trivial⟩ L1.1 (fun _ y => (nomatch y)) d_L_940 (cV_X12_cause (0 + 1) 0 0) kc_12 (ws_1 L1.1.1) tw_2328 rfl ⟨⟨show 0 + 1 + 1 ≤ 2048 from by decide, show 8 + (3 + 11) + 100 * (0 + 1) ≤ 84000 from by decide⟩, rfl, rfl⟩ ⟨show kc ≤ 494584 by omega, show ks ≤ 7612352 by omega⟩ ⟨_, rfl⟩ d_L_943 (fun h2 I2 F2 => ?_)
  have L2 := L1.fr I2 F2 (by decide +kernel)
  refine aw_goto (tgt := 2434) d_L_944 rfl ?_
  exact O _ _ _ _ L2 R.up
theorem lc_16 {L t N kc ks : Nat} {xs : Nat → Int32} {h : Hp_} (hL : 6 * t + 6 ≤ L) (lL : L ≤ 3072) (L0 : Li N h) (R : Rm t N kc ks) (O : ∀ N kc ks h, Li N h → Rm (t + 1) N kc ks → AW (ML L xs) kc ks 2434 (lv5 (6 * t)) [] h k1_) : AW (ML L xs) kc ks 947 (lv5 (6 * t)) [] h k1_ := by
  have hk := R.ok (by omega)
  refine aw_aload_n (i := 1) rfl d_L_947 1 rfl ?_
  refine aw_arg (j := 1) d_L_948 d_L_949 d_L_951 d_L_952 d_L_953 ic_1 (oa_1 (by omega)) (by omega) lL ?_
  refine aw_arg (j := 2) d_L_954 d_L_955 d_L_957 d_L_958 d_L_959 ic_2 (oa_2 (by omega)) (by omega) lL ?_
  refine aw_Kp (M' := m_X11_causes (0 + 3) 0 0) (a := 0) [.int (xs (6 * t + 1)), .int (xs (6 * t + 2))] (hc_X11_causes 0) ⟨⟨_, rfl, rtop_in _, fun _ y => (nomatch y)⟩, ⟨_, rfl, rtop_in _, fun _ y => (nomatch y)⟩, rfl, trivial⟩ L0.1 (fun _ y => (nomatch y)) d_L_960 (cV_X11_causes (0 + 3) 0 0) kc_11 (ws_0 L0.1.1) tw_1139 rfl ⟨⟨show 0 + 3 + 1 ≤ 2048 from by decide, show 8 + (3 + 11) + 100 * (0 + 3) ≤ 84000 from by decide⟩, rfl, rfl⟩ ⟨show kc ≤ 494584 by omega, show ks ≤ 7612352 by omega⟩ ⟨_, rfl⟩ d_L_963 (fun h1 I1 F1 => ?_)
  have L1 := L0.fr I1 F1 (by decide +kernel)
  refine aw_aload_n (i := 2) rfl d_L_964 2 rfl ?_
  refine aw_arg (j := 1) d_L_965 d_L_966 d_L_968 d_L_969 d_L_970 ic_1 (oa_1 (by omega)) (by omega) lL ?_
  refine aw_arg (j := 2) d_L_971 d_L_972 d_L_974 d_L_975 d_L_976 ic_2 (oa_2 (by omega)) (by omega) lL ?_
  refine aw_Kp (M' := m_X12_causes (0 + 2) 0 0) (a := 1) [.int (xs (6 * t + 1)), .int (xs (6 * t + 2))] (hc_X12_causes 0) ⟨⟨_, rfl, rtop_in _, fun _ y => (nomatch y)⟩, ⟨_, rfl, rtop_in _, fun _ y => (nomatch y)⟩, rfl, trivial⟩ L1.1 (fun _ y => (nomatch y)) d_L_977 (cV_X12_causes (0 + 2) 0 0) kc_12 (ws_1 L1.1.1) tw_2332 rfl ⟨⟨show 0 + 2 + 1 ≤ 2048 from by decide, show 8 + (5 + 11) + 100 * (0 + 2) ≤ 84000 from by decide⟩, rfl, rfl⟩ ⟨show kc ≤ 494584 by omega, show ks ≤ 7612352 by omega⟩ ⟨_, rfl⟩ d_L_980 (fun h2 I2 F2 => ?_)
  have L2 := L1.fr I2 F2 (by decide +kernel)
  refine aw_goto (tgt := 2434) d_L_981 rfl ?_
  exact O _ _ _ _ L2 R.up
theorem lc_17 {L t N kc ks : Nat} {xs : Nat → Int32} {h : Hp_} (hL : 6 * t + 6 ≤ L) (lL : L ≤ 3072) (L0 : Li N h) (R : Rm t N kc ks) (O : ∀ N kc ks h, Li N h → Rm (t + 1) N kc ks → AW (ML L xs) kc ks 2434 (lv5 (6 * t)) [] h k1_) : AW (ML L xs) kc ks 984 (lv5 (6 * t)) [] h k1_ := by
  have hk := R.ok (by omega)
  refine aw_aload_n (i := 1) rfl d_L_984 1 rfl ?_
  refine aw_arg (j := 1) d_L_985 d_L_986 d_L_988 d_L_989 d_L_990 ic_1 (oa_1 (by omega)) (by omega) lL ?_
  refine aw_arg (j := 2) d_L_991 d_L_992 d_L_994 d_L_995 d_L_996 ic_2 (oa_2 (by omega)) (by omega) lL ?_
  refine aw_arg (j := 3) d_L_997 d_L_998 d_L_1000 d_L_1001 d_L_1002 ic_3 (oa_3 (by omega)) (by omega) lL ?_
  refine aw_arg (j := 4) d_L_1003 d_L_1004 d_L_1006 d_L_1007 d_L_1008 ic_4 (oa_4 (by omega)) (by omega) lL ?_
  refine aw_arg (j := 5) d_L_1009 d_L_1010 d_L_1012 d_L_1013 d_L_1014 ic_5 (oa_5 (by omega)) (by omega) lL ?_
  refine aw_Kp (M' := m_X11_find (0 + 1) 0 0) (a := 0) [.int (xs (6 * t + 1)), .int (xs (6 * t + 2)), .int (xs (6 * t + 3)), .int (xs (6 * t + 4)), .int (xs (6 * t + 5))] (hc_X11_find 0) ⟨⟨_, rfl, rtop_in _, fun _ y => (nomatch y)⟩, ⟨_, rfl, rtop_in _, fun _ y => (nomatch y)⟩, ⟨_, rfl, rtop_in _, fun _ y => (nomatch y)⟩, ⟨_, rfl, rtop_in _, fun _ y => (nomatch y)⟩, ⟨_, rfl, rtop_in _, fun _ y => (nomatch y)⟩, rfl, trivial⟩ L0.1 (fun _ y => (nomatch y)) d_L_1015 (cV_X11_find (0 + 1) 0 0) kc_11 (ws_0 L0.1.1) tw_1147 rfl ⟨⟨show 0 + 1 + 1 ≤ 2048 from by decide, show 8 + (6 + 11) + 100 * (0 + 1) ≤ 84000 from by decide⟩, rfl, rfl⟩ ⟨show kc ≤ 494584 by omega, show ks ≤ 7612352 by omega⟩ ⟨_, rfl⟩ d_L_1018 (fun h1 I1 F1 => ?_)
  have L1 := L0.fr I1 F1 (by decide +kernel)
  refine aw_aload_n (i := 2) rfl d_L_1019 2 rfl ?_
  refine aw_arg (j := 1) d_L_1020 d_L_1021 d_L_1023 d_L_1024 d_L_1025 ic_1 (oa_1 (by omega)) (by omega) lL ?_
  refine aw_arg (j := 2) d_L_1026 d_L_1027 d_L_1029 d_L_1030 d_L_1031 ic_2 (oa_2 (by omega)) (by omega) lL ?_
  refine aw_arg (j := 3) d_L_1032 d_L_1033 d_L_1035 d_L_1036 d_L_1037 ic_3 (oa_3 (by omega)) (by omega) lL ?_
  refine aw_arg (j := 4) d_L_1038 d_L_1039 d_L_1041 d_L_1042 d_L_1043 ic_4 (oa_4 (by omega)) (by omega) lL ?_
  refine aw_arg (j := 5) d_L_1044 d_L_1045 d_L_1047 d_L_1048 d_L_1049 ic_5 (oa_5 (by omega)) (by omega) lL ?_
  refine aw_Kp (M' := m_X12_find (0 + 2) 0 0) (a := 1) [.int (xs (6 * t + 1)), .int (xs (6 * t + 2)), .int (xs (6 * t + 3)), .int (xs (6 * t + 4)), .int (xs (6 * t + 5))] (hc_X12_find 0) ⟨⟨_, rfl, rtop_in _, fun _ y => (nomatch y)⟩, ⟨_, rfl, rtop_in _, fun _ y => (nomatch y)⟩, ⟨_, rfl, rtop_in _, fun _ y => (nomatch y)⟩, ⟨_, rfl, rtop_in _, fun _ y => (nomatch y)⟩, ⟨_, rfl, rtop_in _, fun _ y => (nomatch y)⟩, rfl, trivial⟩ L1.1 (fun _ y => (nomatch y)) d_L_1050 (cV_X12_find (0 + 2) 0 0) kc_12 (ws_1 L1.1.1) tw_2475 rfl ⟨⟨show 0 + 2 + 1 ≤ 2048 from by decide, show 8 + (6 + 11) + 100 * (0 + 2) ≤ 84000 from by decide⟩, rfl, rfl⟩ ⟨show kc ≤ 494584 by omega, show ks ≤ 7612352 by omega⟩ ⟨_, rfl⟩ d_L_1053 (fun h2 I2 F2 => ?_)
  have L2 := L1.fr I2 F2 (by decide +kernel)
  refine aw_goto (tgt := 2434) d_L_1054 rfl ?_
  exact O _ _ _ _ L2 R.up
theorem lc_18 {L t N kc ks : Nat} {xs : Nat → Int32} {h : Hp_} (hL : 6 * t + 6 ≤ L) (lL : L ≤ 3072) (L0 : Li N h) (R : Rm t N kc ks) (O : ∀ N kc ks h, Li N h → Rm (t + 1) N kc ks → AW (ML L xs) kc ks 2434 (lv5 (6 * t)) [] h k1_) : AW (ML L xs) kc ks 1057 (lv5 (6 * t)) [] h k1_ := by
  have hk := R.ok (by omega)
  refine aw_aload_n (i := 1) rfl d_L_1057 1 rfl ?_
  refine aw_arg (j := 1) d_L_1058 d_L_1059 d_L_1061 d_L_1062 d_L_1063 ic_1 (oa_1 (by omega)) (by omega) lL ?_
  refine aw_Vi 0 [.int (xs (6 * t + 1))] [] d_L_1064 (cV_X11_act (0 + 141) 0 0) kc_11 (ws_0 L0.1.1) tw_1155 rfl ⟨⟨show 0 + 141 + 1 ≤ 2048 from by decide, show 8 + (2 + 11) + 100 * (0 + 141) ≤ 84000 from by decide⟩, show kc + 0 ≤ 494584 by omega, show ks + 0 ≤ 7612352 by omega⟩ (Nat.le_of_ble_eq_true rfl) xsL (c_actX 0 L0.1 _) (fun r1 h1 k1 => ?_)
  refine aw_pop d_L_1067 rfl ?_
  refine aw_aload_n (i := 2) rfl d_L_1068 2 rfl ?_
  refine aw_arg (j := 1) d_L_1069 d_L_1070 d_L_1072 d_L_1073 d_L_1074 ic_1 (oa_1 (by omega)) (by omega) lL ?_
  refine aw_Vi 1 [.int (xs (6 * t + 1))] [] d_L_1075 (cV_X12_act (0 + 80 + 61) 0 0) kc_12 (ws_1 k1.1.1) tw_2296 rfl ⟨⟨show 0 + 80 + 61 + 1 ≤ 2048 from by decide, show 8 + (2 + 11) + 100 * (0 + 80 + 61) ≤ 84000 from by decide⟩, show kc + 0 ≤ 494584 by omega, show ks + 0 ≤ 7612352 by omega⟩ (Nat.le_of_ble_eq_true rfl) xsL (c_actM 0 k1.1 (L0.t.q k1.2.1 (by decide +kernel)) _) (fun r2 h2 k2 => ?_)
  refine aw_pop d_L_1078 rfl ?_
  have L2 := (L0.act k1 k2).1
  refine aw_goto (tgt := 2434) d_L_1079 rfl ?_
  exact O _ _ _ _ L2 R.up
theorem lc_19 {L t N kc ks : Nat} {xs : Nat → Int32} {h : Hp_} (hL : 6 * t + 6 ≤ L) (lL : L ≤ 3072) (L0 : Li N h) (R : Rm t N kc ks) (O : ∀ N kc ks h, Li N h → Rm (t + 1) N kc ks → AW (ML L xs) kc ks 2434 (lv5 (6 * t)) [] h k1_) : AW (ML L xs) kc ks 1082 (lv5 (6 * t)) [] h k1_ := by
  have hk := R.ok (by omega)
  refine aw_aload_n (i := 1) rfl d_L_1082 1 rfl ?_
  refine aw_arg (j := 1) d_L_1083 d_L_1084 d_L_1086 d_L_1087 d_L_1088 ic_1 (oa_1 (by omega)) (by omega) lL ?_
  refine aw_arg (j := 2) d_L_1089 d_L_1090 d_L_1092 d_L_1093 d_L_1094 ic_2 (oa_2 (by omega)) (by omega) lL ?_
  refine aw_Kp (M' := m_X11_force (0 + 2) 0 0) (a := 0) [.int (xs (6 * t + 1)), .int (xs (6 * t + 2))] (hc_X11_force 0) ⟨⟨_, rfl, rtop_in _, fun _ y => (nomatch y)⟩, ⟨_, rfl, rtop_in _, fun _ y => (nomatch y)⟩, rfl, trivial⟩ L0.1 (fun _ y => (nomatch y)) d_L_1095 (cV_X11_force (0 + 2) 0 0) kc_11 (ws_0 L0.1.1) tw_1168 rfl ⟨⟨show 0 + 2 + 1 ≤ 2048 from by decide, show 8 + (3 + 11) + 100 * (0 + 2) ≤ 84000 from by decide⟩, rfl, rfl⟩ ⟨show kc ≤ 494584 by omega, show ks ≤ 7612352 by omega⟩ ⟨_, rfl⟩ d_L_1098 (fun h1 I1 F1 => ?_)
  have L1 := L0.fr I1 F1 (by decide +kernel)
  refine aw_aload_n (i := 2) rfl d_L_1099 2 rfl ?_
  refine aw_arg (j := 1) d_L_1100 d_L_1101 d_L_1103 d_L_1104 d_L_1105 ic_1 (oa_1 (by omega)) (by omega) lL ?_
  refine aw_arg (j := 2) d_L_1106 d_L_1107 d_L_1109 d_L_1110 d_L_1111 ic_2 (oa_2 (by omega)) (by omega) lL ?_
  refine aw_Kp (M' := m_X12_force (0 + 2) 0 0) (a := 1) [.int (xs (6 * t + 1)), .int (xs (6 * t + 2))] (hc_X12_force 0) ⟨⟨_, rfl, rtop_in _, fun _ y => (nomatch y)⟩, ⟨_, rfl, rtop_in _, fun _ y => (nomatch y)⟩, rfl, trivial⟩ L1.1 (fun _ y => (nomatch y)) d_L_1112 (cV_X12_force (0 + 2) 0 0) kc_12 (ws_1 L1.1.1) tw_2308 rfl ⟨⟨show 0 + 2 + 1 ≤ 2048 from by decide, show 8 + (3 + 11) + 100 * (0 + 2) ≤ 84000 from by decide⟩, rfl, rfl⟩ ⟨show kc ≤ 494584 by omega, show ks ≤ 7612352 by omega⟩ ⟨_, rfl⟩ d_L_1115 (fun h2 I2 F2 => ?_)
  have L2 := L1.fr I2 F2 (by decide +kernel)
  refine aw_goto (tgt := 2434) d_L_1116 rfl ?_
  exact O _ _ _ _ L2 R.up
end
section
theorem lc_20 {L t N kc ks : Nat} {xs : Nat → Int32} {h : Hp_} (hL : 6 * t + 6 ≤ L) (lL : L ≤ 3072) (L0 : Li N h) (R : Rm t N kc ks) (O : ∀ N kc ks h, Li N h → Rm (t + 1) N kc ks → AW (ML L xs) kc ks 2434 (lv5 (6 * t)) [] h k1_) : AW (ML L xs) kc ks 1119 (lv5 (6 * t)) [] h k1_ := by
  have hk := R.ok (by omega)
  refine aw_aload_n (i := 1) rfl d_L_1119 1 rfl ?_
  refine aw_arg (j := 1) d_L_1120 d_L_1121 d_L_1123 d_L_1124 d_L_1125 ic_1 (oa_1 (by omega)) (by omega) lL ?_
  refine aw_arg (j := 2) d_L_1126 d_L_1127 d_L_1129 d_L_1130 d_L_1131 ic_2 (oa_2 (by omega)) (by omega) lL ?_
  refine aw_Kp (M' := m_X11_sighting (0 + 2) 0 0) (a := 0) [.int (xs (6 * t + 1)), .int (xs (6 * t + 2))] (hc_X11_sighting 0) ⟨⟨_, rfl, rtop_in _, fun _ y => (nomatch y)⟩, ⟨_, rfl, rtop_in _, fun _ y => (nomatch y)⟩, rfl, trivial⟩ L0.1 (fun _ y => (nomatch y)) d_L_1132 (cV_X11_sighting (0 + 2) 0 0) kc_11 (ws_0 L0.1.1) tw_1172 rfl ⟨⟨show 0 + 2 + 1 ≤ 2048 from by decide, show 8 + (3 + 11) + 100 * (0 + 2) ≤ 84000 from by decide⟩, rfl, rfl⟩ ⟨show kc ≤ 494584 by omega, show ks ≤ 7612352 by omega⟩ ⟨_, rfl⟩ d_L_1135 (fun h1 I1 F1 => ?_)
  have L1 := L0.fr I1 F1 (by decide +kernel)
  refine aw_aload_n (i := 2) rfl d_L_1136 2 rfl ?_
  refine aw_arg (j := 1) d_L_1137 d_L_1138 d_L_1140 d_L_1141 d_L_1142 ic_1 (oa_1 (by omega)) (by omega) lL ?_
  refine aw_arg (j := 2) d_L_1143 d_L_1144 d_L_1146 d_L_1147 d_L_1148 ic_2 (oa_2 (by omega)) (by omega) lL ?_
  refine aw_Kp (M' := m_X12_sighting (0 + 1) 0 0) (a := 1) [.int (xs (6 * t + 1)), .int (xs (6 * t + 2))] (hc_X12_sighting 0) ⟨⟨_, rfl, rtop_in _, fun _ y => (nomatch y)⟩, ⟨_, rfl, rtop_in _, fun _ y => (nomatch y)⟩, rfl, trivial⟩ L1.1 (fun _ y => (nomatch y)) d_L_1149 (cV_X12_sighting (0 + 1) 0 0) kc_12 (ws_1 L1.1.1) tw_2479 rfl ⟨⟨show 0 + 1 + 1 ≤ 2048 from by decide, show 8 + (3 + 11) + 100 * (0 + 1) ≤ 84000 from by decide⟩, rfl, rfl⟩ ⟨show kc ≤ 494584 by omega, show ks ≤ 7612352 by omega⟩ ⟨_, rfl⟩ d_L_1152 (fun h2 I2 F2 => ?_)
  have L2 := L1.fr I2 F2 (by decide +kernel)
  refine aw_goto (tgt := 2434) d_L_1153 rfl ?_
  exact O _ _ _ _ L2 R.up
theorem lc_21 {L t N kc ks : Nat} {xs : Nat → Int32} {h : Hp_} (hL : 6 * t + 6 ≤ L) (lL : L ≤ 3072) (L0 : Li N h) (R : Rm t N kc ks) (O : ∀ N kc ks h, Li N h → Rm (t + 1) N kc ks → AW (ML L xs) kc ks 2434 (lv5 (6 * t)) [] h k1_) : AW (ML L xs) kc ks 1156 (lv5 (6 * t)) [] h k1_ := by
  have hk := R.ok (by omega)
  refine aw_aload_n (i := 1) rfl d_L_1156 1 rfl ?_
  refine aw_arg (j := 1) d_L_1157 d_L_1158 d_L_1160 d_L_1161 d_L_1162 ic_1 (oa_1 (by omega)) (by omega) lL ?_
  refine aw_arg (j := 2) d_L_1163 d_L_1164 d_L_1166 d_L_1167 d_L_1168 ic_2 (oa_2 (by omega)) (by omega) lL ?_
  refine aw_Kp (M' := m_X11_should (0 + 4) 0 0) (a := 0) [.int (xs (6 * t + 1)), .int (xs (6 * t + 2))] (hc_X11_should 0) ⟨⟨_, rfl, rtop_in _, fun _ y => (nomatch y)⟩, ⟨_, rfl, rtop_in _, fun _ y => (nomatch y)⟩, rfl, trivial⟩ L0.1 (fun _ y => (nomatch y)) d_L_1169 (cV_X11_should (0 + 4) 0 0) kc_11 (ws_0 L0.1.1) tw_1181 rfl ⟨⟨show 0 + 4 + 1 ≤ 2048 from by decide, show 8 + (3 + 11) + 100 * (0 + 4) ≤ 84000 from by decide⟩, rfl, rfl⟩ ⟨show kc ≤ 494584 by omega, show ks ≤ 7612352 by omega⟩ ⟨_, rfl⟩ d_L_1172 (fun h1 I1 F1 => ?_)
  have L1 := L0.fr I1 F1 (by decide +kernel)
  refine aw_aload_n (i := 2) rfl d_L_1173 2 rfl ?_
  refine aw_arg (j := 1) d_L_1174 d_L_1175 d_L_1177 d_L_1178 d_L_1179 ic_1 (oa_1 (by omega)) (by omega) lL ?_
  refine aw_arg (j := 2) d_L_1180 d_L_1181 d_L_1183 d_L_1184 d_L_1185 ic_2 (oa_2 (by omega)) (by omega) lL ?_
  refine aw_Kp (M' := m_X12_should (0 + 6) 0 0) (a := 1) [.int (xs (6 * t + 1)), .int (xs (6 * t + 2))] (hc_X12_should 0) ⟨⟨_, rfl, rtop_in _, fun _ y => (nomatch y)⟩, ⟨_, rfl, rtop_in _, fun _ y => (nomatch y)⟩, rfl, trivial⟩ L1.1 (fun _ y => (nomatch y)) d_L_1186 (cV_X12_should (0 + 6) 0 0) kc_12 (ws_1 L1.1.1) tw_2483 rfl ⟨⟨show 0 + 6 + 1 ≤ 2048 from by decide, show 8 + (3 + 11) + 100 * (0 + 6) ≤ 84000 from by decide⟩, rfl, rfl⟩ ⟨show kc ≤ 494584 by omega, show ks ≤ 7612352 by omega⟩ ⟨_, rfl⟩ d_L_1189 (fun h2 I2 F2 => ?_)
  have L2 := L1.fr I2 F2 (by decide +kernel)
  refine aw_goto (tgt := 2434) d_L_1190 rfl ?_
  exact O _ _ _ _ L2 R.up
theorem lc_22 {L t N kc ks : Nat} {xs : Nat → Int32} {h : Hp_} (hL : 6 * t + 6 ≤ L) (lL : L ≤ 3072) (L0 : Li N h) (R : Rm t N kc ks) (O : ∀ N kc ks h, Li N h → Rm (t + 1) N kc ks → AW (ML L xs) kc ks 2434 (lv5 (6 * t)) [] h k1_) : AW (ML L xs) kc ks 1193 (lv5 (6 * t)) [] h k1_ := by
  have hk := R.ok (by omega)
  refine aw_aload_n (i := 1) rfl d_L_1193 1 rfl ?_
  refine aw_arg (j := 1) d_L_1194 d_L_1195 d_L_1197 d_L_1198 d_L_1199 ic_1 (oa_1 (by omega)) (by omega) lL ?_
  refine aw_Kp (M' := m_X11_heard (0 + 2) 0 0) (a := 0) [.int (xs (6 * t + 1))] (hc_X11_heard 0) ⟨⟨_, rfl, rtop_in _, fun _ y => (nomatch y)⟩, rfl, trivial⟩ L0.1 (fun _ y => (nomatch y)) d_L_1200 (cV_X11_heard (0 + 2) 0 0) kc_11 (ws_0 L0.1.1) tw_1195 rfl ⟨⟨show 0 + 2 + 1 ≤ 2048 from by decide, show 8 + (2 + 11) + 100 * (0 + 2) ≤ 84000 from by decide⟩, rfl, rfl⟩ ⟨show kc ≤ 494584 by omega, show ks ≤ 7612352 by omega⟩ ⟨_, rfl⟩ d_L_1203 (fun h1 I1 F1 => ?_)
  have L1 := L0.fr I1 F1 (by decide +kernel)
  refine aw_aload_n (i := 2) rfl d_L_1204 2 rfl ?_
  refine aw_arg (j := 1) d_L_1205 d_L_1206 d_L_1208 d_L_1209 d_L_1210 ic_1 (oa_1 (by omega)) (by omega) lL ?_
  refine aw_Kp (M' := m_X12_heard (0 + 2) 0 0) (a := 1) [.int (xs (6 * t + 1))] (hc_X12_heard 0) ⟨⟨_, rfl, rtop_in _, fun _ y => (nomatch y)⟩, rfl, trivial⟩ L1.1 (fun _ y => (nomatch y)) d_L_1211 (cV_X12_heard (0 + 2) 0 0) kc_12 (ws_1 L1.1.1) tw_2487 rfl ⟨⟨show 0 + 2 + 1 ≤ 2048 from by decide, show 8 + (4 + 11) + 100 * (0 + 2) ≤ 84000 from by decide⟩, rfl, rfl⟩ ⟨show kc ≤ 494584 by omega, show ks ≤ 7612352 by omega⟩ ⟨_, rfl⟩ d_L_1214 (fun h2 I2 F2 => ?_)
  have L2 := L1.fr I2 F2 (by decide +kernel)
  refine aw_goto (tgt := 2434) d_L_1215 rfl ?_
  exact O _ _ _ _ L2 R.up
theorem lc_23 {L t N kc ks : Nat} {xs : Nat → Int32} {h : Hp_} (hL : 6 * t + 6 ≤ L) (lL : L ≤ 3072) (L0 : Li N h) (R : Rm t N kc ks) (O : ∀ N kc ks h, Li N h → Rm (t + 1) N kc ks → AW (ML L xs) kc ks 2434 (lv5 (6 * t)) [] h k1_) : AW (ML L xs) kc ks 1218 (lv5 (6 * t)) [] h k1_ := by
  have hk := R.ok (by omega)
  refine aw_aload_n (i := 1) rfl d_L_1218 1 rfl ?_
  refine aw_arg (j := 1) d_L_1219 d_L_1220 d_L_1222 d_L_1223 d_L_1224 ic_1 (oa_1 (by omega)) (by omega) lL ?_
  refine aw_Kp (M' := m_X11_open (0 + 1) 0 0) (a := 0) [.int (xs (6 * t + 1))] (hc_X11_open 0) ⟨⟨_, rfl, rtop_in _, fun _ y => (nomatch y)⟩, rfl, trivial⟩ L0.1 (fun _ y => (nomatch y)) d_L_1225 (cV_X11_open (0 + 1) 0 0) kc_11 (ws_0 L0.1.1) tw_1203 rfl ⟨⟨show 0 + 1 + 1 ≤ 2048 from by decide, show 8 + (2 + 11) + 100 * (0 + 1) ≤ 84000 from by decide⟩, rfl, rfl⟩ ⟨show kc ≤ 494584 by omega, show ks ≤ 7612352 by omega⟩ ⟨_, rfl⟩ d_L_1228 (fun h1 I1 F1 => ?_)
  have L1 := L0.fr I1 F1 (by decide +kernel)
  refine aw_aload_n (i := 2) rfl d_L_1229 2 rfl ?_
  refine aw_arg (j := 1) d_L_1230 d_L_1231 d_L_1233 d_L_1234 d_L_1235 ic_1 (oa_1 (by omega)) (by omega) lL ?_
  refine aw_Kp (M' := m_X12_open (0 + 1) 0 0) (a := 1) [.int (xs (6 * t + 1))] (hc_X12_open 0) ⟨⟨_, rfl, rtop_in _, fun _ y => (nomatch y)⟩, rfl, trivial⟩ L1.1 (fun _ y => (nomatch y)) d_L_1236 (cV_X12_open (0 + 1) 0 0) kc_12 (ws_1 L1.1.1) tw_2491 rfl ⟨⟨show 0 + 1 + 1 ≤ 2048 from by decide, show 8 + (2 + 11) + 100 * (0 + 1) ≤ 84000 from by decide⟩, rfl, rfl⟩ ⟨show kc ≤ 494584 by omega, show ks ≤ 7612352 by omega⟩ ⟨_, rfl⟩ d_L_1239 (fun h2 I2 F2 => ?_)
  have L2 := L1.fr I2 F2 (by decide +kernel)
  refine aw_goto (tgt := 2434) d_L_1240 rfl ?_
  exact O _ _ _ _ L2 R.up
theorem lc_24 {L t N kc ks : Nat} {xs : Nat → Int32} {h : Hp_} (hL : 6 * t + 6 ≤ L) (lL : L ≤ 3072) (L0 : Li N h) (R : Rm t N kc ks) (O : ∀ N kc ks h, Li N h → Rm (t + 1) N kc ks → AW (ML L xs) kc ks 2434 (lv5 (6 * t)) [] h k1_) : AW (ML L xs) kc ks 1243 (lv5 (6 * t)) [] h k1_ := by
  have hk := R.ok (by omega)
  refine aw_aload_n (i := 1) rfl d_L_1243 1 rfl ?_
  refine aw_arg (j := 1) d_L_1244 d_L_1245 d_L_1247 d_L_1248 d_L_1249 ic_1 (oa_1 (by omega)) (by omega) lL ?_
  refine aw_arg (j := 2) d_L_1250 d_L_1251 d_L_1253 d_L_1254 d_L_1255 ic_2 (oa_2 (by omega)) (by omega) lL ?_
  refine aw_Kp (M' := m_X11_need (0 + 1) 0 0) (a := 0) [.int (xs (6 * t + 1)), .int (xs (6 * t + 2))] (hc_X11_need 0) ⟨⟨_, rfl, rtop_in _, fun _ y => (nomatch y)⟩, ⟨_, rfl, rtop_in _, fun _ y => (nomatch y)⟩, rfl, trivial⟩ L0.1 (fun _ y => (nomatch y)) d_L_1256 (cV_X11_need (0 + 1) 0 0) kc_11 (ws_0 L0.1.1) tw_1207 rfl ⟨⟨show 0 + 1 + 1 ≤ 2048 from by decide, show 8 + (3 + 11) + 100 * (0 + 1) ≤ 84000 from by decide⟩, rfl, rfl⟩ ⟨show kc ≤ 494584 by omega, show ks ≤ 7612352 by omega⟩ ⟨_, rfl⟩ d_L_1259 (fun h1 I1 F1 => ?_)
  have L1 := L0.fr I1 F1 (by decide +kernel)
  refine aw_aload_n (i := 2) rfl d_L_1260 2 rfl ?_
  refine aw_arg (j := 1) d_L_1261 d_L_1262 d_L_1264 d_L_1265 d_L_1266 ic_1 (oa_1 (by omega)) (by omega) lL ?_
  refine aw_arg (j := 2) d_L_1267 d_L_1268 d_L_1270 d_L_1271 d_L_1272 ic_2 (oa_2 (by omega)) (by omega) lL ?_
  refine aw_Kp (M' := m_X12_need (0 + 1) 0 0) (a := 1) [.int (xs (6 * t + 1)), .int (xs (6 * t + 2))] (hc_X12_need 0) ⟨⟨_, rfl, rtop_in _, fun _ y => (nomatch y)⟩, ⟨_, rfl, rtop_in _, fun _ y => (nomatch y)⟩, rfl, trivial⟩ L1.1 (fun _ y => (nomatch y)) d_L_1273 (cV_X12_need (0 + 1) 0 0) kc_12 (ws_1 L1.1.1) tw_2495 rfl ⟨⟨show 0 + 1 + 1 ≤ 2048 from by decide, show 8 + (3 + 11) + 100 * (0 + 1) ≤ 84000 from by decide⟩, rfl, rfl⟩ ⟨show kc ≤ 494584 by omega, show ks ≤ 7612352 by omega⟩ ⟨_, rfl⟩ d_L_1276 (fun h2 I2 F2 => ?_)
  have L2 := L1.fr I2 F2 (by decide +kernel)
  refine aw_goto (tgt := 2434) d_L_1277 rfl ?_
  exact O _ _ _ _ L2 R.up
theorem lc_25 {L t N kc ks : Nat} {xs : Nat → Int32} {h : Hp_} (hL : 6 * t + 6 ≤ L) (lL : L ≤ 3072) (L0 : Li N h) (R : Rm t N kc ks) (O : ∀ N kc ks h, Li N h → Rm (t + 1) N kc ks → AW (ML L xs) kc ks 2434 (lv5 (6 * t)) [] h k1_) : AW (ML L xs) kc ks 1280 (lv5 (6 * t)) [] h k1_ := by
  have hk := R.ok (by omega)
  refine aw_aload_n (i := 1) rfl d_L_1280 1 rfl ?_
  refine aw_arg (j := 1) d_L_1281 d_L_1282 d_L_1284 d_L_1285 d_L_1286 ic_1 (oa_1 (by omega)) (by omega) lL ?_
  refine aw_arg (j := 2) d_L_1287 d_L_1288 d_L_1290 d_L_1291 d_L_1292 ic_2 (oa_2 (by omega)) (by omega) lL ?_
  refine aw_Kp (M' := m_X11_want (0 + 1) 0 0) (a := 0) [.int (xs (6 * t + 1)), .int (xs (6 * t + 2))] (hc_X11_want 0) ⟨⟨_, rfl, rtop_in _, fun _ y => (nomatch y)⟩, ⟨_, rfl, rtop_in _, fun _ y => (nomatch y)⟩, rfl, trivial⟩ L0.1 (fun _ y => (nomatch y)) d_L_1293 (cV_X11_want (0 + 1) 0 0) kc_11 (ws_0 L0.1.1) tw_1211 rfl ⟨⟨show 0 + 1 + 1 ≤ 2048 from by decide, show 8 + (3 + 11) + 100 * (0 + 1) ≤ 84000 from by decide⟩, rfl, rfl⟩ ⟨show kc ≤ 494584 by omega, show ks ≤ 7612352 by omega⟩ ⟨_, rfl⟩ d_L_1296 (fun h1 I1 F1 => ?_)
  have L1 := L0.fr I1 F1 (by decide +kernel)
  refine aw_aload_n (i := 2) rfl d_L_1297 2 rfl ?_
  refine aw_arg (j := 1) d_L_1298 d_L_1299 d_L_1301 d_L_1302 d_L_1303 ic_1 (oa_1 (by omega)) (by omega) lL ?_
  refine aw_arg (j := 2) d_L_1304 d_L_1305 d_L_1307 d_L_1308 d_L_1309 ic_2 (oa_2 (by omega)) (by omega) lL ?_
  refine aw_Kp (M' := m_X12_want (0 + 1) 0 0) (a := 1) [.int (xs (6 * t + 1)), .int (xs (6 * t + 2))] (hc_X12_want 0) ⟨⟨_, rfl, rtop_in _, fun _ y => (nomatch y)⟩, ⟨_, rfl, rtop_in _, fun _ y => (nomatch y)⟩, rfl, trivial⟩ L1.1 (fun _ y => (nomatch y)) d_L_1310 (cV_X12_want (0 + 1) 0 0) kc_12 (ws_1 L1.1.1) tw_2499 rfl ⟨⟨show 0 + 1 + 1 ≤ 2048 from by decide, show 8 + (3 + 11) + 100 * (0 + 1) ≤ 84000 from by decide⟩, rfl, rfl⟩ ⟨show kc ≤ 494584 by omega, show ks ≤ 7612352 by omega⟩ ⟨_, rfl⟩ d_L_1313 (fun h2 I2 F2 => ?_)
  have L2 := L1.fr I2 F2 (by decide +kernel)
  refine aw_goto (tgt := 2434) d_L_1314 rfl ?_
  exact O _ _ _ _ L2 R.up
theorem lc_26 {L t N kc ks : Nat} {xs : Nat → Int32} {h : Hp_} (hL : 6 * t + 6 ≤ L) (lL : L ≤ 3072) (L0 : Li N h) (R : Rm t N kc ks) (O : ∀ N kc ks h, Li N h → Rm (t + 1) N kc ks → AW (ML L xs) kc ks 2434 (lv5 (6 * t)) [] h k1_) : AW (ML L xs) kc ks 1317 (lv5 (6 * t)) [] h k1_ := by
  have hk := R.ok (by omega)
  refine aw_aload_n (i := 1) rfl d_L_1317 1 rfl ?_
  refine aw_arg (j := 1) d_L_1318 d_L_1319 d_L_1321 d_L_1322 d_L_1323 ic_1 (oa_1 (by omega)) (by omega) lL ?_
  refine aw_arg (j := 2) d_L_1324 d_L_1325 d_L_1327 d_L_1328 d_L_1329 ic_2 (oa_2 (by omega)) (by omega) lL ?_
  refine aw_arg (j := 3) d_L_1330 d_L_1331 d_L_1333 d_L_1334 d_L_1335 ic_3 (oa_3 (by omega)) (by omega) lL ?_
  refine aw_arg (j := 4) d_L_1336 d_L_1337 d_L_1339 d_L_1340 d_L_1341 ic_4 (oa_4 (by omega)) (by omega) lL ?_
  refine aw_if_eq (tgt := 1349) d_L_1342 rfl (fun y1342 => ?_) (fun y1342 => ?_)
  · refine aw_iconst (v := 0) d_L_1349 ic_0 ?_
    refine aw_Kp (M' := m_X11_state (0 + 2) 0 0) (a := 0) [.int (xs (6 * t + 1)), .int (xs (6 * t + 2)), .int (xs (6 * t + 3)), .int 0] (hc_X11_state 0) ⟨⟨_, rfl, ⟨by decide, by decide⟩, fun _ y => (nomatch y)⟩, ⟨_, rfl, rtop_in _, fun _ y => (nomatch y)⟩, ⟨_, rfl, rtop_in _, fun _ y => (nomatch y)⟩, ⟨_, rfl, rtop_in _, fun _ y => (nomatch y)⟩, rfl, trivial⟩ L0.1 (fun _ y => (nomatch y)) d_L_1350 (cV_X11_state (0 + 2) 0 0) kc_11 (ws_0 L0.1.1) tw_1215 rfl ⟨⟨show 0 + 2 + 1 ≤ 2048 from by decide, show 8 + (5 + 11) + 100 * (0 + 2) ≤ 84000 from by decide⟩, rfl, rfl⟩ ⟨show kc ≤ 494584 by omega, show ks ≤ 7612352 by omega⟩ ⟨_, rfl⟩ d_L_1353 (fun h1 I1 F1 => ?_)
    have L1 := L0.fr I1 F1 (by decide +kernel)
    refine aw_aload_n (i := 2) rfl d_L_1354 2 rfl ?_
    refine aw_arg (j := 1) d_L_1355 d_L_1356 d_L_1358 d_L_1359 d_L_1360 ic_1 (oa_1 (by omega)) (by omega) lL ?_
    refine aw_arg (j := 2) d_L_1361 d_L_1362 d_L_1364 d_L_1365 d_L_1366 ic_2 (oa_2 (by omega)) (by omega) lL ?_
    refine aw_arg (j := 3) d_L_1367 d_L_1368 d_L_1370 d_L_1371 d_L_1372 ic_3 (oa_3 (by omega)) (by omega) lL ?_
    refine aw_arg (j := 4) d_L_1373 d_L_1374 d_L_1376 d_L_1377 d_L_1378 ic_4 (oa_4 (by omega)) (by omega) lL ?_
    refine aw_if_eq (tgt := 1386) d_L_1379 rfl (fun _ => ?_) (fun z => absurd y1342 z)
    refine aw_iconst (v := 0) d_L_1386 ic_0 ?_
    refine aw_Kp (M' := m_X12_state (0 + 2) 0 0) (a := 1) [.int (xs (6 * t + 1)), .int (xs (6 * t + 2)), .int (xs (6 * t + 3)), .int 0] (hc_X12_state 0) ⟨⟨_, rfl, ⟨by decide, by decide⟩, fun _ y => (nomatch y)⟩, ⟨_, rfl, rtop_in _, fun _ y => (nomatch y)⟩, ⟨_, rfl, rtop_in _, fun _ y => (nomatch y)⟩, ⟨_, rfl, rtop_in _, fun _ y => (nomatch y)⟩, rfl, trivial⟩ L1.1 (fun _ y => (nomatch y)) d_L_1387 (cV_X12_state (0 + 2) 0 0) kc_12 (ws_1 L1.1.1) tw_2503 rfl ⟨⟨show 0 + 2 + 1 ≤ 2048 from by decide, show 8 + (5 + 11) + 100 * (0 + 2) ≤ 84000 from by decide⟩, rfl, rfl⟩ ⟨show kc ≤ 494584 by omega, show ks ≤ 7612352 by omega⟩ ⟨_, rfl⟩ d_L_1390 (fun h2 I2 F2 => ?_)
    have L2 := L1.fr I2 F2 (by decide +kernel)
    refine aw_goto (tgt := 2434) d_L_1391 rfl ?_
    exact O _ _ _ _ L2 R.up
  · refine aw_iconst (v := 1) d_L_1345 ic_1 ?_
    refine aw_goto (tgt := 1350) d_L_1346 rfl ?_
    refine aw_Kp (M' := m_X11_state (0 + 2) 0 0) (a := 0) [.int (xs (6 * t + 1)), .int (xs (6 * t + 2)), .int (xs (6 * t + 3)), .int 1] (hc_X11_state 0) ⟨⟨_, rfl, ⟨by decide, by decide⟩, fun _ y => (nomatch y)⟩, ⟨_, rfl, rtop_in _, fun _ y => (nomatch y)⟩, ⟨_, rfl, rtop_in _, fun _ y => (nomatch y)⟩, ⟨_, rfl, rtop_in _, fun _ y => (nomatch y)⟩, rfl, trivial⟩ L0.1 (fun _ y => (nomatch y)) d_L_1350 (cV_X11_state (0 + 2) 0 0) kc_11 (ws_0 L0.1.1) tw_1215 rfl ⟨⟨show 0 + 2 + 1 ≤ 2048 from by decide, show 8 + (5 + 11) + 100 * (0 + 2) ≤ 84000 from by decide⟩, rfl, rfl⟩ ⟨show kc ≤ 494584 by omega, show ks ≤ 7612352 by omega⟩ ⟨_, rfl⟩ d_L_1353 (fun h1 I1 F1 => ?_)
    have L1 := L0.fr I1 F1 (by decide +kernel)
    refine aw_aload_n (i := 2) rfl d_L_1354 2 rfl ?_
    refine aw_arg (j := 1) d_L_1355 d_L_1356 d_L_1358 d_L_1359 d_L_1360 ic_1 (oa_1 (by omega)) (by omega) lL ?_
    refine aw_arg (j := 2) d_L_1361 d_L_1362 d_L_1364 d_L_1365 d_L_1366 ic_2 (oa_2 (by omega)) (by omega) lL ?_
    refine aw_arg (j := 3) d_L_1367 d_L_1368 d_L_1370 d_L_1371 d_L_1372 ic_3 (oa_3 (by omega)) (by omega) lL ?_
    refine aw_arg (j := 4) d_L_1373 d_L_1374 d_L_1376 d_L_1377 d_L_1378 ic_4 (oa_4 (by omega)) (by omega) lL ?_
    refine aw_if_eq (tgt := 1386) d_L_1379 rfl (fun z => absurd z y1342) (fun _ => ?_)
    refine aw_iconst (v := 1) d_L_1382 ic_1 ?_
    refine aw_goto (tgt := 1387) d_L_1383 rfl ?_
    refine aw_Kp (M' := m_X12_state (0 + 2) 0 0) (a := 1) [.int (xs (6 * t + 1)), .int (xs (6 * t + 2)), .int (xs (6 * t + 3)), .int 1] (hc_X12_state 0) ⟨⟨_, rfl, ⟨by decide, by decide⟩, fun _ y => (nomatch y)⟩, ⟨_, rfl, rtop_in _, fun _ y => (nomatch y)⟩, ⟨_, rfl, rtop_in _, fun _ y => (nomatch y)⟩, ⟨_, rfl, rtop_in _, fun _ y => (nomatch y)⟩, rfl, trivial⟩ L1.1 (fun _ y => (nomatch y)) d_L_1387 (cV_X12_state (0 + 2) 0 0) kc_12 (ws_1 L1.1.1) tw_2503 rfl ⟨⟨show 0 + 2 + 1 ≤ 2048 from by decide, show 8 + (5 + 11) + 100 * (0 + 2) ≤ 84000 from by decide⟩, rfl, rfl⟩ ⟨show kc ≤ 494584 by omega, show ks ≤ 7612352 by omega⟩ ⟨_, rfl⟩ d_L_1390 (fun h2 I2 F2 => ?_)
    have L2 := L1.fr I2 F2 (by decide +kernel)
    refine aw_goto (tgt := 2434) d_L_1391 rfl ?_
    exact O _ _ _ _ L2 R.up
theorem lc_27 {L t N kc ks : Nat} {xs : Nat → Int32} {h : Hp_} (hL : 6 * t + 6 ≤ L) (lL : L ≤ 3072) (L0 : Li N h) (R : Rm t N kc ks) (O : ∀ N kc ks h, Li N h → Rm (t + 1) N kc ks → AW (ML L xs) kc ks 2434 (lv5 (6 * t)) [] h k1_) : AW (ML L xs) kc ks 1394 (lv5 (6 * t)) [] h k1_ := by
  have hk := R.ok (by omega)
  refine aw_aload_n (i := 1) rfl d_L_1394 1 rfl ?_
  refine aw_arg (j := 1) d_L_1395 d_L_1396 d_L_1398 d_L_1399 d_L_1400 ic_1 (oa_1 (by omega)) (by omega) lL ?_
  refine aw_Kp (M' := m_X11_withdraw (0 + 7) 0 0) (a := 0) [.int (xs (6 * t + 1))] (hc_X11_withdraw 0) ⟨⟨_, rfl, rtop_in _, fun _ y => (nomatch y)⟩, rfl, trivial⟩ L0.1 (fun _ y => (nomatch y)) d_L_1401 (cV_X11_withdraw (0 + 7) 0 0) kc_11 (ws_0 L0.1.1) tw_1228 rfl ⟨⟨show 0 + 7 + 1 ≤ 2048 from by decide, show 8 + (2 + 11) + 100 * (0 + 7) ≤ 84000 from by decide⟩, rfl, rfl⟩ ⟨show kc ≤ 494584 by omega, show ks ≤ 7612352 by omega⟩ ⟨_, rfl⟩ d_L_1404 (fun h1 I1 F1 => ?_)
  have L1 := L0.fr I1 F1 (by decide +kernel)
  refine aw_aload_n (i := 2) rfl d_L_1405 2 rfl ?_
  refine aw_arg (j := 1) d_L_1406 d_L_1407 d_L_1409 d_L_1410 d_L_1411 ic_1 (oa_1 (by omega)) (by omega) lL ?_
  refine aw_Kp (M' := m_X12_withdraw (0 + 4) 0 0) (a := 1) [.int (xs (6 * t + 1))] (hc_X12_withdraw 0) ⟨⟨_, rfl, rtop_in _, fun _ y => (nomatch y)⟩, rfl, trivial⟩ L1.1 (fun _ y => (nomatch y)) d_L_1412 (cV_X12_withdraw (0 + 4) 0 0) kc_12 (ws_1 L1.1.1) tw_2544 rfl ⟨⟨show 0 + 4 + 1 ≤ 2048 from by decide, show 8 + (4 + 11) + 100 * (0 + 4) ≤ 84000 from by decide⟩, rfl, rfl⟩ ⟨show kc ≤ 494584 by omega, show ks ≤ 7612352 by omega⟩ ⟨_, rfl⟩ d_L_1415 (fun h2 I2 F2 => ?_)
  have L2 := L1.fr I2 F2 (by decide +kernel)
  refine aw_goto (tgt := 2434) d_L_1416 rfl ?_
  exact O _ _ _ _ L2 R.up
theorem lc_28 {L t N kc ks : Nat} {xs : Nat → Int32} {h : Hp_} (hL : 6 * t + 6 ≤ L) (lL : L ≤ 3072) (L0 : Li N h) (R : Rm t N kc ks) (O : ∀ N kc ks h, Li N h → Rm (t + 1) N kc ks → AW (ML L xs) kc ks 2434 (lv5 (6 * t)) [] h k1_) : AW (ML L xs) kc ks 1419 (lv5 (6 * t)) [] h k1_ := by
  have hk := R.ok (by omega)
  refine aw_aload_n (i := 1) rfl d_L_1419 1 rfl ?_
  refine aw_arg (j := 1) d_L_1420 d_L_1421 d_L_1423 d_L_1424 d_L_1425 ic_1 (oa_1 (by omega)) (by omega) lL ?_
  refine aw_arg (j := 2) d_L_1426 d_L_1427 d_L_1429 d_L_1430 d_L_1431 ic_2 (oa_2 (by omega)) (by omega) lL ?_
  refine aw_arg (j := 3) d_L_1432 d_L_1433 d_L_1435 d_L_1436 d_L_1437 ic_3 (oa_3 (by omega)) (by omega) lL ?_
  refine aw_Kp (M' := m_X11_fact (0 + 2) 0 0) (a := 0) [.int (xs (6 * t + 1)), .int (xs (6 * t + 2)), .int (xs (6 * t + 3))] (hc_X11_fact 0) ⟨⟨_, rfl, rtop_in _, fun _ y => (nomatch y)⟩, ⟨_, rfl, rtop_in _, fun _ y => (nomatch y)⟩, ⟨_, rfl, rtop_in _, fun _ y => (nomatch y)⟩, rfl, trivial⟩ L0.1 (fun _ y => (nomatch y)) d_L_1438 (cV_X11_fact (0 + 2) 0 0) kc_11 (ws_0 L0.1.1) tw_1275 rfl ⟨⟨show 0 + 2 + 1 ≤ 2048 from by decide, show 8 + (4 + 11) + 100 * (0 + 2) ≤ 84000 from by decide⟩, rfl, rfl⟩ ⟨show kc ≤ 494584 by omega, show ks ≤ 7612352 by omega⟩ ⟨_, rfl⟩ d_L_1441 (fun h1 I1 F1 => ?_)
  have L1 := L0.fr I1 F1 (by decide +kernel)
  refine aw_aload_n (i := 2) rfl d_L_1442 2 rfl ?_
  refine aw_arg (j := 1) d_L_1443 d_L_1444 d_L_1446 d_L_1447 d_L_1448 ic_1 (oa_1 (by omega)) (by omega) lL ?_
  refine aw_arg (j := 2) d_L_1449 d_L_1450 d_L_1452 d_L_1453 d_L_1454 ic_2 (oa_2 (by omega)) (by omega) lL ?_
  refine aw_arg (j := 3) d_L_1455 d_L_1456 d_L_1458 d_L_1459 d_L_1460 ic_3 (oa_3 (by omega)) (by omega) lL ?_
  refine aw_Kp (M' := m_X12_fact (0 + 3) 0 0) (a := 1) [.int (xs (6 * t + 1)), .int (xs (6 * t + 2)), .int (xs (6 * t + 3))] (hc_X12_fact 0) ⟨⟨_, rfl, rtop_in _, fun _ y => (nomatch y)⟩, ⟨_, rfl, rtop_in _, fun _ y => (nomatch y)⟩, ⟨_, rfl, rtop_in _, fun _ y => (nomatch y)⟩, rfl, trivial⟩ L1.1 (fun _ y => (nomatch y)) d_L_1461 (cV_X12_fact (0 + 3) 0 0) kc_12 (ws_1 L1.1.1) tw_2511 rfl ⟨⟨show 0 + 3 + 1 ≤ 2048 from by decide, show 8 + (4 + 11) + 100 * (0 + 3) ≤ 84000 from by decide⟩, rfl, rfl⟩ ⟨show kc ≤ 494584 by omega, show ks ≤ 7612352 by omega⟩ ⟨_, rfl⟩ d_L_1464 (fun h2 I2 F2 => ?_)
  have L2 := L1.fr I2 F2 (by decide +kernel)
  refine aw_goto (tgt := 2434) d_L_1465 rfl ?_
  exact O _ _ _ _ L2 R.up
theorem lc_29 {L t N kc ks : Nat} {xs : Nat → Int32} {h : Hp_} (hL : 6 * t + 6 ≤ L) (lL : L ≤ 3072) (L0 : Li N h) (R : Rm t N kc ks) (O : ∀ N kc ks h, Li N h → Rm (t + 1) N kc ks → AW (ML L xs) kc ks 2434 (lv5 (6 * t)) [] h k1_) : AW (ML L xs) kc ks 1468 (lv5 (6 * t)) [] h k1_ := by
  have hk := R.ok (by omega)
  refine aw_aload_n (i := 1) rfl d_L_1468 1 rfl ?_
  refine aw_arg (j := 1) d_L_1469 d_L_1470 d_L_1472 d_L_1473 d_L_1474 ic_1 (oa_1 (by omega)) (by omega) lL ?_
  refine aw_arg (j := 2) d_L_1475 d_L_1476 d_L_1478 d_L_1479 d_L_1480 ic_2 (oa_2 (by omega)) (by omega) lL ?_
  refine aw_arg (j := 3) d_L_1481 d_L_1482 d_L_1484 d_L_1485 d_L_1486 ic_3 (oa_3 (by omega)) (by omega) lL ?_
  refine aw_Kp (M' := m_X11_cased (0 + 6) 0 0) (a := 0) [.int (xs (6 * t + 1)), .int (xs (6 * t + 2)), .int (xs (6 * t + 3))] (hc_X11_cased 0) ⟨⟨_, rfl, rtop_in _, fun _ y => (nomatch y)⟩, ⟨_, rfl, rtop_in _, fun _ y => (nomatch y)⟩, ⟨_, rfl, rtop_in _, fun _ y => (nomatch y)⟩, rfl, trivial⟩ L0.1 (fun _ y => (nomatch y)) d_L_1487 (cV_X11_cased (0 + 6) 0 0) kc_11 (ws_0 L0.1.1) tw_1285 rfl ⟨⟨show 0 + 6 + 1 ≤ 2048 from by decide, show 8 + (4 + 11) + 100 * (0 + 6) ≤ 84000 from by decide⟩, rfl, rfl⟩ ⟨show kc ≤ 494584 by omega, show ks ≤ 7612352 by omega⟩ ⟨_, rfl⟩ d_L_1490 (fun h1 I1 F1 => ?_)
  have L1 := L0.fr I1 F1 (by decide +kernel)
  refine aw_aload_n (i := 2) rfl d_L_1491 2 rfl ?_
  refine aw_arg (j := 1) d_L_1492 d_L_1493 d_L_1495 d_L_1496 d_L_1497 ic_1 (oa_1 (by omega)) (by omega) lL ?_
  refine aw_arg (j := 2) d_L_1498 d_L_1499 d_L_1501 d_L_1502 d_L_1503 ic_2 (oa_2 (by omega)) (by omega) lL ?_
  refine aw_arg (j := 3) d_L_1504 d_L_1505 d_L_1507 d_L_1508 d_L_1509 ic_3 (oa_3 (by omega)) (by omega) lL ?_
  refine aw_Kp (M' := m_X12_cased (0 + 4) 0 0) (a := 1) [.int (xs (6 * t + 1)), .int (xs (6 * t + 2)), .int (xs (6 * t + 3))] (hc_X12_cased 0) ⟨⟨_, rfl, rtop_in _, fun _ y => (nomatch y)⟩, ⟨_, rfl, rtop_in _, fun _ y => (nomatch y)⟩, ⟨_, rfl, rtop_in _, fun _ y => (nomatch y)⟩, rfl, trivial⟩ L1.1 (fun _ y => (nomatch y)) d_L_1510 (cV_X12_cased (0 + 4) 0 0) kc_12 (ws_1 L1.1.1) tw_2523 rfl ⟨⟨show 0 + 4 + 1 ≤ 2048 from by decide, show 8 + (4 + 11) + 100 * (0 + 4) ≤ 84000 from by decide⟩, rfl, rfl⟩ ⟨show kc ≤ 494584 by omega, show ks ≤ 7612352 by omega⟩ ⟨_, rfl⟩ d_L_1513 (fun h2 I2 F2 => ?_)
  have L2 := L1.fr I2 F2 (by decide +kernel)
  refine aw_goto (tgt := 2434) d_L_1514 rfl ?_
  exact O _ _ _ _ L2 R.up
theorem lc_30 {L t N kc ks : Nat} {xs : Nat → Int32} {h : Hp_} (hL : 6 * t + 6 ≤ L) (lL : L ≤ 3072) (L0 : Li N h) (R : Rm t N kc ks) (O : ∀ N kc ks h, Li N h → Rm (t + 1) N kc ks → AW (ML L xs) kc ks 2434 (lv5 (6 * t)) [] h k1_) : AW (ML L xs) kc ks 1517 (lv5 (6 * t)) [] h k1_ := by
  have hk := R.ok (by omega)
  refine aw_aload_n (i := 1) rfl d_L_1517 1 rfl ?_
  refine aw_arg (j := 1) d_L_1518 d_L_1519 d_L_1521 d_L_1522 d_L_1523 ic_1 (oa_1 (by omega)) (by omega) lL ?_
  refine aw_arg (j := 2) d_L_1524 d_L_1525 d_L_1527 d_L_1528 d_L_1529 ic_2 (oa_2 (by omega)) (by omega) lL ?_
  refine aw_arg (j := 3) d_L_1530 d_L_1531 d_L_1533 d_L_1534 d_L_1535 ic_3 (oa_3 (by omega)) (by omega) lL ?_
  refine aw_Kp (M' := m_X11_story (0 + 2) 0 0) (a := 0) [.int (xs (6 * t + 1)), .int (xs (6 * t + 2)), .int (xs (6 * t + 3))] (hc_X11_story 0) ⟨⟨_, rfl, rtop_in _, fun _ y => (nomatch y)⟩, ⟨_, rfl, rtop_in _, fun _ y => (nomatch y)⟩, ⟨_, rfl, rtop_in _, fun _ y => (nomatch y)⟩, rfl, trivial⟩ L0.1 (fun _ y => (nomatch y)) d_L_1536 (cV_X11_story (0 + 2) 0 0) kc_11 (ws_0 L0.1.1) tw_1297 rfl ⟨⟨show 0 + 2 + 1 ≤ 2048 from by decide, show 8 + (4 + 11) + 100 * (0 + 2) ≤ 84000 from by decide⟩, rfl, rfl⟩ ⟨show kc ≤ 494584 by omega, show ks ≤ 7612352 by omega⟩ ⟨_, rfl⟩ d_L_1539 (fun h1 I1 F1 => ?_)
  have L1 := L0.fr I1 F1 (by decide +kernel)
  refine aw_aload_n (i := 2) rfl d_L_1540 2 rfl ?_
  refine aw_arg (j := 1) d_L_1541 d_L_1542 d_L_1544 d_L_1545 d_L_1546 ic_1 (oa_1 (by omega)) (by omega) lL ?_
  refine aw_arg (j := 2) d_L_1547 d_L_1548 d_L_1550 d_L_1551 d_L_1552 ic_2 (oa_2 (by omega)) (by omega) lL ?_
  refine aw_arg (j := 3) d_L_1553 d_L_1554 d_L_1556 d_L_1557 d_L_1558 ic_3 (oa_3 (by omega)) (by omega) lL ?_
  refine aw_Kp (M' := m_X12_story (0 + 2) 0 0) (a := 1) [.int (xs (6 * t + 1)), .int (xs (6 * t + 2)), .int (xs (6 * t + 3))] (hc_X12_story 0) ⟨⟨_, rfl, rtop_in _, fun _ y => (nomatch y)⟩, ⟨_, rfl, rtop_in _, fun _ y => (nomatch y)⟩, ⟨_, rfl, rtop_in _, fun _ y => (nomatch y)⟩, rfl, trivial⟩ L1.1 (fun _ y => (nomatch y)) d_L_1559 (cV_X12_story (0 + 2) 0 0) kc_12 (ws_1 L1.1.1) tw_2548 rfl ⟨⟨show 0 + 2 + 1 ≤ 2048 from by decide, show 8 + (5 + 11) + 100 * (0 + 2) ≤ 84000 from by decide⟩, rfl, rfl⟩ ⟨show kc ≤ 494584 by omega, show ks ≤ 7612352 by omega⟩ ⟨_, rfl⟩ d_L_1562 (fun h2 I2 F2 => ?_)
  have L2 := L1.fr I2 F2 (by decide +kernel)
  refine aw_goto (tgt := 2434) d_L_1563 rfl ?_
  exact O _ _ _ _ L2 R.up
theorem lc_31 {L t N kc ks : Nat} {xs : Nat → Int32} {h : Hp_} (hL : 6 * t + 6 ≤ L) (lL : L ≤ 3072) (L0 : Li N h) (R : Rm t N kc ks) (O : ∀ N kc ks h, Li N h → Rm (t + 1) N kc ks → AW (ML L xs) kc ks 2434 (lv5 (6 * t)) [] h k1_) : AW (ML L xs) kc ks 1566 (lv5 (6 * t)) [] h k1_ := by
  have hk := R.ok (by omega)
  refine aw_aload_n (i := 1) rfl d_L_1566 1 rfl ?_
  refine aw_arg (j := 1) d_L_1567 d_L_1568 d_L_1570 d_L_1571 d_L_1572 ic_1 (oa_1 (by omega)) (by omega) lL ?_
  refine aw_Kp (M' := m_X11_next (0 + 5) 0 0) (a := 0) [.int (xs (6 * t + 1))] (hc_X11_next 0) ⟨⟨_, rfl, rtop_in _, fun _ y => (nomatch y)⟩, rfl, trivial⟩ L0.1 (fun _ y => (nomatch y)) d_L_1573 (cV_X11_next (0 + 5) 0 0) kc_11 (ws_0 L0.1.1) tw_1305 rfl ⟨⟨show 0 + 5 + 1 ≤ 2048 from by decide, show 8 + (2 + 11) + 100 * (0 + 5) ≤ 84000 from by decide⟩, rfl, rfl⟩ ⟨show kc ≤ 494584 by omega, show ks ≤ 7612352 by omega⟩ ⟨_, rfl⟩ d_L_1576 (fun h1 I1 F1 => ?_)
  have L1 := L0.fr I1 F1 (by decide +kernel)
  refine aw_aload_n (i := 2) rfl d_L_1577 2 rfl ?_
  refine aw_arg (j := 1) d_L_1578 d_L_1579 d_L_1581 d_L_1582 d_L_1583 ic_1 (oa_1 (by omega)) (by omega) lL ?_
  refine aw_Kp (M' := m_X12_next (0 + 3) 0 0) (a := 1) [.int (xs (6 * t + 1))] (hc_X12_next 0) ⟨⟨_, rfl, rtop_in _, fun _ y => (nomatch y)⟩, rfl, trivial⟩ L1.1 (fun _ y => (nomatch y)) d_L_1584 (cV_X12_next (0 + 3) 0 0) kc_12 (ws_1 L1.1.1) tw_2552 rfl ⟨⟨show 0 + 3 + 1 ≤ 2048 from by decide, show 8 + (11 + 11) + 100 * (0 + 3) ≤ 84000 from by decide⟩, rfl, rfl⟩ ⟨show kc ≤ 494584 by omega, show ks ≤ 7612352 by omega⟩ ⟨_, rfl⟩ d_L_1587 (fun h2 I2 F2 => ?_)
  have L2 := L1.fr I2 F2 (by decide +kernel)
  refine aw_goto (tgt := 2434) d_L_1588 rfl ?_
  exact O _ _ _ _ L2 R.up
theorem lc_32 {L t N kc ks : Nat} {xs : Nat → Int32} {h : Hp_} (hL : 6 * t + 6 ≤ L) (lL : L ≤ 3072) (L0 : Li N h) (R : Rm t N kc ks) (O : ∀ N kc ks h, Li N h → Rm (t + 1) N kc ks → AW (ML L xs) kc ks 2434 (lv5 (6 * t)) [] h k1_) : AW (ML L xs) kc ks 1591 (lv5 (6 * t)) [] h k1_ := by
  have hk := R.ok (by omega)
  refine aw_aload_n (i := 1) rfl d_L_1591 1 rfl ?_
  refine aw_arg (j := 1) d_L_1592 d_L_1593 d_L_1595 d_L_1596 d_L_1597 ic_1 (oa_1 (by omega)) (by omega) lL ?_
  refine aw_if_eq (tgt := 1605) d_L_1598 rfl (fun y1598 => ?_) (fun y1598 => ?_)
  · refine aw_iconst (v := 0) d_L_1605 ic_0 ?_
    refine aw_arg (j := 2) d_L_1606 d_L_1607 d_L_1609 d_L_1610 d_L_1611 ic_2 (oa_2 (by omega)) (by omega) lL ?_
    refine aw_Kp (M' := m_X11_good (0 + 1) 0 0) (a := 0) [.int 0, .int (xs (6 * t + 2))] (hc_X11_good 0) ⟨⟨_, rfl, rtop_in _, fun _ y => (nomatch y)⟩, ⟨_, rfl, ⟨by decide, by decide⟩, fun _ y => (nomatch y)⟩, rfl, trivial⟩ L0.1 (fun _ y => (nomatch y)) d_L_1612 (cV_X11_good (0 + 1) 0 0) kc_11 (ws_0 L0.1.1) tw_1314 rfl ⟨⟨show 0 + 1 + 1 ≤ 2048 from by decide, show 8 + (3 + 11) + 100 * (0 + 1) ≤ 84000 from by decide⟩, rfl, rfl⟩ ⟨show kc ≤ 494584 by omega, show ks ≤ 7612352 by omega⟩ ⟨_, rfl⟩ d_L_1615 (fun h1 I1 F1 => ?_)
    have L1 := L0.fr I1 F1 (by decide +kernel)
    refine aw_aload_n (i := 2) rfl d_L_1616 2 rfl ?_
    refine aw_arg (j := 1) d_L_1617 d_L_1618 d_L_1620 d_L_1621 d_L_1622 ic_1 (oa_1 (by omega)) (by omega) lL ?_
    refine aw_if_eq (tgt := 1630) d_L_1623 rfl (fun _ => ?_) (fun z => absurd y1598 z)
    refine aw_iconst (v := 0) d_L_1630 ic_0 ?_
    refine aw_arg (j := 2) d_L_1631 d_L_1632 d_L_1634 d_L_1635 d_L_1636 ic_2 (oa_2 (by omega)) (by omega) lL ?_
    refine aw_Kp (M' := m_X12_good (0 + 1) 0 0) (a := 1) [.int 0, .int (xs (6 * t + 2))] (hc_X12_good 0) ⟨⟨_, rfl, rtop_in _, fun _ y => (nomatch y)⟩, ⟨_, rfl, ⟨by decide, by decide⟩, fun _ y => (nomatch y)⟩, rfl, trivial⟩ L1.1 (fun _ y => (nomatch y)) d_L_1637 (cV_X12_good (0 + 1) 0 0) kc_12 (ws_1 L1.1.1) tw_2557 rfl ⟨⟨show 0 + 1 + 1 ≤ 2048 from by decide, show 8 + (3 + 11) + 100 * (0 + 1) ≤ 84000 from by decide⟩, rfl, rfl⟩ ⟨show kc ≤ 494584 by omega, show ks ≤ 7612352 by omega⟩ ⟨_, rfl⟩ d_L_1640 (fun h2 I2 F2 => ?_)
    have L2 := L1.fr I2 F2 (by decide +kernel)
    refine aw_goto (tgt := 2434) d_L_1641 rfl ?_
    exact O _ _ _ _ L2 R.up
  · refine aw_iconst (v := 1) d_L_1601 ic_1 ?_
    refine aw_goto (tgt := 1606) d_L_1602 rfl ?_
    refine aw_arg (j := 2) d_L_1606 d_L_1607 d_L_1609 d_L_1610 d_L_1611 ic_2 (oa_2 (by omega)) (by omega) lL ?_
    refine aw_Kp (M' := m_X11_good (0 + 1) 0 0) (a := 0) [.int 1, .int (xs (6 * t + 2))] (hc_X11_good 0) ⟨⟨_, rfl, rtop_in _, fun _ y => (nomatch y)⟩, ⟨_, rfl, ⟨by decide, by decide⟩, fun _ y => (nomatch y)⟩, rfl, trivial⟩ L0.1 (fun _ y => (nomatch y)) d_L_1612 (cV_X11_good (0 + 1) 0 0) kc_11 (ws_0 L0.1.1) tw_1314 rfl ⟨⟨show 0 + 1 + 1 ≤ 2048 from by decide, show 8 + (3 + 11) + 100 * (0 + 1) ≤ 84000 from by decide⟩, rfl, rfl⟩ ⟨show kc ≤ 494584 by omega, show ks ≤ 7612352 by omega⟩ ⟨_, rfl⟩ d_L_1615 (fun h1 I1 F1 => ?_)
    have L1 := L0.fr I1 F1 (by decide +kernel)
    refine aw_aload_n (i := 2) rfl d_L_1616 2 rfl ?_
    refine aw_arg (j := 1) d_L_1617 d_L_1618 d_L_1620 d_L_1621 d_L_1622 ic_1 (oa_1 (by omega)) (by omega) lL ?_
    refine aw_if_eq (tgt := 1630) d_L_1623 rfl (fun z => absurd z y1598) (fun _ => ?_)
    refine aw_iconst (v := 1) d_L_1626 ic_1 ?_
    refine aw_goto (tgt := 1631) d_L_1627 rfl ?_
    refine aw_arg (j := 2) d_L_1631 d_L_1632 d_L_1634 d_L_1635 d_L_1636 ic_2 (oa_2 (by omega)) (by omega) lL ?_
    refine aw_Kp (M' := m_X12_good (0 + 1) 0 0) (a := 1) [.int 1, .int (xs (6 * t + 2))] (hc_X12_good 0) ⟨⟨_, rfl, rtop_in _, fun _ y => (nomatch y)⟩, ⟨_, rfl, ⟨by decide, by decide⟩, fun _ y => (nomatch y)⟩, rfl, trivial⟩ L1.1 (fun _ y => (nomatch y)) d_L_1637 (cV_X12_good (0 + 1) 0 0) kc_12 (ws_1 L1.1.1) tw_2557 rfl ⟨⟨show 0 + 1 + 1 ≤ 2048 from by decide, show 8 + (3 + 11) + 100 * (0 + 1) ≤ 84000 from by decide⟩, rfl, rfl⟩ ⟨show kc ≤ 494584 by omega, show ks ≤ 7612352 by omega⟩ ⟨_, rfl⟩ d_L_1640 (fun h2 I2 F2 => ?_)
    have L2 := L1.fr I2 F2 (by decide +kernel)
    refine aw_goto (tgt := 2434) d_L_1641 rfl ?_
    exact O _ _ _ _ L2 R.up
theorem lc_33 {L t N kc ks : Nat} {xs : Nat → Int32} {h : Hp_} (hL : 6 * t + 6 ≤ L) (lL : L ≤ 3072) (L0 : Li N h) (R : Rm t N kc ks) (O : ∀ N kc ks h, Li N h → Rm (t + 1) N kc ks → AW (ML L xs) kc ks 2434 (lv5 (6 * t)) [] h k1_) : AW (ML L xs) kc ks 1644 (lv5 (6 * t)) [] h k1_ := by
  have hk := R.ok (by omega)
  refine aw_aload_n (i := 1) rfl d_L_1644 1 rfl ?_
  refine aw_arg (j := 1) d_L_1645 d_L_1646 d_L_1648 d_L_1649 d_L_1650 ic_1 (oa_1 (by omega)) (by omega) lL ?_
  refine aw_Kp (M' := m_X11_least (0 + 1) 0 0) (a := 0) [.int (xs (6 * t + 1))] (hc_X11_least 0) ⟨⟨_, rfl, rtop_in _, fun _ y => (nomatch y)⟩, rfl, trivial⟩ L0.1 (fun _ y => (nomatch y)) d_L_1651 (cV_X11_least (0 + 1) 0 0) kc_11 (ws_0 L0.1.1) tw_1323 rfl ⟨⟨show 0 + 1 + 1 ≤ 2048 from by decide, show 8 + (2 + 11) + 100 * (0 + 1) ≤ 84000 from by decide⟩, rfl, rfl⟩ ⟨show kc ≤ 494584 by omega, show ks ≤ 7612352 by omega⟩ ⟨_, rfl⟩ d_L_1654 (fun h1 I1 F1 => ?_)
  have L1 := L0.fr I1 F1 (by decide +kernel)
  refine aw_aload_n (i := 2) rfl d_L_1655 2 rfl ?_
  refine aw_arg (j := 1) d_L_1656 d_L_1657 d_L_1659 d_L_1660 d_L_1661 ic_1 (oa_1 (by omega)) (by omega) lL ?_
  refine aw_Kp (M' := m_X12_least (0 + 1) 0 0) (a := 1) [.int (xs (6 * t + 1))] (hc_X12_least 0) ⟨⟨_, rfl, rtop_in _, fun _ y => (nomatch y)⟩, rfl, trivial⟩ L1.1 (fun _ y => (nomatch y)) d_L_1662 (cV_X12_least (0 + 1) 0 0) kc_12 (ws_1 L1.1.1) tw_2562 rfl ⟨⟨show 0 + 1 + 1 ≤ 2048 from by decide, show 8 + (2 + 11) + 100 * (0 + 1) ≤ 84000 from by decide⟩, rfl, rfl⟩ ⟨show kc ≤ 494584 by omega, show ks ≤ 7612352 by omega⟩ ⟨_, rfl⟩ d_L_1665 (fun h2 I2 F2 => ?_)
  have L2 := L1.fr I2 F2 (by decide +kernel)
  refine aw_goto (tgt := 2434) d_L_1666 rfl ?_
  exact O _ _ _ _ L2 R.up
theorem lc_34 {L t N kc ks : Nat} {xs : Nat → Int32} {h : Hp_} (hL : 6 * t + 6 ≤ L) (lL : L ≤ 3072) (L0 : Li N h) (R : Rm t N kc ks) (O : ∀ N kc ks h, Li N h → Rm (t + 1) N kc ks → AW (ML L xs) kc ks 2434 (lv5 (6 * t)) [] h k1_) : AW (ML L xs) kc ks 1669 (lv5 (6 * t)) [] h k1_ := by
  have hk := R.ok (by omega)
  refine aw_aload_n (i := 1) rfl d_L_1669 1 rfl ?_
  refine aw_Kp (M' := m_X11_joining (0 + 5) 0 0) (a := 0) [] (hc_X11_joining 0) ⟨rfl, trivial⟩ L0.1 (fun _ y => (nomatch y)) d_L_1670 (cV_X11_joining (0 + 5) 0 0) kc_11 (ws_0 L0.1.1) tw_1331 rfl ⟨⟨show 0 + 5 + 1 ≤ 2048 from by decide, show 8 + (1 + 11) + 100 * (0 + 5) ≤ 84000 from by decide⟩, rfl, rfl⟩ ⟨show kc ≤ 494584 by omega, show ks ≤ 7612352 by omega⟩ ⟨_, rfl⟩ d_L_1673 (fun h1 I1 F1 => ?_)
  have L1 := L0.fr I1 F1 (by decide +kernel)
  refine aw_aload_n (i := 2) rfl d_L_1674 2 rfl ?_
  refine aw_Kp (M' := m_X12_joining (0 + 2) 0 0) (a := 1) [] (hc_X12_joining 0) ⟨rfl, trivial⟩ L1.1 (fun _ y => (nomatch y)) d_L_1675 (cV_X12_joining (0 + 2) 0 0) kc_12 (ws_1 L1.1.1) tw_2566 rfl ⟨⟨show 0 + 2 + 1 ≤ 2048 from by decide, show 8 + (1 + 11) + 100 * (0 + 2) ≤ 84000 from by decide⟩, rfl, rfl⟩ ⟨show kc ≤ 494584 by omega, show ks ≤ 7612352 by omega⟩ ⟨_, rfl⟩ d_L_1678 (fun h2 I2 F2 => ?_)
  have L2 := L1.fr I2 F2 (by decide +kernel)
  refine aw_goto (tgt := 2434) d_L_1679 rfl ?_
  exact O _ _ _ _ L2 R.up
theorem lc_35 {L t N kc ks : Nat} {xs : Nat → Int32} {h : Hp_} (hL : 6 * t + 6 ≤ L) (lL : L ≤ 3072) (L0 : Li N h) (R : Rm t N kc ks) (O : ∀ N kc ks h, Li N h → Rm (t + 1) N kc ks → AW (ML L xs) kc ks 2434 (lv5 (6 * t)) [] h k1_) : AW (ML L xs) kc ks 1682 (lv5 (6 * t)) [] h k1_ := by
  have hk := R.ok (by omega)
  refine aw_aload_n (i := 1) rfl d_L_1682 1 rfl ?_
  refine aw_arg (j := 1) d_L_1683 d_L_1684 d_L_1686 d_L_1687 d_L_1688 ic_1 (oa_1 (by omega)) (by omega) lL ?_
  refine aw_Kp (M' := m_X11_joined (0 + 5) 0 0) (a := 0) [.int (xs (6 * t + 1))] (hc_X11_joined 0) ⟨⟨_, rfl, rtop_in _, fun _ y => (nomatch y)⟩, rfl, trivial⟩ L0.1 (fun _ y => (nomatch y)) d_L_1689 (cV_X11_joined (0 + 5) 0 0) kc_11 (ws_0 L0.1.1) tw_1376 rfl ⟨⟨show 0 + 5 + 1 ≤ 2048 from by decide, show 8 + (2 + 11) + 100 * (0 + 5) ≤ 84000 from by decide⟩, rfl, rfl⟩ ⟨show kc ≤ 494584 by omega, show ks ≤ 7612352 by omega⟩ ⟨_, rfl⟩ d_L_1692 (fun h1 I1 F1 => ?_)
  have L1 := L0.fr I1 F1 (by decide +kernel)
  refine aw_aload_n (i := 2) rfl d_L_1693 2 rfl ?_
  refine aw_arg (j := 1) d_L_1694 d_L_1695 d_L_1697 d_L_1698 d_L_1699 ic_1 (oa_1 (by omega)) (by omega) lL ?_
  refine aw_Kp (M' := m_X12_joined (0 + 2) 0 0) (a := 1) [.int (xs (6 * t + 1))] (hc_X12_joined 0) ⟨⟨_, rfl, rtop_in _, fun _ y => (nomatch y)⟩, rfl, trivial⟩ L1.1 (fun _ y => (nomatch y)) d_L_1700 (cV_X12_joined (0 + 2) 0 0) kc_12 (ws_1 L1.1.1) tw_2578 rfl ⟨⟨show 0 + 2 + 1 ≤ 2048 from by decide, show 8 + (7 + 11) + 100 * (0 + 2) ≤ 84000 from by decide⟩, rfl, rfl⟩ ⟨show kc ≤ 494584 by omega, show ks ≤ 7612352 by omega⟩ ⟨_, rfl⟩ d_L_1703 (fun h2 I2 F2 => ?_)
  have L2 := L1.fr I2 F2 (by decide +kernel)
  refine aw_goto (tgt := 2434) d_L_1704 rfl ?_
  exact O _ _ _ _ L2 R.up
theorem lc_36 {L t N kc ks : Nat} {xs : Nat → Int32} {h : Hp_} (hL : 6 * t + 6 ≤ L) (lL : L ≤ 3072) (L0 : Li N h) (R : Rm t N kc ks) (O : ∀ N kc ks h, Li N h → Rm (t + 1) N kc ks → AW (ML L xs) kc ks 2434 (lv5 (6 * t)) [] h k1_) : AW (ML L xs) kc ks 1707 (lv5 (6 * t)) [] h k1_ := by
  have hk := R.ok (by omega)
  refine aw_aload_n (i := 1) rfl d_L_1707 1 rfl ?_
  refine aw_arg (j := 1) d_L_1708 d_L_1709 d_L_1711 d_L_1712 d_L_1713 ic_1 (oa_1 (by omega)) (by omega) lL ?_
  refine aw_Kp (M' := m_X11_rivals (0 + 5) 0 0) (a := 0) [.int (xs (6 * t + 1))] (hc_X11_rivals 0) ⟨⟨_, rfl, rtop_in _, fun _ y => (nomatch y)⟩, rfl, trivial⟩ L0.1 (fun _ y => (nomatch y)) d_L_1714 (cV_X11_rivals (0 + 5) 0 0) kc_11 (ws_0 L0.1.1) tw_1389 rfl ⟨⟨show 0 + 5 + 1 ≤ 2048 from by decide, show 8 + (2 + 11) + 100 * (0 + 5) ≤ 84000 from by decide⟩, rfl, rfl⟩ ⟨show kc ≤ 494584 by omega, show ks ≤ 7612352 by omega⟩ ⟨_, rfl⟩ d_L_1717 (fun h1 I1 F1 => ?_)
  have L1 := L0.fr I1 F1 (by decide +kernel)
  refine aw_aload_n (i := 2) rfl d_L_1718 2 rfl ?_
  refine aw_arg (j := 1) d_L_1719 d_L_1720 d_L_1722 d_L_1723 d_L_1724 ic_1 (oa_1 (by omega)) (by omega) lL ?_
  refine aw_Kp (M' := m_X12_rivals (0 + 4) 0 0) (a := 1) [.int (xs (6 * t + 1))] (hc_X12_rivals 0) ⟨⟨_, rfl, rtop_in _, fun _ y => (nomatch y)⟩, rfl, trivial⟩ L1.1 (fun _ y => (nomatch y)) d_L_1725 (cV_X12_rivals (0 + 4) 0 0) kc_12 (ws_1 L1.1.1) tw_2586 rfl ⟨⟨show 0 + 4 + 1 ≤ 2048 from by decide, show 8 + (2 + 11) + 100 * (0 + 4) ≤ 84000 from by decide⟩, rfl, rfl⟩ ⟨show kc ≤ 494584 by omega, show ks ≤ 7612352 by omega⟩ ⟨_, rfl⟩ d_L_1728 (fun h2 I2 F2 => ?_)
  have L2 := L1.fr I2 F2 (by decide +kernel)
  refine aw_goto (tgt := 2434) d_L_1729 rfl ?_
  exact O _ _ _ _ L2 R.up
theorem lc_37 {L t N kc ks : Nat} {xs : Nat → Int32} {h : Hp_} (hL : 6 * t + 6 ≤ L) (lL : L ≤ 3072) (L0 : Li N h) (R : Rm t N kc ks) (O : ∀ N kc ks h, Li N h → Rm (t + 1) N kc ks → AW (ML L xs) kc ks 2434 (lv5 (6 * t)) [] h k1_) : AW (ML L xs) kc ks 1732 (lv5 (6 * t)) [] h k1_ := by
  have hk := R.ok (by omega)
  refine aw_aload_n (i := 1) rfl d_L_1732 1 rfl ?_
  refine aw_arg (j := 1) d_L_1733 d_L_1734 d_L_1736 d_L_1737 d_L_1738 ic_1 (oa_1 (by omega)) (by omega) lL ?_
  refine aw_Kp (M' := m_X11_sure (0 + 5) 0 0) (a := 0) [.int (xs (6 * t + 1))] (hc_X11_sure 0) ⟨⟨_, rfl, rtop_in _, fun _ y => (nomatch y)⟩, rfl, trivial⟩ L0.1 (fun _ y => (nomatch y)) d_L_1739 (cV_X11_sure (0 + 5) 0 0) kc_11 (ws_0 L0.1.1) tw_1397 rfl ⟨⟨show 0 + 5 + 1 ≤ 2048 from by decide, show 8 + (2 + 11) + 100 * (0 + 5) ≤ 84000 from by decide⟩, rfl, rfl⟩ ⟨show kc ≤ 494584 by omega, show ks ≤ 7612352 by omega⟩ ⟨_, rfl⟩ d_L_1742 (fun h1 I1 F1 => ?_)
  have L1 := L0.fr I1 F1 (by decide +kernel)
  refine aw_aload_n (i := 2) rfl d_L_1743 2 rfl ?_
  refine aw_arg (j := 1) d_L_1744 d_L_1745 d_L_1747 d_L_1748 d_L_1749 ic_1 (oa_1 (by omega)) (by omega) lL ?_
  refine aw_Kp (M' := m_X12_sure (0 + 4) 0 0) (a := 1) [.int (xs (6 * t + 1))] (hc_X12_sure 0) ⟨⟨_, rfl, rtop_in _, fun _ y => (nomatch y)⟩, rfl, trivial⟩ L1.1 (fun _ y => (nomatch y)) d_L_1750 (cV_X12_sure (0 + 4) 0 0) kc_12 (ws_1 L1.1.1) tw_2595 rfl ⟨⟨show 0 + 4 + 1 ≤ 2048 from by decide, show 8 + (4 + 11) + 100 * (0 + 4) ≤ 84000 from by decide⟩, rfl, rfl⟩ ⟨show kc ≤ 494584 by omega, show ks ≤ 7612352 by omega⟩ ⟨_, rfl⟩ d_L_1753 (fun h2 I2 F2 => ?_)
  have L2 := L1.fr I2 F2 (by decide +kernel)
  refine aw_goto (tgt := 2434) d_L_1754 rfl ?_
  exact O _ _ _ _ L2 R.up
theorem lc_38 {L t N kc ks : Nat} {xs : Nat → Int32} {h : Hp_} (hL : 6 * t + 6 ≤ L) (lL : L ≤ 3072) (L0 : Li N h) (R : Rm t N kc ks) (O : ∀ N kc ks h, Li N h → Rm (t + 1) N kc ks → AW (ML L xs) kc ks 2434 (lv5 (6 * t)) [] h k1_) : AW (ML L xs) kc ks 1757 (lv5 (6 * t)) [] h k1_ := by
  have hk := R.ok (by omega)
  refine aw_aload_n (i := 1) rfl d_L_1757 1 rfl ?_
  refine aw_arg (j := 1) d_L_1758 d_L_1759 d_L_1761 d_L_1762 d_L_1763 ic_1 (oa_1 (by omega)) (by omega) lL ?_
  refine aw_arg (j := 2) d_L_1764 d_L_1765 d_L_1767 d_L_1768 d_L_1769 ic_2 (oa_2 (by omega)) (by omega) lL ?_
  refine aw_arg (j := 3) d_L_1770 d_L_1771 d_L_1773 d_L_1774 d_L_1775 ic_3 (oa_3 (by omega)) (by omega) lL ?_
  refine aw_Kp (M' := m_X11_watch (0 + 1) 0 0) (a := 0) [.int (xs (6 * t + 1)), .int (xs (6 * t + 2)), .int (xs (6 * t + 3))] (hc_X11_watch 0) ⟨⟨_, rfl, rtop_in _, fun _ y => (nomatch y)⟩, ⟨_, rfl, rtop_in _, fun _ y => (nomatch y)⟩, ⟨_, rfl, rtop_in _, fun _ y => (nomatch y)⟩, rfl, trivial⟩ L0.1 (fun _ y => (nomatch y)) d_L_1776 (cV_X11_watch (0 + 1) 0 0) kc_11 (ws_0 L0.1.1) tw_1406 rfl ⟨⟨show 0 + 1 + 1 ≤ 2048 from by decide, show 8 + (4 + 11) + 100 * (0 + 1) ≤ 84000 from by decide⟩, rfl, rfl⟩ ⟨show kc ≤ 494584 by omega, show ks ≤ 7612352 by omega⟩ ⟨_, rfl⟩ d_L_1779 (fun h1 I1 F1 => ?_)
  have L1 := L0.fr I1 F1 (by decide +kernel)
  refine aw_aload_n (i := 2) rfl d_L_1780 2 rfl ?_
  refine aw_arg (j := 1) d_L_1781 d_L_1782 d_L_1784 d_L_1785 d_L_1786 ic_1 (oa_1 (by omega)) (by omega) lL ?_
  refine aw_arg (j := 2) d_L_1787 d_L_1788 d_L_1790 d_L_1791 d_L_1792 ic_2 (oa_2 (by omega)) (by omega) lL ?_
  refine aw_arg (j := 3) d_L_1793 d_L_1794 d_L_1796 d_L_1797 d_L_1798 ic_3 (oa_3 (by omega)) (by omega) lL ?_
  refine aw_Kp (M' := m_X12_watch (0 + 2) 0 0) (a := 1) [.int (xs (6 * t + 1)), .int (xs (6 * t + 2)), .int (xs (6 * t + 3))] (hc_X12_watch 0) ⟨⟨_, rfl, rtop_in _, fun _ y => (nomatch y)⟩, ⟨_, rfl, rtop_in _, fun _ y => (nomatch y)⟩, ⟨_, rfl, rtop_in _, fun _ y => (nomatch y)⟩, rfl, trivial⟩ L1.1 (fun _ y => (nomatch y)) d_L_1799 (cV_X12_watch (0 + 2) 0 0) kc_12 (ws_1 L1.1.1) tw_2599 rfl ⟨⟨show 0 + 2 + 1 ≤ 2048 from by decide, show 8 + (4 + 11) + 100 * (0 + 2) ≤ 84000 from by decide⟩, rfl, rfl⟩ ⟨show kc ≤ 494584 by omega, show ks ≤ 7612352 by omega⟩ ⟨_, rfl⟩ d_L_1802 (fun h2 I2 F2 => ?_)
  have L2 := L1.fr I2 F2 (by decide +kernel)
  refine aw_goto (tgt := 2434) d_L_1803 rfl ?_
  exact O _ _ _ _ L2 R.up
theorem lc_39 {L t N kc ks : Nat} {xs : Nat → Int32} {h : Hp_} (hL : 6 * t + 6 ≤ L) (lL : L ≤ 3072) (L0 : Li N h) (R : Rm t N kc ks) (O : ∀ N kc ks h, Li N h → Rm (t + 1) N kc ks → AW (ML L xs) kc ks 2434 (lv5 (6 * t)) [] h k1_) : AW (ML L xs) kc ks 1806 (lv5 (6 * t)) [] h k1_ := by
  have hk := R.ok (by omega)
  refine aw_aload_n (i := 1) rfl d_L_1806 1 rfl ?_
  refine aw_arg (j := 1) d_L_1807 d_L_1808 d_L_1810 d_L_1811 d_L_1812 ic_1 (oa_1 (by omega)) (by omega) lL ?_
  refine aw_arg (j := 2) d_L_1813 d_L_1814 d_L_1816 d_L_1817 d_L_1818 ic_2 (oa_2 (by omega)) (by omega) lL ?_
  refine aw_Kp (M' := m_X11_sees (0 + 4) 0 0) (a := 0) [.int (xs (6 * t + 1)), .int (xs (6 * t + 2))] (hc_X11_sees 0) ⟨⟨_, rfl, rtop_in _, fun _ y => (nomatch y)⟩, ⟨_, rfl, rtop_in _, fun _ y => (nomatch y)⟩, rfl, trivial⟩ L0.1 (fun _ y => (nomatch y)) d_L_1819 (cV_X11_sees (0 + 4) 0 0) kc_11 (ws_0 L0.1.1) tw_1414 rfl ⟨⟨show 0 + 4 + 1 ≤ 2048 from by decide, show 8 + (3 + 11) + 100 * (0 + 4) ≤ 84000 from by decide⟩, rfl, rfl⟩ ⟨show kc ≤ 494584 by omega, show ks ≤ 7612352 by omega⟩ ⟨_, rfl⟩ d_L_1822 (fun h1 I1 F1 => ?_)
  have L1 := L0.fr I1 F1 (by decide +kernel)
  refine aw_aload_n (i := 2) rfl d_L_1823 2 rfl ?_
  refine aw_arg (j := 1) d_L_1824 d_L_1825 d_L_1827 d_L_1828 d_L_1829 ic_1 (oa_1 (by omega)) (by omega) lL ?_
  refine aw_arg (j := 2) d_L_1830 d_L_1831 d_L_1833 d_L_1834 d_L_1835 ic_2 (oa_2 (by omega)) (by omega) lL ?_
  refine aw_Kp (M' := m_X12_sees (0 + 2) 0 0) (a := 1) [.int (xs (6 * t + 1)), .int (xs (6 * t + 2))] (hc_X12_sees 0) ⟨⟨_, rfl, rtop_in _, fun _ y => (nomatch y)⟩, ⟨_, rfl, rtop_in _, fun _ y => (nomatch y)⟩, rfl, trivial⟩ L1.1 (fun _ y => (nomatch y)) d_L_1836 (cV_X12_sees (0 + 2) 0 0) kc_12 (ws_1 L1.1.1) tw_2603 rfl ⟨⟨show 0 + 2 + 1 ≤ 2048 from by decide, show 8 + (3 + 11) + 100 * (0 + 2) ≤ 84000 from by decide⟩, rfl, rfl⟩ ⟨show kc ≤ 494584 by omega, show ks ≤ 7612352 by omega⟩ ⟨_, rfl⟩ d_L_1839 (fun h2 I2 F2 => ?_)
  have L2 := L1.fr I2 F2 (by decide +kernel)
  refine aw_goto (tgt := 2434) d_L_1840 rfl ?_
  exact O _ _ _ _ L2 R.up
end
section
theorem lc_40 {L t N kc ks : Nat} {xs : Nat → Int32} {h : Hp_} (hL : 6 * t + 6 ≤ L) (lL : L ≤ 3072) (L0 : Li N h) (R : Rm t N kc ks) (O : ∀ N kc ks h, Li N h → Rm (t + 1) N kc ks → AW (ML L xs) kc ks 2434 (lv5 (6 * t)) [] h k1_) : AW (ML L xs) kc ks 1843 (lv5 (6 * t)) [] h k1_ := by
  have hk := R.ok (by omega)
  refine aw_aload_n (i := 1) rfl d_L_1843 1 rfl ?_
  refine aw_arg (j := 1) d_L_1844 d_L_1845 d_L_1847 d_L_1848 d_L_1849 ic_1 (oa_1 (by omega)) (by omega) lL ?_
  refine aw_Kp (M' := m_X11_safe (0 + 9) 0 0) (a := 0) [.int (xs (6 * t + 1))] (hc_X11_safe 0) ⟨⟨_, rfl, rtop_in _, fun _ y => (nomatch y)⟩, rfl, trivial⟩ L0.1 (fun _ y => (nomatch y)) d_L_1850 (cV_X11_safe (0 + 9) 0 0) kc_11 (ws_0 L0.1.1) tw_1438 rfl ⟨⟨show 0 + 9 + 1 ≤ 2048 from by decide, show 8 + (2 + 11) + 100 * (0 + 9) ≤ 84000 from by decide⟩, rfl, rfl⟩ ⟨show kc ≤ 494584 by omega, show ks ≤ 7612352 by omega⟩ ⟨_, rfl⟩ d_L_1853 (fun h1 I1 F1 => ?_)
  have L1 := L0.fr I1 F1 (by decide +kernel)
  refine aw_aload_n (i := 2) rfl d_L_1854 2 rfl ?_
  refine aw_arg (j := 1) d_L_1855 d_L_1856 d_L_1858 d_L_1859 d_L_1860 ic_1 (oa_1 (by omega)) (by omega) lL ?_
  refine aw_Kp (M' := m_X12_safe (0 + 8) 0 0) (a := 1) [.int (xs (6 * t + 1))] (hc_X12_safe 0) ⟨⟨_, rfl, rtop_in _, fun _ y => (nomatch y)⟩, rfl, trivial⟩ L1.1 (fun _ y => (nomatch y)) d_L_1861 (cV_X12_safe (0 + 8) 0 0) kc_12 (ws_1 L1.1.1) tw_2611 rfl ⟨⟨show 0 + 8 + 1 ≤ 2048 from by decide, show 8 + (2 + 11) + 100 * (0 + 8) ≤ 84000 from by decide⟩, rfl, rfl⟩ ⟨show kc ≤ 494584 by omega, show ks ≤ 7612352 by omega⟩ ⟨_, rfl⟩ d_L_1864 (fun h2 I2 F2 => ?_)
  have L2 := L1.fr I2 F2 (by decide +kernel)
  refine aw_goto (tgt := 2434) d_L_1865 rfl ?_
  exact O _ _ _ _ L2 R.up
theorem lc_41 {L t N kc ks : Nat} {xs : Nat → Int32} {h : Hp_} (hL : 6 * t + 6 ≤ L) (lL : L ≤ 3072) (L0 : Li N h) (R : Rm t N kc ks) (O : ∀ N kc ks h, Li N h → Rm (t + 1) N kc ks → AW (ML L xs) kc ks 2434 (lv5 (6 * t)) [] h k1_) : AW (ML L xs) kc ks 1868 (lv5 (6 * t)) [] h k1_ := by
  have hk := R.ok (by omega)
  refine aw_aload_n (i := 1) rfl d_L_1868 1 rfl ?_
  refine aw_arg (j := 1) d_L_1869 d_L_1870 d_L_1872 d_L_1873 d_L_1874 ic_1 (oa_1 (by omega)) (by omega) lL ?_
  refine aw_arg (j := 2) d_L_1875 d_L_1876 d_L_1878 d_L_1879 d_L_1880 ic_2 (oa_2 (by omega)) (by omega) lL ?_
  refine aw_Kp (M' := m_X11_share (0 + 9) 0 0) (a := 0) [.int (xs (6 * t + 1)), .int (xs (6 * t + 2))] (hc_X11_share 0) ⟨⟨_, rfl, rtop_in _, fun _ y => (nomatch y)⟩, ⟨_, rfl, rtop_in _, fun _ y => (nomatch y)⟩, rfl, trivial⟩ L0.1 (fun _ y => (nomatch y)) d_L_1881 (cV_X11_share (0 + 9) 0 0) kc_11 (ws_0 L0.1.1) tw_1470 rfl ⟨⟨show 0 + 9 + 1 ≤ 2048 from by decide, show 8 + (3 + 11) + 100 * (0 + 9) ≤ 84000 from by decide⟩, rfl, rfl⟩ ⟨show kc ≤ 494584 by omega, show ks ≤ 7612352 by omega⟩ ⟨_, rfl⟩ d_L_1884 (fun h1 I1 F1 => ?_)
  have L1 := L0.fr I1 F1 (by decide +kernel)
  refine aw_aload_n (i := 2) rfl d_L_1885 2 rfl ?_
  refine aw_arg (j := 1) d_L_1886 d_L_1887 d_L_1889 d_L_1890 d_L_1891 ic_1 (oa_1 (by omega)) (by omega) lL ?_
  refine aw_arg (j := 2) d_L_1892 d_L_1893 d_L_1895 d_L_1896 d_L_1897 ic_2 (oa_2 (by omega)) (by omega) lL ?_
  refine aw_Kp (M' := m_X12_share (0 + 8) 0 0) (a := 1) [.int (xs (6 * t + 1)), .int (xs (6 * t + 2))] (hc_X12_share 0) ⟨⟨_, rfl, rtop_in _, fun _ y => (nomatch y)⟩, ⟨_, rfl, rtop_in _, fun _ y => (nomatch y)⟩, rfl, trivial⟩ L1.1 (fun _ y => (nomatch y)) d_L_1898 (cV_X12_share (0 + 8) 0 0) kc_12 (ws_1 L1.1.1) tw_2627 rfl ⟨⟨show 0 + 8 + 1 ≤ 2048 from by decide, show 8 + (4 + 11) + 100 * (0 + 8) ≤ 84000 from by decide⟩, rfl, rfl⟩ ⟨show kc ≤ 494584 by omega, show ks ≤ 7612352 by omega⟩ ⟨_, rfl⟩ d_L_1901 (fun h2 I2 F2 => ?_)
  have L2 := L1.fr I2 F2 (by decide +kernel)
  refine aw_goto (tgt := 2434) d_L_1902 rfl ?_
  exact O _ _ _ _ L2 R.up
theorem lc_42 {L t N kc ks : Nat} {xs : Nat → Int32} {h : Hp_} (hL : 6 * t + 6 ≤ L) (lL : L ≤ 3072) (L0 : Li N h) (R : Rm t N kc ks) (O : ∀ N kc ks h, Li N h → Rm (t + 1) N kc ks → AW (ML L xs) kc ks 2434 (lv5 (6 * t)) [] h k1_) : AW (ML L xs) kc ks 1905 (lv5 (6 * t)) [] h k1_ := by
  have hk := R.ok (by omega)
  refine aw_aload_n (i := 1) rfl d_L_1905 1 rfl ?_
  refine aw_arg (j := 1) d_L_1906 d_L_1907 d_L_1909 d_L_1910 d_L_1911 ic_1 (oa_1 (by omega)) (by omega) lL ?_
  refine aw_arg (j := 2) d_L_1912 d_L_1913 d_L_1915 d_L_1916 d_L_1917 ic_2 (oa_2 (by omega)) (by omega) lL ?_
  refine aw_arg (j := 3) d_L_1918 d_L_1919 d_L_1921 d_L_1922 d_L_1923 ic_3 (oa_3 (by omega)) (by omega) lL ?_
  refine aw_Kp (M' := m_X11_fair (0 + 1) 0 0) (a := 0) [.int (xs (6 * t + 1)), .int (xs (6 * t + 2)), .int (xs (6 * t + 3))] (hc_X11_fair 0) ⟨⟨_, rfl, rtop_in _, fun _ y => (nomatch y)⟩, ⟨_, rfl, rtop_in _, fun _ y => (nomatch y)⟩, ⟨_, rfl, rtop_in _, fun _ y => (nomatch y)⟩, rfl, trivial⟩ L0.1 (fun _ y => (nomatch y)) d_L_1924 (cV_X11_fair (0 + 1) 0 0) kc_11 (ws_0 L0.1.1) tw_1480 rfl ⟨⟨show 0 + 1 + 1 ≤ 2048 from by decide, show 8 + (4 + 11) + 100 * (0 + 1) ≤ 84000 from by decide⟩, rfl, rfl⟩ ⟨show kc ≤ 494584 by omega, show ks ≤ 7612352 by omega⟩ ⟨_, rfl⟩ d_L_1927 (fun h1 I1 F1 => ?_)
  have L1 := L0.fr I1 F1 (by decide +kernel)
  refine aw_aload_n (i := 2) rfl d_L_1928 2 rfl ?_
  refine aw_arg (j := 1) d_L_1929 d_L_1930 d_L_1932 d_L_1933 d_L_1934 ic_1 (oa_1 (by omega)) (by omega) lL ?_
  refine aw_arg (j := 2) d_L_1935 d_L_1936 d_L_1938 d_L_1939 d_L_1940 ic_2 (oa_2 (by omega)) (by omega) lL ?_
  refine aw_arg (j := 3) d_L_1941 d_L_1942 d_L_1944 d_L_1945 d_L_1946 ic_3 (oa_3 (by omega)) (by omega) lL ?_
  refine aw_Kp (M' := m_X12_fair (0 + 2) 0 0) (a := 1) [.int (xs (6 * t + 1)), .int (xs (6 * t + 2)), .int (xs (6 * t + 3))] (hc_X12_fair 0) ⟨⟨_, rfl, rtop_in _, fun _ y => (nomatch y)⟩, ⟨_, rfl, rtop_in _, fun _ y => (nomatch y)⟩, ⟨_, rfl, rtop_in _, fun _ y => (nomatch y)⟩, rfl, trivial⟩ L1.1 (fun _ y => (nomatch y)) d_L_1947 (cV_X12_fair (0 + 2) 0 0) kc_12 (ws_1 L1.1.1) tw_2631 rfl ⟨⟨show 0 + 2 + 1 ≤ 2048 from by decide, show 8 + (4 + 11) + 100 * (0 + 2) ≤ 84000 from by decide⟩, rfl, rfl⟩ ⟨show kc ≤ 494584 by omega, show ks ≤ 7612352 by omega⟩ ⟨_, rfl⟩ d_L_1950 (fun h2 I2 F2 => ?_)
  have L2 := L1.fr I2 F2 (by decide +kernel)
  refine aw_goto (tgt := 2434) d_L_1951 rfl ?_
  exact O _ _ _ _ L2 R.up
theorem lc_43 {L t N kc ks : Nat} {xs : Nat → Int32} {h : Hp_} (hL : 6 * t + 6 ≤ L) (lL : L ≤ 3072) (L0 : Li N h) (R : Rm t N kc ks) (O : ∀ N kc ks h, Li N h → Rm (t + 1) N kc ks → AW (ML L xs) kc ks 2434 (lv5 (6 * t)) [] h k1_) : AW (ML L xs) kc ks 1954 (lv5 (6 * t)) [] h k1_ := by
  have hk := R.ok (by omega)
  refine aw_aload_n (i := 1) rfl d_L_1954 1 rfl ?_
  refine aw_arg (j := 1) d_L_1955 d_L_1956 d_L_1958 d_L_1959 d_L_1960 ic_1 (oa_1 (by omega)) (by omega) lL ?_
  refine aw_Kp (M' := m_X11_lending (0 + 5) 0 0) (a := 0) [.int (xs (6 * t + 1))] (hc_X11_lending 0) ⟨⟨_, rfl, rtop_in _, fun _ y => (nomatch y)⟩, rfl, trivial⟩ L0.1 (fun _ y => (nomatch y)) d_L_1961 (cV_X11_lending (0 + 5) 0 0) kc_11 (ws_0 L0.1.1) tw_1488 rfl ⟨⟨show 0 + 5 + 1 ≤ 2048 from by decide, show 8 + (2 + 11) + 100 * (0 + 5) ≤ 84000 from by decide⟩, rfl, rfl⟩ ⟨show kc ≤ 494584 by omega, show ks ≤ 7612352 by omega⟩ ⟨_, rfl⟩ d_L_1964 (fun h1 I1 F1 => ?_)
  have L1 := L0.fr I1 F1 (by decide +kernel)
  refine aw_aload_n (i := 2) rfl d_L_1965 2 rfl ?_
  refine aw_arg (j := 1) d_L_1966 d_L_1967 d_L_1969 d_L_1970 d_L_1971 ic_1 (oa_1 (by omega)) (by omega) lL ?_
  refine aw_Kp (M' := m_X12_lending (0 + 3) 0 0) (a := 1) [.int (xs (6 * t + 1))] (hc_X12_lending 0) ⟨⟨_, rfl, rtop_in _, fun _ y => (nomatch y)⟩, rfl, trivial⟩ L1.1 (fun _ y => (nomatch y)) d_L_1972 (cV_X12_lending (0 + 3) 0 0) kc_12 (ws_1 L1.1.1) tw_2639 rfl ⟨⟨show 0 + 3 + 1 ≤ 2048 from by decide, show 8 + (3 + 11) + 100 * (0 + 3) ≤ 84000 from by decide⟩, rfl, rfl⟩ ⟨show kc ≤ 494584 by omega, show ks ≤ 7612352 by omega⟩ ⟨_, rfl⟩ d_L_1975 (fun h2 I2 F2 => ?_)
  have L2 := L1.fr I2 F2 (by decide +kernel)
  refine aw_goto (tgt := 2434) d_L_1976 rfl ?_
  exact O _ _ _ _ L2 R.up
theorem lc_44 {L t N kc ks : Nat} {xs : Nat → Int32} {h : Hp_} (hL : 6 * t + 6 ≤ L) (lL : L ≤ 3072) (L0 : Li N h) (R : Rm t N kc ks) (O : ∀ N kc ks h, Li N h → Rm (t + 1) N kc ks → AW (ML L xs) kc ks 2434 (lv5 (6 * t)) [] h k1_) : AW (ML L xs) kc ks 1979 (lv5 (6 * t)) [] h k1_ := by
  have hk := R.ok (by omega)
  refine aw_aload_n (i := 1) rfl d_L_1979 1 rfl ?_
  refine aw_arg (j := 1) d_L_1980 d_L_1981 d_L_1983 d_L_1984 d_L_1985 ic_1 (oa_1 (by omega)) (by omega) lL ?_
  refine aw_Kp (M' := m_X11_lent (0 + 5) 0 0) (a := 0) [.int (xs (6 * t + 1))] (hc_X11_lent 0) ⟨⟨_, rfl, rtop_in _, fun _ y => (nomatch y)⟩, rfl, trivial⟩ L0.1 (fun _ y => (nomatch y)) d_L_1986 (cV_X11_lent (0 + 5) 0 0) kc_11 (ws_0 L0.1.1) tw_1545 rfl ⟨⟨show 0 + 5 + 1 ≤ 2048 from by decide, show 8 + (2 + 11) + 100 * (0 + 5) ≤ 84000 from by decide⟩, rfl, rfl⟩ ⟨show kc ≤ 494584 by omega, show ks ≤ 7612352 by omega⟩ ⟨_, rfl⟩ d_L_1989 (fun h1 I1 F1 => ?_)
  have L1 := L0.fr I1 F1 (by decide +kernel)
  refine aw_aload_n (i := 2) rfl d_L_1990 2 rfl ?_
  refine aw_arg (j := 1) d_L_1991 d_L_1992 d_L_1994 d_L_1995 d_L_1996 ic_1 (oa_1 (by omega)) (by omega) lL ?_
  refine aw_Kp (M' := m_X12_lent (0 + 3) 0 0) (a := 1) [.int (xs (6 * t + 1))] (hc_X12_lent 0) ⟨⟨_, rfl, rtop_in _, fun _ y => (nomatch y)⟩, rfl, trivial⟩ L1.1 (fun _ y => (nomatch y)) d_L_1997 (cV_X12_lent (0 + 3) 0 0) kc_12 (ws_1 L1.1.1) tw_2660 rfl ⟨⟨show 0 + 3 + 1 ≤ 2048 from by decide, show 8 + (8 + 11) + 100 * (0 + 3) ≤ 84000 from by decide⟩, rfl, rfl⟩ ⟨show kc ≤ 494584 by omega, show ks ≤ 7612352 by omega⟩ ⟨_, rfl⟩ d_L_2000 (fun h2 I2 F2 => ?_)
  have L2 := L1.fr I2 F2 (by decide +kernel)
  refine aw_goto (tgt := 2434) d_L_2001 rfl ?_
  exact O _ _ _ _ L2 R.up
theorem lc_45 {L t N kc ks : Nat} {xs : Nat → Int32} {h : Hp_} (hL : 6 * t + 6 ≤ L) (lL : L ≤ 3072) (L0 : Li N h) (R : Rm t N kc ks) (O : ∀ N kc ks h, Li N h → Rm (t + 1) N kc ks → AW (ML L xs) kc ks 2434 (lv5 (6 * t)) [] h k1_) : AW (ML L xs) kc ks 2004 (lv5 (6 * t)) [] h k1_ := by
  have hk := R.ok (by omega)
  refine aw_aload_n (i := 1) rfl d_L_2004 1 rfl ?_
  refine aw_Kv (M' := m_X11_fairs (0 + 1) 0 0) (a := 0) [] (hc_X11_fairs 0) ⟨rfl, trivial⟩ L0.1 (fun _ y => (nomatch y)) d_L_2005 (cV_X11_fairs (0 + 1) 0 0) kc_11 (ws_0 L0.1.1) tw_1553 rfl ⟨⟨show 0 + 1 + 1 ≤ 2048 from by decide, show 8 + (1 + 11) + 100 * (0 + 1) ≤ 84000 from by decide⟩, rfl, rfl⟩ ⟨show kc ≤ 494584 by omega, show ks ≤ 7612352 by omega⟩ rfl (fun h1 I1 F1 => ?_)
  have L1 := L0.fr I1 F1 (by decide +kernel)
  refine aw_aload_n (i := 2) rfl d_L_2008 2 rfl ?_
  refine aw_Kv (M' := m_X12_fairs (0 + 0) 0 0) (a := 1) [] (hc_X12_fairs 0) ⟨rfl, trivial⟩ L1.1 (fun _ y => (nomatch y)) d_L_2009 (cV_X12_fairs (0 + 0) 0 0) kc_12 (ws_1 L1.1.1) tw_2635 rfl ⟨⟨show 0 + 0 + 1 ≤ 2048 from by decide, show 8 + (1 + 11) + 100 * (0 + 0) ≤ 84000 from by decide⟩, rfl, rfl⟩ ⟨show kc ≤ 494584 by omega, show ks ≤ 7612352 by omega⟩ rfl (fun h2 I2 F2 => ?_)
  have L2 := L1.fr I2 F2 (by decide +kernel)
  refine aw_goto (tgt := 2434) d_L_2012 rfl ?_
  exact O _ _ _ _ L2 R.up
theorem lc_46 {L t N kc ks : Nat} {xs : Nat → Int32} {h : Hp_} (hL : 6 * t + 6 ≤ L) (lL : L ≤ 3072) (L0 : Li N h) (R : Rm t N kc ks) (O : ∀ N kc ks h, Li N h → Rm (t + 1) N kc ks → AW (ML L xs) kc ks 2434 (lv5 (6 * t)) [] h k1_) : AW (ML L xs) kc ks 2015 (lv5 (6 * t)) [] h k1_ := by
  have hk := R.ok (by omega)
  refine aw_aload_n (i := 1) rfl d_L_2015 1 rfl ?_
  refine aw_arg (j := 1) d_L_2016 d_L_2017 d_L_2019 d_L_2020 d_L_2021 ic_1 (oa_1 (by omega)) (by omega) lL ?_
  refine aw_Vi 0 [.int (xs (6 * t + 1))] [] d_L_2022 (cV_X11_pay (0 + 141) 0 0) kc_11 (ws_0 L0.1.1) tw_1561 rfl ⟨⟨show 0 + 141 + 1 ≤ 2048 from by decide, show 8 + (2 + 11) + 100 * (0 + 141) ≤ 84000 from by decide⟩, show kc + 0 ≤ 494584 by omega, show ks + 0 ≤ 7612352 by omega⟩ (Nat.le_of_ble_eq_true rfl) xsL (c_payX 0 L0.1 _) (fun r1 h1 k1 => ?_)
  refine aw_pop d_L_2025 rfl ?_
  refine aw_aload_n (i := 2) rfl d_L_2026 2 rfl ?_
  refine aw_arg (j := 1) d_L_2027 d_L_2028 d_L_2030 d_L_2031 d_L_2032 ic_1 (oa_1 (by omega)) (by omega) lL ?_
  refine aw_Vi 1 [.int (xs (6 * t + 1))] [] d_L_2033 (cV_X12_pay (0 + 80 + 61) 0 0) kc_12 (ws_1 k1.1.1) tw_2304 rfl ⟨⟨show 0 + 80 + 61 + 1 ≤ 2048 from by decide, show 8 + (2 + 11) + 100 * (0 + 80 + 61) ≤ 84000 from by decide⟩, show kc + 0 ≤ 494584 by omega, show ks + 0 ≤ 7612352 by omega⟩ (Nat.le_of_ble_eq_true rfl) xsL (c_payM 0 k1.1 (L0.t.q k1.2.1 (by decide +kernel)) _) (fun r2 h2 k2 => ?_)
  refine aw_pop d_L_2036 rfl ?_
  have L2 := (L0.pay k1 k2).1
  refine aw_goto (tgt := 2434) d_L_2037 rfl ?_
  exact O _ _ _ _ L2 R.up
theorem lc_47 {L t N kc ks : Nat} {xs : Nat → Int32} {h : Hp_} (hL : 6 * t + 6 ≤ L) (lL : L ≤ 3072) (L0 : Li N h) (R : Rm t N kc ks) (O : ∀ N kc ks h, Li N h → Rm (t + 1) N kc ks → AW (ML L xs) kc ks 2434 (lv5 (6 * t)) [] h k1_) : AW (ML L xs) kc ks 2040 (lv5 (6 * t)) [] h k1_ := by
  have hk := R.ok (by omega)
  refine aw_aload_n (i := 1) rfl d_L_2040 1 rfl ?_
  refine aw_arg (j := 1) d_L_2041 d_L_2042 d_L_2044 d_L_2045 d_L_2046 ic_1 (oa_1 (by omega)) (by omega) lL ?_
  refine aw_arg (j := 2) d_L_2047 d_L_2048 d_L_2050 d_L_2051 d_L_2052 ic_2 (oa_2 (by omega)) (by omega) lL ?_
  refine aw_arg (j := 3) d_L_2053 d_L_2054 d_L_2056 d_L_2057 d_L_2058 ic_3 (oa_3 (by omega)) (by omega) lL ?_
  refine aw_Kp (M' := m_X11_rank (0 + 3) 0 0) (a := 0) [.int (xs (6 * t + 1)), .int (xs (6 * t + 2)), .int (xs (6 * t + 3))] (hc_X11_rank 0) ⟨⟨_, rfl, rtop_in _, fun _ y => (nomatch y)⟩, ⟨_, rfl, rtop_in _, fun _ y => (nomatch y)⟩, ⟨_, rfl, rtop_in _, fun _ y => (nomatch y)⟩, rfl, trivial⟩ L0.1 (fun _ y => (nomatch y)) d_L_2059 (cV_X11_rank (0 + 3) 0 0) kc_11 (ws_0 L0.1.1) tw_1565 rfl ⟨⟨show 0 + 3 + 1 ≤ 2048 from by decide, show 8 + (4 + 11) + 100 * (0 + 3) ≤ 84000 from by decide⟩, rfl, rfl⟩ ⟨show kc ≤ 494584 by omega, show ks ≤ 7612352 by omega⟩ ⟨_, rfl⟩ d_L_2062 (fun h1 I1 F1 => ?_)
  have L1 := L0.fr I1 F1 (by decide +kernel)
  refine aw_aload_n (i := 2) rfl d_L_2063 2 rfl ?_
  refine aw_arg (j := 1) d_L_2064 d_L_2065 d_L_2067 d_L_2068 d_L_2069 ic_1 (oa_1 (by omega)) (by omega) lL ?_
  refine aw_arg (j := 2) d_L_2070 d_L_2071 d_L_2073 d_L_2074 d_L_2075 ic_2 (oa_2 (by omega)) (by omega) lL ?_
  refine aw_arg (j := 3) d_L_2076 d_L_2077 d_L_2079 d_L_2080 d_L_2081 ic_3 (oa_3 (by omega)) (by omega) lL ?_
  refine aw_Kp (M' := m_X12_rank (0 + 2) 0 0) (a := 1) [.int (xs (6 * t + 1)), .int (xs (6 * t + 2)), .int (xs (6 * t + 3))] (hc_X12_rank 0) ⟨⟨_, rfl, rtop_in _, fun _ y => (nomatch y)⟩, ⟨_, rfl, rtop_in _, fun _ y => (nomatch y)⟩, ⟨_, rfl, rtop_in _, fun _ y => (nomatch y)⟩, rfl, trivial⟩ L1.1 (fun _ y => (nomatch y)) d_L_2082 (cV_X12_rank (0 + 2) 0 0) kc_12 (ws_1 L1.1.1) tw_2163 rfl ⟨⟨show 0 + 2 + 1 ≤ 2048 from by decide, show 8 + (4 + 11) + 100 * (0 + 2) ≤ 84000 from by decide⟩, rfl, rfl⟩ ⟨show kc ≤ 494584 by omega, show ks ≤ 7612352 by omega⟩ ⟨_, rfl⟩ d_L_2085 (fun h2 I2 F2 => ?_)
  have L2 := L1.fr I2 F2 (by decide +kernel)
  refine aw_goto (tgt := 2434) d_L_2086 rfl ?_
  exact O _ _ _ _ L2 R.up
theorem lc_48 {L t N kc ks : Nat} {xs : Nat → Int32} {h : Hp_} (hL : 6 * t + 6 ≤ L) (lL : L ≤ 3072) (L0 : Li N h) (R : Rm t N kc ks) (O : ∀ N kc ks h, Li N h → Rm (t + 1) N kc ks → AW (ML L xs) kc ks 2434 (lv5 (6 * t)) [] h k1_) : AW (ML L xs) kc ks 2089 (lv5 (6 * t)) [] h k1_ := by
  have hk := R.ok (by omega)
  refine aw_aload_n (i := 1) rfl d_L_2089 1 rfl ?_
  refine aw_arg (j := 1) d_L_2090 d_L_2091 d_L_2093 d_L_2094 d_L_2095 ic_1 (oa_1 (by omega)) (by omega) lL ?_
  refine aw_arg (j := 2) d_L_2096 d_L_2097 d_L_2099 d_L_2100 d_L_2101 ic_2 (oa_2 (by omega)) (by omega) lL ?_
  refine aw_arg (j := 3) d_L_2102 d_L_2103 d_L_2105 d_L_2106 d_L_2107 ic_3 (oa_3 (by omega)) (by omega) lL ?_
  refine aw_Kp (M' := m_X11_ranked (0 + 2) 0 0) (a := 0) [.int (xs (6 * t + 1)), .int (xs (6 * t + 2)), .int (xs (6 * t + 3))] (hc_X11_ranked 0) ⟨⟨_, rfl, rtop_in _, fun _ y => (nomatch y)⟩, ⟨_, rfl, rtop_in _, fun _ y => (nomatch y)⟩, ⟨_, rfl, rtop_in _, fun _ y => (nomatch y)⟩, rfl, trivial⟩ L0.1 (fun _ y => (nomatch y)) d_L_2108 (cV_X11_ranked (0 + 2) 0 0) kc_11 (ws_0 L0.1.1) tw_1573 rfl ⟨⟨show 0 + 2 + 1 ≤ 2048 from by decide, show 8 + (5 + 11) + 100 * (0 + 2) ≤ 84000 from by decide⟩, rfl, rfl⟩ ⟨show kc ≤ 494584 by omega, show ks ≤ 7612352 by omega⟩ ⟨_, rfl⟩ d_L_2111 (fun h1 I1 F1 => ?_)
  have L1 := L0.fr I1 F1 (by decide +kernel)
  refine aw_aload_n (i := 2) rfl d_L_2112 2 rfl ?_
  refine aw_arg (j := 1) d_L_2113 d_L_2114 d_L_2116 d_L_2117 d_L_2118 ic_1 (oa_1 (by omega)) (by omega) lL ?_
  refine aw_arg (j := 2) d_L_2119 d_L_2120 d_L_2122 d_L_2123 d_L_2124 ic_2 (oa_2 (by omega)) (by omega) lL ?_
  refine aw_arg (j := 3) d_L_2125 d_L_2126 d_L_2128 d_L_2129 d_L_2130 ic_3 (oa_3 (by omega)) (by omega) lL ?_
  refine aw_Kp (M' := m_X12_ranked (0 + 2) 0 0) (a := 1) [.int (xs (6 * t + 1)), .int (xs (6 * t + 2)), .int (xs (6 * t + 3))] (hc_X12_ranked 0) ⟨⟨_, rfl, rtop_in _, fun _ y => (nomatch y)⟩, ⟨_, rfl, rtop_in _, fun _ y => (nomatch y)⟩, ⟨_, rfl, rtop_in _, fun _ y => (nomatch y)⟩, rfl, trivial⟩ L1.1 (fun _ y => (nomatch y)) d_L_2131 (cV_X12_ranked (0 + 2) 0 0) kc_12 (ws_1 L1.1.1) tw_2171 rfl ⟨⟨show 0 + 2 + 1 ≤ 2048 from by decide, show 8 + (4 + 11) + 100 * (0 + 2) ≤ 84000 from by decide⟩, rfl, rfl⟩ ⟨show kc ≤ 494584 by omega, show ks ≤ 7612352 by omega⟩ ⟨_, rfl⟩ d_L_2134 (fun h2 I2 F2 => ?_)
  have L2 := L1.fr I2 F2 (by decide +kernel)
  refine aw_goto (tgt := 2434) d_L_2135 rfl ?_
  exact O _ _ _ _ L2 R.up
theorem lc_49 {L t N kc ks : Nat} {xs : Nat → Int32} {h : Hp_} (hL : 6 * t + 6 ≤ L) (lL : L ≤ 3072) (L0 : Li N h) (R : Rm t N kc ks) (O : ∀ N kc ks h, Li N h → Rm (t + 1) N kc ks → AW (ML L xs) kc ks 2434 (lv5 (6 * t)) [] h k1_) : AW (ML L xs) kc ks 2138 (lv5 (6 * t)) [] h k1_ := by
  have hk := R.ok (by omega)
  refine aw_aload_n (i := 1) rfl d_L_2138 1 rfl ?_
  refine aw_arg (j := 1) d_L_2139 d_L_2140 d_L_2142 d_L_2143 d_L_2144 ic_1 (oa_1 (by omega)) (by omega) lL ?_
  refine aw_arg (j := 2) d_L_2145 d_L_2146 d_L_2148 d_L_2149 d_L_2150 ic_2 (oa_2 (by omega)) (by omega) lL ?_
  refine aw_arg (j := 3) d_L_2151 d_L_2152 d_L_2154 d_L_2155 d_L_2156 ic_3 (oa_3 (by omega)) (by omega) lL ?_
  refine aw_Kp (M' := m_X11_paid (0 + 6) 0 0) (a := 0) [.int (xs (6 * t + 1)), .int (xs (6 * t + 2)), .int (xs (6 * t + 3))] (hc_X11_paid 0) ⟨⟨_, rfl, rtop_in _, fun _ y => (nomatch y)⟩, ⟨_, rfl, rtop_in _, fun _ y => (nomatch y)⟩, ⟨_, rfl, rtop_in _, fun _ y => (nomatch y)⟩, rfl, trivial⟩ L0.1 (fun _ y => (nomatch y)) d_L_2157 (cV_X11_paid (0 + 6) 0 0) kc_11 (ws_0 L0.1.1) tw_1577 rfl ⟨⟨show 0 + 6 + 1 ≤ 2048 from by decide, show 8 + (5 + 11) + 100 * (0 + 6) ≤ 84000 from by decide⟩, rfl, rfl⟩ ⟨show kc ≤ 494584 by omega, show ks ≤ 7612352 by omega⟩ ⟨_, rfl⟩ d_L_2160 (fun h1 I1 F1 => ?_)
  have L1 := L0.fr I1 F1 (by decide +kernel)
  refine aw_aload_n (i := 2) rfl d_L_2161 2 rfl ?_
  refine aw_arg (j := 1) d_L_2162 d_L_2163 d_L_2165 d_L_2166 d_L_2167 ic_1 (oa_1 (by omega)) (by omega) lL ?_
  refine aw_arg (j := 2) d_L_2168 d_L_2169 d_L_2171 d_L_2172 d_L_2173 ic_2 (oa_2 (by omega)) (by omega) lL ?_
  refine aw_arg (j := 3) d_L_2174 d_L_2175 d_L_2177 d_L_2178 d_L_2179 ic_3 (oa_3 (by omega)) (by omega) lL ?_
  refine aw_Kp (M' := m_X12_paid (0 + 7) 0 0) (a := 1) [.int (xs (6 * t + 1)), .int (xs (6 * t + 2)), .int (xs (6 * t + 3))] (hc_X12_paid 0) ⟨⟨_, rfl, rtop_in _, fun _ y => (nomatch y)⟩, ⟨_, rfl, rtop_in _, fun _ y => (nomatch y)⟩, ⟨_, rfl, rtop_in _, fun _ y => (nomatch y)⟩, rfl, trivial⟩ L1.1 (fun _ y => (nomatch y)) d_L_2180 (cV_X12_paid (0 + 7) 0 0) kc_12 (ws_1 L1.1.1) tw_2664 rfl ⟨⟨show 0 + 7 + 1 ≤ 2048 from by decide, show 8 + (4 + 11) + 100 * (0 + 7) ≤ 84000 from by decide⟩, rfl, rfl⟩ ⟨show kc ≤ 494584 by omega, show ks ≤ 7612352 by omega⟩ ⟨_, rfl⟩ d_L_2183 (fun h2 I2 F2 => ?_)
  have L2 := L1.fr I2 F2 (by decide +kernel)
  refine aw_goto (tgt := 2434) d_L_2184 rfl ?_
  exact O _ _ _ _ L2 R.up
theorem lc_50 {L t N kc ks : Nat} {xs : Nat → Int32} {h : Hp_} (hL : 6 * t + 6 ≤ L) (lL : L ≤ 3072) (L0 : Li N h) (R : Rm t N kc ks) (O : ∀ N kc ks h, Li N h → Rm (t + 1) N kc ks → AW (ML L xs) kc ks 2434 (lv5 (6 * t)) [] h k1_) : AW (ML L xs) kc ks 2187 (lv5 (6 * t)) [] h k1_ := by
  have hk := R.ok (by omega)
  refine aw_aload_n (i := 1) rfl d_L_2187 1 rfl ?_
  refine aw_Kp (M' := m_X11_book (0 + 6) 0 0) (a := 0) [] (hc_X11_book 0) ⟨rfl, trivial⟩ L0.1 (fun _ y => (nomatch y)) d_L_2188 (cV_X11_book (0 + 6) 0 0) kc_11 (ws_0 L0.1.1) tw_1602 rfl ⟨⟨show 0 + 6 + 1 ≤ 2048 from by decide, show 8 + (4 + 11) + 100 * (0 + 6) ≤ 84000 from by decide⟩, rfl, rfl⟩ ⟨show kc ≤ 494584 by omega, show ks ≤ 7612352 by omega⟩ ⟨_, rfl⟩ d_L_2191 (fun h1 I1 F1 => ?_)
  have L1 := L0.fr I1 F1 (by decide +kernel)
  refine aw_aload_n (i := 2) rfl d_L_2192 2 rfl ?_
  refine aw_Vi 1 [] [] d_L_2193 (cV_X12_book (0 + 8) 0 0) kc_12 (ws_1 L1.1.1) tw_2672 rfl ⟨⟨show 0 + 8 + 1 ≤ 2048 from by decide, show 8 + (5 + 11) + 100 * (0 + 8) ≤ 84000 from by decide⟩, show kc + 0 ≤ 494584 by omega, show ks + 0 ≤ 7612352 by omega⟩ (Nat.le_of_ble_eq_true rfl) xsL (c_book 0 L1.1) (fun r2 h2 k2 => ?_)
  refine aw_pop d_L_2196 rfl ?_
  have L2 := L1.fr k2.1 k2.2 (by decide +kernel)
  refine aw_goto (tgt := 2434) d_L_2197 rfl ?_
  exact O _ _ _ _ L2 R.up
theorem lc_51 {L t N kc ks : Nat} {xs : Nat → Int32} {h : Hp_} (hL : 6 * t + 6 ≤ L) (lL : L ≤ 3072) (L0 : Li N h) (R : Rm t N kc ks) (O : ∀ N kc ks h, Li N h → Rm (t + 1) N kc ks → AW (ML L xs) kc ks 2434 (lv5 (6 * t)) [] h k1_) : AW (ML L xs) kc ks 2200 (lv5 (6 * t)) [] h k1_ := by
  have hk := R.ok (by omega)
  refine aw_aload_n (i := 1) rfl d_L_2200 1 rfl ?_
  refine aw_arg (j := 1) d_L_2201 d_L_2202 d_L_2204 d_L_2205 d_L_2206 ic_1 (oa_1 (by omega)) (by omega) lL ?_
  refine aw_arg (j := 2) d_L_2207 d_L_2208 d_L_2210 d_L_2211 d_L_2212 ic_2 (oa_2 (by omega)) (by omega) lL ?_
  refine aw_Kp (M' := m_X11_line (0 + 2) 0 0) (a := 0) [.int (xs (6 * t + 1)), .int (xs (6 * t + 2))] (hc_X11_line 0) ⟨⟨_, rfl, rtop_in _, fun _ y => (nomatch y)⟩, ⟨_, rfl, rtop_in _, fun _ y => (nomatch y)⟩, rfl, trivial⟩ L0.1 (fun _ y => (nomatch y)) d_L_2213 (cV_X11_line (0 + 2) 0 0) kc_11 (ws_0 L0.1.1) tw_1619 rfl ⟨⟨show 0 + 2 + 1 ≤ 2048 from by decide, show 8 + (3 + 11) + 100 * (0 + 2) ≤ 84000 from by decide⟩, rfl, rfl⟩ ⟨show kc ≤ 494584 by omega, show ks ≤ 7612352 by omega⟩ ⟨_, rfl⟩ d_L_2216 (fun h1 I1 F1 => ?_)
  have L1 := L0.fr I1 F1 (by decide +kernel)
  refine aw_aload_n (i := 2) rfl d_L_2217 2 rfl ?_
  refine aw_arg (j := 1) d_L_2218 d_L_2219 d_L_2221 d_L_2222 d_L_2223 ic_1 (oa_1 (by omega)) (by omega) lL ?_
  refine aw_arg (j := 2) d_L_2224 d_L_2225 d_L_2227 d_L_2228 d_L_2229 ic_2 (oa_2 (by omega)) (by omega) lL ?_
  refine aw_Kp (M' := m_X12_line (0 + 1) 0 0) (a := 1) [.int (xs (6 * t + 1)), .int (xs (6 * t + 2))] (hc_X12_line 0) ⟨⟨_, rfl, rtop_in _, fun _ y => (nomatch y)⟩, ⟨_, rfl, rtop_in _, fun _ y => (nomatch y)⟩, rfl, trivial⟩ L1.1 (fun _ y => (nomatch y)) d_L_2230 (cV_X12_line (0 + 1) 0 0) kc_12 (ws_1 L1.1.1) tw_2676 rfl ⟨⟨show 0 + 1 + 1 ≤ 2048 from by decide, show 8 + (3 + 11) + 100 * (0 + 1) ≤ 84000 from by decide⟩, rfl, rfl⟩ ⟨show kc ≤ 494584 by omega, show ks ≤ 7612352 by omega⟩ ⟨_, rfl⟩ d_L_2233 (fun h2 I2 F2 => ?_)
  have L2 := L1.fr I2 F2 (by decide +kernel)
  refine aw_goto (tgt := 2434) d_L_2234 rfl ?_
  exact O _ _ _ _ L2 R.up
theorem lc_52 {L t N kc ks : Nat} {xs : Nat → Int32} {h : Hp_} (hL : 6 * t + 6 ≤ L) (lL : L ≤ 3072) (L0 : Li N h) (R : Rm t N kc ks) (O : ∀ N kc ks h, Li N h → Rm (t + 1) N kc ks → AW (ML L xs) kc ks 2434 (lv5 (6 * t)) [] h k1_) : AW (ML L xs) kc ks 2237 (lv5 (6 * t)) [] h k1_ := by
  have hk := R.ok (by omega)
  refine aw_aload_n (i := 1) rfl d_L_2237 1 rfl ?_
  refine aw_arg (j := 1) d_L_2238 d_L_2239 d_L_2241 d_L_2242 d_L_2243 ic_1 (oa_1 (by omega)) (by omega) lL ?_
  refine aw_arg (j := 2) d_L_2244 d_L_2245 d_L_2247 d_L_2248 d_L_2249 ic_2 (oa_2 (by omega)) (by omega) lL ?_
  refine aw_arg (j := 3) d_L_2250 d_L_2251 d_L_2253 d_L_2254 d_L_2255 ic_3 (oa_3 (by omega)) (by omega) lL ?_
  refine aw_Kp (M' := m_X11_mark (0 + 3) 0 0) (a := 0) [.int (xs (6 * t + 1)), .int (xs (6 * t + 2)), .int (xs (6 * t + 3))] (hc_X11_mark 0) ⟨⟨_, rfl, rtop_in _, fun _ y => (nomatch y)⟩, ⟨_, rfl, rtop_in _, fun _ y => (nomatch y)⟩, ⟨_, rfl, rtop_in _, fun _ y => (nomatch y)⟩, rfl, trivial⟩ L0.1 (fun _ y => (nomatch y)) d_L_2256 (cV_X11_mark (0 + 3) 0 0) kc_11 (ws_0 L0.1.1) tw_1628 rfl ⟨⟨show 0 + 3 + 1 ≤ 2048 from by decide, show 8 + (4 + 11) + 100 * (0 + 3) ≤ 84000 from by decide⟩, rfl, rfl⟩ ⟨show kc ≤ 494584 by omega, show ks ≤ 7612352 by omega⟩ ⟨_, rfl⟩ d_L_2259 (fun h1 I1 F1 => ?_)
  have L1 := L0.fr I1 F1 (by decide +kernel)
  refine aw_aload_n (i := 2) rfl d_L_2260 2 rfl ?_
  refine aw_arg (j := 1) d_L_2261 d_L_2262 d_L_2264 d_L_2265 d_L_2266 ic_1 (oa_1 (by omega)) (by omega) lL ?_
  refine aw_arg (j := 2) d_L_2267 d_L_2268 d_L_2270 d_L_2271 d_L_2272 ic_2 (oa_2 (by omega)) (by omega) lL ?_
  refine aw_arg (j := 3) d_L_2273 d_L_2274 d_L_2276 d_L_2277 d_L_2278 ic_3 (oa_3 (by omega)) (by omega) lL ?_
  refine aw_Kp (M' := m_X12_mark (0 + 2) 0 0) (a := 1) [.int (xs (6 * t + 1)), .int (xs (6 * t + 2)), .int (xs (6 * t + 3))] (hc_X12_mark 0) ⟨⟨_, rfl, rtop_in _, fun _ y => (nomatch y)⟩, ⟨_, rfl, rtop_in _, fun _ y => (nomatch y)⟩, ⟨_, rfl, rtop_in _, fun _ y => (nomatch y)⟩, rfl, trivial⟩ L1.1 (fun _ y => (nomatch y)) d_L_2279 (cV_X12_mark (0 + 2) 0 0) kc_12 (ws_1 L1.1.1) tw_2681 rfl ⟨⟨show 0 + 2 + 1 ≤ 2048 from by decide, show 8 + (4 + 11) + 100 * (0 + 2) ≤ 84000 from by decide⟩, rfl, rfl⟩ ⟨show kc ≤ 494584 by omega, show ks ≤ 7612352 by omega⟩ ⟨_, rfl⟩ d_L_2282 (fun h2 I2 F2 => ?_)
  have L2 := L1.fr I2 F2 (by decide +kernel)
  refine aw_goto (tgt := 2434) d_L_2283 rfl ?_
  exact O _ _ _ _ L2 R.up
theorem lc_53 {L t N kc ks : Nat} {xs : Nat → Int32} {h : Hp_} (hL : 6 * t + 6 ≤ L) (lL : L ≤ 3072) (L0 : Li N h) (R : Rm t N kc ks) (O : ∀ N kc ks h, Li N h → Rm (t + 1) N kc ks → AW (ML L xs) kc ks 2434 (lv5 (6 * t)) [] h k1_) : AW (ML L xs) kc ks 2286 (lv5 (6 * t)) [] h k1_ := by
  have hk := R.ok (by omega)
  refine aw_aload_n (i := 1) rfl d_L_2286 1 rfl ?_
  refine aw_arg (j := 1) d_L_2287 d_L_2288 d_L_2290 d_L_2291 d_L_2292 ic_1 (oa_1 (by omega)) (by omega) lL ?_
  refine aw_Kp (M' := m_X11_size (0 + 1) 0 0) (a := 0) [.int (xs (6 * t + 1))] (hc_X11_size 0) ⟨⟨_, rfl, rtop_in _, fun _ y => (nomatch y)⟩, rfl, trivial⟩ L0.1 (fun _ y => (nomatch y)) d_L_2293 (cV_X11_size (0 + 1) 0 0) kc_11 (ws_0 L0.1.1) tw_1636 rfl ⟨⟨show 0 + 1 + 1 ≤ 2048 from by decide, show 8 + (2 + 11) + 100 * (0 + 1) ≤ 84000 from by decide⟩, rfl, rfl⟩ ⟨show kc ≤ 494584 by omega, show ks ≤ 7612352 by omega⟩ ⟨_, rfl⟩ d_L_2296 (fun h1 I1 F1 => ?_)
  have L1 := L0.fr I1 F1 (by decide +kernel)
  refine aw_aload_n (i := 2) rfl d_L_2297 2 rfl ?_
  refine aw_arg (j := 1) d_L_2298 d_L_2299 d_L_2301 d_L_2302 d_L_2303 ic_1 (oa_1 (by omega)) (by omega) lL ?_
  refine aw_Kp (M' := m_X12_size (0 + 1) 0 0) (a := 1) [.int (xs (6 * t + 1))] (hc_X12_size 0) ⟨⟨_, rfl, rtop_in _, fun _ y => (nomatch y)⟩, rfl, trivial⟩ L1.1 (fun _ y => (nomatch y)) d_L_2304 (cV_X12_size (0 + 1) 0 0) kc_12 (ws_1 L1.1.1) tw_2685 rfl ⟨⟨show 0 + 1 + 1 ≤ 2048 from by decide, show 8 + (2 + 11) + 100 * (0 + 1) ≤ 84000 from by decide⟩, rfl, rfl⟩ ⟨show kc ≤ 494584 by omega, show ks ≤ 7612352 by omega⟩ ⟨_, rfl⟩ d_L_2307 (fun h2 I2 F2 => ?_)
  have L2 := L1.fr I2 F2 (by decide +kernel)
  refine aw_goto (tgt := 2434) d_L_2308 rfl ?_
  exact O _ _ _ _ L2 R.up
theorem lc_54 {L t N kc ks : Nat} {xs : Nat → Int32} {h : Hp_} (hL : 6 * t + 6 ≤ L) (lL : L ≤ 3072) (L0 : Li N h) (R : Rm t N kc ks) (O : ∀ N kc ks h, Li N h → Rm (t + 1) N kc ks → AW (ML L xs) kc ks 2434 (lv5 (6 * t)) [] h k1_) : AW (ML L xs) kc ks 2311 (lv5 (6 * t)) [] h k1_ := by
  have hk := R.ok (by omega)
  refine aw_aload_n (i := 1) rfl d_L_2311 1 rfl ?_
  refine aw_arg (j := 1) d_L_2312 d_L_2313 d_L_2315 d_L_2316 d_L_2317 ic_1 (oa_1 (by omega)) (by omega) lL ?_
  refine aw_arg (j := 2) d_L_2318 d_L_2319 d_L_2321 d_L_2322 d_L_2323 ic_2 (oa_2 (by omega)) (by omega) lL ?_
  refine aw_Kp (M' := m_X11_habit (0 + 2) 0 0) (a := 0) [.int (xs (6 * t + 1)), .int (xs (6 * t + 2))] (hc_X11_habit 0) ⟨⟨_, rfl, rtop_in _, fun _ y => (nomatch y)⟩, ⟨_, rfl, rtop_in _, fun _ y => (nomatch y)⟩, rfl, trivial⟩ L0.1 (fun _ y => (nomatch y)) d_L_2324 (cV_X11_habit (0 + 2) 0 0) kc_11 (ws_0 L0.1.1) tw_1640 rfl ⟨⟨show 0 + 2 + 1 ≤ 2048 from by decide, show 8 + (3 + 11) + 100 * (0 + 2) ≤ 84000 from by decide⟩, rfl, rfl⟩ ⟨show kc ≤ 494584 by omega, show ks ≤ 7612352 by omega⟩ ⟨_, rfl⟩ d_L_2327 (fun h1 I1 F1 => ?_)
  have L1 := L0.fr I1 F1 (by decide +kernel)
  refine aw_aload_n (i := 2) rfl d_L_2328 2 rfl ?_
  refine aw_arg (j := 1) d_L_2329 d_L_2330 d_L_2332 d_L_2333 d_L_2334 ic_1 (oa_1 (by omega)) (by omega) lL ?_
  refine aw_arg (j := 2) d_L_2335 d_L_2336 d_L_2338 d_L_2339 d_L_2340 ic_2 (oa_2 (by omega)) (by omega) lL ?_
  refine aw_Kp (M' := m_X12_habit (0 + 1) 0 0) (a := 1) [.int (xs (6 * t + 1)), .int (xs (6 * t + 2))] (hc_X12_habit 0) ⟨⟨_, rfl, rtop_in _, fun _ y => (nomatch y)⟩, ⟨_, rfl, rtop_in _, fun _ y => (nomatch y)⟩, rfl, trivial⟩ L1.1 (fun _ y => (nomatch y)) d_L_2341 (cV_X12_habit (0 + 1) 0 0) kc_12 (ws_1 L1.1.1) tw_2689 rfl ⟨⟨show 0 + 1 + 1 ≤ 2048 from by decide, show 8 + (6 + 11) + 100 * (0 + 1) ≤ 84000 from by decide⟩, rfl, rfl⟩ ⟨show kc ≤ 494584 by omega, show ks ≤ 7612352 by omega⟩ ⟨_, rfl⟩ d_L_2344 (fun h2 I2 F2 => ?_)
  have L2 := L1.fr I2 F2 (by decide +kernel)
  refine aw_goto (tgt := 2434) d_L_2345 rfl ?_
  exact O _ _ _ _ L2 R.up
theorem lc_55 {L t N kc ks : Nat} {xs : Nat → Int32} {h : Hp_} (hL : 6 * t + 6 ≤ L) (lL : L ≤ 3072) (L0 : Li N h) (R : Rm t N kc ks) (O : ∀ N kc ks h, Li N h → Rm (t + 1) N kc ks → AW (ML L xs) kc ks 2434 (lv5 (6 * t)) [] h k1_) : AW (ML L xs) kc ks 2348 (lv5 (6 * t)) [] h k1_ := by
  have hk := R.ok (by omega)
  refine aw_aload_n (i := 1) rfl d_L_2348 1 rfl ?_
  refine aw_arg (j := 1) d_L_2349 d_L_2350 d_L_2352 d_L_2353 d_L_2354 ic_1 (oa_1 (by omega)) (by omega) lL ?_
  refine aw_arg (j := 2) d_L_2355 d_L_2356 d_L_2358 d_L_2359 d_L_2360 ic_2 (oa_2 (by omega)) (by omega) lL ?_
  refine aw_arg (j := 3) d_L_2361 d_L_2362 d_L_2364 d_L_2365 d_L_2366 ic_3 (oa_3 (by omega)) (by omega) lL ?_
  refine aw_arg (j := 4) d_L_2367 d_L_2368 d_L_2370 d_L_2371 d_L_2372 ic_4 (oa_4 (by omega)) (by omega) lL ?_
  refine aw_Kp (M' := m_X11_complain (0 + 3) 0 0) (a := 0) [.int (xs (6 * t + 1)), .int (xs (6 * t + 2)), .int (xs (6 * t + 3)), .int (xs (6 * t + 4))] (hc_X11_complain 0) ⟨⟨_, rfl, rtop_in _, fun _ y => (nomatch y)⟩, ⟨_, rfl, rtop_in _, fun _ y => (nomatch y)⟩, ⟨_, rfl, rtop_in _, fun _ y => (nomatch y)⟩, ⟨_, rfl, rtop_in _, fun _ y => (nomatch y)⟩, rfl, trivial⟩ L0.1 (fun _ y => (nomatch y)) d_L_2373 (cV_X11_complain (0 + 3) 0 0) kc_11 (ws_0 L0.1.1) tw_1649 rfl ⟨⟨show 0 + 3 + 1 ≤ 2048 from by decide, show 8 + (8 + 11) + 100 * (0 + 3) ≤ 84000 from by decide⟩, rfl, rfl⟩ ⟨show kc ≤ 494584 by omega, show ks ≤ 7612352 by omega⟩ ⟨_, rfl⟩ d_L_2376 (fun h1 I1 F1 => ?_)
  have L1 := L0.fr I1 F1 (by decide +kernel)
  refine aw_aload_n (i := 2) rfl d_L_2377 2 rfl ?_
  refine aw_arg (j := 1) d_L_2378 d_L_2379 d_L_2381 d_L_2382 d_L_2383 ic_1 (oa_1 (by omega)) (by omega) lL ?_
  refine aw_arg (j := 2) d_L_2384 d_L_2385 d_L_2387 d_L_2388 d_L_2389 ic_2 (oa_2 (by omega)) (by omega) lL ?_
  refine aw_arg (j := 3) d_L_2390 d_L_2391 d_L_2393 d_L_2394 d_L_2395 ic_3 (oa_3 (by omega)) (by omega) lL ?_
  refine aw_arg (j := 4) d_L_2396 d_L_2397 d_L_2399 d_L_2400 d_L_2401 ic_4 (oa_4 (by omega)) (by omega) lL ?_
  refine aw_Kp (M' := m_X12_complain (0 + 2) 0 0) (a := 1) [.int (xs (6 * t + 1)), .int (xs (6 * t + 2)), .int (xs (6 * t + 3)), .int (xs (6 * t + 4))] (hc_X12_complain 0) ⟨⟨_, rfl, rtop_in _, fun _ y => (nomatch y)⟩, ⟨_, rfl, rtop_in _, fun _ y => (nomatch y)⟩, ⟨_, rfl, rtop_in _, fun _ y => (nomatch y)⟩, ⟨_, rfl, rtop_in _, fun _ y => (nomatch y)⟩, rfl, trivial⟩ L1.1 (fun _ y => (nomatch y)) d_L_2402 (cV_X12_complain (0 + 2) 0 0) kc_12 (ws_1 L1.1.1) tw_2470 rfl ⟨⟨show 0 + 2 + 1 ≤ 2048 from by decide, show 8 + (7 + 11) + 100 * (0 + 2) ≤ 84000 from by decide⟩, rfl, rfl⟩ ⟨show kc ≤ 494584 by omega, show ks ≤ 7612352 by omega⟩ ⟨_, rfl⟩ d_L_2405 (fun h2 I2 F2 => ?_)
  have L2 := L1.fr I2 F2 (by decide +kernel)
  refine aw_goto (tgt := 2434) d_L_2406 rfl ?_
  exact O _ _ _ _ L2 R.up
theorem lc_56 {L t N kc ks : Nat} {xs : Nat → Int32} {h : Hp_} (hL : 6 * t + 6 ≤ L) (lL : L ≤ 3072) (L0 : Li N h) (R : Rm t N kc ks) (O : ∀ N kc ks h, Li N h → Rm (t + 1) N kc ks → AW (ML L xs) kc ks 2434 (lv5 (6 * t)) [] h k1_) : AW (ML L xs) kc ks 2409 (lv5 (6 * t)) [] h k1_ := by
  have hk := R.ok (by omega)
  refine aw_aload_n (i := 1) rfl d_L_2409 1 rfl ?_
  refine aw_arg (j := 1) d_L_2410 d_L_2411 d_L_2413 d_L_2414 d_L_2415 ic_1 (oa_1 (by omega)) (by omega) lL ?_
  refine aw_Kp (M' := m_X11_count (0 + 1) 0 0) (a := 0) [.int (xs (6 * t + 1))] (hc_X11_count 0) ⟨⟨_, rfl, rtop_in _, fun _ y => (nomatch y)⟩, rfl, trivial⟩ L0.1 (fun _ y => (nomatch y)) d_L_2416 (cV_X11_count (0 + 1) 0 0) kc_11 (ws_0 L0.1.1) tw_1653 rfl ⟨⟨show 0 + 1 + 1 ≤ 2048 from by decide, show 8 + (2 + 11) + 100 * (0 + 1) ≤ 84000 from by decide⟩, rfl, rfl⟩ ⟨show kc ≤ 494584 by omega, show ks ≤ 7612352 by omega⟩ ⟨_, rfl⟩ d_L_2419 (fun h1 I1 F1 => ?_)
  have L1 := L0.fr I1 F1 (by decide +kernel)
  refine aw_aload_n (i := 2) rfl d_L_2420 2 rfl ?_
  refine aw_arg (j := 1) d_L_2421 d_L_2422 d_L_2424 d_L_2425 d_L_2426 ic_1 (oa_1 (by omega)) (by omega) lL ?_
  refine aw_Kp (M' := m_X12_count (0 + 0) 0 0) (a := 1) [.int (xs (6 * t + 1))] (hc_X12_count 0) ⟨⟨_, rfl, rtop_in _, fun _ y => (nomatch y)⟩, rfl, trivial⟩ L1.1 (fun _ y => (nomatch y)) d_L_2427 (cV_X12_count (0 + 0) 0 0) kc_12 (ws_1 L1.1.1) tw_2693 rfl ⟨⟨show 0 + 0 + 1 ≤ 2048 from by decide, show 8 + (5 + 11) + 100 * (0 + 0) ≤ 84000 from by decide⟩, rfl, rfl⟩ ⟨show kc ≤ 494584 by omega, show ks ≤ 7612352 by omega⟩ ⟨_, rfl⟩ d_L_2430 (fun h2 I2 F2 => ?_)
  have L2 := L1.fr I2 F2 (by decide +kernel)
  refine aw_goto (tgt := 2434) d_L_2431 rfl ?_
  exact O _ _ _ _ L2 R.up
end
section
/-! the law's loop, call by call -/
theorem law_exit {L kc ks : Nat} {xs : Nat → Int32} {h : Hp_} {lv : List (Nat × Value)} (hk : kc ≤ 494584 ∧ ks ≤ 7612352) : AW (ML L xs) kc ks 2440 lv [] h k1_ := by
  refine aw_iconst (v := 1) d_L_2440 ic_1 ?_
  exact aw_zret (ty := .boolean) rfl rfl d_L_2441 hk rfl
theorem law_sw {L t N kc ks : Nat} {xs : Nat → Int32} {h : Hp_} (hL : 6 * t + 6 ≤ L) (lL : L ≤ 3072) (L0 : Li N h) (R : Rm t N kc ks) (O : ∀ N kc ks h, Li N h → Rm (t + 1) N kc ks → AW (ML L xs) kc ks 2434 (lv5 (6 * t)) [] h k1_) (sv : Int32) : AW (ML L xs) kc ks 40 (lv5 (6 * t)) [.int sv] h k1_ := by
  by_cases e0 : sv = 0
  · refine aw_tableIn (off := 244) (tgt := 284) d_L_40 (by rw [e0]; decide) (by rw [e0]; decide) (by rw [e0]; decide) rfl ?_
    exact lc_0 hL lL L0 R O
  by_cases e1 : sv = 1
  · refine aw_tableIn (off := 293) (tgt := 333) d_L_40 (by rw [e1]; decide) (by rw [e1]; decide) (by rw [e1]; decide) rfl ?_
    exact lc_1 hL lL L0 R O
  by_cases e2 : sv = 2
  · refine aw_tableIn (off := 330) (tgt := 370) d_L_40 (by rw [e2]; decide) (by rw [e2]; decide) (by rw [e2]; decide) rfl ?_
    exact lc_2 hL lL L0 R O
  by_cases e3 : sv = 3
  · refine aw_tableIn (off := 379) (tgt := 419) d_L_40 (by rw [e3]; decide) (by rw [e3]; decide) (by rw [e3]; decide) rfl ?_
    exact lc_3 hL lL L0 R O
  by_cases e4 : sv = 4
  · refine aw_tableIn (off := 452) (tgt := 492) d_L_40 (by rw [e4]; decide) (by rw [e4]; decide) (by rw [e4]; decide) rfl ?_
    exact lc_4 hL lL L0 R O
  by_cases e5 : sv = 5
  · refine aw_tableIn (off := 477) (tgt := 517) d_L_40 (by rw [e5]; decide) (by rw [e5]; decide) (by rw [e5]; decide) rfl ?_
    exact lc_5 hL lL L0 R O
  by_cases e6 : sv = 6
  · refine aw_tableIn (off := 502) (tgt := 542) d_L_40 (by rw [e6]; decide) (by rw [e6]; decide) (by rw [e6]; decide) rfl ?_
    exact lc_6 hL lL L0 R O
  by_cases e7 : sv = 7
  · refine aw_tableIn (off := 515) (tgt := 555) d_L_40 (by rw [e7]; decide) (by rw [e7]; decide) (by rw [e7]; decide) rfl ?_
    exact lc_7 hL lL L0 R O
  by_cases e8 : sv = 8
  · refine aw_tableIn (off := 552) (tgt := 592) d_L_40 (by rw [e8]; decide) (by rw [e8]; decide) (by rw [e8]; decide) rfl ?_
    exact lc_8 hL lL L0 R O
  by_cases e9 : sv = 9
  · refine aw_tableIn (off := 589) (tgt := 629) d_L_40 (by rw [e9]; decide) (by rw [e9]; decide) (by rw [e9]; decide) rfl ?_
    exact lc_9 hL lL L0 R O
  by_cases e10 : sv = 10
  · refine aw_tableIn (off := 638) (tgt := 678) d_L_40 (by rw [e10]; decide) (by rw [e10]; decide) (by rw [e10]; decide) rfl ?_
    exact lc_10 hL lL L0 R O
  by_cases e11 : sv = 11
  · refine aw_tableIn (off := 691) (tgt := 731) d_L_40 (by rw [e11]; decide) (by rw [e11]; decide) (by rw [e11]; decide) rfl ?_
    exact lc_11 hL lL L0 R O
  by_cases e12 : sv = 12
  · refine aw_tableIn (off := 716) (tgt := 756) d_L_40 (by rw [e12]; decide) (by rw [e12]; decide) (by rw [e12]; decide) rfl ?_
    exact lc_12 hL lL L0 R O
  by_cases e13 : sv = 13
  · refine aw_tableIn (off := 784) (tgt := 824) d_L_40 (by rw [e13]; decide) (by rw [e13]; decide) (by rw [e13]; decide) rfl ?_
    exact lc_13 hL lL L0 R O
  by_cases e14 : sv = 14
  · refine aw_tableIn (off := 821) (tgt := 861) d_L_40 (by rw [e14]; decide) (by rw [e14]; decide) (by rw [e14]; decide) rfl ?_
    exact lc_14 hL lL L0 R O
  by_cases e15 : sv = 15
  · refine aw_tableIn (off := 870) (tgt := 910) d_L_40 (by rw [e15]; decide) (by rw [e15]; decide) (by rw [e15]; decide) rfl ?_
    exact lc_15 hL lL L0 R O
  by_cases e16 : sv = 16
  · refine aw_tableIn (off := 907) (tgt := 947) d_L_40 (by rw [e16]; decide) (by rw [e16]; decide) (by rw [e16]; decide) rfl ?_
    exact lc_16 hL lL L0 R O
  by_cases e17 : sv = 17
  · refine aw_tableIn (off := 944) (tgt := 984) d_L_40 (by rw [e17]; decide) (by rw [e17]; decide) (by rw [e17]; decide) rfl ?_
    exact lc_17 hL lL L0 R O
  by_cases e18 : sv = 18
  · refine aw_tableIn (off := 1017) (tgt := 1057) d_L_40 (by rw [e18]; decide) (by rw [e18]; decide) (by rw [e18]; decide) rfl ?_
    exact lc_18 hL lL L0 R O
  by_cases e19 : sv = 19
  · refine aw_tableIn (off := 1042) (tgt := 1082) d_L_40 (by rw [e19]; decide) (by rw [e19]; decide) (by rw [e19]; decide) rfl ?_
    exact lc_19 hL lL L0 R O
  by_cases e20 : sv = 20
  · refine aw_tableIn (off := 1079) (tgt := 1119) d_L_40 (by rw [e20]; decide) (by rw [e20]; decide) (by rw [e20]; decide) rfl ?_
    exact lc_20 hL lL L0 R O
  by_cases e21 : sv = 21
  · refine aw_tableIn (off := 1116) (tgt := 1156) d_L_40 (by rw [e21]; decide) (by rw [e21]; decide) (by rw [e21]; decide) rfl ?_
    exact lc_21 hL lL L0 R O
  by_cases e22 : sv = 22
  · refine aw_tableIn (off := 1153) (tgt := 1193) d_L_40 (by rw [e22]; decide) (by rw [e22]; decide) (by rw [e22]; decide) rfl ?_
    exact lc_22 hL lL L0 R O
  by_cases e23 : sv = 23
  · refine aw_tableIn (off := 1178) (tgt := 1218) d_L_40 (by rw [e23]; decide) (by rw [e23]; decide) (by rw [e23]; decide) rfl ?_
    exact lc_23 hL lL L0 R O
  by_cases e24 : sv = 24
  · refine aw_tableIn (off := 1203) (tgt := 1243) d_L_40 (by rw [e24]; decide) (by rw [e24]; decide) (by rw [e24]; decide) rfl ?_
    exact lc_24 hL lL L0 R O
  by_cases e25 : sv = 25
  · refine aw_tableIn (off := 1240) (tgt := 1280) d_L_40 (by rw [e25]; decide) (by rw [e25]; decide) (by rw [e25]; decide) rfl ?_
    exact lc_25 hL lL L0 R O
  by_cases e26 : sv = 26
  · refine aw_tableIn (off := 1277) (tgt := 1317) d_L_40 (by rw [e26]; decide) (by rw [e26]; decide) (by rw [e26]; decide) rfl ?_
    exact lc_26 hL lL L0 R O
  by_cases e27 : sv = 27
  · refine aw_tableIn (off := 1354) (tgt := 1394) d_L_40 (by rw [e27]; decide) (by rw [e27]; decide) (by rw [e27]; decide) rfl ?_
    exact lc_27 hL lL L0 R O
  by_cases e28 : sv = 28
  · refine aw_tableIn (off := 1379) (tgt := 1419) d_L_40 (by rw [e28]; decide) (by rw [e28]; decide) (by rw [e28]; decide) rfl ?_
    exact lc_28 hL lL L0 R O
  by_cases e29 : sv = 29
  · refine aw_tableIn (off := 1428) (tgt := 1468) d_L_40 (by rw [e29]; decide) (by rw [e29]; decide) (by rw [e29]; decide) rfl ?_
    exact lc_29 hL lL L0 R O
  by_cases e30 : sv = 30
  · refine aw_tableIn (off := 1477) (tgt := 1517) d_L_40 (by rw [e30]; decide) (by rw [e30]; decide) (by rw [e30]; decide) rfl ?_
    exact lc_30 hL lL L0 R O
  by_cases e31 : sv = 31
  · refine aw_tableIn (off := 1526) (tgt := 1566) d_L_40 (by rw [e31]; decide) (by rw [e31]; decide) (by rw [e31]; decide) rfl ?_
    exact lc_31 hL lL L0 R O
  by_cases e32 : sv = 32
  · refine aw_tableIn (off := 1551) (tgt := 1591) d_L_40 (by rw [e32]; decide) (by rw [e32]; decide) (by rw [e32]; decide) rfl ?_
    exact lc_32 hL lL L0 R O
  by_cases e33 : sv = 33
  · refine aw_tableIn (off := 1604) (tgt := 1644) d_L_40 (by rw [e33]; decide) (by rw [e33]; decide) (by rw [e33]; decide) rfl ?_
    exact lc_33 hL lL L0 R O
  by_cases e34 : sv = 34
  · refine aw_tableIn (off := 1629) (tgt := 1669) d_L_40 (by rw [e34]; decide) (by rw [e34]; decide) (by rw [e34]; decide) rfl ?_
    exact lc_34 hL lL L0 R O
  by_cases e35 : sv = 35
  · refine aw_tableIn (off := 1642) (tgt := 1682) d_L_40 (by rw [e35]; decide) (by rw [e35]; decide) (by rw [e35]; decide) rfl ?_
    exact lc_35 hL lL L0 R O
  by_cases e36 : sv = 36
  · refine aw_tableIn (off := 1667) (tgt := 1707) d_L_40 (by rw [e36]; decide) (by rw [e36]; decide) (by rw [e36]; decide) rfl ?_
    exact lc_36 hL lL L0 R O
  by_cases e37 : sv = 37
  · refine aw_tableIn (off := 1692) (tgt := 1732) d_L_40 (by rw [e37]; decide) (by rw [e37]; decide) (by rw [e37]; decide) rfl ?_
    exact lc_37 hL lL L0 R O
  by_cases e38 : sv = 38
  · refine aw_tableIn (off := 1717) (tgt := 1757) d_L_40 (by rw [e38]; decide) (by rw [e38]; decide) (by rw [e38]; decide) rfl ?_
    exact lc_38 hL lL L0 R O
  by_cases e39 : sv = 39
  · refine aw_tableIn (off := 1766) (tgt := 1806) d_L_40 (by rw [e39]; decide) (by rw [e39]; decide) (by rw [e39]; decide) rfl ?_
    exact lc_39 hL lL L0 R O
  by_cases e40 : sv = 40
  · refine aw_tableIn (off := 1803) (tgt := 1843) d_L_40 (by rw [e40]; decide) (by rw [e40]; decide) (by rw [e40]; decide) rfl ?_
    exact lc_40 hL lL L0 R O
  by_cases e41 : sv = 41
  · refine aw_tableIn (off := 1828) (tgt := 1868) d_L_40 (by rw [e41]; decide) (by rw [e41]; decide) (by rw [e41]; decide) rfl ?_
    exact lc_41 hL lL L0 R O
  by_cases e42 : sv = 42
  · refine aw_tableIn (off := 1865) (tgt := 1905) d_L_40 (by rw [e42]; decide) (by rw [e42]; decide) (by rw [e42]; decide) rfl ?_
    exact lc_42 hL lL L0 R O
  by_cases e43 : sv = 43
  · refine aw_tableIn (off := 1914) (tgt := 1954) d_L_40 (by rw [e43]; decide) (by rw [e43]; decide) (by rw [e43]; decide) rfl ?_
    exact lc_43 hL lL L0 R O
  by_cases e44 : sv = 44
  · refine aw_tableIn (off := 1939) (tgt := 1979) d_L_40 (by rw [e44]; decide) (by rw [e44]; decide) (by rw [e44]; decide) rfl ?_
    exact lc_44 hL lL L0 R O
  by_cases e45 : sv = 45
  · refine aw_tableIn (off := 1964) (tgt := 2004) d_L_40 (by rw [e45]; decide) (by rw [e45]; decide) (by rw [e45]; decide) rfl ?_
    exact lc_45 hL lL L0 R O
  by_cases e46 : sv = 46
  · refine aw_tableIn (off := 1975) (tgt := 2015) d_L_40 (by rw [e46]; decide) (by rw [e46]; decide) (by rw [e46]; decide) rfl ?_
    exact lc_46 hL lL L0 R O
  by_cases e47 : sv = 47
  · refine aw_tableIn (off := 2000) (tgt := 2040) d_L_40 (by rw [e47]; decide) (by rw [e47]; decide) (by rw [e47]; decide) rfl ?_
    exact lc_47 hL lL L0 R O
  by_cases e48 : sv = 48
  · refine aw_tableIn (off := 2049) (tgt := 2089) d_L_40 (by rw [e48]; decide) (by rw [e48]; decide) (by rw [e48]; decide) rfl ?_
    exact lc_48 hL lL L0 R O
  by_cases e49 : sv = 49
  · refine aw_tableIn (off := 2098) (tgt := 2138) d_L_40 (by rw [e49]; decide) (by rw [e49]; decide) (by rw [e49]; decide) rfl ?_
    exact lc_49 hL lL L0 R O
  by_cases e50 : sv = 50
  · refine aw_tableIn (off := 2147) (tgt := 2187) d_L_40 (by rw [e50]; decide) (by rw [e50]; decide) (by rw [e50]; decide) rfl ?_
    exact lc_50 hL lL L0 R O
  by_cases e51 : sv = 51
  · refine aw_tableIn (off := 2160) (tgt := 2200) d_L_40 (by rw [e51]; decide) (by rw [e51]; decide) (by rw [e51]; decide) rfl ?_
    exact lc_51 hL lL L0 R O
  by_cases e52 : sv = 52
  · refine aw_tableIn (off := 2197) (tgt := 2237) d_L_40 (by rw [e52]; decide) (by rw [e52]; decide) (by rw [e52]; decide) rfl ?_
    exact lc_52 hL lL L0 R O
  by_cases e53 : sv = 53
  · refine aw_tableIn (off := 2246) (tgt := 2286) d_L_40 (by rw [e53]; decide) (by rw [e53]; decide) (by rw [e53]; decide) rfl ?_
    exact lc_53 hL lL L0 R O
  by_cases e54 : sv = 54
  · refine aw_tableIn (off := 2271) (tgt := 2311) d_L_40 (by rw [e54]; decide) (by rw [e54]; decide) (by rw [e54]; decide) rfl ?_
    exact lc_54 hL lL L0 R O
  by_cases e55 : sv = 55
  · refine aw_tableIn (off := 2308) (tgt := 2348) d_L_40 (by rw [e55]; decide) (by rw [e55]; decide) (by rw [e55]; decide) rfl ?_
    exact lc_55 hL lL L0 R O
  by_cases e56 : sv = 56
  · refine aw_tableIn (off := 2369) (tgt := 2409) d_L_40 (by rw [e56]; decide) (by rw [e56]; decide) (by rw [e56]; decide) rfl ?_
    exact lc_56 hL lL L0 R O
  have n0 := sw_ne (0) (by decide) e0
  have n1 := sw_ne (1) (by decide) e1
  have n2 := sw_ne (2) (by decide) e2
  have n3 := sw_ne (3) (by decide) e3
  have n4 := sw_ne (4) (by decide) e4
  have n5 := sw_ne (5) (by decide) e5
  have n6 := sw_ne (6) (by decide) e6
  have n7 := sw_ne (7) (by decide) e7
  have n8 := sw_ne (8) (by decide) e8
  have n9 := sw_ne (9) (by decide) e9
  have n10 := sw_ne (10) (by decide) e10
  have n11 := sw_ne (11) (by decide) e11
  have n12 := sw_ne (12) (by decide) e12
  have n13 := sw_ne (13) (by decide) e13
  have n14 := sw_ne (14) (by decide) e14
  have n15 := sw_ne (15) (by decide) e15
  have n16 := sw_ne (16) (by decide) e16
  have n17 := sw_ne (17) (by decide) e17
  have n18 := sw_ne (18) (by decide) e18
  have n19 := sw_ne (19) (by decide) e19
  have n20 := sw_ne (20) (by decide) e20
  have n21 := sw_ne (21) (by decide) e21
  have n22 := sw_ne (22) (by decide) e22
  have n23 := sw_ne (23) (by decide) e23
  have n24 := sw_ne (24) (by decide) e24
  have n25 := sw_ne (25) (by decide) e25
  have n26 := sw_ne (26) (by decide) e26
  have n27 := sw_ne (27) (by decide) e27
  have n28 := sw_ne (28) (by decide) e28
  have n29 := sw_ne (29) (by decide) e29
  have n30 := sw_ne (30) (by decide) e30
  have n31 := sw_ne (31) (by decide) e31
  have n32 := sw_ne (32) (by decide) e32
  have n33 := sw_ne (33) (by decide) e33
  have n34 := sw_ne (34) (by decide) e34
  have n35 := sw_ne (35) (by decide) e35
  have n36 := sw_ne (36) (by decide) e36
  have n37 := sw_ne (37) (by decide) e37
  have n38 := sw_ne (38) (by decide) e38
  have n39 := sw_ne (39) (by decide) e39
  have n40 := sw_ne (40) (by decide) e40
  have n41 := sw_ne (41) (by decide) e41
  have n42 := sw_ne (42) (by decide) e42
  have n43 := sw_ne (43) (by decide) e43
  have n44 := sw_ne (44) (by decide) e44
  have n45 := sw_ne (45) (by decide) e45
  have n46 := sw_ne (46) (by decide) e46
  have n47 := sw_ne (47) (by decide) e47
  have n48 := sw_ne (48) (by decide) e48
  have n49 := sw_ne (49) (by decide) e49
  have n50 := sw_ne (50) (by decide) e50
  have n51 := sw_ne (51) (by decide) e51
  have n52 := sw_ne (52) (by decide) e52
  have n53 := sw_ne (53) (by decide) e53
  have n54 := sw_ne (54) (by decide) e54
  have n55 := sw_ne (55) (by decide) e55
  have n56 := sw_ne (56) (by decide) e56
  refine aw_tableOut (tgt := 2434) d_L_40 (by omega) rfl ?_
  exact O _ _ _ _ L0 R.up
theorem law_loop {L : Nat} {xs : Nat → Int32} (lL : L ≤ 3072) : ∀ (r t N kc ks : Nat) (h : Hp_), 513 ≤ t + r → t ≤ 512 → Li N h → Rm t N kc ks → AW (ML L xs) kc ks 23 (lv5 (6 * t)) [] h k1_ := by
  intro r
  induction r with
  | zero =>
    intro t N kc ks h m lt
    omega
  | succ r ih =>
    intro t N kc ks h m lt L0 R
    have hk := R.ok (by omega)
    have oL : (Int32.ofNat L).toInt = (L : Int) := on_j (by omega)
    have ot := on_j (n := 6 * t) (by omega)
    have t6 : (6 : Int32).toInt = 6 := rfl
    have e6 : (Int32.ofNat L - 6).toInt = (L : Int) - 6 := by rw [tx_sub (by rw [t6, oL]; omega) (by rw [t6, oL]; omega), oL, t6]
    refine aw_iload d_L_23 4 rfl ?_
    refine aw_aload_n (i := 0) rfl d_L_25 0 rfl ?_
    refine aw_slen d_L_26 ?_
    refine aw_bipush (v := 6) d_L_27 ib_6 ?_
    refine aw_isub d_L_29 ?_
    refine aw_icmp_gt (tgt := 2440) d_L_30 rfl (fun _ => law_exit ⟨by omega, by omega⟩) (fun c => ?_)
    have c := q_nlt c
    have hL : 6 * t + 6 ≤ L := by omega
    have O : ∀ N kc ks h, Li N h → Rm (t + 1) N kc ks → AW (ML L xs) kc ks 2434 (lv5 (6 * t)) [] h k1_ := by
      intro N kc ks h L1 R1
      refine aw_iinc (v := Int32.ofNat (6 * (t + 1))) (lv5 (6 * (t + 1))) d_L_2434 4 rfl (oa_6 (n := 6 * t) (by omega)) (Nat.le_of_ble_eq_true rfl) rfl rfl ?_
      refine aw_goto (tgt := 23) d_L_2437 rfl ?_
      exact ih (t + 1) N kc ks h (by omega) (by omega) L1 R1
    refine aw_aload_n (i := 0) rfl d_L_33 0 rfl ?_
    refine aw_iload d_L_34 4 rfl ?_
    refine aw_sld (6 * t) (on_k (by omega)) (on_in (by omega) (by omega)) d_L_36 ?_
    refine aw_bipush (v := 63) d_L_37 ib_63 ?_
    refine aw_iand d_L_39 ?_
    exact law_sw hL lL L0 R O _
theorem law_pre (L : Nat) (xs : Nat → Int32) (hL : L ≤ 3072) : AW (ML L xs) 0 0 0 [(0, .ref 1100)] [] hE k1_ := by
  refine aw_new (ci := 11) 0 kc_11 tw_27 tw_28 tw_1 rfl (Nat.le_of_ble_eq_true rfl) xsL (show 0 + 1 ≤ 494584 from by decide +kernel) (show 0 + 16 ≤ 7612352 from by decide +kernel) d_L_0 ?_
  show AW (ML L xs) 1 16 3 [(0, .ref 1100)] [.ref 0] G0 k1_
  refine aw_dup d_L_3 rfl ?_
  refine aw_callI (vs := []) (a := 0) (rest := [.ref 0]) d_L_4 (cI_X11_init (0 + 2) 99 30357) ⟨rfl, rfl⟩ tw_30 tw_29 rfl ⟨Nat.le_of_ble_eq_true rfl, Nat.le_of_ble_eq_true rfl⟩ (Nat.le_of_ble_eq_true rfl) ⟨show 1 + 99 ≤ 494584 from by decide +kernel, show 16 + 30357 ≤ 7612352 from by decide +kernel⟩ xsL (k_X11_init_0 0) (fun v h9 kk => ?_)
  obtain ⟨rfl, rfl⟩ := kk
  show AW (ML L xs) 100 30373 7 [(0, .ref 1100)] [.ref 0] G37 k1_
  refine aw_astore_n (i := 1) rfl [(0, .ref 1100), (1, .ref 0)] d_L_7 (Nat.le_of_ble_eq_true rfl) rfl rfl ?_
  refine aw_new (ci := 12) 1 kc_12 tw_1735 tw_1736 tw_13 (by decide +kernel) (Nat.le_of_ble_eq_true rfl) xsL (show 100 + 1 ≤ 494584 from by decide +kernel) (show 30373 + 131 ≤ 7612352 from by decide +kernel) d_L_8 ?_
  show AW (ML L xs) 101 30504 11 [(0, .ref 1100), (1, .ref 0)] [.ref 1] GM0 k1_
  refine aw_dup d_L_11 rfl ?_
  refine aw_callI (vs := []) (a := 1) (rest := [.ref 1]) d_L_12 (cI_X12_init (0 + 1) 100 288204) ⟨rfl, rfl⟩ tw_1738 tw_1737 rfl ⟨Nat.le_of_ble_eq_true rfl, Nat.le_of_ble_eq_true rfl⟩ (Nat.le_of_ble_eq_true rfl) ⟨show 101 + 100 ≤ 494584 from by decide +kernel, show 30504 + 288204 ≤ 7612352 from by decide +kernel⟩ xsL (k_X12_init_1 0 GM0 (by decide +kernel) (rng_none (by decide +kernel))) (fun v h9 kk => ?_)
  obtain ⟨rfl, rfl⟩ := kk
  show AW (ML L xs) 201 318708 15 [(0, .ref 1100), (1, .ref 0)] [.ref 1] (CH_1 GM0) k1_
  refine aw_astore_n (i := 2) rfl [(0, .ref 1100), (1, .ref 0), (2, .ref 1)] d_L_15 (Nat.le_of_ble_eq_true rfl) rfl rfl ?_
  refine aw_iconst (v := 1) d_L_16 ic_1 ?_
  refine aw_newa (t := 3) (atype := .long) 2 1 (by decide) rfl tw_426 (by decide +kernel) (Nat.le_of_ble_eq_true rfl) xsL (by decide) (by decide) (by decide) (show 201 + 1 ≤ 494584 from by decide +kernel) (show 318708 + 1 ≤ 7612352 from by decide +kernel) d_L_17 ?_
  show AW (ML L xs) 202 318709 19 [(0, .ref 1100), (1, .ref 0), (2, .ref 1)] [.ref 2] HF k1_
  refine aw_astore_n (i := 3) rfl [(0, .ref 1100), (1, .ref 0), (2, .ref 1), (3, .ref 2)] d_L_19 (Nat.le_of_ble_eq_true rfl) rfl rfl ?_
  refine aw_iconst (v := 0) d_L_20 ic_0 ?_
  refine aw_istore [(0, .ref 1100), (1, .ref 0), (2, .ref 1), (3, .ref 2), (4, .int 0)] d_L_21 (Nat.le_of_ble_eq_true rfl) rfl rfl ?_
  exact law_loop hL 513 0 0 202 318709 HF (by decide) (by decide) li_F ⟨by decide, by decide, by decide⟩
end
section
theorem lw_m1 {w : Cond} (i : Nat) (h0 : tables_1_1[i]? = some w) : w ∈ lw_tbl := List.mem_append_right _ (by have h : w ∈ tables_1_1 := List.mem_of_getElem? h0; unfold tables_1; exact List.mem_append_left _ h)
theorem lw_m2 {w : Cond} (i : Nat) (h0 : tables_1_2[i]? = some w) : w ∈ lw_tbl := List.mem_append_right _ (by have h : w ∈ tables_1_2 := List.mem_of_getElem? h0; unfold tables_1; exact List.mem_append_right _ (List.mem_append_left _ h))
theorem lw_m3 {w : Cond} (i : Nat) (h0 : tables_1_3[i]? = some w) : w ∈ lw_tbl := List.mem_append_right _ (by have h : w ∈ tables_1_3 := List.mem_of_getElem? h0; unfold tables_1; exact List.mem_append_right _ (List.mem_append_right _ (List.mem_append_left _ h)))
theorem lw_m4 {w : Cond} (i : Nat) (h0 : tables_1_4[i]? = some w) : w ∈ lw_tbl := List.mem_append_right _ (by have h : w ∈ tables_1_4 := List.mem_of_getElem? h0; unfold tables_1; exact List.mem_append_right _ (List.mem_append_right _ (List.mem_append_right _ (List.mem_append_left _ h))))
theorem lw_m5 {w : Cond} (i : Nat) (h0 : tables_1_5[i]? = some w) : w ∈ lw_tbl := List.mem_append_right _ (by have h : w ∈ tables_1_5 := List.mem_of_getElem? h0; unfold tables_1; exact List.mem_append_right _ (List.mem_append_right _ (List.mem_append_right _ (List.mem_append_right _ (List.mem_append_left _ h)))))
theorem lw_m6 {w : Cond} (i : Nat) (h0 : tables_1_6[i]? = some w) : w ∈ lw_tbl := List.mem_append_right _ (by have h : w ∈ tables_1_6 := List.mem_of_getElem? h0; unfold tables_1; exact List.mem_append_right _ (List.mem_append_right _ (List.mem_append_right _ (List.mem_append_right _ (List.mem_append_right _ (List.mem_append_left _ h))))))
theorem lw_m7 {w : Cond} (i : Nat) (h0 : tables_1_7[i]? = some w) : w ∈ lw_tbl := List.mem_append_right _ (by have h : w ∈ tables_1_7 := List.mem_of_getElem? h0; unfold tables_1; exact List.mem_append_right _ (List.mem_append_right _ (List.mem_append_right _ (List.mem_append_right _ (List.mem_append_right _ (List.mem_append_right _ (List.mem_append_left _ h)))))))
theorem lw_m8 {w : Cond} (i : Nat) (h0 : tables_1_8[i]? = some w) : w ∈ lw_tbl := List.mem_append_right _ (by have h : w ∈ tables_1_8 := List.mem_of_getElem? h0; unfold tables_1; exact List.mem_append_right _ (List.mem_append_right _ (List.mem_append_right _ (List.mem_append_right _ (List.mem_append_right _ (List.mem_append_right _ (List.mem_append_right _ (List.mem_append_left _ h))))))))
theorem lw_m11 {w : Cond} (i : Nat) (h0 : tables_1_11[i]? = some w) : w ∈ lw_tbl := List.mem_append_right _ (by have h : w ∈ tables_1_11 := List.mem_of_getElem? h0; unfold tables_1; exact List.mem_append_right _ (List.mem_append_right _ (List.mem_append_right _ (List.mem_append_right _ (List.mem_append_right _ (List.mem_append_right _ (List.mem_append_right _ (List.mem_append_right _ (List.mem_append_right _ (List.mem_append_right _ (List.mem_append_left _ h)))))))))))
theorem lw_m12 {w : Cond} (i : Nat) (h0 : tables_1_12[i]? = some w) : w ∈ lw_tbl := List.mem_append_right _ (by have h : w ∈ tables_1_12 := List.mem_of_getElem? h0; unfold tables_1; exact List.mem_append_right _ (List.mem_append_right _ (List.mem_append_right _ (List.mem_append_right _ (List.mem_append_right _ (List.mem_append_right _ (List.mem_append_right _ (List.mem_append_right _ (List.mem_append_right _ (List.mem_append_right _ (List.mem_append_right _ (h))))))))))))
theorem sw_0 : Cond.stringRef "CountyWatch$Reader" 15 "" ∈ lw_tbl := lw_m1 58 (by decide +kernel)
theorem sw_1 : Cond.stringRef "CountyWatch$Reader" 108 "kwphdcnet" ∈ lw_tbl := lw_m4 7 (by decide +kernel)
theorem sw_2 : Cond.stringRef "CountyWatch$Reader" 110 "cymxta" ∈ lw_tbl := lw_m4 8 (by decide +kernel)
theorem sw_3 : Cond.stringRef "CountyWatch$Reader" 124 "xnrt" ∈ lw_tbl := lw_m4 139 (by decide +kernel)
theorem sw_4 : Cond.stringRef "CountyWatch" 376 "kwphdcnet" ∈ lw_tbl := lw_m5 101 (by decide +kernel)
theorem sw_5 : Cond.stringRef "CountyWatchModel" 565 "kwphdcnet" ∈ lw_tbl := lw_m11 7 (by decide +kernel)
theorem nw_0 : Cond.methodLinkNest "CountyWatch" 18 ⟨"CountyWatch$Reader", "<init>", "()V"⟩ "CountyWatch" ∈ lw_tbl := lw_m1 54 (by decide +kernel)
theorem nw_1 : Cond.methodLinkNest "CountyWatch" 25 ⟨"CountyWatch$Beats", "<init>", "()V"⟩ "CountyWatch" ∈ lw_tbl := lw_m1 99 (by decide +kernel)
theorem nw_2 : Cond.methodLinkNest "CountyWatch" 32 ⟨"CountyWatch$Rules", "<init>", "()V"⟩ "CountyWatch" ∈ lw_tbl := lw_m1 120 (by decide +kernel)
theorem nw_3 : Cond.methodLinkNest "CountyWatch" 48 ⟨"CountyWatch$Points", "<init>", "()V"⟩ "CountyWatch" ∈ lw_tbl := lw_m1 148 (by decide +kernel)
theorem nw_4 : Cond.methodLinkNest "CountyWatch" 55 ⟨"CountyWatch$Looks", "<init>", "()V"⟩ "CountyWatch" ∈ lw_tbl := lw_m1 192 (by decide +kernel)
theorem nw_5 : Cond.methodLinkNest "CountyWatch" 69 ⟨"CountyWatch$Goods", "<init>", "()V"⟩ "CountyWatch" ∈ lw_tbl := lw_m2 77 (by decide +kernel)
theorem nw_6 : Cond.methodLinkNest "CountyWatch" 76 ⟨"CountyWatch$Plans", "<init>", "()V"⟩ "CountyWatch" ∈ lw_tbl := lw_m2 119 (by decide +kernel)
theorem nw_7 : Cond.methodLinkNest "CountyWatch$Roads" 16 ⟨"CountyWatch", "isPlace", "(I)Z"⟩ "CountyWatch" ∈ lw_tbl := lw_m3 81 (by decide +kernel)
theorem nw_8 : Cond.methodLinkNest "CountyWatch$Reader" 43 ⟨"CountyWatch", "within", "(III)Z"⟩ "CountyWatch" ∈ lw_tbl := lw_m3 184 (by decide +kernel)
theorem nw_9 : Cond.methodLinkNest "CountyWatch$Looks" 59 ⟨"CountyWatch", "within", "(III)Z"⟩ "CountyWatch" ∈ lw_tbl := lw_m5 71 (by decide +kernel)
theorem nw_10 : Cond.methodLinkNest "CountyWatch$Payroll" 69 ⟨"CountyWatch", "within", "(III)Z"⟩ "CountyWatch" ∈ lw_tbl := lw_m5 84 (by decide +kernel)
theorem nw_11 : Cond.methodLinkNest "CountyWatch$Rules" 45 ⟨"CountyWatch", "within", "(III)Z"⟩ "CountyWatch" ∈ lw_tbl := lw_m5 107 (by decide +kernel)
theorem nw_12 : Cond.methodLinkNest "CountyWatch$Cases" 71 ⟨"CountyWatch", "within", "(III)Z"⟩ "CountyWatch" ∈ lw_tbl := lw_m6 27 (by decide +kernel)
theorem nw_13 : Cond.methodLinkNest "CountyWatch$Beats" 50 ⟨"CountyWatch", "within", "(III)Z"⟩ "CountyWatch" ∈ lw_tbl := lw_m6 233 (by decide +kernel)
theorem nw_14 : Cond.methodLinkNest "CountyWatch$Plans" 79 ⟨"CountyWatch", "within", "(III)Z"⟩ "CountyWatch" ∈ lw_tbl := lw_m7 39 (by decide +kernel)
theorem ao_w : Cond.arrayOver (.object "CountyWatch$Constable") ∈ lw_tbl := lw_m1 145 (by decide +kernel)
theorem st_nest {args : Array Value} {s : State} (hts : ∀ w ∈ lw_tbl, w.before args s = true) : ∀ w ∈ h_nest, va_Nw (.methodLinkNest w.1 w.2.1 w.2.2 "CountyWatch") s := by
  unfold h_nest
  exact List.forall_mem_cons.mpr ⟨va_Nw.of rfl (hts _ nw_0), List.forall_mem_cons.mpr ⟨va_Nw.of rfl (hts _ nw_1), List.forall_mem_cons.mpr ⟨va_Nw.of rfl (hts _ nw_2), List.forall_mem_cons.mpr ⟨va_Nw.of rfl (hts _ nw_3), List.forall_mem_cons.mpr ⟨va_Nw.of rfl (hts _ nw_4), List.forall_mem_cons.mpr ⟨va_Nw.of rfl (hts _ nw_5), List.forall_mem_cons.mpr ⟨va_Nw.of rfl (hts _ nw_6), List.forall_mem_cons.mpr ⟨va_Nw.of rfl (hts _ nw_7), List.forall_mem_cons.mpr ⟨va_Nw.of rfl (hts _ nw_8), List.forall_mem_cons.mpr ⟨va_Nw.of rfl (hts _ nw_9), List.forall_mem_cons.mpr ⟨va_Nw.of rfl (hts _ nw_10), List.forall_mem_cons.mpr ⟨va_Nw.of rfl (hts _ nw_11), List.forall_mem_cons.mpr ⟨va_Nw.of rfl (hts _ nw_12), List.forall_mem_cons.mpr ⟨va_Nw.of rfl (hts _ nw_13), List.forall_mem_cons.mpr ⟨va_Nw.of rfl (hts _ nw_14), fun _ h => absurd h List.not_mem_nil⟩⟩⟩⟩⟩⟩⟩⟩⟩⟩⟩⟩⟩⟩⟩
theorem st_K {args : Array Value} {s : State} (hts : ∀ w ∈ lw_tbl, w.before args s = true) : ∃ (dC : Nat → ClassId) (dI : Nat → Nat → Nat) (cy : Nat → ClassId), cx_ dC dI cy s := by
  have htg : ∀ w ∈ lw_g, w.before args s = true := fun w hw => hts w (List.mem_filter.mp hw).1
  obtain ⟨c0, i0, K0⟩ := u_known (C := RX0) (T := TX0) (N := 4) (n := 4) htg iX0 (htg _ tw_98)
  obtain ⟨c1, i1, K1⟩ := u_known (C := RX1) (T := TX1) (N := 16) (n := 16) htg iX1 (htg _ tw_254)
  obtain ⟨c2, i2, K2⟩ := u_known (C := RX2) (T := TX2) (N := 17) (n := 17) htg iX2 (htg _ tw_566)
  obtain ⟨c3, i3, K3⟩ := u_known (C := RX3) (T := TX3) (N := 11) (n := 11) htg iX3 (htg _ tw_316)
  obtain ⟨c4, i4, K4⟩ := u_known (C := RX4) (T := TX4) (N := 17) (n := 17) htg iX4 (htg _ tw_191)
  obtain ⟨c5, i5, K5⟩ := u_known (C := RX5) (T := TX5) (N := 16) (n := 16) htg iX5 (htg _ tw_428)
  obtain ⟨c6, i6, K6⟩ := u_known (C := RX6) (T := TX6) (N := 20) (n := 20) htg iX6 (htg _ tw_358)
  obtain ⟨c7, i7, K7⟩ := u_known (C := RX7) (T := TX7) (N := 12) (n := 12) htg iX7 (htg _ tw_147)
  obtain ⟨c8, i8, K8⟩ := u_known (C := RX8) (T := TX8) (N := 10) (n := 10) htg iX8 (htg _ tw_53)
  obtain ⟨c9, i9, K9⟩ := u_known (C := RX9) (T := TX9) (N := 2) (n := 2) htg iX9 (htg _ tw_36)
  obtain ⟨c10, i10, K10⟩ := u_known (C := RX10) (T := TX10) (N := 6) (n := 6) htg iX10 (htg _ tw_119)
  obtain ⟨c11, i11, K11⟩ := u_known (C := RX11) (T := TX11) (N := 16) (n := 16) htg iX11 (htg _ tw_28)
  obtain ⟨c12, i12, K12⟩ := u_known (C := RX12) (T := TX12) (N := 131) (n := 131) htg iX12 (htg _ tw_1736)
  obtain ⟨a0, q0, m0, f0, g0, j0⟩ := Cond.arrayClass_spec (type := .int) (htg _ tw_51)
  obtain ⟨a1, q1, m1, f1, g1, j1⟩ := Cond.arrayClass_spec (type := .boolean) (htg _ tw_252)
  obtain ⟨a2, q2, m2, f2, g2, j2⟩ := Cond.arrayClass_spec (type := .byte) (htg _ tw_96)
  obtain ⟨a3, q3, m3, f3, g3, j3⟩ := Cond.arrayClass_spec (type := .long) (htg _ tw_426)
  obtain ⟨m4, a4, q4, n4, _, g4, j4, f4⟩ := Cond.arrayOver_spec (n := "CountyWatch$Constable") (hts _ ao_w)
  refine ⟨fun k => [c0, c1, c2, c3, c4, c5, c6, c7, c8, c9, c10, c11, c12].getD k c0, fun k => [i0, i1, i2, i3, i4, i5, i6, i7, i8, i9, i10, i11, i12].getD k i0, fun t => [a0, a1, a2, a3, a4].getD t a0, ⟨fun k q hq => ?_, fun k q hq => ?_⟩, st_nest hts, va_AO.of (hts _ ao_w)⟩
  · match k, hq with
    | 0, hq => cases hq; exact K0
    | 1, hq => cases hq; exact K1
    | 2, hq => cases hq; exact K2
    | 3, hq => cases hq; exact K3
    | 4, hq => cases hq; exact K4
    | 5, hq => cases hq; exact K5
    | 6, hq => cases hq; exact K6
    | 7, hq => cases hq; exact K7
    | 8, hq => cases hq; exact K8
    | 9, hq => cases hq; exact K9
    | 10, hq => cases hq; exact K10
    | 11, hq => cases hq; exact K11
    | 12, hq => cases hq; exact K12
    | k + 13, hq => simp [kl_] at hq
  · match k, hq with
    | 0, hq => cases hq; exact ⟨fun n z => ⟨fun k h => (by cases h), q0, g0, m0, j0⟩, f0⟩
    | 1, hq => cases hq; exact ⟨fun n z => ⟨fun k h => (by cases h), q1, g1, m1, j1⟩, f1⟩
    | 2, hq => cases hq; exact ⟨fun n z => ⟨fun k h => (by cases h), q2, g2, m2, j2⟩, f2⟩
    | 3, hq => cases hq; exact ⟨fun n z => ⟨fun k h => (by cases h), q3, g3, m3, j3⟩, f3⟩
    | 4, hq => cases hq; exact ⟨fun n z => ⟨fun k h => (by cases h), q4, g4, m4, j4⟩, q4, m4, g4, j4, n4, f4⟩
    | k + 5, hq => simp [h_tys] at hq
theorem vk_str {own tx : String} {k a : Nat} {args : Array Value} {U : State} (h1 : (Cond.stringRef own k tx).before args U = true) (h2 : (Term.string own k).eval args U none [] U = some (.ref a)) : vk_R own k tx a U := vk_R.of h1 h2
def tm_ (i : Nat) : Term := .string "CountyWatch$Reader" ([15, 108, 110, 124].getD i 15)
theorem cw_0 : Cond.laysStatic "java/lang/String" "COMPACT_STRINGS" "Z" ∈ lw_tbl := lw_m4 53 (by decide +kernel)
theorem cw_1 : Cond.laysStatic "jdk/internal/util/Preconditions" "SIOOBE_FORMATTER" "Ljava/util/function/BiFunction;" ∈ lw_tbl := lw_m4 94 (by decide +kernel)
theorem st_T {b : Nat} {s : State} (hts : ∀ w ∈ lw_tbl, w.before #[Value.ref b] s = true) (hgv : (Jvm.Cond.and given_1 narrow_1).before #[Value.ref b] s = true) (A : Nat → Prop) (hA : ∀ a : Nat, a < s.heap.size → ¬ A a) : ∃ ad adV : Nat → Nat, ad 1100 = b ∧ st_ ad adV A s := by
  have hg := flat_of_before _ hgv
  obtain ⟨adK, adV, h1, h2⟩ := vk_Sof (args := #[Value.ref b]) (s := s) (N := 4) (tm := tm_) (len := [0, 9, 6, 4]) (byt := [[], [107, 119, 112, 104, 100, 99, 110, 101, 116], [99, 121, 109, 120, 116, 97], [120, 110, 114, 116]]) (A := A)
    (fun i hi => by match i, hi with | 0, _ => decide | 1, _ => decide | 2, _ => decide | 3, _ => decide | i + 4, hi => exact absurd hi (by omega))
    (fun i hi => by match i, hi with | 0, _ => exact hg _ (by decide +kernel) | 1, _ => exact hg _ (by decide +kernel) | 2, _ => exact hg _ (by decide +kernel) | 3, _ => exact hg _ (by decide +kernel) | i + 4, hi => exact absurd hi (by omega))
    (fun i hi => by match i, hi with | 0, _ => exact hg _ (by decide +kernel) | 1, _ => exact hg _ (by decide +kernel) | 2, _ => exact hg _ (by decide +kernel) | 3, _ => exact hg _ (by decide +kernel) | i + 4, hi => exact absurd hi (by omega))
    (fun i hi => by match i, hi with | 0, _ => exact hg _ (by decide +kernel) | 1, _ => exact hg _ (by decide +kernel) | 2, _ => exact hg _ (by decide +kernel) | 3, _ => exact hg _ (by decide +kernel) | i + 4, hi => exact absurd hi (by omega))
    (fun i hi => by match i, hi with | 0, _ => exact hg _ (by decide +kernel) | 1, _ => exact hg _ (by decide +kernel) | 2, _ => exact hg _ (by decide +kernel) | 3, _ => exact hg _ (by decide +kernel) | i + 4, hi => exact absurd hi (by omega))
    (fun i hi j hj => by
      match i, hi with
      | 0, _ =>
        exact absurd hj (by simp)
      | 1, _ =>
        match j, hj with
        | 0, _ => exact hg _ (by decide +kernel)
        | 1, _ => exact hg _ (by decide +kernel)
        | 2, _ => exact hg _ (by decide +kernel)
        | 3, _ => exact hg _ (by decide +kernel)
        | 4, _ => exact hg _ (by decide +kernel)
        | 5, _ => exact hg _ (by decide +kernel)
        | 6, _ => exact hg _ (by decide +kernel)
        | 7, _ => exact hg _ (by decide +kernel)
        | 8, _ => exact hg _ (by decide +kernel)
        | j + 9, hj => exact absurd hj (by simp)
      | 2, _ =>
        match j, hj with
        | 0, _ => exact hg _ (by decide +kernel)
        | 1, _ => exact hg _ (by decide +kernel)
        | 2, _ => exact hg _ (by decide +kernel)
        | 3, _ => exact hg _ (by decide +kernel)
        | 4, _ => exact hg _ (by decide +kernel)
        | 5, _ => exact hg _ (by decide +kernel)
        | j + 6, hj => exact absurd hj (by simp)
      | 3, _ =>
        match j, hj with
        | 0, _ => exact hg _ (by decide +kernel)
        | 1, _ => exact hg _ (by decide +kernel)
        | 2, _ => exact hg _ (by decide +kernel)
        | 3, _ => exact hg _ (by decide +kernel)
        | j + 4, hj => exact absurd hj (by simp)
      | i + 4, hi => exact absurd hi (by omega)
    )
    (fun i j hi hj hij => by
      match i, j, hi, hj, hij with
      | 0, 0, _, _, h => exact absurd rfl h
      | 0, 1, _, _, _ => exact Or.inl (hg _ (by decide +kernel))
      | 0, 2, _, _, _ => exact Or.inl (hg _ (by decide +kernel))
      | 0, 3, _, _, _ => exact Or.inl (hg _ (by decide +kernel))
      | 1, 0, _, _, _ => exact Or.inr (hg _ (by decide +kernel))
      | 1, 1, _, _, h => exact absurd rfl h
      | 1, 2, _, _, _ => exact Or.inl (hg _ (by decide +kernel))
      | 1, 3, _, _, _ => exact Or.inl (hg _ (by decide +kernel))
      | 2, 0, _, _, _ => exact Or.inr (hg _ (by decide +kernel))
      | 2, 1, _, _, _ => exact Or.inr (hg _ (by decide +kernel))
      | 2, 2, _, _, h => exact absurd rfl h
      | 2, 3, _, _, _ => exact Or.inl (hg _ (by decide +kernel))
      | 3, 0, _, _, _ => exact Or.inr (hg _ (by decide +kernel))
      | 3, 1, _, _, _ => exact Or.inr (hg _ (by decide +kernel))
      | 3, 2, _, _, _ => exact Or.inr (hg _ (by decide +kernel))
      | 3, 3, _, _, h => exact absurd rfl h
      | i + 4, _, hi, _, _ => exact absurd hi (by omega)
      | _, j + 4, _, hj, _ => exact absurd hj (by omega)
    ) hA
  have hc : va_Z "java/lang/String" "COMPACT_STRINGS" "Z" (.int 1) A s s.heap := va_Zof (hts _ cw_0) (hts _ (List.mem_filter.mp tw_16).1) (va_eqi (hg (Cond.eq (.static "java/lang/String" "COMPACT_STRINGS" "Z") (.int 1)) (by decide +kernel))) hA
  have hq : va_Zq "jdk/internal/util/Preconditions" "SIOOBE_FORMATTER" "Ljava/util/function/BiFunction;" A s s.heap := va_Zqof (hts _ cw_1) (hts _ (List.mem_filter.mp tw_19).1) (hg (Cond.isRef (.static "jdk/internal/util/Preconditions" "SIOOBE_FORMATTER" "Ljava/util/function/BiFunction;")) (by decide +kernel)) hA
  obtain ⟨w, hw⟩ : ∃ w : Nat, va_Z "jdk/internal/util/Preconditions" "SIOOBE_FORMATTER" "Ljava/util/function/BiFunction;" .null A s s.heap ∨ va_Z "jdk/internal/util/Preconditions" "SIOOBE_FORMATTER" "Ljava/util/function/BiFunction;" (.ref w) A s s.heap := by
    rcases hq with z | ⟨u, z⟩
    · exact ⟨0, Or.inl z⟩
    · exact ⟨u, Or.inr z⟩
  obtain ⟨adW, hadW⟩ : ∃ adW : Nat → Nat, adW = fun i => if i = 100 then w else adV i := ⟨_, rfl⟩
  have eW : ∀ i, i < 4 → adW i = adV i := fun i hi => by
    rw [hadW]
    show (if i = 100 then w else adV i) = adV i
    rw [if_neg (by omega)]
  obtain ⟨ad, had⟩ : ∃ ad : Nat → Nat, ad = fun a => if a = 1100 then b else if a < 2000 then adK (a - 1000) else adW (a - 2000) := ⟨_, rfl⟩
  have e : ∀ i, i < 4 → ad (1000 + i) = adK i := fun i hi => by
    rw [had]
    show (if 1000 + i = 1100 then b else if 1000 + i < 2000 then adK (1000 + i - 1000) else adW (1000 + i - 2000)) = adK i
    rw [if_neg (by omega), if_pos (by omega), Nat.add_sub_cancel_left]
  have e2 : ∀ i, ad (2000 + i) = adW i := fun i => by
    rw [had]
    show (if 2000 + i = 1100 then b else if 2000 + i < 2000 then adK (2000 + i - 1000) else adW (2000 + i - 2000)) = adW i
    rw [if_neg (by omega), if_neg (by omega), Nat.add_sub_cancel_left]
  have e3 : ad 2100 = w := by
    rw [show (2100 : Nat) = 2000 + 100 by decide, e2, hadW]
    show (if (100 : Nat) = 100 then w else adV 100) = w
    rw [if_pos rfl]
  refine ⟨ad, adW, by rw [had]; rfl, ⟨⟨fun i hi => ?_, fun i j hi hj hij => ?_⟩, e2, hc, by rw [e3]; exact hw⟩, ?_⟩
  · have z := h1.1 i hi
    rw [← e i hi, ← eW i hi] at z
    exact z
  · have z : ad (1000 + i) = ad (1000 + j) := hij
    rw [e i hi, e j hj] at z
    exact h1.2 i j hi hj z
  · have e0 := h2 0 (by decide)
    have e1 := h2 1 (by decide)
    have e2 := h2 2 (by decide)
    have e3 := h2 3 (by decide)
    have f4 : (Term.string "CountyWatch" 376).eval #[Value.ref b] s none [] s = some (.ref (adK 1)) := va_eqR (hg (Cond.eq (.string "CountyWatch$Reader" 108) (.string "CountyWatch" 376)) (by decide +kernel)) e1
    have f5 : (Term.string "CountyWatchModel" 565).eval #[Value.ref b] s none [] s = some (.ref (adK 1)) := va_eqR (hg (Cond.eq (.string "CountyWatch$Reader" 108) (.string "CountyWatchModel" 565)) (by decide +kernel)) e1
    unfold h_strs
    exact List.forall_mem_cons.mpr ⟨by show vk_R _ _ _ (ad (1000 + 0)) s; rw [e 0 (by decide)]; exact vk_str (hts _ sw_0) e0, List.forall_mem_cons.mpr ⟨by show vk_R _ _ _ (ad (1000 + 1)) s; rw [e 1 (by decide)]; exact vk_str (hts _ sw_1) e1, List.forall_mem_cons.mpr ⟨by show vk_R _ _ _ (ad (1000 + 2)) s; rw [e 2 (by decide)]; exact vk_str (hts _ sw_2) e2, List.forall_mem_cons.mpr ⟨by show vk_R _ _ _ (ad (1000 + 3)) s; rw [e 3 (by decide)]; exact vk_str (hts _ sw_3) e3, List.forall_mem_cons.mpr ⟨by show vk_R _ _ _ (ad (1000 + 1)) s; rw [e 1 (by decide)]; exact vk_str (hts _ sw_4) f4, List.forall_mem_cons.mpr ⟨by show vk_R _ _ _ (ad (1000 + 1)) s; rw [e 1 (by decide)]; exact vk_str (hts _ sw_5) f5, fun _ h => absurd h List.not_mem_nil⟩⟩⟩⟩⟩⟩
theorem zw_308 : Cond.stringRef "CountyWatch" 308 "no such constable" ∈ lw_tbl := lw_m8 28 (by decide +kernel)
theorem zw_316 : Cond.stringRef "CountyWatch" 316 "no such what" ∈ lw_tbl := lw_m8 54 (by decide +kernel)
theorem zw_us : Cond.laysStatic Bundle.tN "UNASSIGNED_STACK" Bundle.steD ∈ lw_tbl := lw_m8 16 (by decide +kernel)
theorem zw_ss : Cond.laysStatic Bundle.tN "SUPPRESSED_SENTINEL" Bundle.listD ∈ lw_tbl := lw_m8 18 (by decide +kernel)
theorem lw_mm {w : Cond} (h : w ∈ tables_1) : w ∈ lw_tbl := List.mem_append_right _ h
theorem zw_all : (aE).all (fun w => decide (w ∈ tables_1_8) || decide (w ∈ tables_1_7) || decide (w ∈ tables_1_12) || decide (w ∈ tables_1_1) || decide (w ∈ tables_1)) = true := by decide +kernel
theorem st_Z {b : Nat} {s : State} (hts : ∀ w ∈ lw_tbl, w.before #[Value.ref b] s = true) (hgv : (Jvm.Cond.and given_1 narrow_1).before #[Value.ref b] s = true) (A : Nat → Prop) (hA : ∀ a : Nat, a < s.heap.size → ¬ A a) : Zx A s := by
  have hg := flat_of_before _ hgv
  have hin : (Cond.initialized Bundle.tN).before #[Value.ref b] s = true := hts _ (List.mem_filter.mp tw_22).1
  refine ⟨vx_Zqof (hts _ zw_us) hin (hg _ (by decide +kernel)) hA, vx_Zqof (hts _ zw_ss) hin (hg _ (by decide +kernel)) hA, ?_, ?_, fun w hw => ?_⟩
  · obtain ⟨a, c, cA, kA, q1, -⟩ := Cond.exactly_spec (args := #[Value.ref b]) (first := s) (o := none) (s := s) (idx := []) (t := .string "CountyWatch" 308) (cls := "java/lang/String") (hg (Cond.exactly (.string "CountyWatch" 308) "java/lang/String") (by decide +kernel))
    exact ⟨a, vk_str (hts _ zw_308) q1⟩
  · obtain ⟨a, c, cA, kA, q1, -⟩ := Cond.exactly_spec (args := #[Value.ref b]) (first := s) (o := none) (s := s) (idx := []) (t := .string "CountyWatch" 316) (cls := "java/lang/String") (hg (Cond.exactly (.string "CountyWatch" 316) "java/lang/String") (by decide +kernel))
    exact ⟨a, vk_str (hts _ zw_316) q1⟩
  · have z := List.all_eq_true.mp zw_all w hw
    simp only [Bool.or_eq_true, decide_eq_true_eq] at z
    have hm : w ∈ lw_tbl := by
      rcases z with (((z | z) | z) | z) | z
      · obtain ⟨i, hi⟩ := List.getElem?_of_mem z
        exact lw_m8 i hi
      · obtain ⟨i, hi⟩ := List.getElem?_of_mem z
        exact lw_m7 i hi
      · obtain ⟨i, hi⟩ := List.getElem?_of_mem z
        exact lw_m12 i hi
      · obtain ⟨i, hi⟩ := List.getElem?_of_mem z
        exact lw_m1 i hi
      · exact lw_mm z
    exact va_tabs (ft_ot w hw) rfl (hts w hm)
end
