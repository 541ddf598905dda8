/-! the law, on scripts of at most six ints -/
def lX (L : Nat) (xs : Nat → Int32) : (Nat → Nat) → (Nat → Prop) → State → Prop := fun ad A s => va_X (ad 1100) L xs s s.heap ∧ ad 1100 < s.heap.size ∧ ¬ A (ad 1100) ∧ Zx A s
abbrev ML (L : Nat) (xs : Nat → Int32) : Mc_ := (lX L xs, x, code, 7, ret, room_1)
theorem xsL {L : Nat} {xs : Nat → Int32} : xs_ (ML L xs) := fun ad ad' A s he hX => by
  have e := he 1100 (by decide)
  show va_X (ad' 1100) L xs s s.heap ∧ ad' 1100 < s.heap.size ∧ ¬ A (ad' 1100) ∧ Zx A s
  rw [e]
  exact hX
section SCR
variable {L : Nat} {xs : Nat → Int32} {kc ks pc : Nat} {lv : List (Nat × Value)} {st : List Value} {h : Hp_} {K : Option Value → Hp_ → Prop}
theorem aw_sld {i : Int32} (n : Nat) (hn : i.toNatClampNeg = n) (hin : vp_in i L) (hd : decode code pc = .ok (.iaload, 1)) (k : AW (ML L xs) kc ks (pc + 1) lv (.int (xs n) :: st) h K) : AW (ML L xs) kc ks pc lv (.int i :: .ref 1100 :: st) h K := by
  intro l p e s m args below meth c dC dI cy A ad0 adV ad dom0 dom H locs ls hf hX hT hE hW hS hl ho hs
  subst hn
  exact va_sld hf.1 hf.2.1 hX.1 hX.2.1 hX.2.2.1 hS hin hd (k l p e s m args below meth c dC dI cy A ad0 adV ad dom0 dom H locs ls hf hX hT hE hW hS hl ho (ok_c ok_i (ok_t (ok_t hs))))
theorem aw_slen (hd : decode code pc = .ok (.arraylength, 1)) (k : AW (ML L xs) kc ks (pc + 1) lv (.int (Int32.ofNat L) :: st) h K) : AW (ML L xs) kc ks pc lv (.ref 1100 :: st) h K := by
  intro l p e s m args below meth c dC dI cy A ad0 adV ad dom0 dom H locs ls hf hX hT hE hW hS hl ho hs
  exact va_slen hf.1 hf.2.1 hX.1 hX.2.1 hX.2.2.1 hS hd (k l p e s m args below meth c dC dI cy A ad0 adV ad dom0 dom H locs ls hf hX hT hE hW hS hl ho (ok_c ok_i (ok_t hs)))
end SCR
abbrev k1_ : Option Value → Hp_ → Prop := fun v _ => v = some (.int 1)
theorem lt_6 (xs : Nat → Int32) (kc ks : Nat) (hk : kc ≤ 600002 ∧ ks ≤ 7302232) (h : Hp_) : AW (ML 6 xs) kc ks 2434 [(0, .ref 1100), (1, .ref 0), (2, .ref 1), (3, .ref 2), (4, .int 0)] [] h k1_ := by
  refine aw_iinc (v := 6) [(0, .ref 1100), (1, .ref 0), (2, .ref 1), (3, .ref 2), (4, .int 6)] d_L_2434 4 rfl (by decide) (Nat.le_of_ble_eq_true rfl) rfl rfl ?_
  refine aw_goto (tgt := 23) d_L_2437 rfl ?_
  refine aw_iload d_L_23 4 rfl ?_
  refine aw_aload_n (i := 0) rfl d_L_25 0 rfl ?_
  refine aw_slen d_L_26 ?_
  refine aw_bipush (v := 6) d_L_27 ib_6 ?_
  refine aw_isub d_L_29 ?_
  refine aw_icmp_gt (tgt := 2440) d_L_30 rfl (fun _ => ?_) (fun z => absurd (by decide) z)
  refine aw_iconst (v := 1) d_L_2440 ic_1 ?_
  exact aw_zret (ty := .boolean) rfl rfl d_L_2441 hk rfl
