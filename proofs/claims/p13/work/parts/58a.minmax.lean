theorem mw_min : Cond.code Lib.Math.min.name Lib.Math.min.code 2 (some .int) ∈ lw_g := tw_552
theorem mw_max : Cond.code Lib.Math.max.name Lib.Math.max.code 2 (some .int) ∈ lw_g := tw_790
theorem aw_mmin {M : Mc_} {kc ks pc : Nat} {lv : List (Nat × Value)} {rest : List Value} {h : Hp_} {K : Option Value → Hp_ → Prop} {idx : Nat} {x y : Int32} (hd : decode (mC M) pc = .ok (.invokestatic idx, 3)) (hlk : Cond.methodLink (mY M).cls idx Lib.Math.min.name ∈ lw_g) (hfr : 1 ≤ (mR M).frames) (hlo : (rest.map (fun v => v.category)).sum + 13 ≤ (mR M).locals) (hk : kc ≤ (mR M).cells ∧ ks ≤ (mR M).slots) (k : AW M kc ks (pc + 3) lv (.int (if y < x then y else x) :: rest) h K) : AW M kc ks pc lv (.int y :: .int x :: rest) h K := by
  intro l p e s m args below meth c dC dI cy A ad0 adV ad dom0 dom H locs ls hf hX hT hE hW hS hl ho hs
  exact va_mmin hf.1 hf.2.1 (hf.2.2.1.trans hl.1.symm) hf.2.2.2.2.2.1 (hf.2.2.2.2.2.2.2.1 _ hlk) (hf.2.2.2.2.2.2.2.1 _ tw_551) (hf.2.2.2.2.2.2.2.1 _ tw_14) (hf.2.2.2.2.2.2.2.1 _ mw_min) hfr (by rw [cat_cv]; exact hlo) hk.1 hk.2 hd (k l p e s m args below meth c dC dI cy A ad0 adV ad dom0 dom H locs ls hf hX hT hE hW hS hl ho (ok_c ok_i (ok_t (ok_t hs))))
theorem aw_mmax {M : Mc_} {kc ks pc : Nat} {lv : List (Nat × Value)} {rest : List Value} {h : Hp_} {K : Option Value → Hp_ → Prop} {idx : Nat} {x y : Int32} (hd : decode (mC M) pc = .ok (.invokestatic idx, 3)) (hlk : Cond.methodLink (mY M).cls idx Lib.Math.max.name ∈ lw_g) (hfr : 1 ≤ (mR M).frames) (hlo : (rest.map (fun v => v.category)).sum + 13 ≤ (mR M).locals) (hk : kc ≤ (mR M).cells ∧ ks ≤ (mR M).slots) (k : AW M kc ks (pc + 3) lv (.int (if x < y then y else x) :: rest) h K) : AW M kc ks pc lv (.int y :: .int x :: rest) h K := by
  intro l p e s m args below meth c dC dI cy A ad0 adV ad dom0 dom H locs ls hf hX hT hE hW hS hl ho hs
  exact va_mmax hf.1 hf.2.1 (hf.2.2.1.trans hl.1.symm) hf.2.2.2.2.2.1 (hf.2.2.2.2.2.2.2.1 _ hlk) (hf.2.2.2.2.2.2.2.1 _ tw_789) (hf.2.2.2.2.2.2.2.1 _ tw_14) (hf.2.2.2.2.2.2.2.1 _ mw_max) hfr (by rw [cat_cv]; exact hlo) hk.1 hk.2 hd (k l p e s m args below meth c dC dI cy A ad0 adV ad dom0 dom H locs ls hf hX hT hE hW hS hl ho (ok_c ok_i (ok_t (ok_t hs))))
section ZM
variable {ws : List Nat} {h0 : Hp_} {M : Mc_} {K : Option Value → Hp_ → Prop} {pc : Nat}
def x_binC (o : Rg → Rg → Rg) (n : Nat) : Fx := fun a => match a.2.1 with
  | .inl (rb, _, _) :: .inl (ra, _, _) :: st => bif Nat.ble ((st.map ac).sum) 8 then some [(n, a.1, avi (o ra rb) :: st, a.2.2)] else none
  | _ => none
theorem sd_binC {f : Int32 → Int32 → Int32} {o : Rg → Rg → Rg} {n : Nat} (ok : opok f o) (rule : ∀ lv st h x y, (st.map (fun v : Value => v.category)).sum ≤ 8 → AW M 0 0 n lv (.int (f x y) :: st) h K → AW M 0 0 pc lv (.int y :: .int x :: st) h K) : Sd ws h0 M K pc (x_binC o n) := by
  intro g a out e lv st h G k
  obtain ⟨la, sa, hf⟩ := a
  unfold x_binC at e
  split at e
  · rename_i rb sb gb ra s2 ga sa' q
    have q : sa = .inl (rb, sb, gb) :: .inl (ra, s2, ga) :: sa' := q
    subst q
    cases z : Nat.ble ((sa'.map ac).sum) 8 with
    | false => rw [z] at e; cases e
    | true =>
      rw [z] at e
      have e := (Option.some.inj e).symm
      subst e
      obtain ⟨v, w, t, es, ⟨y, ey, hy, _⟩, _, ⟨x, ex, hx, _⟩, _, m⟩ := sm2 G.2.1
      subst es ey ex
      exact rule lv t h x y (by rw [sm_cat m]; exact Nat.ble_eq.mp z) (k _ List.mem_cons_self _ _ _ ⟨G.1, ⟨bm_i (ok x y ra rb hx hy) _, sl_0, m⟩, G.2.2⟩)
  · cases e
def gup (q : Nat × Int) : Nat × Int := (2 * (q.1 / 2) + 1, q.2)
theorem gq_up {g : Nat → Int} {x y : Int32} {q : Nat × Int} (h : gq g x q) (l : x.toInt ≤ y.toInt) : gq g y (gup q) := by
  have h1 := h.1
  refine ⟨?_, fun z => ?_⟩
  · show g ((2 * (q.1 / 2) + 1) / 2) + q.2 ≤ _
    rw [show (2 * (q.1 / 2) + 1) / 2 = q.1 / 2 by omega]
    omega
  · exact absurd z (by show ¬ (2 * (q.1 / 2) + 1) % 2 = 0; omega)
/-- the larger of two: not below the first -/
def x_max (n : Nat) : Fx := fun a => match a.2.1 with
  | .inl (rb, _, _) :: .inl (ra, _, ga) :: st => bif Nat.ble ((st.map ac).sum) 8 then some [(n, a.1, .inl (o_max ra rb, (0, 0), ga.map gup) :: st, a.2.2)] else none
  | _ => none
theorem sd_max {n : Nat} (rule : ∀ lv st h x y, (st.map (fun v : Value => v.category)).sum ≤ 8 → AW M 0 0 n lv (.int (if x < y then y else x) :: st) h K → AW M 0 0 pc lv (.int y :: .int x :: st) h K) : Sd ws h0 M K pc (x_max n) := by
  intro g a out e lv st h G k
  obtain ⟨la, sa, hf⟩ := a
  unfold x_max at e
  split at e
  · rename_i rb sb gb ra s2 ga sa' q
    have q : sa = .inl (rb, sb, gb) :: .inl (ra, s2, ga) :: sa' := q
    subst q
    cases z : Nat.ble ((sa'.map ac).sum) 8 with
    | false => rw [z] at e; cases e
    | true =>
      rw [z] at e
      have e := (Option.some.inj e).symm
      subst e
      obtain ⟨v, w, t, es, ⟨y, ey, hy, _⟩, _, ⟨x, ex, hx, hg⟩, _, m⟩ := sm2 G.2.1
      subst es ey ex
      refine rule lv t h x y (by rw [sm_cat m]; exact Nat.ble_eq.mp z) (k _ List.mem_cons_self _ _ _ ⟨G.1, ⟨⟨_, rfl, ok_max x y ra rb hx hy, fun p hp => ?_⟩, sl_0, m⟩, G.2.2⟩)
      cases ga with
      | none => cases hp
      | some o =>
        have hp : some (gup o) = some p := hp
        have hp := Option.some.inj hp
        rw [← hp]
        refine gq_up (hg o rfl) ?_
        split
        · rename_i c; exact Int.le_of_lt (Int32.lt_iff_toInt_lt.mp c)
        · exact Int.le_refl _
  · cases e
theorem z_min {idx : Nat} (hd : decode (mC M) pc = .ok (.invokestatic idx, 3)) (hlk : Cond.methodLink (mY M).cls idx Lib.Math.min.name ∈ lw_g) (hfr : 1 ≤ (mR M).frames) (hlo : 100 ≤ (mR M).locals) {nx : Nat} (hn : pc + 3 = nx) : Sd ws h0 M K pc (x_binC o_min nx) := by
  subst hn
  exact sd_binC ok_min (fun _ _ _ _ _ hs k => aw_mmin hd hlk hfr (by omega) ⟨Nat.zero_le _, Nat.zero_le _⟩ k)
theorem z_max {idx : Nat} (hd : decode (mC M) pc = .ok (.invokestatic idx, 3)) (hlk : Cond.methodLink (mY M).cls idx Lib.Math.max.name ∈ lw_g) (hfr : 1 ≤ (mR M).frames) (hlo : 100 ≤ (mR M).locals) {nx : Nat} (hn : pc + 3 = nx) : Sd ws h0 M K pc (x_max nx) := by
  subst hn
  exact sd_max (fun _ _ _ _ _ hs k => aw_mmax hd hlk hfr (by omega) ⟨Nat.zero_le _, Nat.zero_le _⟩ k)
end ZM
