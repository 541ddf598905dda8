/-! texts -/
section SDR
variable {ws : List Nat} {h0 : Hp_} {M : Mc_} {K : Option Value → Hp_ → Prop} {pc : Nat}
theorem aw_ldcT {kc ks : Nat} {lv : List (Nat × Value)} {st : List Value} {h : Hp_} {row n i q : Nat} {tx : String} (hd : decode (mC M) pc = .ok (.ldc i, 2)) (hr : h_strs[row]? = some ((mY M).cls, i, tx, n)) (hq : 1000 + n = q) (k : AW M kc ks (pc + 2) lv (.ref q :: st) h K) : AW M kc ks pc lv st h K := by
  intro l p e s m args below meth c dC dI cy A ad0 adV ad dom0 dom H locs ls hf hX hT hE hW hS hl ho hs
  subst hq
  exact va_ldcS hf.1 hf.2.1 hf.2.2.2.2.2.1 (hT.2 _ (List.mem_of_getElem? hr)) hd (k l p e s m args below meth c dC dI cy A ad0 adV ad dom0 dom H locs ls hf hX hT hE hW hS hl ho (ok_c (fun z w => by cases w; exact Or.inr (Nat.le_add_right _ _)) hs))
theorem z_ldcT {row n i : Nat} {tx : String} (hd : decode (mC M) pc = .ok (.ldc i, 2)) (hr : h_strs[row]? = some ((mY M).cls, i, tx, n)) (hn : n < 4) {nx : Nat} (hnx : pc + 2 = nx) : Sd ws h0 M K pc (x_pushR 4 nx) := by
  subst hnx
  exact sd_pushR (.ref (1000 + n)) (fun _ => ⟨n, hn, rfl⟩) (fun _ _ _ k => aw_ldcT hd hr rfl k)
def x_getT (n : Nat) : Fx := fun a => match a.2.1 with
  | .inr 21 :: st => some [(n, a.1, .inr 4 :: st, a.2.2)]
  | _ => none
theorem sd_getT {n : Nat} (rule : ∀ lv st h b, Wf h → h_r h 11 4 = some b → AW M 0 0 n lv (.ref b :: st) h K → AW M 0 0 pc lv (.ref 11 :: st) h K) : Sd ws h0 M K pc (x_getT n) := by
  intro g a out e lv st h G kx
  obtain ⟨la, sa, hf⟩ := a
  unfold x_getT at e
  split at e
  · rename_i sa' q
    have q : sa = .inr 21 :: sa' := q
    subst q
    have e := (Option.some.inj e).symm
    subst e
    obtain ⟨v, t, es, ev, _, m⟩ := sm1 G.2.1
    have ev : v = .ref 11 := ev
    subst es ev
    obtain ⟨i, hi, hr⟩ := G.2.2.2.1.2.2.2.1
    exact rule lv t h _ G.2.2.2.1.1 hr (kx _ List.mem_cons_self _ _ _ ⟨G.1, ⟨⟨i, hi, rfl⟩, trivial, m⟩, G.2.2⟩)
  · cases e
theorem z_getT {idx : Nat} (hlk : Cond.fieldLink (mY M).cls idx (TX8 4).1 (TX8 4).2.1 (TX8 4).2.2.1 ∈ lw_g) (hd : decode (mC M) pc = .ok (.getfield idx, 3)) {nx : Nat} (hnx : pc + 3 = nx) : Sd ws h0 M K pc (x_getT nx) := by
  subst hnx
  exact sd_getT (fun _ _ _ _ w hr k => aw_getr (k0 := 4) kc_8 (ws_11 w) (Nat.le_of_ble_eq_true rfl) hlk hd rfl hr k)
def x_putT (ws : List Nat) (n : Nat) : Fx := fun a => match a.2.1 with
  | .inr 4 :: .inr 21 :: st => bif inw ws 11 4 then some [(n, a.1, st, a.2.2)] else none
  | _ => none
theorem Wf_rm4 {h : Hp_} {x : Option Nat} (w : Wf h) : Wf (h_rm h 11 4 x) := by
  refine ⟨w.1, fun q hq => ?_⟩
  have c : rfL.all (fun q => !(Nat.beq q.1 11 && Nat.beq q.2.1 4)) = true := by decide +kernel
  have z := List.all_eq_true.mp c q hq
  rw [Bool.not_eq_true'] at z
  have n : ¬ (q.1 = 11 ∧ q.2.1 = 4) := fun y => by rw [y.1, y.2] at z; exact absurd z (by decide)
  rw [h_r_rm, if_neg n]
  exact w.2 q hq
theorem sd_putT {n : Nat} (rule : ∀ lv st h b, Wf h → AW M 0 0 n lv st (h_rm h 11 4 (some b)) K → AW M 0 0 pc lv (.ref b :: .ref 11 :: st) h K) : Sd ws h0 M K pc (x_putT ws n) := by
  intro g a out e lv st h G kx
  obtain ⟨la, sa, hf⟩ := a
  unfold x_putT at e
  split at e
  · rename_i sa' q
    have q : sa = .inr 4 :: .inr 21 :: sa' := q
    subst q
    cases z : inw ws 11 4 with
    | false =>
      have e : (bif inw ws 11 4 then some [(n, la, sa', hf)] else none) = some out := e
      rw [z] at e; cases e
    | true =>
      have e : (bif inw ws 11 4 then some [(n, la, sa', hf)] else none) = some out := e
      rw [z] at e
      have e := (Option.some.inj e).symm
      subst e
      obtain ⟨v, w, t, es, ⟨i, hi, ex⟩, _, ev, _, m⟩ := sm2 G.2.1
      have ev : w = .ref 11 := ev
      subst es ev ex
      refine rule lv t h _ G.2.2.2.1.1 (kx _ List.mem_cons_self _ _ _ ⟨lm_sh (h := h) (h' := h_rm h 11 4 (some (1000 + i))) rfl G.1, ?_, G.2.2.1, ?_, ?_, G.2.2.2.2.2⟩)
      · have m' := sm_kav (f := fun _ => false) (h := h) (h' := h_rm h 11 4 (some (1000 + i))) rfl (fun _ _ _ z => z) m
        have e : kav (fun _ => false) = id := by funext a; unfold kav; split <;> rfl
        rw [e, List.map_id] at m'
        exact m'
      · obtain ⟨I1, I2, I3, _, ⟨c, N, c1, c2, c3, c4⟩, I6⟩ := G.2.2.2.1
        refine ⟨Wf_rm4 I1, I2, fun k => ?_, ⟨i, hi, ?_⟩, ⟨c, N, ?_, c2, c3, c4⟩, Jv_same (h := h) (fun _ _ _ => rfl) rfl (by rw [h_r_rm, if_neg (fun z => absurd z.1 (by decide))]) I6⟩
        · rw [h_r_rm, if_neg (fun z => absurd z.1 (by decide))]
          exact I3 k
        · rw [h_r_rm, if_pos ⟨rfl, rfl⟩]
        · rw [h_r_rm, if_neg (fun z => absurd z.1 (by decide))]
          exact c1
      · refine ⟨G.2.2.2.2.1.1, fun b k hb => ⟨(G.2.2.2.2.1.2 b k hb).1, (G.2.2.2.2.1.2 b k hb).2.1, ?_⟩⟩
        have n : ¬ (b = 11 ∧ k = 4) := fun y => by rw [y.1, y.2, z] at hb; cases hb
        rw [h_r_rm, if_neg n]
        exact (G.2.2.2.2.1.2 b k hb).2.2
  · cases e
theorem z_putT {idx : Nat} (hlk : Cond.fieldLink (mY M).cls idx (TX8 4).1 (TX8 4).2.1 (TX8 4).2.2.1 ∈ lw_g) (hd : decode (mC M) pc = .ok (.putfield idx, 3)) {nx : Nat} (hnx : pc + 3 = nx) : Sd ws h0 M K pc (x_putT ws nx) := by
  subst hnx
  exact sd_putT (fun _ _ _ _ w k => aw_putr (k0 := 4) kc_8 (ws_11 w) (Nat.le_of_ble_eq_true rfl) hlk hd rfl rfl k)
end SDR
