/-! methods whose answer tells what fields hold: one of several cases -/
abbrev Alt : Type := List (Av × Hf)
def Kd (ws : List Nat) (h0 : Hp_) (al : Alt) (v : Option Value) (h : Hp_) : Prop := Iv h ∧ Fr ws h0 h ∧ ∃ q ∈ al, hm h q.2 ∧ rtm h v (some q.1)
abbrev Ctd : Type := List Av × Hf × Alt × List Nat
def Hd (M : Mc_) (c : Ctd) : Prop := ∀ vs h, am h vs c.1 → Iv h → hm h c.2.1 → Ct M vs.reverse h (Kd c.2.2.2 h c.2.2.1)
section SDD
variable {ws : List Nat} {h0 : Hp_} {M : Mc_} {K : Option Value → Hp_ → Prop} {pc : Nat}
def x_calld (ws : List Nat) (c : Ctd) (n : Nat) : Fx := fun a => match pop c.1 a.2.1 with
  | some rest => bif wsub c.2.2.2 ws && hmc a.2.2.1 c.2.1 && Nat.ble ((rest.map ac).sum) 8 then some (c.2.2.1.map (fun q => (n, (a.1, noG q.1 :: rest.map (kav kfl), kcl ([], [], none, q.2, c.2.2.2) a.2.2)))) else none
  | none => none
theorem calld_on {g : Nat → Int} {la : List (Nat × Av)} {hf : Hx} {c : Ctd} {r : List Av} {lv : List (Nat × Value)} {rest : List Value} {h h1 : Hp_} {v : Option Value} {n : Nat} (hl : lm g h lv la) (hs : sm g h lv rest r) (hh : hx g lv h hf) (I : Fr ws h0 h) (hr : lv_rise lv = true) (hw : wsub c.2.2.2 ws = true) (q : Kd c.2.2.2 h c.2.2.1 v h1)
    (kx : ∀ o ∈ c.2.2.1.map (fun q => (n, ((la, noG q.1 :: r.map (kav kfl), kcl ([], [], none, q.2, c.2.2.2) hf) : Ab))), ∀ lv' st' h', Gm g ws h0 o.2 lv' st' h' → AW M 0 0 o.1 lv' st' h' K) : AW M 0 0 n lv (v.toList ++ rest) h1 K := by
  obtain ⟨I1, F1, o, ho, hp, hv⟩ := q
  refine kx _ (List.mem_map.mpr ⟨o, ho, rfl⟩) _ _ _ ?_
  have w := call_on (c := ([], [], some o.1, o.2, c.2.2.2)) hl hs hh I hr hw ⟨I1, F1, hp, hv⟩
  exact w
theorem sd_calldS {M' : Mc_} {c : Ctd} {n : Nat} (hC : Hd M' c) (rule : ∀ lv rest h (vs : List Value) K', vs.length = c.1.length → (rest.map (fun v : Value => v.category)).sum ≤ 8 → Ct M' vs h K' → (∀ v h', K' v h' → AW M 0 0 n lv (v.toList ++ rest) h' K) → AW M 0 0 pc lv (vs.reverse ++ rest) h K) : Sd ws h0 M K pc (x_calld ws c n) := by
  intro g a out e lv st h G kx
  obtain ⟨la, sa, hf⟩ := a
  unfold x_calld at e
  split at e
  · rename_i r q
    cases z : wsub c.2.2.2 ws && hmc hf.1 c.2.1 && Nat.ble ((r.map ac).sum) 8 with
    | false => rw [z] at e; cases e
    | true =>
      rw [z] at e
      have e := (Option.some.inj e).symm
      subst e
      simp only [Bool.and_eq_true, Nat.ble_eq] at z
      obtain ⟨⟨z1, z2⟩, z3⟩ := z
      obtain ⟨vs, rest, es, ma, ms⟩ := pop_ok G.2.1 q
      subst es
      have w := rule lv rest h vs.reverse _ (by rw [List.length_reverse]; exact am_len ma) (by rw [sm_cat ms]; exact z3) (hC vs h ma G.2.2.2.1 (hmc_ok G.2.2.2.1 G.2.2.1.1 z2)) (fun v h' kv => calld_on G.1 ms G.2.2.1 G.2.2.2.2.1 G.2.2.2.2.2 z1 kv kx)
      rw [List.reverse_reverse] at w
      exact w
  · cases e
theorem sd_calldV {M' : Mc_} {c : Ctd} {n m ci N : Nat} {es : List Av} (he : c.1 = es ++ [.inr m]) (ht : thok m ci N = true) (hC : Hd M' c) (rule : ∀ lv rest h (vs : List Value) a K', vs.length = es.length → h_sh h a = some (ci + 10, N) → (rest.map (fun v : Value => v.category)).sum ≤ 8 → Ct M' (.ref a :: vs) h K' → (∀ v h', K' v h' → AW M 0 0 n lv (v.toList ++ rest) h' K) → AW M 0 0 pc lv (vs.reverse ++ .ref a :: rest) h K) : Sd ws h0 M K pc (x_calld ws c n) := by
  intro g a out e lv st h G kx
  obtain ⟨la, sa, hf⟩ := a
  unfold x_calld at e
  split at e
  · rename_i r q
    cases z : wsub c.2.2.2 ws && hmc hf.1 c.2.1 && Nat.ble ((r.map ac).sum) 8 with
    | false => rw [z] at e; cases e
    | true =>
      rw [z] at e
      have e := (Option.some.inj e).symm
      subst e
      simp only [Bool.and_eq_true, Nat.ble_eq] at z
      obtain ⟨⟨z1, z2⟩, z3⟩ := z
      obtain ⟨vs, rest, es2, ma, ms⟩ := pop_ok G.2.1 q
      subst es2
      have ma' := ma
      rw [he] at ma'
      obtain ⟨us, v0, e1, mu, b⟩ := am_snoc ma'
      obtain ⟨a0, ea, hsa⟩ := thok_ok G.2.2.2.1 ht b
      subst ea e1
      have C := hC _ h ma G.2.2.2.1 (hmc_ok G.2.2.2.1 G.2.2.1.1 z2)
      rw [List.reverse_append, List.reverse_singleton, List.singleton_append] at C
      have w := rule lv rest h us.reverse a0 _ (by rw [List.length_reverse]; exact am_len mu) hsa (by rw [sm_cat ms]; exact z3) C (fun v h' kv => calld_on G.1 ms G.2.2.1 G.2.2.2.2.1 G.2.2.2.2.2 z1 kv kx)
      rw [List.reverse_reverse] at w
      rw [List.append_assoc, List.singleton_append]
      exact w
  · cases e
def x_retd (nr : Rg) (al : Alt) : Fx := fun a => match a.2.1 with
  | [.inl (r, s, g)] => bif al.any (fun q => asub (.inl (r, s, g)) q.1 && hmc a.2.2.1 q.2) && rsub r nr then some [] else none
  | _ => none
theorem sd_retd {nr : Rg} {al : Alt} (rule : ∀ lv h x, rin x.toInt nr → Kd ws h0 al (some (.int x)) h → AW M 0 0 pc lv [.int x] h (Kd ws h0 al)) : Sd ws h0 M (Kd ws h0 al) pc (x_retd nr al) := by
  intro g a out e lv st h G kx
  obtain ⟨la, sa, hf⟩ := a
  unfold x_retd at e
  split at e
  · rename_i r s g1 q
    have q : sa = [.inl (r, s, g1)] := q
    subst q
    cases z : al.any (fun q => asub (.inl (r, s, g1)) q.1 && hmc hf.1 q.2) && rsub r nr with
    | false =>
      have e : (bif al.any (fun q => asub (.inl (r, s, g1)) q.1 && hmc hf.1 q.2) && rsub r nr then some [] else none) = some out := e
      rw [z] at e; cases e
    | true =>
      rw [Bool.and_eq_true] at z
      obtain ⟨o, ho, z1⟩ := List.any_eq_true.mp z.1
      rw [Bool.and_eq_true] at z1
      obtain ⟨v, t, es, b, _, m⟩ := sm1 G.2.1
      have b' := b
      obtain ⟨x, ex, hx, _⟩ := b'
      cases t with
      | cons _ _ => exact m.elim
      | nil =>
        subst es ex
        exact rule lv h x (rsub_in z.2 hx) ⟨G.2.2.2.1, G.2.2.2.2.1, o, ho, hmc_ok G.2.2.2.1 G.2.2.1.1 z1.2, _, rfl, asub_ok z1.1 b⟩
  · cases e
theorem z_iretd {al : Alt} (hr : mT M = some .int) (hd : decode (mC M) pc = .ok (.ireturn, 1)) : Sd ws h0 M (Kd ws h0 al) pc (x_retd rtop al) := sd_retd (fun _ _ _ _ k => aw_iret hr hd ⟨Nat.zero_le _, Nat.zero_le _⟩ k)
theorem z_zretd {al : Alt} (hr : mT M = some .boolean) (hd : decode (mC M) pc = .ok (.ireturn, 1)) : Sd ws h0 M (Kd ws h0 al) pc (x_retd (0, 1) al) := sd_retd (fun _ _ _ hx k => aw_zret hr (nf_zr hx).1 hd ⟨Nat.zero_le _, Nat.zero_le _⟩ k)
theorem z_calldS {M' : Mc_} {c : Ctd} {idx n : Nat} (hC : Hd M' c) (hd : decode (mC M) pc = .ok (.invokestatic idx, 3)) (hm : cS_ M' n) (hlk : Cond.methodLink (mY M).cls idx (mY M') ∈ lw_g) (hn : c.1.length = n) (hz : rz_ M' M) {nx : Nat} (hnx : pc + 3 = nx) : Sd ws h0 M K pc (x_calld ws c nx) := by
  subst hnx
  exact sd_calldS hC (fun lv rest h vs K' hl hc C k => aw_callS hd hm.1 hm.2 hlk (hl.trans hn) hz.1 hc ⟨by rw [hz.2.1]; exact Nat.zero_le _, by rw [hz.2.2.1]; exact Nat.zero_le _⟩ hz.2.2.2 C (fun v h' kv => by rw [hz.2.1, hz.2.2.1]; exact k v h' kv))
theorem z_calldV {M' : Mc_} {c : Ctd} {idx n m ci N : Nat} {es : List Av} {T : u_T} (he : c.1 = es ++ [.inr m]) (ht : thok m ci N = true) (hC : Hd M' c) (hd : decode (mC M) pc = .ok (.invokevirtual idx, 3)) (hm : cV_ M' n) (hkc : kc_ ci (mY M').cls T N) (hlk : Cond.methodLink (mY M).cls idx (mY M') ∈ lw_g) (hn : es.length = n) (hz : rz_ M' M) {nx : Nat} (hnx : pc + 3 = nx) : Sd ws h0 M K pc (x_calld ws c nx) := by
  subst hnx
  exact sd_calldV he ht hC (fun lv rest h vs a K' hl hs hc C k => aw_callV hd hm.1 hkc hs hm.2.1 hm.2.2 hlk (hl.trans hn) hz.1 hc ⟨by rw [hz.2.1]; exact Nat.zero_le _, by rw [hz.2.2.1]; exact Nat.zero_le _⟩ hz.2.2.2 C (fun v h' kv => by rw [hz.2.1, hz.2.2.1]; exact k v h' kv))
end SDD
def chkD (code : List (Nat × Fx)) (cuts : List Cut) (c : Ctd) (n : Nat) : Bool := cuts.all (wc code cuts n) && wk code cuts none n 0 (la_args 0 c.1.reverse, [], (c.2.1, [], []))
theorem Hd_of {M : Mc_} {code : List (Nat × Fx)} {cuts : List Cut} {c : Ctd} {n : Nat} (hX : ∀ ad A s, mX M ad A s) (hy : plainName (mY M).cls = true) (hv : (c.1.reverse.map ac).sum ≤ mN M) (hS : ∀ h0, ∀ q ∈ code, Sd c.2.2.2 h0 M (Kd c.2.2.2 h0 c.2.2.1) q.1 q.2) (e : chkD code cuts c n = true) : Hd M c := by
  intro vs h ma I hp
  unfold chkD at e
  rw [Bool.and_eq_true] at e
  have mr := am_rev ma
  refine Ct.of hX hy (by rw [am_cat mr]; exact hv) ?_
  exact wk_ok (g := fun _ => 0) (P := none) (lv0 := []) (hh := h) (fun _ z => (nomatch z)) (hS h) (fun c' hc' lv st h' G _ => cut_ok n (hS h) e.1 _ c' hc' lv st h' G rfl) n 0 _ e.2 _ _ _ ⟨lm_args mr, trivial, ⟨hp, fun _ z => (nomatch z), fun _ z => (nomatch z)⟩, I, Fr.rf _ _, args_rise _ _⟩
