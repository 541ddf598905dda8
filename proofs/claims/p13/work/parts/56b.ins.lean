section ZY
variable {ws : List Nat} {h0 : Hp_} {M : Mc_} {K : Option Value → Hp_ → Prop} {pc : Nat}
theorem z_geti {ci : Nat} {C : String} {T : u_T} {N k0 idx : Nat} (hc : kc_ ci C T N) (hk : k0 < N) (hlk : Cond.fieldLink (mY M).cls idx (T k0).1 (T k0).2.1 (T k0).2.2.1 ∈ lw_g) (hd : decode (mC M) pc = .ok (.getfield idx, 3)) (ht : h_kd (h_tyc ci k0) = 0) {nx : Nat} (hn : pc + 3 = nx) : Sd ws h0 M K pc (x_geti ci N k0 nx) := by
  subst hn
  exact sd_geti (fun _ _ _ _ hs k => aw_geti hc hs hk hlk hd ht k)
theorem z_getl {ci : Nat} {C : String} {T : u_T} {N k0 idx : Nat} (hc : kc_ ci C T N) (hk : k0 < N) (hlk : Cond.fieldLink (mY M).cls idx (T k0).1 (T k0).2.1 (T k0).2.2.1 ∈ lw_g) (hd : decode (mC M) pc = .ok (.getfield idx, 3)) (ht : h_kd (h_tyc ci k0) = 1) {nx : Nat} (hn : pc + 3 = nx) : Sd ws h0 M K pc (x_getl ci N nx) := by
  subst hn
  exact sd_getl (fun _ _ _ _ hs k => aw_getl hc hs hk hlk hd ht k)
theorem z_getr {ci : Nat} {C : String} {T : u_T} {N k0 idx : Nat} (hc : kc_ ci C T N) (hk : k0 < N) (hlk : Cond.fieldLink (mY M).cls idx (T k0).1 (T k0).2.1 (T k0).2.2.1 ∈ lw_g) (hd : decode (mC M) pc = .ok (.getfield idx, 3)) (ht : h_kd (h_tyc ci k0) = 2) {nx : Nat} (hn : pc + 3 = nx) : Sd ws h0 M K pc (x_getr ci N k0 nx) := by
  subst hn
  exact sd_getr (fun _ _ _ _ _ hs hr k => aw_getr hc hs hk hlk hd ht hr k)
theorem z_puti {ci : Nat} {C : String} {T : u_T} {N k0 idx : Nat} (hc : kc_ ci C T N) (hk : k0 < N) (hlk : Cond.fieldLink (mY M).cls idx (T k0).1 (T k0).2.1 (T k0).2.2.1 ∈ lw_g) (hd : decode (mC M) pc = .ok (.putfield idx, 3)) (ht : h_kd (h_tyc ci k0) = 0) (hf : (T k0).2.2.2 = false) (hty : h_tyc ci k0 = .int) {nx : Nat} (hn : pc + 3 = nx) : Sd ws h0 M K pc (x_puti ws rtop ci N k0 nx) := by
  subst hn
  exact sd_puti (fun _ _ _ _ _ _ hs k => aw_puti hc hs hk hlk hd ht hf (by rw [hty]; exact nf_i) k)
theorem nf_zr {x : Int32} (h : rin x.toInt (0, 1)) : narrow .boolean (.int x) = .int x ∧ fits .boolean (.int x) = true := by
  have h1 : 0 ≤ x.toInt := h.1
  have h2 : x.toInt ≤ 1 := h.2
  have e : x = 0 ∨ x = 1 := by
    rcases (show x.toInt = 0 ∨ x.toInt = 1 by omega) with z | z
    · exact Or.inl (Int32.toInt_inj.mp z)
    · exact Or.inr (Int32.toInt_inj.mp z)
  rcases e with e | e <;> subst e <;> exact ⟨rfl, rfl⟩
theorem z_putz {ci : Nat} {C : String} {T : u_T} {N k0 idx : Nat} (hc : kc_ ci C T N) (hk : k0 < N) (hlk : Cond.fieldLink (mY M).cls idx (T k0).1 (T k0).2.1 (T k0).2.2.1 ∈ lw_g) (hd : decode (mC M) pc = .ok (.putfield idx, 3)) (ht : h_kd (h_tyc ci k0) = 0) (hf : (T k0).2.2.2 = false) (hty : h_tyc ci k0 = .boolean) {nx : Nat} (hn : pc + 3 = nx) : Sd ws h0 M K pc (x_puti ws (0, 1) ci N k0 nx) := by
  subst hn
  exact sd_puti (fun _ _ _ _ _ hr hs k => aw_puti hc hs hk hlk hd ht hf (by rw [hty]; exact nf_zr hr) k)
theorem z_putl {ci : Nat} {C : String} {T : u_T} {N k0 idx : Nat} (hc : kc_ ci C T N) (hk : k0 < N) (hlk : Cond.fieldLink (mY M).cls idx (T k0).1 (T k0).2.1 (T k0).2.2.1 ∈ lw_g) (hd : decode (mC M) pc = .ok (.putfield idx, 3)) (ht : h_kd (h_tyc ci k0) = 1) (hf : (T k0).2.2.2 = false) {nx : Nat} (hn : pc + 3 = nx) : Sd ws h0 M K pc (x_putl ws ci N k0 nx) := by
  subst hn
  exact sd_putl (fun _ _ _ _ _ hs k => aw_putl hc hs hk hlk hd ht hf k)
theorem z_iald (hd : decode (mC M) pc = .ok (.iaload, 1)) {nx : Nat} (hn : pc + 1 = nx) : Sd ws h0 M K pc (x_ald 0 nx) := by
  subst hn
  exact sd_ald (fun _ _ _ _ _ _ hs hi k => aw_iald hs hi hd k)
theorem z_zald (hd : decode (mC M) pc = .ok (.baload, 1)) {nx : Nat} (hn : pc + 1 = nx) : Sd ws h0 M K pc (x_ald 1 nx) := by
  subst hn
  exact sd_ald (fun _ _ _ _ _ _ hs hi k => aw_zald hs hi hd k)
theorem z_bald (hd : decode (mC M) pc = .ok (.baload, 1)) {nx : Nat} (hn : pc + 1 = nx) : Sd ws h0 M K pc (x_ald 2 nx) := by
  subst hn
  exact sd_ald (fun _ _ _ _ _ _ hs hi k => aw_bald hs hi hd k)
theorem z_iast (hd : decode (mC M) pc = .ok (.iastore, 1)) {nx : Nat} (hn : pc + 1 = nx) : Sd ws h0 M K pc (x_ast ws id 0 nx) := by
  subst hn
  exact sd_ast (f := fun x => x) ok_id (fun _ _ _ _ _ _ _ hs hi k => aw_iast hs hi hd k)
def o_z (_ : Rg) : Rg := (0, 1)
theorem ok_z : unok (fun x => vp_nar .boolean x) o_z := by
  intro x a _
  have e : vp_nar .boolean x = x &&& 1 := rfl
  show rin (vp_nar .boolean x).toInt (0, 1)
  rw [e]
  exact and_r (x := x) (y := 1) (by decide)
theorem z_zast (hd : decode (mC M) pc = .ok (.bastore, 1)) {nx : Nat} (hn : pc + 1 = nx) : Sd ws h0 M K pc (x_ast ws o_z 1 nx) := by
  subst hn
  exact sd_ast ok_z (fun _ _ _ _ _ _ _ hs hi k => aw_zast hs hi hd k)
theorem ok_b : unok (fun x => vp_nar .byte x) o_i2b := fun x a h => ok_i2b x a h
theorem z_bast (hd : decode (mC M) pc = .ok (.bastore, 1)) {nx : Nat} (hn : pc + 1 = nx) : Sd ws h0 M K pc (x_ast ws o_i2b 2 nx) := by
  subst hn
  exact sd_ast ok_b (fun _ _ _ _ _ _ _ hs hi k => aw_bast hs hi hd k)
theorem z_lald (hd : decode (mC M) pc = .ok (.laload, 1)) {nx : Nat} (hn : pc + 1 = nx) : Sd ws h0 M K pc (x_lald nx) := by
  subst hn
  exact sd_lald (fun _ _ _ _ _ _ hs hi k => aw_lald hs hi hd k)
theorem z_last (hd : decode (mC M) pc = .ok (.lastore, 1)) {nx : Nat} (hn : pc + 1 = nx) : Sd ws h0 M K pc (x_last ws nx) := by
  subst hn
  exact sd_last (fun _ _ _ _ _ _ _ hs hi k => aw_last hs hi hd k)
theorem z_aald (hd : decode (mC M) pc = .ok (.aaload, 1)) {nx : Nat} (hn : pc + 1 = nx) : Sd ws h0 M K pc (x_aald nx) := by
  subst hn
  exact sd_aald (fun _ _ _ _ _ _ _ hs hi hr k => aw_aaldr hs hi hr hd k) (fun _ _ _ _ _ _ hs hi hr k => aw_aaldn hs hi hr hd k)
theorem z_alen (hd : decode (mC M) pc = .ok (.arraylength, 1)) {nx : Nat} (hn : pc + 1 = nx) : Sd ws h0 M K pc (x_alen nx) := by
  subst hn
  exact sd_alen (fun _ _ _ _ _ _ _ hs ht hv k => aw_alen hs ht hv hd k)
/-- a method one level below: frames and locals -/
def rz_ (M' M : Mc_) : Prop := ((mR M').frames + 1 ≤ (mR M).frames ∧ 8 + (mN M' + 11) + (mR M').locals ≤ (mR M).locals) ∧ (mR M').cells = 0 ∧ (mR M').slots = 0 ∧ xs_ M
theorem z_callS {M' : Mc_} {c : Ctr} {idx n : Nat} (hC : Hc M' c) (hd : decode (mC M) pc = .ok (.invokestatic idx, 3)) (hm : cS_ M' n) (hlk : Cond.methodLink (mY M).cls idx (mY M') ∈ lw_g) (hn : c.1.length = n) (hz : rz_ M' M) {nx : Nat} (hn : pc + 3 = nx) : Sd ws h0 M K pc (x_call ws c nx) := by
  subst hn
  exact
  sd_callS hC (fun lv rest h vs K' hl hc C k => aw_callS hd hm.1 hm.2 hlk (hl.trans hn) hz.1 hc ⟨by rw [hz.2.1]; exact Nat.zero_le _, by rw [hz.2.2.1]; exact Nat.zero_le _⟩ hz.2.2.2 C (fun v h' kv => by rw [hz.2.1, hz.2.2.1]; exact k v h' kv))
theorem z_callSN {M' : Mc_} {c : Ctr} {idx n : Nat} (hC : Hc M' c) (hd : decode (mC M) pc = .ok (.invokestatic idx, 3)) (hm : cS_ M' n) (hlk : ((mY M).cls, idx, mY M') ∈ h_nest) (hn : c.1.length = n) (hz : rz_ M' M) {nx : Nat} (hn : pc + 3 = nx) : Sd ws h0 M K pc (x_call ws c nx) := by
  subst hn
  exact
  sd_callS hC (fun lv rest h vs K' hl hc C k => aw_callSN hd hm.1 hm.2 hlk (hl.trans hn) hz.1 hc ⟨by rw [hz.2.1]; exact Nat.zero_le _, by rw [hz.2.2.1]; exact Nat.zero_le _⟩ hz.2.2.2 C (fun v h' kv => by rw [hz.2.1, hz.2.2.1]; exact k v h' kv))
theorem z_callV {M' : Mc_} {c : Ctr} {idx n m ci N : Nat} {es : List Av} {T : u_T} (he : c.1 = es ++ [.inr m]) (ht : thok m ci N = true) (hC : Hc M' c) (hd : decode (mC M) pc = .ok (.invokevirtual idx, 3)) (hm : cV_ M' n) (hkc : kc_ ci (mY M').cls T N) (hlk : Cond.methodLink (mY M).cls idx (mY M') ∈ lw_g) (hn : es.length = n) (hz : rz_ M' M) {nx : Nat} (hn : pc + 3 = nx) : Sd ws h0 M K pc (x_call ws c nx) := by
  subst hn
  exact
  sd_callV he ht hC (fun lv rest h vs a K' hl hs hc C k => aw_callV hd hm.1 hkc hs hm.2.1 hm.2.2 hlk (hl.trans hn) hz.1 hc ⟨by rw [hz.2.1]; exact Nat.zero_le _, by rw [hz.2.2.1]; exact Nat.zero_le _⟩ hz.2.2.2 C (fun v h' kv => by rw [hz.2.1, hz.2.2.1]; exact k v h' kv))
theorem z_iret {rt : Av} {post : Hf} (hr : mT M = some .int) (hd : decode (mC M) pc = .ok (.ireturn, 1)) : Sd ws h0 M (Kc ws h0 (some rt) post) pc (x_ret rtop rt post) := sd_ret (fun _ _ _ _ k => aw_iret hr hd ⟨Nat.zero_le _, Nat.zero_le _⟩ k)
theorem z_zret {rt : Av} {post : Hf} (hr : mT M = some .boolean) (hd : decode (mC M) pc = .ok (.ireturn, 1)) : Sd ws h0 M (Kc ws h0 (some rt) post) pc (x_ret (0, 1) rt post) := sd_ret (fun _ _ _ hx k => aw_zret hr (nf_zr hx).1 hd ⟨Nat.zero_le _, Nat.zero_le _⟩ k)
theorem z_vret {post : Hf} (hr : mT M = none) (hd : decode (mC M) pc = .ok (.return_, 1)) : Sd ws h0 M (Kc ws h0 none post) pc (x_vret post) := sd_vret (fun _ _ k => aw_vret hr hd ⟨Nat.zero_le _, Nat.zero_le _⟩ k)
theorem z_lret {post : Hf} (hr : mT M = some .long) (hd : decode (mC M) pc = .ok (.lreturn, 1)) : Sd ws h0 M (Kc ws h0 (some (.inr 0)) post) pc (x_lret post) := sd_lret (fun _ _ _ k => aw_lret hr hd ⟨Nat.zero_le _, Nat.zero_le _⟩ k)
theorem z_aret {rt : Av} {post : Hf} {ty : FieldType} (hr : mT M = some ty) (hrt : (∃ n, ty = .object n) ∨ ∃ t, ty = .array t) (hd : decode (mC M) pc = .ok (.areturn, 1)) : Sd ws h0 M (Kc ws h0 (some rt) post) pc (x_aret rt post) := sd_aret (fun _ _ _ k => aw_aret hr hrt hd ⟨Nat.zero_le _, Nat.zero_le _⟩ k) (fun _ _ k => aw_aretN hr hrt hd ⟨Nat.zero_le _, Nat.zero_le _⟩ k)
end ZY
theorem rz0 {y' y : MethodName} {cc' cc : ByteArray} {nL' nL : Nat} {ret' ret : Option FieldType} {n : Nat} (h2 : nL' ≤ 81) : rz_ (fun _ _ _ => True, y', cc', nL', ret', { frames := n, cells := 0, slots := 0, locals := 100 * n }) (fun _ _ _ => True, y, cc, nL, ret, { frames := n + 1, cells := 0, slots := 0, locals := 100 * (n + 1) }) :=
  ⟨⟨Nat.le_refl _, by show 8 + (nL' + 11) + 100 * n ≤ 100 * (n + 1); omega⟩, rfl, rfl, fun _ _ _ _ _ _ => trivial⟩
/-- all steps of a list -/
def Al (ws : List Nat) (h0 : Hp_) (M : Mc_) (K : Option Value → Hp_ → Prop) : List (Nat × Fx) → Prop
  | [] => True
  | (p, f) :: t => Sd ws h0 M K p f ∧ Al ws h0 M K t
theorem Al_ok {ws : List Nat} {h0 : Hp_} {M : Mc_} {K : Option Value → Hp_ → Prop} : ∀ {l : List (Nat × Fx)}, Al ws h0 M K l → ∀ q ∈ l, Sd ws h0 M K q.1 q.2
  | [], _, q, h => (nomatch h)
  | (_, _) :: _, a, q, h => by
    rcases List.mem_cons.mp h with z | z
    · rw [z]; exact a.1
    · exact Al_ok a.2 q z
