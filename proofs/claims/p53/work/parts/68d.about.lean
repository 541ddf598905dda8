/-! about: it may throw; the law catches -/
abbrev xE : String := "java/util/NoSuchElementException"
abbrev xF : String := "java/lang/RuntimeException"
abbrev xN : List String := ["java/lang/Exception"]
abbrev aE : List Cond := (a13 "CountyWatch" 310 xE xF xN).filter vx_no
def Zx (A : Nat → Prop) (U : State) : Prop := vx_Zq Bundle.tN "UNASSIGNED_STACK" Bundle.steD A U U.heap ∧ vx_Zq Bundle.tN "SUPPRESSED_SENTINEL" Bundle.listD A U U.heap ∧ (∃ sa, vk_R "CountyWatch" 308 "no such constable" sa U) ∧ (∃ sa, vk_R "CountyWatch" 316 "no such what" sa U) ∧ ∀ w ∈ aE, w.before #[] U = true
def ft_ (w : Cond) : Bool := w.onTables && (goodWord w || w.faceAtom)
theorem ft_all : (aE).all ft_ = true := by decide +kernel
theorem ft_ot : ∀ w ∈ aE, w.onTables = true := fun w hw => by
  have h := List.all_eq_true.mp ft_all w hw
  simp only [ft_, Bool.and_eq_true] at h
  exact h.1
theorem ft_at {w : Cond} {s U : State} {a a' : Array Value} (hW : s.WarmedH U.vm) (hg : ft_ w = true) (h : w.before a s = true) : w.before a' U = true := by
  simp only [ft_, Bool.and_eq_true, Bool.or_eq_true] at hg
  rcases hg.2 with g | g
  · exact word_at hW (good_of_word g) h
  · exact va_tabs hg.1 (rfl : (s.setVm U.vm).vm = U.vm) (Cond.faceAtom_setVm hW.alike w g h)
theorem Zx.call {A : Nat → Prop} {U : State} {g : JFrame} {mk : MethodId} {a : Array Value} (h : Zx A U) : Zx A (U.calling g mk a) :=
  ⟨vx_Zq.moved (u := U) (U := U.calling g mk a) (Vm.Alike.refl U.vm) h.1, vx_Zq.moved (u := U) (U := U.calling g mk a) (Vm.Alike.refl U.vm) h.2.1, h.2.2.1.elim (fun sa q => ⟨sa, vk_R.same rfl q⟩), h.2.2.2.1.elim (fun sa q => ⟨sa, vk_R.same rfl q⟩), fun w hw => va_tabs (u := U) (ft_ot w hw) rfl (h.2.2.2.2 w hw)⟩
theorem Zx.go {A B : Nat → Prop} {s U : State} {H : Heap} {locs : List Loc} (h : Zx A s) (hS : va_S A s.heap H locs) (hU : U.heap = H) (hW : s.WarmedH U.vm) (hAB : ∀ q, B q → A q) : Zx B U :=
  ⟨by rw [hU]; exact vx_Zq.narrow (vx_Zq.moved hW.alike (vx_Zq.kept h.1 hS.2.1)) hAB, by rw [hU]; exact vx_Zq.narrow (vx_Zq.moved hW.alike (vx_Zq.kept h.2.1 hS.2.1)) hAB, h.2.2.1.elim (fun sa q => ⟨sa, vk_R.warm hW q⟩), h.2.2.2.1.elim (fun sa q => ⟨sa, vk_R.warm hW q⟩), fun w hw => ft_at hW (List.all_eq_true.mp ft_all w hw) (h.2.2.2.2 w hw)⟩
def cz_ (dC : Nat → ClassId) (dI : Nat → Nat → Nat) (cy : Nat → ClassId) (ad adV : Nat → Nat) (dom : List Nat) (h : Hp_) (sz : Nat) (U : State) : Prop := cp_ dC dI cy ad adV dom h sz U ∧ Zx (va_A (h_W cy ad h dom) sz) U
theorem cz_blind {dC : Nat → ClassId} {dI : Nat → Nat → Nat} {cy : Nat → ClassId} {ad adV : Nat → Nat} {dom : List Nat} {h : Hp_} {sz : Nat} {av : List Value} : FrameBlind (va_Pc av (cz_ dC dI cy ad adV dom h sz)) := by
  intro a U g mk hq
  obtain ⟨q0, q1, q2⟩ := hq
  have hb := cp_blind (dC := dC) (dI := dI) (cy := cy) (ad := ad) (adV := adV) (dom := dom) (h := h) (sz := sz) (av := av) a U g mk ⟨q0, q1⟩
  exact ⟨hb.1, hb.2, q2.call⟩
/-- cells that a larger heap leaves alone -/
theorem wd_more {dC : Nat → ClassId} {dI : Nat → Nat → Nat} {cy : Nat → ClassId} {A : Nat → Prop} {ad : Nat → Nat} {dom : List Nat} {h : Hp_} {H H1 : Heap} (hW : wd_ dC dI cy A ad dom h H) (hk : ∀ q : Nat, q < H.size → H1[q]? = H[q]?) : wd_ dC dI cy A ad dom h H1 :=
  ⟨hW.1, hW.2.1.kept (fun k x hx => hk x.1 ((hW.2.1 k x hx).lt)), hW.2.2⟩
def xx_ (KX : Hp_ → Prop) (dC : Nat → ClassId) (dI : Nat → Nat → Nat) (cy : Nat → ClassId) (A : Nat → Prop) (ad0 : Nat → Nat) (dom0 : List Nat) : String → State → State → Prop := fun E st t => E = xE ∧ (∃ (h : Hp_) (ad : Nat → Nat) (dom : List Nat), KX h ∧ wd_ dC dI cy A ad dom h t.heap ∧ ex_ ad0 ad dom0 dom) ∧ va_F A st t
/-- as AW, of a method that may throw -/
def AX (M : Mc_) (pc : Nat) (lv : List (Nat × Value)) (st : List Value) (h : Hp_) (K : Option Value → Hp_ → Prop) (KX : Hp_ → Prop) : Prop :=
  ∀ (l : Ln_) (p : Program) (e : Env) (s : State) (m : MethodId) (args : Array Value) (below : List Frame) (meth : Method) (c : Code) (dC : Nat → ClassId) (dI : Nat → Nat → Nat) (cy : Nat → ClassId) (A : Nat → Prop) (ad0 adV ad : Nat → Nat) (dom0 dom : List Nat) (H : Heap) (locs : List Loc) (ls : Array Slot),
    fr_ (mY M) (mC M) (mN M) (mT M) p s m args meth c dC dI cy A → mX M ad A s → st_ ad adV A s → ex_ ad0 ad dom0 dom → wd_ dC dI cy A ad dom h H → va_S A s.heap H locs → lv_has ls (mN M) (lv.map (fun q => (q.1, h_cv ad q.2))) → (∀ q ∈ lv, h_ok dom q.2) → (∀ v ∈ st, h_ok dom v) → Zx A s → (∀ x ∈ c.exceptionTable.toList, False) →
    W p l.1 e (mR M) s m args below meth c H locs 0 0 (vx_MQ below (qq_ K dC dI cy A ad0 dom0) (xx_ KX dC dI cy A ad0 dom0) args s (mR M).cells (mR M).slots A) (F0 m pc ls (st.map (h_cv ad)))
section AXR
variable {M : Mc_} {pc : Nat} {lv : List (Nat × Value)} {st : List Value} {h : Hp_} {K : Option Value → Hp_ → Prop} {KX : Hp_ → Prop}
theorem ax_ret (k : AW M 0 0 pc lv st h K) : AX M pc lv st h K KX := by
  intro l p e s m args below meth c dC dI cy A ad0 adV ad dom0 dom H locs ls hf hX hT hE hW hS hl ho hs hZ ht
  exact vx_ret (k l p e s m args below meth c dC dI cy A ad0 adV ad dom0 dom H locs ls hf hX hT hE hW hS hl ho hs)
theorem ax_iload_n {i : Nat} {x : Int32} {z : Fin 4} (hz : (z : Nat) = i) (hd : decode (mC M) pc = .ok (.iload_n z, 1)) (j : Nat) (hj : lv[j]? = some (i, .int x)) (k : AX M (pc + 1) lv (.int x :: st) h K KX) : AX M pc lv (st) h K KX := by
  intro l p e s m args below meth c dC dI cy A ad0 adV ad dom0 dom H locs ls hf hX hT hE hW hS hl ho hs hZ ht
  exact lv_iload_n hf.1 hf.2.1 hd hz (lv_fnd (List.mem_of_getElem? hj) hl) (k l p e s m args below meth c dC dI cy A ad0 adV ad dom0 dom H locs ls hf hX hT hE hW hS hl ho (ok_c ok_i hs) hZ ht)
theorem ax_aload_n {i : Nat} {x : Nat} {z : Fin 4} (hz : (z : Nat) = i) (hd : decode (mC M) pc = .ok (.aload_n z, 1)) (j : Nat) (hj : lv[j]? = some (i, .ref x)) (k : AX M (pc + 1) lv (.ref x :: st) h K KX) : AX M pc lv (st) h K KX := by
  intro l p e s m args below meth c dC dI cy A ad0 adV ad dom0 dom H locs ls hf hX hT hE hW hS hl ho hs hZ ht
  exact lv_aload_n hf.1 hf.2.1 hd hz (lv_fnd (List.mem_of_getElem? hj) hl) (k l p e s m args below meth c dC dI cy A ad0 adV ad dom0 dom H locs ls hf hX hT hE hW hS hl ho (ok_c (ho _ (List.mem_of_getElem? hj)) hs) hZ ht)
theorem ax_aload_nN {i : Nat} {z : Fin 4} (hz : (z : Nat) = i) (hd : decode (mC M) pc = .ok (.aload_n z, 1)) (j : Nat) (hj : lv[j]? = some (i, .null)) (k : AX M (pc + 1) lv (.null :: st) h K KX) : AX M pc lv (st) h K KX := by
  intro l p e s m args below meth c dC dI cy A ad0 adV ad dom0 dom H locs ls hf hX hT hE hW hS hl ho hs hZ ht
  exact lv_aload_nN hf.1 hf.2.1 hd hz (lv_fnd (List.mem_of_getElem? hj) hl) (k l p e s m args below meth c dC dI cy A ad0 adV ad dom0 dom H locs ls hf hX hT hE hW hS hl ho (ok_c ok_n hs) hZ ht)
theorem ax_ifnonnull {a : Nat} {off : Int} {tgt : Nat} (hd : decode (mC M) pc = .ok (.ifnonnull off, 3)) (ht : (pc : Int) + off = (tgt : Int)) (k : AX M tgt lv (st) h K KX) : AX M pc lv (.ref a :: st) h K KX := by
  intro l p e s m args below meth c dC dI cy A ad0 adV ad dom0 dom H locs ls hf hX hT hE hW hS hl ho hs hZ ht2
  exact lv_ifnonnull hf.1 hf.2.1 hd ht (k l p e s m args below meth c dC dI cy A ad0 adV ad dom0 dom H locs ls hf hX hT hE hW hS hl ho (ok_t hs) hZ ht2)
theorem ax_ifnonnullN {off : Int} (hd : decode (mC M) pc = .ok (.ifnonnull off, 3)) (k : AX M (pc + 3) lv (st) h K KX) : AX M pc lv (.null :: st) h K KX := by
  intro l p e s m args below meth c dC dI cy A ad0 adV ad dom0 dom H locs ls hf hX hT hE hW hS hl ho hs hZ ht
  exact lv_ifnonnullN hf.1 hf.2.1 hd (k l p e s m args below meth c dC dI cy A ad0 adV ad dom0 dom H locs ls hf hX hT hE hW hS hl ho (ok_t hs) hZ ht)
theorem ax_tableOut {dflt lo hi : Int} {offs : Array Int} {len : Nat} {x : Int32} {tgt : Nat} (hd : decode (mC M) pc = .ok (.tableswitch dflt lo hi offs, len)) (h1 : x.toInt < lo ∨ hi < x.toInt) (ht : (pc : Int) + dflt = (tgt : Int)) (k : AX M tgt lv (st) h K KX) : AX M pc lv (.int x :: st) h K KX := by
  intro l p e s m args below meth c dC dI cy A ad0 adV ad dom0 dom H locs ls hf hX hT hE hW hS hl ho hs hZ ht2
  exact lv_tableOut hf.1 hf.2.1 hd h1 ht (k l p e s m args below meth c dC dI cy A ad0 adV ad dom0 dom H locs ls hf hX hT hE hW hS hl ho (ok_t hs) hZ ht2)
theorem ax_astore_n {i : Nat} {x : Nat} {z : Fin 4} (hz : (z : Nat) = i) (lv' : List (Nat × Value)) (hd : decode (mC M) pc = .ok (.astore_n z, 1)) (hn : i < mN M) (hr : (lv_rise lv && lv_fit i lv) = true) (hp : lv_put i (.ref x) lv = lv') (k : AX M (pc + 1) lv' st h K KX) : AX M pc lv (.ref x :: st) h K KX := by
  intro l p e s m args below meth c dC dI cy A ad0 adV ad dom0 dom H locs ls hf hX hT hE hW hS hl ho hs hZ ht
  rw [Bool.and_eq_true] at hr
  subst hp
  refine lv_astore_n hf.1 hf.2.1 hd hz hl hn rfl (fun ls' hl' => ?_)
  refine k l p e s m args below meth c dC dI cy A ad0 adV ad dom0 dom H locs ls' hf hX hT hE hW hS (lv_put_has (v := .ref x) hr.1 hr.2 hl') (fun q hq => ?_) (ok_t hs) hZ ht
  rcases lv_put_mem hq with h1 | h1
  · rw [h1]; exact ok_h hs
  · exact ho q h1
theorem ax_astore_nN {i : Nat} {z : Fin 4} (hz : (z : Nat) = i) (lv' : List (Nat × Value)) (hd : decode (mC M) pc = .ok (.astore_n z, 1)) (hn : i < mN M) (hr : (lv_rise lv && lv_fit i lv) = true) (hp : lv_put i (.null) lv = lv') (k : AX M (pc + 1) lv' st h K KX) : AX M pc lv (.null :: st) h K KX := by
  intro l p e s m args below meth c dC dI cy A ad0 adV ad dom0 dom H locs ls hf hX hT hE hW hS hl ho hs hZ ht
  rw [Bool.and_eq_true] at hr
  subst hp
  refine lv_astore_nN hf.1 hf.2.1 hd hz hl hn rfl (fun ls' hl' => ?_)
  refine k l p e s m args below meth c dC dI cy A ad0 adV ad dom0 dom H locs ls' hf hX hT hE hW hS (lv_put_has (v := .null) hr.1 hr.2 hl') (fun q hq => ?_) (ok_t hs) hZ ht
  rcases lv_put_mem hq with h1 | h1
  · rw [h1]; exact ok_n
  · exact ho q h1
theorem ax_back {a : Array Value} {rest st0 : List Value} {K' : Option Value → Hp_ → Prop} (hXs : xs_ M)
    {l : Ln_} {p : Program} {e : Env} {s : State} {m : MethodId} {args : Array Value} {below : List Frame} {meth : Method} {c : Code} {dC : Nat → ClassId} {dI : Nat → Nat → Nat} {cy : Nat → ClassId} {A : Nat → Prop} {ad0 adV ad : Nat → Nat} {dom0 dom : List Nat} {H : Heap} {locs : List Loc} {ls : Array Slot}
    (hf : fr_ (mY M) (mC M) (mN M) (mT M) p s m args meth c dC dI cy A) (hX : mX M ad A s) (hT : st_ ad adV A s) (hE : ex_ ad0 ad dom0 dom) (hW : wd_ dC dI cy A ad dom h H) (hS : va_S A s.heap H locs) (hl : lv_has ls (mN M) (lv.map (fun q => (q.1, h_cv ad q.2)))) (ho : ∀ q ∈ lv, h_ok dom q.2) (hs : ∀ v ∈ rest, h_ok dom v) (hZ : Zx A s) (ht : ∀ x ∈ c.exceptionTable.toList, False)
    (hr : va_Run p l.1 e (mR M) s m args below meth c H locs 0 0 0 0 (F0 m pc ls st0) (rest.map (h_cv ad)) (qq_ K' dC dI cy (va_A (h_W cy ad h dom) H.size) ad dom a) (va_A (h_W cy ad h dom) H.size))
    (k : ∀ v h', K' v h' → AX M (pc + 3) lv (v.toList ++ rest) h' K KX) :
    W p l.1 e (mR M) s m args below meth c H locs 0 0 (vx_MQ below (qq_ K dC dI cy A ad0 dom0) (xx_ KX dC dI cy A ad0 dom0) args s (mR M).cells (mR M).slots A) (F0 m pc ls st0) := by
  intro T hT0 X
  obtain ⟨v, st₀, t, T', L, h0, X', hL, e1, e2, ⟨⟨v', h', ad', dom', hv, hK', hW', hov, hE'⟩, hz, hkp⟩, stp⟩ := hr T hT0 X
  cases hv
  rw [h0] at hz hkp
  have hAA := cp_sub hf.2.2.2.2.2.2.2.2.2 hW hS
  have hS1 : va_S A s.heap T'.heap (locs ++ L) := ⟨Nat.le_trans hS.1 (by rw [e1]; exact hz), fun q h1 h2 => by rw [e1, hkp q (Nat.lt_of_lt_of_le h1 hS.1) (fun z => h2 (hAA q z))]; exact hS.2.1 q h1 h2, fun q hq => by
      rcases List.mem_append.mp hq with z | z
      · exact hS.2.2 q z
      · exact hAA _ (hL q z)⟩
  have hW1 : wd_ dC dI cy A ad' dom' h' T'.heap := ⟨hW'.1, by rw [e1]; exact hW'.2.1, hW'.2.2.weaken (fun _ _ _ z => hAA _ z)⟩
  have hs1 : ∀ x ∈ v'.toList ++ rest, h_ok dom' x := by
    intro x hx
    rcases List.mem_append.mp hx with z | z
    · exact hov x (Option.mem_toList.mp z)
    · exact h_ok_mono hE'.2 (hs x z)
  have he : ∀ a, 1000 ≤ a → ad' a = ad a := fun a ha => hE'.1 a (Or.inr ha)
  have hl1 : lv_has ls (mN M) (lv.map (fun q => (q.1, h_cv ad' q.2))) := by
    rw [lvs_same (fun q hq z hz => hE'.1 z (ho q hq z hz))]
    exact hl
  have hz1 := k v' h' hK' l p e s m args below meth c dC dI cy A ad0 adV ad' dom0 dom' T'.heap (locs ++ L) ls hf (hXs ad ad' A s he hX) (st_same he hT) (ex_trans hE hE') hW1 hS1 hl1 (fun q hq => h_ok_mono hE'.2 (ho q hq)) hs1 hZ ht
  obtain ⟨t2, a1, b1⟩ := hz1 T' rfl X'
  refine ⟨t2, stp t2 ?_, b1⟩
  rw [List.map_append, cvs_same (ad := ad) (fun x hx z w => hE'.1 z (hs x hx z w))] at a1
  cases v' <;> exact a1
theorem ax_callV {M' : Mc_} {vs rest : List Value} {K' : Option Value → Hp_ → Prop} {n idx ci a N : Nat} {C : String} {T : u_T} (hd : decode (mC M) pc = .ok (.invokevirtual idx, 3)) (hm : cm_ M' n) (hkc : kc_ ci C T N) (hs0 : h_sh h a = some (ci + 10, N)) (hin : Cond.instanceMethod (mY M') ∈ lw_g) (hse : Cond.selects C (mY M') (mY M') ∈ lw_g) (hlk : Cond.methodLink (mY M).cls idx (mY M') ∈ lw_g) (hn : vs.length = n) (hR : (mR M').frames + 1 ≤ (mR M).frames ∧ 8 + (mN M' + 11) + (mR M').locals ≤ (mR M).locals) (hc : (rest.map (fun v => v.category)).sum ≤ 8) (hz : (mR M').cells = 0 ∧ (mR M').slots = 0) (hXs : xs_ M)
    (hC : Ct M' (.ref a :: vs) h K') (k : ∀ v h', K' v h' → AX M (pc + 3) lv (v.toList ++ rest) h' K KX) : AX M pc lv (vs.reverse ++ .ref a :: rest) h K KX := by
  intro l p e s m args below meth c dC dI cy A ad0 adV ad dom0 dom H locs ls hf hX hT hE hW hS hl ho hs hZ ht
  have hov : ∀ v ∈ Value.ref a :: vs, h_ok dom v := fun v hv => hs v (by
    rcases List.mem_cons.mp hv with z | z
    · exact List.mem_append_right _ (by rw [z]; exact List.mem_cons_self)
    · exact List.mem_append_left _ (List.mem_reverse.mpr z))
  obtain ⟨q, hq, hw⟩ := h_W_get (cy := cy) (ad := ad) (h := h) (wd_in hW hs0)
  rw [h_ce_obj hs0] at hw
  have hr : va_Run p l.1 e (mR M) s m args below meth c H locs 0 0 (mR M').cells (mR M').slots (F0 m pc ls ((vs.reverse ++ .ref a :: rest).map (h_cv ad))) (rest.map (h_cv ad)) (qq_ K' dC dI cy (va_A (h_W cy ad h dom) H.size) ad dom (Value.ref (ad a) :: vs.map (h_cv ad)).toArray) (va_A (h_W cy ad h dom) H.size) :=
    va_runV (As := vs.map (h_cv ad)) ⟨hf.1, hf.2.1, hf.2.2.1, hf.2.2.2.2.2.1, hf.2.2.2.2.2.2.2.1⟩ (hC l dC dI cy ad adV dom H.size hW.1 hov) ⟨cb_ hf.2.2.2.2.2.2.2.1 hm hlk hR, hf.2.2.2.2.2.2.2.1 _ hin, hf.2.2.2.2.2.2.2.1 _ hse⟩ ⟨cp_blind, va_recv hf.2.2.2.2.2.2.2.2.1.1 hW.2.1 hkc.1 hw, fun U hU hWm => ⟨rfl, cp_pre hf hT hW hS hU hWm⟩⟩ rfl (by rw [List.length_map]; exact hn) hl.1 (by rw [List.map_append, List.map_reverse]; rfl) (lv_room (by rw [cat_cv]; exact hc)) hd ⟨by rw [hz.1]; exact Nat.zero_le _, by rw [hz.2]; exact Nat.zero_le _⟩
  rw [hz.1, hz.2] at hr
  exact ax_back hXs hf hX hT hE hW hS hl ho (fun v hv => hs v (List.mem_append_right _ (List.mem_cons_of_mem _ hv))) hZ ht hr k
end AXR
abbrev Ma : Mc_ := m_X11_about 12 1 6
theorem ax_thr {pc is_ : Nat} {text : String} {lv : List (Nat × Value)} {h : Hp_} {K : Option Value → Hp_ → Prop} {KX : Hp_ → Prop} (d0 : decode (mC Ma) pc = .ok (.new 306, 3)) (d3 : decode (mC Ma) (pc + 3) = .ok (.dup, 1)) (d4 : decode (mC Ma) (pc + 4) = .ok (.ldc_w is_, 3)) (d7 : decode (mC Ma) (pc + 7) = .ok (.invokespecial 310, 3)) (d10 : decode (mC Ma) (pc + 10) = .ok (.athrow, 1)) (hstr : ∀ (A : Nat → Prop) (s : State), Zx A s → ∃ sa, vk_R "CountyWatch" is_ text sa s) (kx : KX h) : AX Ma pc lv [] h K KX := by
  intro l p e s m args below meth c dC dI cy A ad0 adV ad dom0 dom H locs ls hf hX hT hE hW hS hl ho hs hZ ht
  obtain ⟨sa, hsa⟩ := hstr A s hZ
  have htg := hf.2.2.2.2.2.2.2.1
  refine tw13 (own := "CountyWatch") (cls := xE) (F := xF) (text := text) (names := xN) (ik := 306) (is := is_) (ic := 310) (sa := sa) (A := A) hf.1 hf.2.1 l.2 hf.2.2.2.2.2.1 (by decide +kernel) (by decide +kernel) (by decide +kernel) (htg _ tw_1669) (htg _ tw_25) hsa (fun w hw => va_tabs (ft_ot w hw) rfl (hZ.2.2.2.2 w hw)) ?_ hZ.1 hZ.2.1 hS (hl.1.trans hf.2.2.1.symm) d0 d3 d4 d7 d10 (fun x hx => (ht x hx).elim) (by decide) (Nat.le_of_ble_eq_true rfl) (by decide) (by decide) hf.2.2.2.2.1 (fun t1 hal hsz1 hkp1 => ⟨rfl, ⟨h, ad, dom, kx, wd_more hW hkp1, hE⟩, ?_⟩) hS.2.2 (by decide) (by decide)
  · intro w hw
    have hall : (Cond.classLink "CountyWatch" 306 xE :: Cond.initialized xE :: aE).all vx_ot = true := by decide +kernel
    exact List.all_eq_true.mp hall w hw
  · exact ⟨Nat.le_trans hS.1 hsz1, fun q h1 h2 => (hkp1 q (Nat.lt_of_lt_of_le h1 hS.1)).trans (hS.2.1 q h1 h2)⟩
abbrev kA (h : Hp_) : Option Value → Hp_ → Prop := fun v h' => (∃ r : Int32, v = some (.int r)) ∧ Iv h' ∧ Fr [] h h'
theorem ab_ret {h h' : Hp_} (I : Iv h') (F : Fr [] h h') (c : Nat) (hc : Cn h' c) (x1 x2 : Int32) (b : 0 ≤ x2.toInt ∧ x2.toInt ≤ 8) : AW Ma 0 0 21 [(0, .ref 0), (1, .int x1), (2, .int x2), (3, .ref c)] [] h' (kA h) := by
  have en : ∀ {x y : Int32}, x.toInt = y.toInt → x = y := fun z => Int32.toInt_inj.mp z
  have hk : 0 ≤ (mR Ma).cells ∧ 0 ≤ (mR Ma).slots := ⟨Nat.zero_le _, Nat.zero_le _⟩
  refine aw_iload_n (i := 2) rfl d_X11_about_21 2 rfl ?_
  by_cases e0 : x2.toInt = 0
  · refine aw_tableIn (off := 50) (tgt := 72) d_X11_about_22 (by rw [e0]; decide) (by rw [e0]; decide) (by rw [e0]; rfl) rfl ?_
    refine aw_aload_n (i := 3) rfl d_X11_about_72 3 rfl ?_
    refine aw_geti (k0 := 4) kc_2 hc.2.2 (Nat.le_of_ble_eq_true rfl) tw_581 d_X11_about_73 rfl ?_
    exact aw_iret rfl d_X11_about_76 hk ⟨⟨_, rfl⟩, I, F⟩
  by_cases e1 : x2.toInt = 1
  · refine aw_tableIn (off := 55) (tgt := 77) d_X11_about_22 (by rw [e1]; decide) (by rw [e1]; decide) (by rw [e1]; rfl) rfl ?_
    refine aw_aload_n (i := 3) rfl d_X11_about_77 3 rfl ?_
    refine aw_geti (k0 := 5) kc_2 hc.2.2 (Nat.le_of_ble_eq_true rfl) tw_583 d_X11_about_78 rfl ?_
    exact aw_iret rfl d_X11_about_81 hk ⟨⟨_, rfl⟩, I, F⟩
  by_cases e2 : x2.toInt = 2
  · refine aw_tableIn (off := 60) (tgt := 82) d_X11_about_22 (by rw [e2]; decide) (by rw [e2]; decide) (by rw [e2]; rfl) rfl ?_
    refine aw_aload_n (i := 3) rfl d_X11_about_82 3 rfl ?_
    refine aw_geti (k0 := 6) kc_2 hc.2.2 (Nat.le_of_ble_eq_true rfl) tw_585 d_X11_about_83 rfl ?_
    exact aw_iret rfl d_X11_about_86 hk ⟨⟨_, rfl⟩, I, F⟩
  by_cases e3 : x2.toInt = 3
  · refine aw_tableIn (off := 65) (tgt := 87) d_X11_about_22 (by rw [e3]; decide) (by rw [e3]; decide) (by rw [e3]; rfl) rfl ?_
    refine aw_aload_n (i := 3) rfl d_X11_about_87 3 rfl ?_
    refine aw_geti (k0 := 7) kc_2 hc.2.2 (Nat.le_of_ble_eq_true rfl) tw_587 d_X11_about_88 rfl ?_
    exact aw_iret rfl d_X11_about_91 hk ⟨⟨_, rfl⟩, I, F⟩
  by_cases e4 : x2.toInt = 4
  · refine aw_tableIn (off := 70) (tgt := 92) d_X11_about_22 (by rw [e4]; decide) (by rw [e4]; decide) (by rw [e4]; rfl) rfl ?_
    refine aw_aload_n (i := 3) rfl d_X11_about_92 3 rfl ?_
    refine aw_geti (k0 := 4) kc_2 hc.2.2 (Nat.le_of_ble_eq_true rfl) tw_581 d_X11_about_93 rfl ?_
    refine aw_iconst (v := 1) d_X11_about_96 ic_1 ?_
    refine aw_icmp_ne (tgt := 107) d_X11_about_97 rfl (fun _ => ?_) (fun _ => ?_)
    · refine aw_iconst (v := (-1)) d_X11_about_107 ic_m1 ?_
      exact aw_iret rfl d_X11_about_108 hk ⟨⟨_, rfl⟩, I, F⟩
    · refine aw_aload_n (i := 3) rfl d_X11_about_100 3 rfl ?_
      refine aw_geti (k0 := 9) kc_2 hc.2.2 (Nat.le_of_ble_eq_true rfl) tw_589 d_X11_about_101 rfl ?_
      refine aw_goto (tgt := 108) d_X11_about_104 rfl ?_
      exact aw_iret rfl d_X11_about_108 hk ⟨⟨_, rfl⟩, I, F⟩
  by_cases e5 : x2.toInt = 5
  · refine aw_tableIn (off := 87) (tgt := 109) d_X11_about_22 (by rw [e5]; decide) (by rw [e5]; decide) (by rw [e5]; rfl) rfl ?_
    refine aw_aload_n (i := 3) rfl d_X11_about_109 3 rfl ?_
    refine aw_geti (k0 := 15) kc_2 hc.2.2 (Nat.le_of_ble_eq_true rfl) tw_597 d_X11_about_110 rfl ?_
    exact aw_iret rfl d_X11_about_113 hk ⟨⟨_, rfl⟩, I, F⟩
  by_cases e6 : x2.toInt = 6
  · refine aw_tableIn (off := 92) (tgt := 114) d_X11_about_22 (by rw [e6]; decide) (by rw [e6]; decide) (by rw [e6]; rfl) rfl ?_
    refine aw_aload_n (i := 3) rfl d_X11_about_114 3 rfl ?_
    refine aw_geti (k0 := 16) kc_2 hc.2.2 (Nat.le_of_ble_eq_true rfl) tw_598 d_X11_about_115 rfl ?_
    exact aw_iret rfl d_X11_about_118 hk ⟨⟨_, rfl⟩, I, F⟩
  by_cases e7 : x2.toInt = 7
  · refine aw_tableIn (off := 97) (tgt := 119) d_X11_about_22 (by rw [e7]; decide) (by rw [e7]; decide) (by rw [e7]; rfl) rfl ?_
    refine aw_aload_n (i := 3) rfl d_X11_about_119 3 rfl ?_
    refine aw_geti (k0 := 2) kc_2 hc.2.2 (Nat.le_of_ble_eq_true rfl) tw_577 d_X11_about_120 rfl ?_
    exact aw_iret rfl d_X11_about_123 hk ⟨⟨_, rfl⟩, I, F⟩
  by_cases e8 : x2.toInt = 8
  · refine aw_tableIn (off := 102) (tgt := 124) d_X11_about_22 (by rw [e8]; decide) (by rw [e8]; decide) (by rw [e8]; rfl) rfl ?_
    refine aw_aload_n (i := 3) rfl d_X11_about_124 3 rfl ?_
    refine aw_geti (k0 := 3) kc_2 hc.2.2 (Nat.le_of_ble_eq_true rfl) tw_579 d_X11_about_125 rfl ?_
    exact aw_iret rfl d_X11_about_128 hk ⟨⟨_, rfl⟩, I, F⟩
  omega
theorem ax_about {h : Hp_} (I : Iv h) (x1 x2 : Int32) : AX Ma 0 [(0, .ref 0), (1, .int x1), (2, .int x2)] [] h (kA h) (fun h' => Iv h' ∧ Fr [] h h') := by
  refine ax_aload_n (i := 0) rfl d_X11_about_0 0 rfl ?_
  refine ax_iload_n (i := 1) rfl d_X11_about_1 1 rfl ?_
  have C : Ct (m_X11_manOf (10 + 1) 0 0) [.ref 0, .int x1] h (Kc [] h (some (.inr 2)) []) := hc_X11_manOf 10 [.int x1, .ref 0] h ⟨⟨x1, rfl, rtop_in _, fun _ y => (nomatch y)⟩, rfl, trivial⟩ I (fun _ y => (nomatch y))
  refine ax_callV (vs := [.int x1]) (rest := []) (a := 0) (M' := m_X11_manOf (10 + 1) 0 0) d_X11_about_2 (cV_X11_manOf (10 + 1) 0 0).1 kc_11 (ws_0 I.1) (cV_X11_manOf (10 + 1) 0 0).2.1 (cV_X11_manOf (10 + 1) 0 0).2.2 tw_904 rfl ⟨Nat.le_of_ble_eq_true rfl, Nat.le_of_ble_eq_true rfl⟩ (Nat.le_of_ble_eq_true rfl) ⟨rfl, rfl⟩ xs0 C (fun v h' kv => ?_)
  obtain ⟨I', F', _, x, ev, hx⟩ := kv
  subst ev
  have hx : x = .null ∨ ∃ c, x = .ref c ∧ Cn h' c := hx
  rcases hx with e | ⟨c, e, hc⟩
  · subst e
    refine ax_astore_nN (i := 3) rfl [(0, .ref 0), (1, .int x1), (2, .int x2), (3, .null)] d_X11_about_5 (Nat.le_of_ble_eq_true rfl) rfl rfl ?_
    refine ax_aload_nN (i := 3) rfl d_X11_about_6 3 rfl ?_
    refine ax_ifnonnullN d_X11_about_7 ?_
    exact ax_thr d_X11_about_10 d_X11_about_13 d_X11_about_14 d_X11_about_17 d_X11_about_20 (fun A s z => z.2.2.1) ⟨I', F'⟩
  · subst e
    refine ax_astore_n (i := 3) rfl [(0, .ref 0), (1, .int x1), (2, .int x2), (3, .ref c)] d_X11_about_5 (Nat.le_of_ble_eq_true rfl) rfl rfl ?_
    refine ax_aload_n (i := 3) rfl d_X11_about_6 3 rfl ?_
    refine ax_ifnonnull (tgt := 21) d_X11_about_7 rfl ?_
    by_cases b : 0 ≤ x2.toInt ∧ x2.toInt ≤ 8
    · exact ax_ret (ab_ret I' F' c hc x1 x2 b)
    · refine ax_iload_n (i := 2) rfl d_X11_about_21 2 rfl ?_
      refine ax_tableOut (tgt := 129) d_X11_about_22 (by omega) rfl ?_
      exact ax_thr d_X11_about_129 d_X11_about_132 d_X11_about_133 d_X11_about_136 d_X11_about_139 (fun A s z => z.2.2.2.1) ⟨I', F'⟩
theorem dom_h {dom : List Nat} {h : Hp_} (hd : ∀ a, h_sh h a ≠ none ↔ a ∈ dom) {a : Nat} {x : Nat × Nat} (hs : h_sh h a = some x) : a ∈ dom := (hd a).mp (by rw [hs]; exact fun z => by cases z)
theorem xa_about (l : Ln_) (dC : Nat → ClassId) (dI : Nat → Nat → Nat) (cy : Nat → ClassId) (ad adV : Nat → Nat) (dom : List Nat) (sz : Nat) {h : Hp_} (I : Iv h) (hdm : dom.Nodup ∧ (∀ a, h_sh h a ≠ none ↔ a ∈ dom) ∧ (∀ a ∈ dom, a < 1000) ∧ ∀ b k c, h_r h b k = some c → c ∈ dom ∨ 1000 ≤ c) (x1 x2 : Int32) :
    vx_Met l.1 (mY Ma) (Cond.code (mY Ma) (mC Ma) 4 (some .int) :: lw_g) (mR Ma) (va_Pc ([Value.ref 0, .int x1, .int x2].map (h_cv ad)) (cz_ dC dI cy ad adV dom h sz)) (qq_ (kA h) dC dI cy (va_A (h_W cy ad h dom) sz) ad dom) (xx_ (fun h' => Iv h' ∧ Fr [] h h') dC dI cy (va_A (h_W cy ad h dom) sz) ad dom) 1 6 (va_A (h_W cy ad h dom) sz) := by
  refine vx_ofW (cc := mC Ma) (maxL := 4) (ret := some .int) rfl rfl ?_
  intro p e s m args below meth c s₁ B hml htab hv0
  obtain ⟨rfl, ⟨hsz, hP, hD0, hcx, hst⟩, hz⟩ := hv0
  have hts := atoms_spec (ws := Cond.code (mY Ma) (mC Ma) 4 (some .int) :: lw_g) B.pre
  have htg : ∀ w ∈ lw_g, w.before _ s = true := fun w hw => hts w (List.mem_cons_of_mem _ hw)
  have hown : s.vm.findClass "CountyWatch" = some m.cls := findClass_of_methodNamed B.named
  have hnm : meth.name = "about" := (name_of_methodNamed B.named B.method).1
  subst hsz
  have hD := hD0.self (sz := s.heap.size)
  have hl := lv_entry ([Value.ref 0, .int x1, .int x2].map (h_cv ad)) (n := 4) (Nat.le_of_ble_eq_true rfl)
  rw [lg_entry_eq]
  generalize (lg_sl ([Value.ref 0, .int x1, .int x2].map (h_cv ad)) ++ List.replicate (4 - (lg_sl ([Value.ref 0, .int x1, .int x2].map (h_cv ad))).length) Slot.unset).toArray = ls at hl ⊢
  have hl : lv_has ls 4 [(0, .ref (ad 0)), (1, .int x1), (2, .int x2)] := hl
  exact ax_about I x1 x2 l p e s m _ below meth c dC dI cy (va_A (h_W cy ad h dom) s.heap.size) ad adV ad dom dom s.heap [] ls ⟨B.exec, B.bytes, hml, B.returns, B.notSynchronized, hown, hnm, htg, hcx, fun q hq => Or.inr hq⟩ trivial hst ⟨fun _ _ => rfl, fun _ ha => ha⟩ ⟨hdm, hP, hD⟩ va_S.rf hl (fun q hq => by
    rcases List.mem_cons.mp hq with z | hq
    · rw [z]; intro c hc; cases hc; exact Or.inl (dom_h hdm.2.1 (ws_0 I.1))
    · rcases List.mem_cons.mp hq with z | hq
      · rw [z]; exact ok_i
      · rw [List.mem_singleton.mp hq]; exact ok_i) (fun v hv => by cases hv) hz htab
abbrev yLa : MethodName := ⟨"CountyWatchLaw", "about", "(LCountyWatch;II[J)I"⟩
abbrev RLa : Room := { frames := 20, cells := 1, slots := 6, locals := 2000 }
abbrev wLa : Cond := Cond.codeWith yLa method_3_code 5 (some .int) [(0, 10, 13, 13)]
abbrev mLa : Mc_ := (fun _ _ _ => True, yLa, method_3_code, 5, some .int, RLa)
def kLa (h : Hp_) : Option Value → Hp_ → Prop := fun v h' => (∃ r : Int32, v = some (.int r)) ∧ Iv h' ∧ Fr [2999] h h'
theorem d_La_0 : decode method_3_code 0 = .ok (.aload_n 3, 1) := by decide +kernel
theorem d_La_1 : decode method_3_code 1 = .ok (.iconst 0, 1) := by decide +kernel
theorem d_La_2 : decode method_3_code 2 = .ok (.aload_n 0, 1) := by decide +kernel
theorem d_La_3 : decode method_3_code 3 = .ok (.iload_n 1, 1) := by decide +kernel
theorem d_La_4 : decode method_3_code 4 = .ok (.iload_n 2, 1) := by decide +kernel
theorem d_La_5 : decode method_3_code 5 = .ok (.invokevirtual 7, 3) := by decide +kernel
theorem d_La_8 : decode method_3_code 8 = .ok (.i2l, 1) := by decide +kernel
theorem d_La_9 : decode method_3_code 9 = .ok (.lastore, 1) := by decide +kernel
theorem d_La_10 : decode method_3_code 10 = .ok (.goto 7, 3) := by decide +kernel
theorem d_La_13 : decode method_3_code 13 = .ok (.astore 4, 2) := by decide +kernel
theorem d_La_15 : decode method_3_code 15 = .ok (.iconst 1, 1) := by decide +kernel
theorem d_La_16 : decode method_3_code 16 = .ok (.ireturn, 1) := by decide +kernel
theorem d_La_17 : decode method_3_code 17 = .ok (.iconst 0, 1) := by decide +kernel
theorem d_La_18 : decode method_3_code 18 = .ok (.ireturn, 1) := by decide +kernel
theorem la_ret {h h' : Hp_} (I' : Iv h') (F' : Fr [] h h') (s2 : h_sh h 2 = some (3, 1)) (x1 x2 r : Int32) : AW mLa 1 6 8 [(0, .ref 0), (1, .int x1), (2, .int x2), (3, .ref 2)] [.int r, .int 0, .ref 2] h' (kLa h) := by
  refine aw_i2l d_La_8 ?_
  refine aw_last (n := 1) (by rw [F'.1]; exact s2) (vin_c (by decide)) d_La_9 ?_
  refine aw_goto (tgt := 17) d_La_10 rfl ?_
  refine aw_iconst (v := 0) d_La_17 ic_0 ?_
  exact aw_iret rfl d_La_18 ⟨Nat.le_refl _, Nat.le_refl _⟩ ⟨⟨0, rfl⟩, I'.lm, (F'.more (by decide +kernel)).lm (inw_row (by decide +kernel) _)⟩
theorem xl_about (l : Ln_) (dC : Nat → ClassId) (dI : Nat → Nat → Nat) (cy : Nat → ClassId) (ad adV : Nat → Nat) (dom : List Nat) (sz : Nat) {h : Hp_} (I : Iv h) (s2 : h_sh h 2 = some (3, 1)) (hdm : dom.Nodup ∧ (∀ a, h_sh h a ≠ none ↔ a ∈ dom) ∧ (∀ a ∈ dom, a < 1000) ∧ ∀ b k c, h_r h b k = some c → c ∈ dom ∨ 1000 ≤ c) (x1 x2 : Int32) :
    vx_Met l.1 yLa (wLa :: lw_g) RLa (va_Pc ([Value.ref 0, .int x1, .int x2, .ref 2].map (h_cv ad)) (cz_ dC dI cy ad adV dom h sz)) (qq_ (kLa h) dC dI cy (va_A (h_W cy ad h dom) sz) ad dom) (fun _ _ _ => False) 1 6 (va_A (h_W cy ad h dom) sz) := by
  refine vx_ofWH (cc := method_3_code) (maxL := 5) (ret := some .int) (hh := [(0, 10, 13, 13)]) rfl rfl ?_
  intro p e s m args below meth c s₁ B hml hv0
  obtain ⟨rfl, ⟨hsz, hP, hD0, hcx, hst⟩, hz⟩ := hv0
  have hts := atoms_spec (ws := wLa :: lw_g) B.pre
  have htg : ∀ w ∈ lw_g, w.before _ s = true := fun w hw => hts w (List.mem_cons_of_mem _ hw)
  have hown : s.vm.findClass "CountyWatchLaw" = some m.cls := findClass_of_methodNamed B.named
  have hnm : meth.name = "about" := (name_of_methodNamed B.named B.method).1
  have htbl : c.exceptionTable.toList = tableOf [(0, 10, 13, 13)] := vx_table (x := yLa) B (hts _ List.mem_cons_self)
  subst hsz
  have hD := hD0.self (sz := s.heap.size)
  have hl := lv_entry ([Value.ref 0, .int x1, .int x2, .ref 2].map (h_cv ad)) (n := 5) (Nat.le_of_ble_eq_true rfl)
  rw [lg_entry_eq]
  generalize (lg_sl ([Value.ref 0, .int x1, .int x2, .ref 2].map (h_cv ad)) ++ List.replicate (5 - (lg_sl ([Value.ref 0, .int x1, .int x2, .ref 2].map (h_cv ad))).length) Slot.unset).toArray = ls at hl ⊢
  have hl : lv_has ls 5 [(0, .ref (ad 0)), (1, .int x1), (2, .int x2), (3, .ref (ad 2))] := hl
  have hW : wd_ dC dI cy (va_A (h_W cy ad h dom) s.heap.size) ad dom h s.heap := ⟨hdm, hP, hD⟩
  have hS : va_S (va_A (h_W cy ad h dom) s.heap.size) s.heap s.heap [] := va_S.rf
  have hf : fr_ yLa method_3_code 5 (some .int) p s m _ meth c dC dI cy (va_A (h_W cy ad h dom) s.heap.size) := ⟨B.exec, B.bytes, hml, B.returns, B.notSynchronized, hown, hnm, htg, hcx, fun q hq => Or.inr hq⟩
  have m0 : (0 : Nat) ∈ dom := dom_h hdm.2.1 (ws_0 I.1)
  have m2 : (2 : Nat) ∈ dom := dom_h hdm.2.1 s2
  refine lv_aload_n B.exec B.bytes d_La_0 rfl (hl.2.2 (3, .ref (ad 2)) (by simp)) ?_
  refine lv_iconst B.exec B.bytes d_La_1 ic_0 ?_
  refine lv_aload_n B.exec B.bytes d_La_2 rfl (hl.2.2 (0, .ref (ad 0)) List.mem_cons_self) ?_
  refine lv_iload_n B.exec B.bytes d_La_3 rfl (hl.2.2 (1, .int x1) (by simp)) ?_
  refine lv_iload_n B.exec B.bytes d_La_4 rfl (hl.2.2 (2, .int x2) (by simp)) ?_
  obtain ⟨q, hq, hw⟩ := h_W_get (cy := cy) (ad := ad) (h := h) m0
  rw [h_ce_obj (ci := 11) (n := 16) (ws_0 I.1)] at hw
  have hm := cV_X11_about 12 1 6
  have hsub : ∀ z, va_A (h_W cy ad h dom) s.heap.size z → va_A (h_W cy ad h dom) s.heap.size z := fun _ z => z
  have hr := vx_runV (l := l.1) (e := e) (below := below) (meth := meth) (locs := []) (cells := 0) (slots := 0) (R := RLa) (m := m) (g := F0 m 5 ls [.int x2, .int x1, .ref (ad 0), .int 0, .ref (ad 2)]) (rest := [.int 0, .ref (ad 2)]) (As := [Value.int x1, .int x2]) ⟨B.exec, B.bytes, hml, hown, htg⟩ (xa_about l dC dI cy ad adV dom s.heap.size I hdm x1 x2) ⟨cb_ htg hm.1 tw_1665 ⟨by decide, by decide⟩, htg _ hm.2.1, htg _ hm.2.2⟩ ⟨cz_blind, va_recv hcx.1 hP kc_11.1 hw, fun U hU hWm => ⟨rfl, cp_pre hf hst hW hS hU hWm, hz.go hS hU hWm hsub⟩⟩ rfl rfl hl.1 rfl (lv_room (Nat.le_of_ble_eq_true rfl)) d_La_5 ⟨by decide, by decide⟩
  intro T hT0 X
  rcases hr T hT0 X with ⟨v, st₀, t, T', L, h0, X', hL, e1, e2, ⟨⟨v', h', ad', dom', hv, ⟨⟨r, er⟩, I', F'⟩, hW', hov', hE'⟩, hz1, hkp⟩, stp⟩ | ⟨q9, st₀, t, T', L, E, ce, h0, X', hL, e1, e2, ⟨rfl, ⟨h', ad', dom', ⟨I', F'⟩, hW', hE'⟩, hz1, hkp⟩, hce, hcv, hcl, st⟩
  · cases hv
    subst er
    rw [h0] at hz1 hkp
    have hS1 : va_S (va_A (h_W cy ad h dom) s.heap.size) s.heap T'.heap ([] ++ L) := ⟨by rw [e1]; exact hz1, fun q h1 h2 => by rw [e1]; exact hkp q h1 h2, fun q hq => hL q (by simpa using hq)⟩
    have hW1 : wd_ dC dI cy (va_A (h_W cy ad h dom) s.heap.size) ad' dom' h' T'.heap := by rw [e1]; exact hW'
    have he : ∀ a, 1000 ≤ a → ad' a = ad a := fun a ha => hE'.1 a (Or.inr ha)
    have a0 : ad' 0 = ad 0 := hE'.1 0 (Or.inl m0)
    have a2 : ad' 2 = ad 2 := hE'.1 2 (Or.inl m2)
    have hl1 : lv_has ls 5 ([(0, Value.ref 0), (1, .int x1), (2, .int x2), (3, .ref 2)].map (fun q => (q.1, h_cv ad' q.2))) := by
      show lv_has ls 5 [(0, .ref (ad' 0)), (1, .int x1), (2, .int x2), (3, .ref (ad' 2))]
      rw [a0, a2]; exact hl
    have o0 : h_ok dom' (.ref 0) := fun c hc => by cases hc; exact Or.inl (hE'.2 _ m0)
    have o2 : h_ok dom' (.ref 2) := fun c hc => by cases hc; exact Or.inl (hE'.2 _ m2)
    have k := la_ret I' F' s2 x1 x2 r l p e s m ([Value.ref 0, .int x1, .int x2, .ref 2].map (h_cv ad)).toArray below meth c dC dI cy (va_A (h_W cy ad h dom) s.heap.size) ad adV ad' dom dom' T'.heap ([] ++ L) ls hf trivial (st_same he hst) hE' hW1 hS1 hl1 (fun q hq => by
      rcases List.mem_cons.mp hq with z | hq
      · rw [z]; exact o0
      · rcases List.mem_cons.mp hq with z | hq
        · rw [z]; exact ok_i
        · rcases List.mem_cons.mp hq with z | hq
          · rw [z]; exact ok_i
          · rw [List.mem_singleton.mp hq]; exact o2) (ok_c ok_i (ok_c ok_i (ok_c o2 (fun v hv => by cases hv))))
    obtain ⟨t2, a1, b1⟩ := vx_ret (XC := fun _ _ _ => False) k T' rfl X'
    refine ⟨t2, stp t2 ?_, b1⟩
    have a1 : Steps p.tables e below (T'.setTop (F0 m 8 ls [.int r, .int 0, .ref (ad' 2)])) t2 := a1
    rw [a2] at a1
    exact a1
  · rw [h0] at hz1 hkp
    have hS1 : va_S (va_A (h_W cy ad h dom) s.heap.size) s.heap T'.heap ([] ++ L) := ⟨by rw [e1]; exact hz1, fun q h1 h2 => by rw [e1]; exact hkp q h1 h2, fun q hq => hL q (by simpa using hq)⟩
    have hW1 : wd_ dC dI cy (va_A (h_W cy ad h dom) s.heap.size) ad' dom' h' T'.heap := by rw [e1]; exact hW'
    have hca : (Cond.castable xE xE).before #[] s = true := hz.2.2.2.2 _ (by decide +kernel)
    have key : vx_W p l.1 e RLa s m ([Value.ref 0, .int x1, .int x2, .ref 2].map (h_cv ad)).toArray below meth c T'.heap ([] ++ L) (0 + 1) (0 + 6) (vx_MQ below (qq_ (kLa h) dC dI cy (va_A (h_W cy ad h dom) s.heap.size) ad dom) (fun _ _ _ => False) ([Value.ref 0, .int x1, .int x2, .ref 2].map (h_cv ad)).toArray s 1 6 (va_A (h_W cy ad h dom) s.heap.size)) (F0 m 5 ls [.int 0, .ref (ad 2)]) q9 := by
      refine vx_catch (own := "CountyWatchLaw") (name := xE) (E := xE) (ce := ce) hown [] ⟨0, 10, 13, 13⟩ [] (by rw [htbl]; rfl) (fun z hz => by cases hz) (by decide) (by decide) (htg _ tw_1664) (va_tabs rfl rfl hca) (by rw [e1]; exact hce) hcv hcl ?_
      refine lv_astore B.exec B.bytes d_La_13 hl (by decide) rfl (fun ls' hl' => ?_)
      refine lv_iconst B.exec B.bytes d_La_15 ic_1 ?_
      refine vx_ret ?_
      exact W.iret B.exec B.bytes B.returns (fun t1 ht _ => ⟨⟨some (.int 1), h', ad', dom', rfl, ⟨⟨1, rfl⟩, I', F'.more (by decide +kernel)⟩, by rw [ht]; exact hW1, fun _ hx => by cases hx; exact ok_i, hE'⟩, hS1.F ht⟩) hS1.2.2 d_La_16 B.notSynchronized
    obtain ⟨t2, a1, b1⟩ := key T' rfl X'
    exact ⟨t2, st.trans a1, b1⟩
theorem xl_met (l : Ln_) (dC : Nat → ClassId) (dI : Nat → Nat → Nat) (cy : Nat → ClassId) (ad adV : Nat → Nat) (dom : List Nat) (sz : Nat) {h : Hp_} (I : Iv h) (s2 : h_sh h 2 = some (3, 1)) (hdm : dom.Nodup ∧ (∀ a, h_sh h a ≠ none ↔ a ∈ dom) ∧ (∀ a ∈ dom, a < 1000) ∧ ∀ b k c, h_r h b k = some c → c ∈ dom ∨ 1000 ≤ c) (x1 x2 : Int32) :
    Met l.1 yLa (wLa :: lw_g) RLa (va_Pc ([Value.ref 0, .int x1, .int x2, .ref 2].map (h_cv ad)) (cz_ dC dI cy ad adV dom h sz)) (qq_ (kLa h) dC dI cy (va_A (h_W cy ad h dom) sz) ad dom) 1 6 (va_A (h_W cy ad h dom) sz) := by
  intro p e ha hc hk s m args below hf hp hP hT
  obtain ⟨k, o, h1, h2, h3, h4⟩ := xl_about l dC dI cy ad adV dom sz I s2 hdm x1 x2 p e ha hc hk s m args below hf hp hP hT
  rcases h4 with h4 | ⟨q, _, E, ce, L, hbad, _⟩
  · exact ⟨k, o, h1, h2, h3, h4⟩
  · exact hbad.elim
